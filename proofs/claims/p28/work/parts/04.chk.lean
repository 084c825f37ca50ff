/-! THE CHECKS: each entry of the tables is what the class files hold, and what its words say stands in lw_tbl -/
def mj_host : String := "LiningLog"
def mj_fw (own : String) (i pos a b : Nat) : Bool := match mj_cl[a]? with
  | some (_, T, N) => decide (b < N) && (decide (lw_tbl[pos]? = some (Jvm.Cond.fieldLink own i (T b).1 (T b).2.1 (T b).2.2.1)) || decide (lw_tbl[pos]? = some (Jvm.Cond.fieldLinkNest own i (T b).1 (T b).2.1 (T b).2.2.1 mj_host)))
  | none => false
def mj_fin (own : String) (ini : Bool) (i pos a b : Nat) : Bool := match mj_cl[a]? with
  | some (_, T, _) => decide ((T b).2.2.2 = false) || (decide ((T b).2.2.2 = true) && ini && decide ((T b).1 = own) && decide (lw_tbl[pos]? = some (Jvm.Cond.fieldLink own i (T b).1 (T b).2.1 (T b).2.2.1)))
  | none => false
def mj_nx (cd : List mj_E) (k t : Nat) : Bool := decide ((cd[k + 1]?).map (fun e => e.1) = some t)
def mj_tg (cd : List mj_E) (k : Nat) (t : Int) : Bool := match cd[k]? with
  | some e => decide (t = (e.1 : Int))
  | none => false
def mj_ext : List (Nat × String × String) := [(24, "LiningLog", "FIRST_SETTING"), (25, "LiningLog", "LOWEST_SETTING"), (26, "LiningLog", "HIGHEST_SETTING")]
def mj_lk (own : String) (i pos : Nat) (y : MethodName) : Bool := decide (lw_tbl[pos]? = some (Jvm.Cond.methodLink own i y)) || decide (lw_tbl[pos]? = some (Jvm.Cond.methodLinkNest own i y mj_host))
def mj_okT (ts : List Nat) (C : String) (sta : Nat) : Bool := match ts with
  | [] => decide (sta = 1)
  | k0 :: _ => decide (sta = 0) && (match mj_cl[k0]? with
    | some (C', _, _) => decide (C' = C)
    | none => false)
/-- a call: the callee's row, the number of its values, frames and words -/
def mj_okC (J : mj_J) (i a b pos : Nat) (sta : Nat) (ts : List Nat) : Bool := match mj_ms[a]? with
  | some K => mj_okT ts K.1.cls sta && decide (¬ a = 71) && mj_lk J.1.cls i pos K.1 && decide (K.2.2.2.1 + 1 ≤ J.2.2.2.1) && decide (8 + (mj_mx mj_Y a + 11) + K.2.2.2.2.1 ≤ J.2.2.2.2.1) && decide (K.2.2.2.2.2 = sta) && decide ((parseMethodDescriptor K.1.desc).map (fun d => d.parameters.length + (1 - sta)) = some b) && decide (b ≤ mj_mx mj_Y a)
  | none => false
def mj_okE (J : mj_J) (cd : List mj_E) (k : Nat) (e : mj_E) : Bool :=
  match e with
  | (pc, len, ins, a, b, c, v, ts) => decide (decode J.2.1 pc = .ok (ins, len)) && (match ins with
    | .iconst n => decide (len = 1) && decide (Int32.ofInt n = v) && mj_nx cd k (pc + 1)
    | .bipush n => decide (len = 2) && decide ((Int8.ofInt n).toInt32 = v) && mj_nx cd k (pc + 2)
    | .sipush n => decide (len = 3) && decide ((Int16.ofInt n).toInt32 = v) && mj_nx cd k (pc + 3)
    | .ldc i => decide (len = 2) && decide (lw_tbl[c]? = some (Jvm.Cond.constant J.1.cls i v)) && mj_nx cd k (pc + 2)
    | .iload_n _ => decide (len = 1) && mj_nx cd k (pc + 1)
    | .iload _ => decide (len = 2) && mj_nx cd k (pc + 2)
    | .aload_n _ => decide (len = 1) && mj_nx cd k (pc + 1)
    | .aload _ => decide (len = 2) && mj_nx cd k (pc + 2)
    | .istore_n _ => decide (len = 1) && mj_nx cd k (pc + 1)
    | .istore _ => decide (len = 2) && mj_nx cd k (pc + 2)
    | .astore_n _ => decide (len = 1) && mj_nx cd k (pc + 1)
    | .astore _ => decide (len = 2) && mj_nx cd k (pc + 2)
    | .iinc _ n => decide (len = 3) && decide (Int32.ofInt n = v) && mj_nx cd k (pc + 3)
    | .iadd | .isub | .imul | .iand | .ixor | .ishr | .idiv | .irem | .dup | .dup2 | .pop | .i2c | .iaload | .caload | .aaload | .iastore | .castore | .aastore | .arraylength => decide (len = 1) && mj_nx cd k (pc + 1)
    | .ifCond _ off => decide (len = 3) && mj_nx cd k (pc + 3) && mj_tg cd a (pc + off)
    | .if_icmp _ off => decide (len = 3) && mj_nx cd k (pc + 3) && mj_tg cd a (pc + off)
    | .goto off => decide (len = 3) && mj_tg cd a (pc + off)
    | .tableswitch d lo hi offs => mj_tg cd a (pc + d) && decide ((hi - lo + 1).toNat = ts.length) && (offs.toList.zip ts).all (fun q => mj_tg cd q.2 (pc + q.1)) && decide (offs.size = ts.length)
    | .lookupswitch d ps => mj_tg cd a (pc + d) && (ps.toList.zip ts).all (fun q => mj_tg cd q.2 (pc + q.1.2)) && decide (ps.size = ts.length) && (ps.toList.zip (ps.toList.drop 1)).all (fun (a, next) => a.1 < next.1)
    | .getfield i => decide (len = 3) && mj_nx cd k (pc + 3) && mj_fw J.1.cls i c a b
    | .putfield i => decide (len = 3) && mj_nx cd k (pc + 3) && mj_fw J.1.cls i c a b && mj_fin J.1.cls (decide (J.1.name = "<init>")) i c a b
    | .getstatic i => decide (len = 3) && mj_nx cd k (pc + 3) && (match mj_ext.find? (fun q => q.1 == a) with
      | some q => decide (lw_tbl[c]? = some (Jvm.Cond.fieldLink J.1.cls i q.2.1 q.2.2 "[I")) || decide (lw_tbl[c]? = some (Jvm.Cond.fieldLinkNest J.1.cls i q.2.1 q.2.2 "[I" mj_host))
      | none => false)
    | .new i => decide (len = 3) && mj_nx cd k (pc + 3) && (match mj_cl[a]? with
      | some (C, _, _) => decide (lw_tbl[c]? = some (Jvm.Cond.classLink J.1.cls i C))
      | none => false)
    | .newarray t => decide (len = 2) && mj_nx cd k (pc + 2) && (match mj_kd mj_Y a with
      | (1, u, _) => (decide (u = 0) && decide (t = .int)) || (decide (u = 2) && decide (t = .char))
      | _ => false)
    | .anewarray i => decide (len = 3) && mj_nx cd k (pc + 3) && (match mj_kd mj_Y a with
      | (2, u, _) => (match mj_cl[u]? with
        | some (C, _, _) => decide (lw_tbl[c]? = some (Jvm.Cond.classLink J.1.cls i C)) && (decide (u = 3) || decide (u = 4))
        | none => false)
      | _ => false)
    | .invokevirtual i => decide (len = 3) && mj_nx cd k (pc + 3) && decide (¬ a = 999) && mj_okC J i a b c 0 ts && decide (1 ≤ b) && (match mj_ms[a]? with
      | some K => decide (¬ K.1.name = "<init>")
      | none => false)
    | .invokespecial i => decide (len = 3) && mj_nx cd k (pc + 3) && (if a = 999 then decide (lw_tbl[c]? = some (Jvm.Cond.methodLink J.1.cls i Lib.objectInit)) && decide (1 ≤ J.2.2.2.1) && decide (12 ≤ J.2.2.2.2.1) else mj_okC J i a b c 0 ts && decide (1 ≤ b) && (match mj_ms[a]? with
      | some K => decide (K.1.name = "<init>") && decide (K.2.2.1 = none)
      | none => false))
    | .invokestatic i => decide (len = 3) && mj_nx cd k (pc + 3) && decide (¬ a = 999) && (if a = 998 then decide (lw_tbl[c]? = some (Jvm.Cond.methodLink J.1.cls i arraycopyName)) && decide (1 ≤ J.2.2.2.1) && decide (18 ≤ J.2.2.2.2.1) else mj_okC J i a b c 1 ts)
    | .ireturn => decide (len = 1) && ((decide (J.2.2.1 = some .int) && decide (b = 0)) || (decide (J.2.2.1 = some .boolean) && decide (b = 1)))
    | .areturn => decide (len = 1) && (match J.2.2.1 with
      | some (.object _) => true
      | _ => false)
    | .return_ => decide (len = 1) && decide (J.2.2.1 = none)
    | _ => false)
def mj_okR (m lo n : Nat) : Bool := match mj_ms[m]? with
  | some J => (List.range' lo n).all (fun k => match (mj_cd mj_Y m)[k]? with
    | some e => mj_okE J (mj_cd mj_Y m) k e
    | none => true)
  | none => false
-- ===== printed =====
theorem mj_k0_0 : mj_okR 0 0 21 = true := by decide +kernel
theorem mj_k1_0 : mj_okR 1 0 37 = true := by decide +kernel
theorem mj_k2_0 : mj_okR 2 0 19 = true := by decide +kernel
theorem mj_k3_0 : mj_okR 3 0 31 = true := by decide +kernel
theorem mj_k4_0 : mj_okR 4 0 91 = true := by decide +kernel
theorem mj_k5_0 : mj_okR 5 0 69 = true := by decide +kernel
theorem mj_k6_0 : mj_okR 6 0 8 = true := by decide +kernel
theorem mj_k7_0 : mj_okR 7 0 8 = true := by decide +kernel
theorem mj_k8_0 : mj_okR 8 0 5 = true := by decide +kernel
theorem mj_k9_0 : mj_okR 9 0 25 = true := by decide +kernel
theorem mj_k10_0 : mj_okR 10 0 43 = true := by decide +kernel
theorem mj_k11_0 : mj_okR 11 0 16 = true := by decide +kernel
theorem mj_k12_0 : mj_okR 12 0 18 = true := by decide +kernel
theorem mj_k13_0 : mj_okR 13 0 10 = true := by decide +kernel
theorem mj_k14_0 : mj_okR 14 0 20 = true := by decide +kernel
theorem mj_k15_0 : mj_okR 15 0 18 = true := by decide +kernel
theorem mj_k16_0 : mj_okR 16 0 18 = true := by decide +kernel
theorem mj_k17_0 : mj_okR 17 0 20 = true := by decide +kernel
theorem mj_k18_0 : mj_okR 18 0 13 = true := by decide +kernel
theorem mj_k19_0 : mj_okR 19 0 16 = true := by decide +kernel
theorem mj_k20_0 : mj_okR 20 0 6 = true := by decide +kernel
theorem mj_k21_0 : mj_okR 21 0 52 = true := by decide +kernel
theorem mj_k22_0 : mj_okR 22 0 7 = true := by decide +kernel
theorem mj_k23_0 : mj_okR 23 0 31 = true := by decide +kernel
theorem mj_k24_0 : mj_okR 24 0 63 = true := by decide +kernel
theorem mj_k25_0 : mj_okR 25 0 51 = true := by decide +kernel
theorem mj_k26_0 : mj_okR 26 0 32 = true := by decide +kernel
theorem mj_k27_0 : mj_okR 27 0 26 = true := by decide +kernel
theorem mj_k28_0 : mj_okR 28 0 27 = true := by decide +kernel
theorem mj_k29_0 : mj_okR 29 0 31 = true := by decide +kernel
theorem mj_k30_0 : mj_okR 30 0 56 = true := by decide +kernel
theorem mj_k31_0 : mj_okR 31 0 30 = true := by decide +kernel
theorem mj_k32_0 : mj_okR 32 0 7 = true := by decide +kernel
theorem mj_k33_0 : mj_okR 33 0 11 = true := by decide +kernel
theorem mj_k34_0 : mj_okR 34 0 27 = true := by decide +kernel
theorem mj_k35_0 : mj_okR 35 0 21 = true := by decide +kernel
theorem mj_k36_0 : mj_okR 36 0 13 = true := by decide +kernel
theorem mj_k37_0 : mj_okR 37 0 18 = true := by decide +kernel
theorem mj_k38_0 : mj_okR 38 0 26 = true := by decide +kernel
theorem mj_k39_0 : mj_okR 39 0 9 = true := by decide +kernel
theorem mj_k40_0 : mj_okR 40 0 27 = true := by decide +kernel
theorem mj_k41_0 : mj_okR 41 0 24 = true := by decide +kernel
theorem mj_k42_0 : mj_okR 42 0 34 = true := by decide +kernel
theorem mj_k43_0 : mj_okR 43 0 18 = true := by decide +kernel
theorem mj_k44_0 : mj_okR 44 0 11 = true := by decide +kernel
theorem mj_k45_0 : mj_okR 45 0 31 = true := by decide +kernel
theorem mj_k46_0 : mj_okR 46 0 26 = true := by decide +kernel
theorem mj_k47_0 : mj_okR 47 0 27 = true := by decide +kernel
theorem mj_k48_0 : mj_okR 48 0 32 = true := by decide +kernel
theorem mj_k49_0 : mj_okR 49 0 36 = true := by decide +kernel
theorem mj_k50_0 : mj_okR 50 0 26 = true := by decide +kernel
theorem mj_k51_0 : mj_okR 51 0 37 = true := by decide +kernel
theorem mj_k52_0 : mj_okR 52 0 30 = true := by decide +kernel
theorem mj_k53_0 : mj_okR 53 0 15 = true := by decide +kernel
theorem mj_k54_0 : mj_okR 54 0 15 = true := by decide +kernel
theorem mj_k55_0 : mj_okR 55 0 60 = true := by decide +kernel
theorem mj_k56_0 : mj_okR 56 0 51 = true := by decide +kernel
theorem mj_k57_0 : mj_okR 57 0 26 = true := by decide +kernel
theorem mj_k58_0 : mj_okR 58 0 22 = true := by decide +kernel
theorem mj_k59_0 : mj_okR 59 0 19 = true := by decide +kernel
theorem mj_k60_0 : mj_okR 60 0 21 = true := by decide +kernel
theorem mj_k61_0 : mj_okR 61 0 10 = true := by decide +kernel
theorem mj_k62_0 : mj_okR 62 0 14 = true := by decide +kernel
theorem mj_k63_0 : mj_okR 63 0 5 = true := by decide +kernel
theorem mj_k64_0 : mj_okR 64 0 12 = true := by decide +kernel
theorem mj_k65_0 : mj_okR 65 0 19 = true := by decide +kernel
theorem mj_k66_0 : mj_okR 66 0 7 = true := by decide +kernel
theorem mj_k67_0 : mj_okR 67 0 7 = true := by decide +kernel
theorem mj_k68_0 : mj_okR 68 0 16 = true := by decide +kernel
theorem mj_k69_0 : mj_okR 69 0 120 = true := by decide +kernel
theorem mj_k69_120 : mj_okR 69 120 77 = true := by decide +kernel
theorem mj_k70_0 : mj_okR 70 0 120 = true := by decide +kernel
theorem mj_k70_120 : mj_okR 70 120 78 = true := by decide +kernel
theorem mj_k71_0 : mj_okR 71 0 120 = true := by decide +kernel
theorem mj_k71_120 : mj_okR 71 120 120 = true := by decide +kernel
theorem mj_k71_240 : mj_okR 71 240 120 = true := by decide +kernel
theorem mj_k71_360 : mj_okR 71 360 29 = true := by decide +kernel
