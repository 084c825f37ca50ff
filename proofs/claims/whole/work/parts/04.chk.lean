/-! THE CHECKS: each entry of the tables is what the class files hold, and what its words say stands in lw_tbl -/
def mj_host : String := "LiningLog"
def mj_fw (own : String) (i pos a b : Nat) : Bool := match mj_cl[a]? with
  | some (_, T, N) => decide (b < N) && (decide (lw_tbl[pos]? = some (Jvm.Cond.fieldLink own i (T b).1 (T b).2.1 (T b).2.2.1)) || decide (lw_tbl[pos]? = some (Jvm.Cond.fieldLinkNest own i (T b).1 (T b).2.1 (T b).2.2.1 mj_host)))
  | none => false
def mj_fin (own : String) (ini : Bool) (i pos a b : Nat) : Bool := match mj_cl[a]? with
  | some (_, T, _) => decide ((T b).2.2.2 = false) || (decide ((T b).2.2.2 = true) && ini && decide ((T b).1 = own) && decide (lw_tbl[pos]? = some (Jvm.Cond.fieldLink own i (T b).1 (T b).2.1 (T b).2.2.1)))
  | none => false
def mj_nx (cd : List mj_E) (k t : Nat) : Bool := decide ((cd[k + 1]?).map (fun e => e.1) = some t)
def mj_tg (cd : List mj_E) (k : Nat) (t : Int) : Bool := match cd[k]? with
  | some e => decide (t = (e.1 : Int))
  | none => false
def mj_ext : List (Nat × String × String) := [(24, "LiningLog", "FIRST_SETTING"), (25, "LiningLog", "LOWEST_SETTING"), (26, "LiningLog", "HIGHEST_SETTING")]
def mj_lk (own : String) (i pos : Nat) (y : MethodName) : Bool := decide (lw_tbl[pos]? = some (Jvm.Cond.methodLink own i y)) || decide (lw_tbl[pos]? = some (Jvm.Cond.methodLinkNest own i y mj_host))
def mj_okT (ts : List Nat) (C : String) (sta : Nat) : Bool := match ts with
  | [] => decide (sta = 1)
  | k0 :: _ => decide (sta = 0) && (match mj_cl[k0]? with
    | some (C', _, _) => decide (C' = C)
    | none => false)
/-- a call: the callee's row, the number of its values, frames and words -/
def mj_okC (J : mj_J) (i a b pos : Nat) (sta : Nat) (ts : List Nat) : Bool := match mj_ms[a]? with
  | some K => mj_okT ts K.1.cls sta && decide (¬ a = 150) && mj_lk J.1.cls i pos K.1 && decide (K.2.2.2.1 + 1 ≤ J.2.2.2.1) && decide (8 + (mj_mx mj_Y a + 11) + K.2.2.2.2.1 ≤ J.2.2.2.2.1) && decide (K.2.2.2.2.2 = sta) && decide ((parseMethodDescriptor K.1.desc).map (fun d => d.parameters.length + (1 - sta)) = some b) && decide (b ≤ mj_mx mj_Y a)
  | none => false
def mj_okE (J : mj_J) (cd : List mj_E) (k : Nat) (e : mj_E) : Bool :=
  match e with
  | (pc, len, ins, a, b, c, v, ts) => decide (decode J.2.1 pc = .ok (ins, len)) && (match ins with
    | .iconst n => decide (len = 1) && decide (Int32.ofInt n = v) && mj_nx cd k (pc + 1)
    | .bipush n => decide (len = 2) && decide ((Int8.ofInt n).toInt32 = v) && mj_nx cd k (pc + 2)
    | .sipush n => decide (len = 3) && decide ((Int16.ofInt n).toInt32 = v) && mj_nx cd k (pc + 3)
    | .ldc i => decide (len = 2) && decide (lw_tbl[c]? = some (Jvm.Cond.constant J.1.cls i v)) && mj_nx cd k (pc + 2)
    | .iload_n _ => decide (len = 1) && mj_nx cd k (pc + 1)
    | .iload _ => decide (len = 2) && mj_nx cd k (pc + 2)
    | .aload_n _ => decide (len = 1) && mj_nx cd k (pc + 1)
    | .aload _ => decide (len = 2) && mj_nx cd k (pc + 2)
    | .istore_n _ => decide (len = 1) && mj_nx cd k (pc + 1)
    | .istore _ => decide (len = 2) && mj_nx cd k (pc + 2)
    | .astore_n _ => decide (len = 1) && mj_nx cd k (pc + 1)
    | .astore _ => decide (len = 2) && mj_nx cd k (pc + 2)
    | .iinc _ n => decide (len = 3) && decide (Int32.ofInt n = v) && mj_nx cd k (pc + 3)
    | .iadd | .isub | .imul | .iand | .ixor | .idiv | .irem | .dup | .dup2 | .pop | .i2c | .iaload | .caload | .aaload | .iastore | .castore | .aastore | .arraylength => decide (len = 1) && mj_nx cd k (pc + 1)
    | .ifCond _ off => decide (len = 3) && mj_nx cd k (pc + 3) && mj_tg cd a (pc + off)
    | .if_icmp _ off => decide (len = 3) && mj_nx cd k (pc + 3) && mj_tg cd a (pc + off)
    | .goto off => decide (len = 3) && mj_tg cd a (pc + off)
    | .tableswitch d lo hi offs => mj_tg cd a (pc + d) && decide ((hi - lo + 1).toNat = ts.length) && (offs.toList.zip ts).all (fun q => mj_tg cd q.2 (pc + q.1)) && decide (offs.size = ts.length)
    | .lookupswitch d ps => mj_tg cd a (pc + d) && (ps.toList.zip ts).all (fun q => mj_tg cd q.2 (pc + q.1.2)) && decide (ps.size = ts.length) && (ps.toList.zip (ps.toList.drop 1)).all (fun (a, next) => a.1 < next.1)
    | .getfield i => decide (len = 3) && mj_nx cd k (pc + 3) && mj_fw J.1.cls i c a b
    | .putfield i => decide (len = 3) && mj_nx cd k (pc + 3) && mj_fw J.1.cls i c a b && mj_fin J.1.cls (decide (J.1.name = "<init>")) i c a b
    | .getstatic i => decide (len = 3) && mj_nx cd k (pc + 3) && (match mj_ext.find? (fun q => q.1 == a) with
      | some q => decide (lw_tbl[c]? = some (Jvm.Cond.fieldLink J.1.cls i q.2.1 q.2.2 "[I")) || decide (lw_tbl[c]? = some (Jvm.Cond.fieldLinkNest J.1.cls i q.2.1 q.2.2 "[I" mj_host))
      | none => false)
    | .new i => decide (len = 3) && mj_nx cd k (pc + 3) && (match mj_cl[a]? with
      | some (C, _, _) => decide (lw_tbl[c]? = some (Jvm.Cond.classLink J.1.cls i C))
      | none => false)
    | .newarray t => decide (len = 2) && mj_nx cd k (pc + 2) && (match mj_kd mj_Y a with
      | (1, u, _) => (decide (u = 0) && decide (t = .int)) || (decide (u = 2) && decide (t = .char))
      | _ => false)
    | .anewarray i => decide (len = 3) && mj_nx cd k (pc + 3) && (match mj_kd mj_Y a with
      | (2, u, _) => (match mj_cl[u]? with
        | some (C, _, _) => decide (lw_tbl[c]? = some (Jvm.Cond.classLink J.1.cls i C)) && (decide (u = 3) || decide (u = 4))
        | none => false)
      | _ => false)
    | .invokevirtual i => decide (len = 3) && mj_nx cd k (pc + 3) && decide (¬ a = 999) && mj_okC J i a b c 0 ts && decide (1 ≤ b) && (match mj_ms[a]? with
      | some K => decide (¬ K.1.name = "<init>")
      | none => false)
    | .invokespecial i => decide (len = 3) && mj_nx cd k (pc + 3) && (if a = 999 then decide (lw_tbl[c]? = some (Jvm.Cond.methodLink J.1.cls i Lib.objectInit)) && decide (1 ≤ J.2.2.2.1) && decide (12 ≤ J.2.2.2.2.1) else mj_okC J i a b c 0 ts && decide (1 ≤ b) && (match mj_ms[a]? with
      | some K => decide (K.1.name = "<init>") && decide (K.2.2.1 = none)
      | none => false))
    | .invokestatic i => decide (len = 3) && mj_nx cd k (pc + 3) && decide (¬ a = 999) && (if a = 998 then decide (lw_tbl[c]? = some (Jvm.Cond.methodLink J.1.cls i arraycopyName)) && decide (1 ≤ J.2.2.2.1) && decide (18 ≤ J.2.2.2.2.1) else mj_okC J i a b c 1 ts)
    | .ireturn => decide (len = 1) && ((decide (J.2.2.1 = some .int) && decide (b = 0)) || (decide (J.2.2.1 = some .boolean) && decide (b = 1)))
    | .areturn => decide (len = 1) && (match J.2.2.1 with
      | some (.object _) => true
      | _ => false)
    | .return_ => decide (len = 1) && decide (J.2.2.1 = none)
    | _ => false)
def mj_okR (m lo n : Nat) : Bool := match mj_ms[m]? with
  | some J => (List.range' lo n).all (fun k => match (mj_cd mj_Y m)[k]? with
    | some e => mj_okE J (mj_cd mj_Y m) k e
    | none => true)
  | none => false
-- ===== printed =====
theorem mj_k0_0 : mj_okR 0 0 21 = true := by decide +kernel
theorem mj_k1_0 : mj_okR 1 0 37 = true := by decide +kernel
theorem mj_k2_0 : mj_okR 2 0 19 = true := by decide +kernel
theorem mj_k3_0 : mj_okR 3 0 31 = true := by decide +kernel
theorem mj_k4_0 : mj_okR 4 0 91 = true := by decide +kernel
theorem mj_k5_0 : mj_okR 5 0 69 = true := by decide +kernel
theorem mj_k6_0 : mj_okR 6 0 8 = true := by decide +kernel
theorem mj_k7_0 : mj_okR 7 0 8 = true := by decide +kernel
theorem mj_k8_0 : mj_okR 8 0 5 = true := by decide +kernel
theorem mj_k9_0 : mj_okR 9 0 25 = true := by decide +kernel
theorem mj_k10_0 : mj_okR 10 0 43 = true := by decide +kernel
theorem mj_k11_0 : mj_okR 11 0 16 = true := by decide +kernel
theorem mj_k12_0 : mj_okR 12 0 18 = true := by decide +kernel
theorem mj_k13_0 : mj_okR 13 0 10 = true := by decide +kernel
theorem mj_k14_0 : mj_okR 14 0 20 = true := by decide +kernel
theorem mj_k15_0 : mj_okR 15 0 18 = true := by decide +kernel
theorem mj_k16_0 : mj_okR 16 0 18 = true := by decide +kernel
theorem mj_k17_0 : mj_okR 17 0 20 = true := by decide +kernel
theorem mj_k18_0 : mj_okR 18 0 13 = true := by decide +kernel
theorem mj_k19_0 : mj_okR 19 0 16 = true := by decide +kernel
theorem mj_k20_0 : mj_okR 20 0 6 = true := by decide +kernel
theorem mj_k21_0 : mj_okR 21 0 52 = true := by decide +kernel
theorem mj_k22_0 : mj_okR 22 0 7 = true := by decide +kernel
theorem mj_k23_0 : mj_okR 23 0 31 = true := by decide +kernel
theorem mj_k24_0 : mj_okR 24 0 63 = true := by decide +kernel
theorem mj_k25_0 : mj_okR 25 0 51 = true := by decide +kernel
theorem mj_k26_0 : mj_okR 26 0 32 = true := by decide +kernel
theorem mj_k27_0 : mj_okR 27 0 26 = true := by decide +kernel
theorem mj_k28_0 : mj_okR 28 0 27 = true := by decide +kernel
theorem mj_k29_0 : mj_okR 29 0 31 = true := by decide +kernel
theorem mj_k30_0 : mj_okR 30 0 56 = true := by decide +kernel
theorem mj_k31_0 : mj_okR 31 0 30 = true := by decide +kernel
theorem mj_k32_0 : mj_okR 32 0 23 = true := by decide +kernel
theorem mj_k33_0 : mj_okR 33 0 7 = true := by decide +kernel
theorem mj_k34_0 : mj_okR 34 0 13 = true := by decide +kernel
theorem mj_k35_0 : mj_okR 35 0 14 = true := by decide +kernel
theorem mj_k36_0 : mj_okR 36 0 28 = true := by decide +kernel
theorem mj_k37_0 : mj_okR 37 0 48 = true := by decide +kernel
theorem mj_k38_0 : mj_okR 38 0 16 = true := by decide +kernel
theorem mj_k39_0 : mj_okR 39 0 15 = true := by decide +kernel
theorem mj_k40_0 : mj_okR 40 0 15 = true := by decide +kernel
theorem mj_k41_0 : mj_okR 41 0 49 = true := by decide +kernel
theorem mj_k42_0 : mj_okR 42 0 29 = true := by decide +kernel
theorem mj_k43_0 : mj_okR 43 0 11 = true := by decide +kernel
theorem mj_k44_0 : mj_okR 44 0 27 = true := by decide +kernel
theorem mj_k45_0 : mj_okR 45 0 21 = true := by decide +kernel
theorem mj_k46_0 : mj_okR 46 0 13 = true := by decide +kernel
theorem mj_k47_0 : mj_okR 47 0 44 = true := by decide +kernel
theorem mj_k48_0 : mj_okR 48 0 18 = true := by decide +kernel
theorem mj_k49_0 : mj_okR 49 0 18 = true := by decide +kernel
theorem mj_k50_0 : mj_okR 50 0 26 = true := by decide +kernel
theorem mj_k51_0 : mj_okR 51 0 9 = true := by decide +kernel
theorem mj_k52_0 : mj_okR 52 0 27 = true := by decide +kernel
theorem mj_k53_0 : mj_okR 53 0 8 = true := by decide +kernel
theorem mj_k54_0 : mj_okR 54 0 24 = true := by decide +kernel
theorem mj_k55_0 : mj_okR 55 0 34 = true := by decide +kernel
theorem mj_k56_0 : mj_okR 56 0 18 = true := by decide +kernel
theorem mj_k57_0 : mj_okR 57 0 11 = true := by decide +kernel
theorem mj_k58_0 : mj_okR 58 0 31 = true := by decide +kernel
theorem mj_k59_0 : mj_okR 59 0 26 = true := by decide +kernel
theorem mj_k60_0 : mj_okR 60 0 27 = true := by decide +kernel
theorem mj_k61_0 : mj_okR 61 0 32 = true := by decide +kernel
theorem mj_k62_0 : mj_okR 62 0 36 = true := by decide +kernel
theorem mj_k63_0 : mj_okR 63 0 26 = true := by decide +kernel
theorem mj_k64_0 : mj_okR 64 0 37 = true := by decide +kernel
theorem mj_k65_0 : mj_okR 65 0 30 = true := by decide +kernel
theorem mj_k66_0 : mj_okR 66 0 15 = true := by decide +kernel
theorem mj_k67_0 : mj_okR 67 0 15 = true := by decide +kernel
theorem mj_k68_0 : mj_okR 68 0 60 = true := by decide +kernel
theorem mj_k69_0 : mj_okR 69 0 51 = true := by decide +kernel
theorem mj_k70_0 : mj_okR 70 0 26 = true := by decide +kernel
theorem mj_k71_0 : mj_okR 71 0 22 = true := by decide +kernel
theorem mj_k72_0 : mj_okR 72 0 56 = true := by decide +kernel
theorem mj_k73_0 : mj_okR 73 0 17 = true := by decide +kernel
theorem mj_k74_0 : mj_okR 74 0 19 = true := by decide +kernel
theorem mj_k75_0 : mj_okR 75 0 42 = true := by decide +kernel
theorem mj_k76_0 : mj_okR 76 0 26 = true := by decide +kernel
theorem mj_k77_0 : mj_okR 77 0 35 = true := by decide +kernel
theorem mj_k78_0 : mj_okR 78 0 59 = true := by decide +kernel
theorem mj_k79_0 : mj_okR 79 0 21 = true := by decide +kernel
theorem mj_k80_0 : mj_okR 80 0 23 = true := by decide +kernel
theorem mj_k81_0 : mj_okR 81 0 10 = true := by decide +kernel
theorem mj_k82_0 : mj_okR 82 0 7 = true := by decide +kernel
theorem mj_k83_0 : mj_okR 83 0 53 = true := by decide +kernel
theorem mj_k84_0 : mj_okR 84 0 3 = true := by decide +kernel
theorem mj_k85_0 : mj_okR 85 0 61 = true := by decide +kernel
theorem mj_k86_0 : mj_okR 86 0 10 = true := by decide +kernel
theorem mj_k87_0 : mj_okR 87 0 14 = true := by decide +kernel
theorem mj_k88_0 : mj_okR 88 0 5 = true := by decide +kernel
theorem mj_k89_0 : mj_okR 89 0 12 = true := by decide +kernel
theorem mj_k90_0 : mj_okR 90 0 27 = true := by decide +kernel
theorem mj_k91_0 : mj_okR 91 0 10 = true := by decide +kernel
theorem mj_k92_0 : mj_okR 92 0 15 = true := by decide +kernel
theorem mj_k93_0 : mj_okR 93 0 10 = true := by decide +kernel
theorem mj_k94_0 : mj_okR 94 0 54 = true := by decide +kernel
theorem mj_k95_0 : mj_okR 95 0 95 = true := by decide +kernel
theorem mj_k96_0 : mj_okR 96 0 14 = true := by decide +kernel
theorem mj_k97_0 : mj_okR 97 0 94 = true := by decide +kernel
theorem mj_k98_0 : mj_okR 98 0 27 = true := by decide +kernel
theorem mj_k99_0 : mj_okR 99 0 110 = true := by decide +kernel
theorem mj_k100_0 : mj_okR 100 0 13 = true := by decide +kernel
theorem mj_k101_0 : mj_okR 101 0 57 = true := by decide +kernel
theorem mj_k102_0 : mj_okR 102 0 72 = true := by decide +kernel
theorem mj_k103_0 : mj_okR 103 0 120 = true := by decide +kernel
theorem mj_k103_120 : mj_okR 103 120 19 = true := by decide +kernel
theorem mj_k104_0 : mj_okR 104 0 16 = true := by decide +kernel
theorem mj_k105_0 : mj_okR 105 0 30 = true := by decide +kernel
theorem mj_k106_0 : mj_okR 106 0 33 = true := by decide +kernel
theorem mj_k107_0 : mj_okR 107 0 47 = true := by decide +kernel
theorem mj_k108_0 : mj_okR 108 0 120 = true := by decide +kernel
theorem mj_k108_120 : mj_okR 108 120 24 = true := by decide +kernel
theorem mj_k109_0 : mj_okR 109 0 21 = true := by decide +kernel
theorem mj_k110_0 : mj_okR 110 0 35 = true := by decide +kernel
theorem mj_k111_0 : mj_okR 111 0 34 = true := by decide +kernel
theorem mj_k112_0 : mj_okR 112 0 24 = true := by decide +kernel
theorem mj_k113_0 : mj_okR 113 0 14 = true := by decide +kernel
theorem mj_k114_0 : mj_okR 114 0 8 = true := by decide +kernel
theorem mj_k115_0 : mj_okR 115 0 21 = true := by decide +kernel
theorem mj_k116_0 : mj_okR 116 0 32 = true := by decide +kernel
theorem mj_k117_0 : mj_okR 117 0 60 = true := by decide +kernel
theorem mj_k118_0 : mj_okR 118 0 32 = true := by decide +kernel
theorem mj_k119_0 : mj_okR 119 0 34 = true := by decide +kernel
theorem mj_k120_0 : mj_okR 120 0 76 = true := by decide +kernel
theorem mj_k121_0 : mj_okR 121 0 63 = true := by decide +kernel
theorem mj_k122_0 : mj_okR 122 0 19 = true := by decide +kernel
theorem mj_k123_0 : mj_okR 123 0 35 = true := by decide +kernel
theorem mj_k124_0 : mj_okR 124 0 19 = true := by decide +kernel
theorem mj_k125_0 : mj_okR 125 0 58 = true := by decide +kernel
theorem mj_k126_0 : mj_okR 126 0 10 = true := by decide +kernel
theorem mj_k127_0 : mj_okR 127 0 61 = true := by decide +kernel
theorem mj_k128_0 : mj_okR 128 0 29 = true := by decide +kernel
theorem mj_k129_0 : mj_okR 129 0 75 = true := by decide +kernel
theorem mj_k130_0 : mj_okR 130 0 30 = true := by decide +kernel
theorem mj_k131_0 : mj_okR 131 0 22 = true := by decide +kernel
theorem mj_k132_0 : mj_okR 132 0 16 = true := by decide +kernel
theorem mj_k133_0 : mj_okR 133 0 16 = true := by decide +kernel
theorem mj_k134_0 : mj_okR 134 0 22 = true := by decide +kernel
theorem mj_k135_0 : mj_okR 135 0 54 = true := by decide +kernel
theorem mj_k136_0 : mj_okR 136 0 58 = true := by decide +kernel
theorem mj_k137_0 : mj_okR 137 0 16 = true := by decide +kernel
theorem mj_k138_0 : mj_okR 138 0 29 = true := by decide +kernel
theorem mj_k139_0 : mj_okR 139 0 8 = true := by decide +kernel
theorem mj_k140_0 : mj_okR 140 0 28 = true := by decide +kernel
theorem mj_k141_0 : mj_okR 141 0 52 = true := by decide +kernel
theorem mj_k142_0 : mj_okR 142 0 113 = true := by decide +kernel
theorem mj_k143_0 : mj_okR 143 0 19 = true := by decide +kernel
theorem mj_k144_0 : mj_okR 144 0 81 = true := by decide +kernel
theorem mj_k145_0 : mj_okR 145 0 47 = true := by decide +kernel
theorem mj_k146_0 : mj_okR 146 0 3 = true := by decide +kernel
theorem mj_k147_0 : mj_okR 147 0 19 = true := by decide +kernel
theorem mj_k148_0 : mj_okR 148 0 7 = true := by decide +kernel
theorem mj_k149_0 : mj_okR 149 0 7 = true := by decide +kernel
theorem mj_k150_0 : mj_okR 150 0 120 = true := by decide +kernel
theorem mj_k150_120 : mj_okR 150 120 120 = true := by decide +kernel
theorem mj_k150_240 : mj_okR 150 240 120 = true := by decide +kernel
theorem mj_k150_360 : mj_okR 150 360 120 = true := by decide +kernel
theorem mj_k150_480 : mj_okR 150 480 61 = true := by decide +kernel
