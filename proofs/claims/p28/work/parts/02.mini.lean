/-! THE SMALL MACHINE: the instructions that the class and the law use, over a memory of ints by (kind, number, place); 'mj_go' is what a frame comes to -/
abbrev mj_V : Type := Int32 ⊕ (Nat × Nat)
abbrev mj_L : Type := List (Option mj_V)
abbrev mj_F : Type := Nat → Nat → Nat → Int32
abbrev mj_G : Type := Nat → Nat → Nat → Option (Nat × Nat)
abbrev mj_H : Type := List (Nat × Nat) × mj_F × mj_G
abbrev mj_X : Type := Nat × (Nat → Int32)
/-- an instruction: pc, length, the instruction, three numbers, a constant, targets -/
abbrev mj_E : Type := Nat × Nat × Instr × Nat × Nat × Nat × Int32 × List Nat
abbrev mj_C : Type := Nat × mj_L × List mj_V × mj_H
abbrev mj_R : Type := mj_C ⊕ (Option mj_V) ⊕ (Nat × List mj_V × List mj_V)
def mj_u (f : mj_F) (k i j : Nat) (v : Int32) : mj_F := fun a b c => if a = k ∧ b = i ∧ c = j then v else f a b c
def mj_w (g : mj_G) (k i j : Nat) (v : Option (Nat × Nat)) : mj_G := fun a b c => if a = k ∧ b = i ∧ c = j then v else g a b c
/-- an index: within, and as a number -/
def mj_ix (x : Int32) (n : Nat) : Option Nat := if 0 ≤ x.toInt ∧ x.toInt < (n : Int) then some x.toNatClampNeg else none
def mj_cmp (o : ClassFile.Cond) (x y : Int32) : Bool := match o with
  | .eq => decide (x = y)
  | .ne => decide (¬ x = y)
  | .lt => decide (x < y)
  | .ge => decide (y ≤ x)
  | .gt => decide (y < x)
  | .le => decide (x ≤ y)
/-- what a field or an answer of a small type must be: 1: boolean, 2: char -/
def mj_chk (c : Nat) (x : Int32) : Bool := match c with
  | 0 => true
  | 1 => decide (x = 0 ∨ x = 1)
  | _ => decide (0 ≤ x.toInt ∧ x.toInt < 65536)
/-- the table of kinds: (0, class, fields) an object; (1, 0 int or 2 char, length) an array; (2, class, length) an array of references; (3, ..) the script; (4, 0, length) a fixed table -/
def mj_pop : Nat → List mj_V → Option (List mj_V × List mj_V)
  | 0, st => some ([], st)
  | _ + 1, [] => none
  | n + 1, x :: st => match mj_pop n st with
    | none => none
    | some (as, r) => some (as ++ [x], r)
def mj_cnt (a : Nat) : List (Nat × Nat) → Nat
  | [] => 0
  | x :: l => if x.1 = a then mj_cnt a l + 1 else mj_cnt a l
def mj_z (f : mj_F) (a n : Nat) : mj_F := fun k i j => if k = a ∧ i = n then 0 else f k i j
def mj_n (g : mj_G) (a n : Nat) : mj_G := fun k i j => if k = a ∧ i = n then none else g k i j
/-- a stretch of one array to another, both from 0 on -/
def mj_cp (f : mj_F) (k0 i0 k1 i1 n : Nat) : mj_F := fun a b c => if a = k1 ∧ b = i1 ∧ c < n then f k0 i0 c else f a b c
def mj_tsw (lo hi : Int) (ts : List Nat) (d : Nat) (x : Int32) : Nat := if x.toInt < lo ∨ hi < x.toInt then d else (ts[(x.toInt - lo).toNat]?).getD d
def mj_lsw : List (Int × Int) → List Nat → Nat → Int32 → Nat
  | (a, _) :: ps, t :: ts, d, x => if x.toInt = a then t else mj_lsw ps ts d x
  | _, _, d, _ => d
/-- the tables that a class and its law have, as one value: kinds, the fields' types, the fixed tables, per method: the number of its locals, its instructions -/
abbrev mj_T : Type := List (Nat × Nat × Nat) × List (List Nat) × List (List Int32) × List Nat × List (List mj_E)
def mj_kd (Y : mj_T) (k : Nat) : Nat × Nat × Nat := (Y.1[k]?).getD (9, 0, 0)
def mj_ft (Y : mj_T) (a b : Nat) : Nat := (((Y.2.1[a]?).getD [])[b]?).getD 9
def mj_len (Y : mj_T) (X : mj_X) (k : Nat) : Nat := match mj_kd Y k with
  | (3, _, _) => X.1
  | (_, _, n) => n
def mj_isI (Y : mj_T) (k : Nat) : Bool := match mj_kd Y k with
  | (1, 0, _) => true
  | (3, _, _) => true
  | (4, _, _) => true
  | _ => false
def mj_isA (Y : mj_T) (t k : Nat) : Bool := match mj_kd Y k with
  | (1, u, _) => decide (u = t)
  | _ => false
def mj_isQ (Y : mj_T) (k : Nat) : Bool := match mj_kd Y k with
  | (2, _, _) => true
  | _ => false
def mj_rd (Y : mj_T) (X : mj_X) (f : mj_F) (k i j : Nat) : Int32 := match mj_kd Y k with
  | (3, _, _) => X.2 j
  | (4, t, _) => (((Y.2.2.1[t]?).getD [])[j]?).getD 0
  | _ => f k i j
def mj_mx (Y : mj_T) (m : Nat) : Nat := (Y.2.2.2.1[m]?).getD 0
def mj_cd (Y : mj_T) (m : Nat) : List mj_E := (Y.2.2.2.2[m]?).getD []
def mj_ent (Y : mj_T) (m k : Nat) : Option mj_E := (mj_cd Y m)[k]?
def mj_ld (k : Nat) (ls : mj_L) (st : List mj_V) (σ : mj_H) (isI : Bool) (i : Nat) : Option mj_R := match ls[i]? with
  | some (some (.inl x)) => if isI = true then some (.inl (k + 1, ls, .inl x :: st, σ)) else none
  | some (some (.inr x)) => if isI = true then none else some (.inl (k + 1, ls, .inr x :: st, σ))
  | _ => none
def mj_st (k : Nat) (ls : mj_L) (st : List mj_V) (σ : mj_H) (isI : Bool) (i : Nat) : Option mj_R := match st with
  | .inl x :: r => if isI = true ∧ i < ls.length then some (.inl (k + 1, ls.set i (some (.inl x)), r, σ)) else none
  | .inr x :: r => if isI = false ∧ i < ls.length then some (.inl (k + 1, ls.set i (some (.inr x)), r, σ)) else none
  | _ => none
def mj_bin (k : Nat) (ls : mj_L) (st : List mj_V) (σ : mj_H) (o : Int32 → Int32 → Int32) : Option mj_R := match st with
  | .inl y :: .inl x :: r => some (.inl (k + 1, ls, .inl (o x y) :: r, σ))
  | _ => none
def mj_div (k : Nat) (ls : mj_L) (st : List mj_V) (σ : mj_H) (o : Int32 → Int32 → Int32) : Option mj_R := match st with
  | .inl y :: .inl x :: r => if y = 0 then none else some (.inl (k + 1, ls, .inl (o x y) :: r, σ))
  | _ => none
def mj_rcv : List Nat → List mj_V → Bool
  | [], _ => true
  | k0 :: _, .inr c :: _ => decide (c.1 = k0)
  | _, _ => false
def mj_call (k a b : Nat) (ts : List Nat) (ls : mj_L) (st : List mj_V) (σ : mj_H) : Option mj_R :=
  if a = 999 then (match st with
    | [.inr _] => some (.inl (k + 1, ls, [], σ))
    | _ => none)
  else (match mj_pop b st with
    | some (as, r) => if r.length ≤ 8 ∧ mj_rcv ts as = true then some (.inr (.inr (a, as, r))) else none
    | none => none)
def mj_copy (Y : mj_T) (X : mj_X) (k : Nat) (ls : mj_L) (st : List mj_V) (σ : mj_H) : Option mj_R := match st with
  | [.inl n, .inl dp, .inr (k1, i1), .inl sp, .inr (k0, i0)] =>
    if mj_isA Y 0 k0 = true ∧ mj_isA Y 0 k1 = true ∧ sp = 0 ∧ dp = 0 ∧ 0 ≤ n.toInt ∧ n.toInt ≤ (mj_len Y X k0 : Int) ∧ n.toInt ≤ (mj_len Y X k1 : Int) then
      some (.inl (k + 1, ls, [], (σ.1, mj_cp σ.2.1 k0 i0 k1 i1 n.toNatClampNeg, σ.2.2))) else none
  | _ => none
def mj_do (Y : mj_T) (X : mj_X) (k : Nat) (e : mj_E) (ls : mj_L) (st : List mj_V) (σ : mj_H) : Option mj_R :=
  match e with
  | (_, _, ins, a, b, _, v, ts) => match ins with
    | .iconst _ => some (.inl (k + 1, ls, .inl v :: st, σ))
    | .bipush _ => some (.inl (k + 1, ls, .inl v :: st, σ))
    | .sipush _ => some (.inl (k + 1, ls, .inl v :: st, σ))
    | .ldc _ => some (.inl (k + 1, ls, .inl v :: st, σ))
    | .iload_n i => mj_ld k ls st σ true i.val
    | .iload i => mj_ld k ls st σ true i
    | .aload_n i => mj_ld k ls st σ false i.val
    | .aload i => mj_ld k ls st σ false i
    | .istore_n i => mj_st k ls st σ true i.val
    | .istore i => mj_st k ls st σ true i
    | .astore_n i => mj_st k ls st σ false i.val
    | .astore i => mj_st k ls st σ false i
    | .iinc i _ => (match ls[i]? with
      | some (some (.inl x)) => some (.inl (k + 1, ls.set i (some (.inl (x + v))), st, σ))
      | _ => none)
    | .iadd => mj_bin k ls st σ (fun x y => x + y)
    | .isub => mj_bin k ls st σ (fun x y => x - y)
    | .imul => mj_bin k ls st σ (fun x y => x * y)
    | .iand => mj_bin k ls st σ (fun x y => x &&& y)
    | .ixor => mj_bin k ls st σ (fun x y => x ^^^ y)
    | .ishr => mj_bin k ls st σ (fun x y => x >>> (y &&& 31))
    | .idiv => mj_div k ls st σ (fun x y => x / y)
    | .irem => mj_div k ls st σ (fun x y => x - x / y * y)
    | .dup => (match st with
      | x :: r => some (.inl (k + 1, ls, x :: x :: r, σ))
      | _ => none)
    | .dup2 => (match st with
      | x :: y :: r => some (.inl (k + 1, ls, x :: y :: x :: y :: r, σ))
      | _ => none)
    | .pop => (match st with
      | _ :: r => some (.inl (k + 1, ls, r, σ))
      | _ => none)
    | .i2c => (match st with
      | .inl x :: r => some (.inl (k + 1, ls, .inl (x.toUInt32 % 65536).toInt32 :: r, σ))
      | _ => none)
    | .ifCond o _ => (match st with
      | .inl x :: r => some (.inl (if mj_cmp o x 0 = true then a else k + 1, ls, r, σ))
      | _ => none)
    | .if_icmp o _ => (match st with
      | .inl y :: .inl x :: r => some (.inl (if mj_cmp o x y = true then a else k + 1, ls, r, σ))
      | _ => none)
    | .goto _ => some (.inl (a, ls, st, σ))
    | .tableswitch _ lo hi _ => (match st with
      | .inl x :: r => some (.inl (mj_tsw lo hi ts a x, ls, r, σ))
      | _ => none)
    | .lookupswitch _ ps => (match st with
      | .inl x :: r => some (.inl (mj_lsw ps.toList ts a x, ls, r, σ))
      | _ => none)
    | .getfield _ => (match st with
      | .inr (c, i) :: r => if c = a then (if mj_ft Y a b = 3 then (match σ.2.2 a i b with
          | some q => some (.inl (k + 1, ls, .inr q :: r, σ))
          | none => none) else some (.inl (k + 1, ls, .inl (σ.2.1 a i b) :: r, σ))) else none
      | _ => none)
    | .putfield _ => (match st with
      | .inl x :: .inr (c, i) :: r => if c = a ∧ ¬ mj_ft Y a b = 3 ∧ mj_chk (mj_ft Y a b) x = true then some (.inl (k + 1, ls, r, (σ.1, mj_u σ.2.1 a i b x, σ.2.2))) else none
      | .inr q :: .inr (c, i) :: r => if c = a ∧ mj_ft Y a b = 3 then some (.inl (k + 1, ls, r, (σ.1, σ.2.1, mj_w σ.2.2 a i b (some q)))) else none
      | _ => none)
    | .getstatic _ => some (.inl (k + 1, ls, .inr (a, 0) :: st, σ))
    | .iaload => (match st with
      | .inl j :: .inr (c, i) :: r => if mj_isI Y c = true then (match mj_ix j (mj_len Y X c) with
          | some q => some (.inl (k + 1, ls, .inl (mj_rd Y X σ.2.1 c i q) :: r, σ))
          | none => none) else none
      | _ => none)
    | .caload => (match st with
      | .inl j :: .inr (c, i) :: r => if mj_isA Y 2 c = true then (match mj_ix j (mj_len Y X c) with
          | some q => some (.inl (k + 1, ls, .inl (σ.2.1 c i q) :: r, σ))
          | none => none) else none
      | _ => none)
    | .aaload => (match st with
      | .inl j :: .inr (c, i) :: r => if mj_isQ Y c = true then (match mj_ix j (mj_len Y X c) with
          | some q => (match σ.2.2 c i q with
            | some z => some (.inl (k + 1, ls, .inr z :: r, σ))
            | none => none)
          | none => none) else none
      | _ => none)
    | .iastore => (match st with
      | .inl x :: .inl j :: .inr (c, i) :: r => if mj_isA Y 0 c = true then (match mj_ix j (mj_len Y X c) with
          | some q => some (.inl (k + 1, ls, r, (σ.1, mj_u σ.2.1 c i q x, σ.2.2)))
          | none => none) else none
      | _ => none)
    | .castore => (match st with
      | .inl x :: .inl j :: .inr (c, i) :: r => if mj_isA Y 2 c = true ∧ mj_chk 2 x = true then (match mj_ix j (mj_len Y X c) with
          | some q => some (.inl (k + 1, ls, r, (σ.1, mj_u σ.2.1 c i q x, σ.2.2)))
          | none => none) else none
      | _ => none)
    | .aastore => (match st with
      | .inr z :: .inl j :: .inr (c, i) :: r => if mj_isQ Y c = true ∧ z.1 = (mj_kd Y c).2.1 then (match mj_ix j (mj_len Y X c) with
          | some q => some (.inl (k + 1, ls, r, (σ.1, σ.2.1, mj_w σ.2.2 c i q (some z))))
          | none => none) else none
      | _ => none)
    | .new _ => if (a, mj_cnt a σ.1) ∈ σ.1 then none else some (.inl (k + 1, ls, .inr (a, mj_cnt a σ.1) :: st, (σ.1 ++ [(a, mj_cnt a σ.1)], mj_z σ.2.1 a (mj_cnt a σ.1), mj_n σ.2.2 a (mj_cnt a σ.1))))
    | .newarray _ => (match st with
      | .inl n :: r => if (a, mj_cnt a σ.1) ∈ σ.1 ∨ ¬ n = Int32.ofNat (mj_kd Y a).2.2 then none else some (.inl (k + 1, ls, .inr (a, mj_cnt a σ.1) :: r, (σ.1 ++ [(a, mj_cnt a σ.1)], mj_z σ.2.1 a (mj_cnt a σ.1), mj_n σ.2.2 a (mj_cnt a σ.1))))
      | _ => none)
    | .anewarray _ => (match st with
      | .inl n :: r => if (a, mj_cnt a σ.1) ∈ σ.1 ∨ ¬ n = Int32.ofNat (mj_kd Y a).2.2 then none else some (.inl (k + 1, ls, .inr (a, mj_cnt a σ.1) :: r, (σ.1 ++ [(a, mj_cnt a σ.1)], mj_z σ.2.1 a (mj_cnt a σ.1), mj_n σ.2.2 a (mj_cnt a σ.1))))
      | _ => none)
    | .arraylength => (match st with
      | .inr (c, _) :: r => if (mj_kd Y c).1 = 3 then some (.inl (k + 1, ls, .inl (Int32.ofNat X.1) :: r, σ)) else none
      | _ => none)
    | .invokevirtual _ => mj_call k a b ts ls st σ
    | .invokespecial _ => mj_call k a b ts ls st σ
    | .invokestatic _ => if a = 998 then mj_copy Y X k ls st σ else mj_call k a b ts ls st σ
    | .ireturn => (match st with
      | [.inl x] => if mj_chk b x = true then some (.inr (.inl (some (.inl x)))) else none
      | _ => none)
    | .areturn => (match st with
      | [.inr x] => some (.inr (.inl (some (.inr x))))
      | _ => none)
    | .return_ => (match st with
      | [] => some (.inr (.inl none))
      | _ => none)
    | _ => none
def mj_stp (Y : mj_T) (X : mj_X) (m k : Nat) (ls : mj_L) (st : List mj_V) (σ : mj_H) : Option mj_R := match mj_ent Y m k with
  | none => none
  | some e => mj_do Y X k e ls st σ
def mj_in (Y : mj_T) (m : Nat) (as : List mj_V) : mj_L := as.map some ++ List.replicate (mj_mx Y m - as.length) none
def mj_run (Y : mj_T) (X : mj_X) : Nat → Nat → Nat → mj_L → List mj_V → mj_H → Option (Option mj_V × mj_H)
  | 0, _, _, _, _, _ => none
  | n + 1, m, k, ls, st, σ => match mj_stp Y X m k ls st σ with
    | none => none
    | some (.inl c) => mj_run Y X n m c.1 c.2.1 c.2.2.1 c.2.2.2
    | some (.inr (.inl r)) => some (r, σ)
    | some (.inr (.inr c)) => match mj_run Y X n c.1 0 (mj_in Y c.1 c.2.1) [] σ with
      | none => none
      | some r => mj_run Y X n m (k + 1) ls (r.1.toList ++ c.2.2) r.2
theorem mj_run_mono (Y : mj_T) (X : mj_X) : ∀ (n m k : Nat) (ls : mj_L) (st : List mj_V) (σ : mj_H) (r : Option mj_V × mj_H), mj_run Y X n m k ls st σ = some r → ∀ n' : Nat, n ≤ n' → mj_run Y X n' m k ls st σ = some r := by
  intro n
  induction n with
  | zero => intro m k ls st σ r h; cases h
  | succ n ih =>
    intro m k ls st σ r h n' hn
    obtain ⟨n1, rfl⟩ : ∃ n1, n' = n1 + 1 := ⟨n' - 1, by omega⟩
    have hn1 : n ≤ n1 := by omega
    unfold mj_run at h ⊢
    cases hc : mj_stp Y X m k ls st σ with
    | none => rw [hc] at h; cases h
    | some d =>
      rw [hc] at h
      cases d with
      | inl c => exact ih _ _ _ _ _ _ h _ hn1
      | inr d =>
        cases d with
        | inl c => exact h
        | inr c =>
          dsimp only at h ⊢
          cases hr : mj_run Y X n c.1 0 (mj_in Y c.1 c.2.1) [] σ with
          | none => rw [hr] at h; cases h
          | some r1 =>
            rw [hr] at h
            rw [ih _ _ _ _ _ _ hr _ hn1]
            exact ih _ _ _ _ _ _ h _ hn1
/-- what a frame comes to, however long it takes -/
noncomputable def mj_go (Y : mj_T) (X : mj_X) (m k : Nat) (ls : mj_L) (st : List mj_V) (σ : mj_H) : Option (Option mj_V × mj_H) :=
  @dite _ (∃ r, ∃ n, mj_run Y X n m k ls st σ = some r) (Classical.propDecidable _) (fun h => some (Classical.choose h)) (fun _ => none)
theorem mj_go_run {Y : mj_T} {X : mj_X} {m k : Nat} {ls : mj_L} {st : List mj_V} {σ : mj_H} {r : Option mj_V × mj_H} {n : Nat} (h : mj_run Y X n m k ls st σ = some r) : mj_go Y X m k ls st σ = some r := by
  have hx : ∃ r, ∃ n, mj_run Y X n m k ls st σ = some r := ⟨r, n, h⟩
  unfold mj_go
  rw [dif_pos hx]
  obtain ⟨n2, h2⟩ := Classical.choose_spec hx
  have a := mj_run_mono Y X _ _ _ _ _ _ _ h (max n n2) (Nat.le_max_left _ _)
  have b := mj_run_mono Y X _ _ _ _ _ _ _ h2 (max n n2) (Nat.le_max_right _ _)
  rw [a] at b
  exact b.symm
theorem mj_go_some {Y : mj_T} {X : mj_X} {m k : Nat} {ls : mj_L} {st : List mj_V} {σ : mj_H} {r : Option mj_V × mj_H} (h : mj_go Y X m k ls st σ = some r) : ∃ n, mj_run Y X n m k ls st σ = some r := by
  unfold mj_go at h
  split at h
  · rename_i hx
    cases h
    exact Classical.choose_spec hx
  · cases h
theorem mj_go_none {Y : mj_T} {X : mj_X} {m k : Nat} {ls : mj_L} {st : List mj_V} {σ : mj_H} (h : ∀ r n, ¬ mj_run Y X n m k ls st σ = some r) : mj_go Y X m k ls st σ = none := by
  unfold mj_go
  rw [dif_neg]
  rintro ⟨r, n, e⟩
  exact h r n e
theorem mj_opt {α : Type} {a b : Option α} (h1 : ∀ r, a = some r → b = some r) (h2 : ∀ r, b = some r → a = some r) : a = b := by
  cases a with
  | some x => exact (h1 x rfl).symm
  | none =>
    cases b with
    | none => rfl
    | some y => exact h2 y rfl
theorem mj_go_c {Y : mj_T} {X : mj_X} {m k : Nat} {ls : mj_L} {st : List mj_V} {σ : mj_H} {k' : Nat} {ls' : mj_L} {st' : List mj_V} {σ' : mj_H} (h : mj_stp Y X m k ls st σ = some (.inl (k', ls', st', σ'))) : mj_go Y X m k ls st σ = mj_go Y X m k' ls' st' σ' := by
  refine mj_opt (fun r hr => ?_) (fun r hr => ?_)
  · obtain ⟨n, hn⟩ := mj_go_some hr
    cases n with
    | zero => cases hn
    | succ n =>
      unfold mj_run at hn
      rw [h] at hn
      exact mj_go_run hn
  · obtain ⟨n, hn⟩ := mj_go_some hr
    refine mj_go_run (n := n + 1) ?_
    unfold mj_run
    rw [h]
    exact hn
theorem mj_go_r {Y : mj_T} {X : mj_X} {m k : Nat} {ls : mj_L} {st : List mj_V} {σ : mj_H} {r : Option mj_V} (h : mj_stp Y X m k ls st σ = some (.inr (.inl r))) : mj_go Y X m k ls st σ = some (r, σ) := by
  refine mj_go_run (n := 1) ?_
  unfold mj_run
  rw [h]
/-- a call: a method's whole run -/
noncomputable def mj_ex (Y : mj_T) (X : mj_X) (m : Nat) (as : List mj_V) (σ : mj_H) : Option (Option mj_V × mj_H) := mj_go Y X m 0 (mj_in Y m as) [] σ
theorem mj_go_l {Y : mj_T} {X : mj_X} {m k : Nat} {ls : mj_L} {st : List mj_V} {σ : mj_H} {a : Nat} {as rest : List mj_V} (h : mj_stp Y X m k ls st σ = some (.inr (.inr (a, as, rest)))) : mj_go Y X m k ls st σ = (mj_ex Y X a as σ).bind (fun p => mj_go Y X m (k + 1) ls (p.1.toList ++ rest) p.2) := by
  refine mj_opt (fun r hr => ?_) (fun r hr => ?_)
  · obtain ⟨n, hn⟩ := mj_go_some hr
    cases n with
    | zero => cases hn
    | succ n =>
      unfold mj_run at hn
      rw [h] at hn
      dsimp only at hn
      split at hn
      · cases hn
      · rename_i r1 h1
        unfold mj_ex
        rw [mj_go_run h1]
        exact mj_go_run hn
  · unfold mj_ex at hr
    cases h1 : mj_go Y X a 0 (mj_in Y a as) [] σ with
    | none => rw [h1] at hr; cases hr
    | some r1 =>
      rw [h1] at hr
      obtain ⟨n1, e1⟩ := mj_go_some h1
      obtain ⟨n2, e2⟩ := mj_go_some (show mj_go Y X m (k + 1) ls (r1.1.toList ++ rest) r1.2 = some r from hr)
      have a1 := mj_run_mono Y X _ _ _ _ _ _ _ e1 (max n1 n2) (Nat.le_max_left _ _)
      have a2 := mj_run_mono Y X _ _ _ _ _ _ _ e2 (max n1 n2) (Nat.le_max_right _ _)
      refine mj_go_run (n := max n1 n2 + 1) ?_
      unfold mj_run
      rw [h]
      simp only [a1]
      exact a2
/-- a branch -/
theorem mj_go_b {Y : mj_T} {X : mj_X} {m k : Nat} {ls : mj_L} {st st' : List mj_V} {σ : mj_H} {a b : Nat} {c : Bool} {P : Prop} [Decidable P] (hP : c = decide P) (h : mj_stp Y X m k ls st σ = some (.inl (if c = true then a else b, ls, st', σ))) : mj_go Y X m k ls st σ = if P then mj_go Y X m a ls st' σ else mj_go Y X m b ls st' σ := by
  rw [mj_go_c h]
  subst hP
  by_cases hp : P
  · rw [if_pos hp, if_pos (by simpa using hp)]
  · rw [if_neg hp, if_neg (by simpa using hp)]
/-- an index within -/
theorem mj_go_i {Y : mj_T} {X : mj_X} {m k : Nat} {ls : mj_L} {st : List mj_V} {σ : mj_H} {j : Int32} {n : Nat} {F : Nat → Option mj_R} {G : Nat → Option (Option mj_V × mj_H)} (h : mj_stp Y X m k ls st σ = (match mj_ix j n with
      | some q => F q
      | none => none)) (hG : ∀ q, ∃ c : mj_C, F q = some (.inl c) ∧ G q = mj_go Y X m c.1 c.2.1 c.2.2.1 c.2.2.2) : mj_go Y X m k ls st σ = (mj_ix j n).bind G := by
  cases hq : mj_ix j n with
  | none =>
    rw [hq] at h
    refine mj_go_none (fun r n e => ?_)
    cases n with
    | zero => cases e
    | succ n => unfold mj_run at e; rw [h] at e; cases e
  | some q =>
    rw [hq] at h
    obtain ⟨c, e1, e2⟩ := hG q
    rw [Option.bind_some, e2]
    exact mj_go_c (h.trans e1)
/-- a test that must hold -/
theorem mj_go_t {Y : mj_T} {X : mj_X} {m k : Nat} {ls : mj_L} {st : List mj_V} {σ : mj_H} {P : Prop} [Decidable P] {c : mj_C} (h : mj_stp Y X m k ls st σ = if P then some (.inl c) else none) : mj_go Y X m k ls st σ = if P then mj_go Y X m c.1 c.2.1 c.2.2.1 c.2.2.2 else none := by
  by_cases hp : P
  · rw [if_pos hp] at h ⊢
    exact mj_go_c h
  · rw [if_neg hp] at h ⊢
    refine mj_go_none (fun r n e => ?_)
    cases n with
    | zero => cases e
    | succ n => unfold mj_run at e; rw [h] at e; cases e
