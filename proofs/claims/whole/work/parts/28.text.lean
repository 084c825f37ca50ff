/-! LogText -/
theorem mj_uu {f : mj_F} {k i j : Nat} {x y : Int32} : mj_u (mj_u f k i j x) k i j y = mj_u f k i j y := by
  funext a b c
  unfold mj_u
  by_cases h : a = k ∧ b = i ∧ c = j
  · rw [if_pos h, if_pos h]
  · rw [if_neg h, if_neg h, if_neg h]
theorem mj_ue {f : mj_F} {k i j : Nat} {x : Int32} (h : f k i j = x) : mj_u f k i j x = f := by
  funext a b c
  unfold mj_u
  by_cases h2 : a = k ∧ b = i ∧ c = j
  · obtain ⟨rfl, rfl, rfl⟩ := h2
    rw [if_pos ⟨rfl, rfl, rfl⟩, h]
  · rw [if_neg h2]
theorem mj_ti {x : Int32} {c : Nat} (hc : c < 2147483648) : x.toInt = (c : Int) ↔ x = nI c := by
  rw [← nI_toInt (n := c) (by omega)]
  exact Int32.toInt_inj
theorem mj_ti3 {x : Int32} : x.toInt = 103 ↔ x = nI 103 := mj_ti (c := 103) (by omega)
theorem mj_ti4 {x : Int32} : x.toInt = 104 ↔ x = nI 104 := mj_ti (c := 104) (by omega)
theorem mj_ti14 {x : Int32} : x.toInt = 114 ↔ x = nI 114 := mj_ti (c := 114) (by omega)
theorem mj_ti15 {x : Int32} : x.toInt = 115 ↔ x = nI 115 := mj_ti (c := 115) (by omega)
/-- the digits from a place on, at most so many: where they end, their number -/
def mt_d (t : Nat → Int32) : Nat → Nat → Int32 → Nat × Int32
  | 0, p, v => (p, v)
  | q + 1, p, v => if nI 48 ≤ t p ∧ t p ≤ nI 57 then mt_d t q (p + 1) (v * nI 10 + (t p - nI 48)) else (p, v)
theorem mt_d_s (t : Nat → Int32) (q p : Nat) (v : Int32) : mt_d t (q + 1) p v = if nI 48 ≤ t p ∧ t p ≤ nI 57 then mt_d t q (p + 1) (v * nI 10 + (t p - nI 48)) else (p, v) := rfl
theorem mt_d_b (t : Nat → Int32) (q : Nat) : ∀ p v, p ≤ (mt_d t q p v).1 ∧ (mt_d t q p v).1 ≤ p + q := by
  induction q with
  | zero => intro p v; exact ⟨Nat.le_refl _, Nat.le_refl _⟩
  | succ q ih =>
    intro p v
    rw [mt_d_s]
    split
    · have := ih (p + 1) (v * nI 10 + (t p - nI 48)); omega
    · exact ⟨Nat.le_refl _, Nat.le_add_right _ _⟩
def mt_n (t : Nat → Int32) (L p : Nat) : Nat × Int32 := mt_d t (min L (p + 4) - p) p (nI 0)
theorem mt_n_b (t : Nat → Int32) (L p : Nat) : p ≤ (mt_n t L p).1 ∧ (mt_n t L p).1 ≤ p + 4 ∧ (p < (mt_n t L p).1 → (mt_n t L p).1 ≤ L) := by
  have h := mt_d_b t (min L (p + 4) - p) p (nI 0)
  unfold mt_n
  omega
abbrev mt_a (t : Nat → Int32) (L p : Nat) (c : Int32) : Prop := p < L ∧ t p = c
section TX
variable {X : mj_X} {S : List (Nat × Nat)} {f : mj_F} {g : mj_G} {i L p e a n : Nat} {c x v : Int32}
theorem mc_append (hg : g 2 i 0 = some (14, i)) (hL : f 2 i 1 = nI L) (h100 : L < 100) (hc : mj_chk 2 x = true) : mj_x X 34 [.inr (2, i), .inl x] (S, f, g) = some (none, (S, mj_u (mj_u f 14 i L x) 2 i 1 (nI (L + 1)), g)) := by
  simp (disch := omega) only [mj_x34, mj_g34_0, mj_g34_1, mj_g34_2, mj_g34_3, mj_g34_4, mj_g34_5, mj_g34_6, mj_g34_7, mj_g34_8, mj_g34_9, mj_g34_10, mj_g34_11, mj_g34_12, ↓reduceIte, Option.bind_some, Option.toList_some, Option.toList_none, List.cons_append, List.nil_append, mj_ixn, mj_add, mj_mul, mj_sub, mj_dv, mj_rmn, mj_ltT, mj_ltF, mj_leT, mj_leF, mj_eqT, mj_eqF, mj_z0T, mj_z0F, mj_bo0, mj_boc, mj_chk10, mj_chk11, hg, hL, hc, mj_uk]
theorem mc_isAt [Decidable (mt_a (f 14 i) L p c)] (hg : g 2 i 0 = some (14, i)) (hL : f 2 i 1 = nI L) (h100 : L ≤ 100) (hp : p < 2147483648) : mj_x X 35 [.inr (2, i), .inl (nI p), .inl c] (S, f, g) = some (some (.inl (mj_bo (mt_a (f 14 i) L p c))), (S, f, g)) := by
  by_cases c1 : p < L
  · by_cases c2 : f 14 i p = c
    · rw [← mj_boT (P := mt_a (f 14 i) L p c) ⟨c1, c2⟩]
      simp (disch := omega) only [mj_x35, mj_g35_0, mj_g35_1, mj_g35_2, mj_g35_3, mj_g35_4, mj_g35_5, mj_g35_6, mj_g35_7, mj_g35_8, mj_g35_9, mj_g35_10, mj_g35_11, mj_g35_12, mj_g35_13, ↓reduceIte, Option.bind_some, Option.toList_some, Option.toList_none, List.cons_append, List.nil_append, mj_ixn, mj_add, mj_mul, mj_sub, mj_dv, mj_rmn, mj_ltT, mj_ltF, mj_leT, mj_leF, mj_eqT, mj_eqF, mj_z0T, mj_z0F, mj_bo0, mj_boc, mj_chk10, mj_chk11, hg, hL, c2]
    · rw [← mj_boF (P := mt_a (f 14 i) L p c) (fun q_ => c2 q_.2)]
      simp (disch := omega) only [mj_x35, mj_g35_0, mj_g35_1, mj_g35_2, mj_g35_3, mj_g35_4, mj_g35_5, mj_g35_6, mj_g35_7, mj_g35_8, mj_g35_9, mj_g35_10, mj_g35_11, mj_g35_12, mj_g35_13, ↓reduceIte, Option.bind_some, Option.toList_some, Option.toList_none, List.cons_append, List.nil_append, mj_ixn, mj_add, mj_mul, mj_sub, mj_dv, mj_rmn, mj_ltT, mj_ltF, mj_leT, mj_leF, mj_eqT, mj_eqF, mj_z0T, mj_z0F, mj_bo0, mj_boc, mj_chk10, mj_chk11, hg, hL, c2]
  · rw [← mj_boF (P := mt_a (f 14 i) L p c) (fun q_ => c1 q_.1)]
    simp (disch := omega) only [mj_x35, mj_g35_0, mj_g35_1, mj_g35_2, mj_g35_3, mj_g35_4, mj_g35_5, mj_g35_6, mj_g35_7, mj_g35_8, mj_g35_9, mj_g35_10, mj_g35_11, mj_g35_12, mj_g35_13, ↓reduceIte, Option.bind_some, Option.toList_some, Option.toList_none, List.cons_append, List.nil_append, mj_ixn, mj_add, mj_mul, mj_sub, mj_dv, mj_rmn, mj_ltT, mj_ltF, mj_leT, mj_leF, mj_eqT, mj_eqF, mj_z0T, mj_z0F, mj_bo0, mj_boc, mj_chk10, mj_chk11, hL]
theorem mc_readSignT (hg : g 2 i 0 = some (14, i)) (hL : f 2 i 1 = nI L) (h100 : L ≤ 100) (hp : f 2 i 5 = nI p) (hp1 : p < 2147483648) (hc : mt_a (f 14 i) L p c) : mj_x X 38 [.inr (2, i), .inl c] (S, f, g) = some (some (.inl (nI 1)), (S, mj_u f 2 i 5 (nI (p + 1)), g)) := by
  haveI : Decidable (mt_a (f 14 i) L p c) := .isTrue hc
  simp (disch := omega) only [mj_x38, mj_g38_0, mj_g38_1, mj_g38_2, mj_g38_3, mj_g38_4, mj_g38_5, mj_g38_6, mj_g38_7, mj_g38_8, mj_g38_9, mj_g38_10, mj_g38_11, mj_g38_12, mj_g38_13, mj_g38_14, mj_g38_15, ↓reduceIte, Option.bind_some, Option.toList_some, Option.toList_none, List.cons_append, List.nil_append, mj_ixn, mj_add, mj_mul, mj_sub, mj_dv, mj_rmn, mj_ltT, mj_ltF, mj_leT, mj_leF, mj_eqT, mj_eqF, mj_z0T, mj_z0F, mj_bo0, mj_boc, mj_chk10, mj_chk11, hp, mc_isAt hg hL h100 hp1]
  rw [if_neg (fun q_ => q_ hc)]
theorem mc_readSignF (hg : g 2 i 0 = some (14, i)) (hL : f 2 i 1 = nI L) (h100 : L ≤ 100) (hp : f 2 i 5 = nI p) (hp1 : p < 2147483648) (hc : ¬ mt_a (f 14 i) L p c) : mj_x X 38 [.inr (2, i), .inl c] (S, f, g) = some (some (.inl (nI 0)), (S, f, g)) := by
  haveI : Decidable (mt_a (f 14 i) L p c) := .isFalse hc
  simp (disch := omega) only [mj_x38, mj_g38_0, mj_g38_1, mj_g38_2, mj_g38_3, mj_g38_4, mj_g38_5, mj_g38_6, mj_g38_7, mj_g38_8, mj_g38_9, mj_g38_10, mj_g38_11, mj_g38_12, mj_g38_13, mj_g38_14, mj_g38_15, ↓reduceIte, Option.bind_some, Option.toList_some, Option.toList_none, List.cons_append, List.nil_append, mj_ixn, mj_add, mj_mul, mj_sub, mj_dv, mj_rmn, mj_ltT, mj_ltF, mj_leT, mj_leF, mj_eqT, mj_eqF, mj_z0T, mj_z0F, mj_bo0, mj_boc, mj_chk10, mj_chk11, hp, mc_isAt hg hL h100 hp1, hc, not_false_eq_true]
theorem mc_digl (hg : g 2 i 0 = some (14, i)) (he : e ≤ 100) : ∀ (q p : Nat) (v : Int32), (p ≤ e → p + q = e) → (e < p → q = 0) → p < 1000 → mj_g X 41 10 [some (.inr (2, i)), some (.inl (nI e)), some (.inl v)] [] (S, mj_u f 2 i 5 (nI p), g) = some (some (.inl (mt_d (f 14 i) q p v).2), (S, mj_u f 2 i 5 (nI (mt_d (f 14 i) q p v).1), g)) := by
  intro q
  induction q with
  | zero =>
    intro p v h1 h2 h3
    refine Eq.trans mj_g41_10 ?_
    simp (disch := omega) only [mj_g41_11, mj_g41_12, mj_g41_13, mj_g41_47, mj_g41_48, ↓reduceIte, Option.bind_some, Option.toList_some, Option.toList_none, List.cons_append, List.nil_append, mj_ixn, mj_add, mj_mul, mj_sub, mj_dv, mj_rmn, mj_ltT, mj_ltF, mj_leT, mj_leF, mj_eqT, mj_eqF, mj_z0T, mj_z0F, mj_bo0, mj_boc, mj_chk10, mj_chk11, mj_us]
    rfl
  | succ q ih =>
    intro p v h1 h2 h3
    have h4 : p < e := by omega
    have ih2 := ih (p + 1) (v * nI 10 + (f 14 i p - nI 48)) (by omega) (by omega) (by omega)
    refine Eq.trans mj_g41_10 ?_
    rw [mt_d_s]
    by_cases c1 : nI 48 ≤ f 14 i p
    · by_cases c2 : f 14 i p ≤ nI 57
      · rw [if_pos ⟨c1, c2⟩]
        simp (disch := omega) only [mj_g41_11, mj_g41_12, mj_g41_13, mj_g41_14, mj_g41_15, mj_g41_16, mj_g41_17, mj_g41_18, mj_g41_19, mj_g41_20, mj_g41_21, mj_g41_22, mj_g41_23, mj_g41_24, mj_g41_25, mj_g41_26, mj_g41_27, mj_g41_28, mj_g41_29, mj_g41_30, mj_g41_31, mj_g41_32, mj_g41_33, mj_g41_34, mj_g41_35, mj_g41_36, mj_g41_37, mj_g41_38, mj_g41_39, mj_g41_40, mj_g41_41, mj_g41_42, mj_g41_43, mj_g41_44, mj_g41_45, mj_g41_46, ↓reduceIte, Option.bind_some, Option.toList_some, Option.toList_none, List.cons_append, List.nil_append, mj_ixn, mj_add, mj_mul, mj_sub, mj_dv, mj_rmn, mj_ltT, mj_ltF, mj_leT, mj_leF, mj_eqT, mj_eqF, mj_z0T, mj_z0F, mj_bo0, mj_boc, mj_chk10, mj_chk11, mj_us, mj_uk, hg, eq_false (Int32.not_lt.mpr c1), eq_false (Int32.not_lt.mpr c2), mj_uu, ih2]
      · rw [if_neg (fun q_ => c2 q_.2)]
        simp (disch := omega) only [mj_g41_11, mj_g41_12, mj_g41_13, mj_g41_14, mj_g41_15, mj_g41_16, mj_g41_17, mj_g41_18, mj_g41_19, mj_g41_20, mj_g41_21, mj_g41_22, mj_g41_23, mj_g41_24, mj_g41_25, mj_g41_26, mj_g41_27, mj_g41_47, mj_g41_48, ↓reduceIte, Option.bind_some, Option.toList_some, Option.toList_none, List.cons_append, List.nil_append, mj_ixn, mj_add, mj_mul, mj_sub, mj_dv, mj_rmn, mj_ltT, mj_ltF, mj_leT, mj_leF, mj_eqT, mj_eqF, mj_z0T, mj_z0F, mj_bo0, mj_boc, mj_chk10, mj_chk11, mj_us, mj_uk, hg, eq_false (Int32.not_lt.mpr c1), eq_true (Int32.not_le.mp c2)]
    · rw [if_neg (fun q_ => c1 q_.1)]
      simp (disch := omega) only [mj_g41_11, mj_g41_12, mj_g41_13, mj_g41_14, mj_g41_15, mj_g41_16, mj_g41_17, mj_g41_18, mj_g41_19, mj_g41_20, mj_g41_47, mj_g41_48, ↓reduceIte, Option.bind_some, Option.toList_some, Option.toList_none, List.cons_append, List.nil_append, mj_ixn, mj_add, mj_mul, mj_sub, mj_dv, mj_rmn, mj_ltT, mj_ltF, mj_leT, mj_leF, mj_eqT, mj_eqF, mj_z0T, mj_z0F, mj_bo0, mj_boc, mj_chk10, mj_chk11, mj_us, mj_uk, hg, eq_true (Int32.not_le.mp c1)]
theorem mc_readDigits (hg : g 2 i 0 = some (14, i)) (hL : f 2 i 1 = nI L) (h100 : L ≤ 100) (hp : f 2 i 5 = nI p) (hp1 : p < 900) : mj_x X 41 [.inr (2, i)] (S, f, g) = some (some (.inl (mt_n (f 14 i) L p).2), (S, mj_u f 2 i 5 (nI (mt_n (f 14 i) L p).1), g)) := by
  have z1 := mc_digl (X := X) (S := S) (f := f) (i := i) (e := min L (p + 4)) hg (by omega) (min L (p + 4) - p) p (nI 0) (by omega) (by omega) (by omega)
  rw [mj_ue hp] at z1
  simp (disch := omega) only [mj_x41, mj_g41_0, mj_g41_1, mj_g41_2, mj_g41_3, mj_g41_4, mj_g41_5, mj_g41_6, mj_g41_7, mj_g41_8, mj_g41_9, ↓reduceIte, Option.bind_some, Option.toList_some, Option.toList_none, List.cons_append, List.nil_append, mj_ixn, mj_add, mj_mul, mj_sub, mj_dv, mj_rmn, mj_ltT, mj_ltF, mj_leT, mj_leF, mj_eqT, mj_eqF, mj_z0T, mj_z0F, mj_bo0, mj_boc, mj_chk10, mj_chk11, hL, hp, mc_min, mj_min]
  exact z1
theorem mc_readFirst (hg : g 2 i 0 = some (14, i)) (hL : f 2 i 1 = nI L) (h100 : L ≤ 100) (hp : f 2 i 5 = nI p) (hp1 : p < 900) : mj_x X 39 [.inr (2, i)] (S, f, g) = some (some (.inl (mj_bo (p < (mt_n (f 14 i) L p).1))), (S, mj_u (mj_u f 2 i 5 (nI (mt_n (f 14 i) L p).1)) 2 i 3 (mt_n (f 14 i) L p).2, g)) := by
  have hb := mt_n_b (f 14 i) L p
  have hd := mc_readDigits (X := X) (S := S) hg hL h100 hp hp1
  generalize mt_n (f 14 i) L p = z at hb hd ⊢
  unfold mj_bo
  by_cases c1 : p < z.1 <;> simp (disch := omega) only [mj_x39, mj_g39_0, mj_g39_1, mj_g39_2, mj_g39_3, mj_g39_4, mj_g39_5, mj_g39_6, mj_g39_7, mj_g39_8, mj_g39_9, mj_g39_10, mj_g39_11, mj_g39_12, mj_g39_13, mj_g39_14, ↓reduceIte, Option.bind_some, Option.toList_some, Option.toList_none, List.cons_append, List.nil_append, mj_ixn, mj_add, mj_mul, mj_sub, mj_dv, mj_rmn, mj_ltT, mj_ltF, mj_leT, mj_leF, mj_eqT, mj_eqF, mj_z0T, mj_z0F, mj_bo0, mj_boc, mj_chk10, mj_chk11, hp, hd, mj_us, mj_uj, c1]
theorem mc_readSecond (hg : g 2 i 0 = some (14, i)) (hL : f 2 i 1 = nI L) (h100 : L ≤ 100) (hp : f 2 i 5 = nI p) (hp1 : p < 900) : mj_x X 40 [.inr (2, i)] (S, f, g) = some (some (.inl (mj_bo (p < (mt_n (f 14 i) L p).1))), (S, mj_u (mj_u f 2 i 5 (nI (mt_n (f 14 i) L p).1)) 2 i 4 (mt_n (f 14 i) L p).2, g)) := by
  have hb := mt_n_b (f 14 i) L p
  have hd := mc_readDigits (X := X) (S := S) hg hL h100 hp hp1
  generalize mt_n (f 14 i) L p = z at hb hd ⊢
  unfold mj_bo
  by_cases c1 : p < z.1 <;> simp (disch := omega) only [mj_x40, mj_g40_0, mj_g40_1, mj_g40_2, mj_g40_3, mj_g40_4, mj_g40_5, mj_g40_6, mj_g40_7, mj_g40_8, mj_g40_9, mj_g40_10, mj_g40_11, mj_g40_12, mj_g40_13, mj_g40_14, ↓reduceIte, Option.bind_some, Option.toList_some, Option.toList_none, List.cons_append, List.nil_append, mj_ixn, mj_add, mj_mul, mj_sub, mj_dv, mj_rmn, mj_ltT, mj_ltF, mj_leT, mj_leF, mj_eqT, mj_eqF, mj_z0T, mj_z0F, mj_bo0, mj_boc, mj_chk10, mj_chk11, hp, hd, mj_us, mj_uj, c1]
end TX
