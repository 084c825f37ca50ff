/-! the reference: signs, numbers -/
section MS
variable {X : mj_X} {S : List (Nat × Nat)} {f : mj_F} {g : mj_G} {m L p b : Nat} {c : Int32}
theorem md_passesT (hg : g 6 m 6 = some (22, m)) (hL : f 6 m 7 = nI L) (h100 : L ≤ 100) (hp : f 6 m 8 = nI p) (hp1 : p < 900) (hc : mt_a (f 22 m) L p c) : mj_x X 140 [.inr (6, m), .inl c] (S, f, g) = some (some (.inl (nI 1)), (S, mj_u f 6 m 8 (nI (p + 1)), g)) := by
  obtain ⟨c1, c2⟩ := hc
  simp (disch := omega) only [mj_x140, mj_g140_0, mj_g140_1, mj_g140_2, mj_g140_3, mj_g140_4, mj_g140_5, mj_g140_6, mj_g140_7, mj_g140_8, mj_g140_9, mj_g140_10, mj_g140_11, mj_g140_12, mj_g140_13, mj_g140_14, mj_g140_15, mj_g140_16, mj_g140_17, mj_g140_18, mj_g140_19, mj_g140_20, mj_g140_21, mj_g140_22, mj_g140_23, mj_g140_24, mj_g140_25, mj_g140_26, mj_g140_27, ↓reduceIte, Option.bind_some, Option.toList_some, Option.toList_none, List.cons_append, List.nil_append, mj_ixn, mj_add, mj_mul, mj_sub, mj_dv, mj_rmn, mj_ltT, mj_ltF, mj_leT, mj_leF, mj_eqT, mj_eqF, mj_z0T, mj_z0F, mj_bo0, mj_boc, mj_chk10, mj_chk11, hg, hL, hp, c2, not_true]
theorem md_passesF (hg : g 6 m 6 = some (22, m)) (hL : f 6 m 7 = nI L) (h100 : L ≤ 100) (hp : f 6 m 8 = nI p) (hp1 : p < 900) (hc : ¬ mt_a (f 22 m) L p c) : mj_x X 140 [.inr (6, m), .inl c] (S, f, g) = some (some (.inl (nI 0)), (S, f, g)) := by
  have e1 : mj_u f 6 m 8 (nI (p + 0)) = f := mj_ue hp
  by_cases c1 : p < L
  · have c2 : ¬ f 22 m p = c := fun q_ => hc ⟨c1, q_⟩
    simp (disch := omega) only [mj_x140, mj_g140_0, mj_g140_1, mj_g140_2, mj_g140_3, mj_g140_4, mj_g140_5, mj_g140_6, mj_g140_7, mj_g140_8, mj_g140_9, mj_g140_10, mj_g140_11, mj_g140_12, mj_g140_13, mj_g140_14, mj_g140_15, mj_g140_16, mj_g140_17, mj_g140_18, mj_g140_19, mj_g140_20, mj_g140_21, mj_g140_22, mj_g140_23, mj_g140_24, mj_g140_25, mj_g140_26, mj_g140_27, ↓reduceIte, Option.bind_some, Option.toList_some, Option.toList_none, List.cons_append, List.nil_append, mj_ixn, mj_add, mj_mul, mj_sub, mj_dv, mj_rmn, mj_ltT, mj_ltF, mj_leT, mj_leF, mj_eqT, mj_eqF, mj_z0T, mj_z0F, mj_bo0, mj_boc, mj_chk10, mj_chk11, hg, hL, hp, c2, not_false_eq_true, e1]
  · simp (disch := omega) only [mj_x140, mj_g140_0, mj_g140_1, mj_g140_2, mj_g140_3, mj_g140_4, mj_g140_5, mj_g140_6, mj_g140_7, mj_g140_8, mj_g140_9, mj_g140_10, mj_g140_11, mj_g140_12, mj_g140_13, mj_g140_14, mj_g140_15, mj_g140_16, mj_g140_17, mj_g140_18, mj_g140_19, mj_g140_20, mj_g140_21, mj_g140_22, mj_g140_23, mj_g140_24, mj_g140_25, mj_g140_26, mj_g140_27, ↓reduceIte, Option.bind_some, Option.toList_some, Option.toList_none, List.cons_append, List.nil_append, mj_ixn, mj_add, mj_mul, mj_sub, mj_dv, mj_rmn, mj_ltT, mj_ltF, mj_leT, mj_leF, mj_eqT, mj_eqF, mj_z0T, mj_z0F, mj_bo0, mj_boc, mj_chk10, mj_chk11, hL, hp, e1]
theorem md_numl (hg : g 6 m 6 = some (22, m)) (hL : f 6 m 7 = nI L) (h100 : L ≤ 100) (hb : b < 900) : ∀ (q p : Nat) (v : Int32), b ≤ p → p + q = (if b ≤ min L (b + 4) then min L (b + 4) else b) → mj_g X 141 5 [some (.inr (6, m)), some (.inl (nI b)), some (.inl v)] [] (S, mj_u f 6 m 8 (nI p), g) = mj_g X 141 44 [some (.inr (6, m)), some (.inl (nI b)), some (.inl (mt_d (f 22 m) q p v).2)] [] (S, mj_u f 6 m 8 (nI (mt_d (f 22 m) q p v).1), g) := by
  intro q
  induction q with
  | zero =>
    intro p v h1 h2
    have c3 : p < 2000 := by split at h2 <;> omega
    refine Eq.trans mj_g141_5 ?_
    show _ = mj_g X 141 44 [_, _, some (Sum.inl v)] [] (S, mj_u f 6 m 8 (nI p), g)
    by_cases c1 : p < L
    · have c2 : b + 4 ≤ p := by
        split at h2 <;> omega
      simp (disch := omega) only [mj_g141_6, mj_g141_7, mj_g141_8, mj_g141_9, mj_g141_10, mj_g141_11, mj_g141_12, mj_g141_13, mj_g141_14, mj_g141_15, ↓reduceIte, Option.bind_some, Option.toList_some, Option.toList_none, List.cons_append, List.nil_append, mj_ixn, mj_add, mj_mul, mj_sub, mj_dv, mj_rmn, mj_ltT, mj_ltF, mj_leT, mj_leF, mj_eqT, mj_eqF, mj_z0T, mj_z0F, mj_bo0, mj_boc, mj_chk10, mj_chk11, mj_us, mj_uj, hL]
    · simp (disch := omega) only [mj_g141_6, mj_g141_7, mj_g141_8, mj_g141_9, ↓reduceIte, Option.bind_some, Option.toList_some, Option.toList_none, List.cons_append, List.nil_append, mj_ixn, mj_add, mj_mul, mj_sub, mj_dv, mj_rmn, mj_ltT, mj_ltF, mj_leT, mj_leF, mj_eqT, mj_eqF, mj_z0T, mj_z0F, mj_bo0, mj_boc, mj_chk10, mj_chk11, mj_us, mj_uj, hL]
  | succ q ih =>
    intro p v h1 h2
    have c1 : p < L ∧ p < b + 4 := by
      split at h2 <;> omega
    have ih2 := ih (p + 1) (v * nI 10 + (f 22 m p - nI 48)) (by omega) (by omega)
    have ev : nI 10 * v + f 22 m p - nI 48 = v * nI 10 + (f 22 m p - nI 48) := by
      rw [Int32.mul_comm, Int32.sub_eq_add_neg, Int32.sub_eq_add_neg, Int32.add_assoc]
    refine Eq.trans mj_g141_5 ?_
    rw [mt_d_s]
    by_cases c2 : nI 48 ≤ f 22 m p ∧ f 22 m p ≤ nI 57
    · rw [if_pos c2]
      simp (disch := omega) only [mj_g141_6, mj_g141_7, mj_g141_8, mj_g141_9, mj_g141_10, mj_g141_11, mj_g141_12, mj_g141_13, mj_g141_14, mj_g141_15, mj_g141_16, mj_g141_17, mj_g141_18, mj_g141_19, mj_g141_20, mj_g141_21, mj_g141_22, mj_g141_23, mj_g141_24, mj_g141_25, mj_g141_26, mj_g141_27, mj_g141_28, mj_g141_29, mj_g141_30, mj_g141_31, mj_g141_32, mj_g141_33, mj_g141_34, mj_g141_35, mj_g141_36, mj_g141_37, mj_g141_38, mj_g141_39, mj_g141_40, mj_g141_41, mj_g141_42, mj_g141_43, ↓reduceIte, Option.bind_some, Option.toList_some, Option.toList_none, List.cons_append, List.nil_append, mj_ixn, mj_add, mj_mul, mj_sub, mj_dv, mj_rmn, mj_ltT, mj_ltF, mj_leT, mj_leF, mj_eqT, mj_eqF, mj_z0T, mj_z0F, mj_bo0, mj_boc, mj_chk10, mj_chk11, mj_us, mj_uj, mj_uk, hL, hg, mc_in, eq_true c2, not_true, mj_uu, ev, ih2]
    · rw [if_neg c2]
      simp (disch := omega) only [mj_g141_6, mj_g141_7, mj_g141_8, mj_g141_9, mj_g141_10, mj_g141_11, mj_g141_12, mj_g141_13, mj_g141_14, mj_g141_15, mj_g141_16, mj_g141_17, mj_g141_18, mj_g141_19, mj_g141_20, mj_g141_21, mj_g141_22, mj_g141_23, mj_g141_24, ↓reduceIte, Option.bind_some, Option.toList_some, Option.toList_none, List.cons_append, List.nil_append, mj_ixn, mj_add, mj_mul, mj_sub, mj_dv, mj_rmn, mj_ltT, mj_ltF, mj_leT, mj_leF, mj_eqT, mj_eqF, mj_z0T, mj_z0F, mj_bo0, mj_boc, mj_chk10, mj_chk11, mj_us, mj_uj, mj_uk, hL, hg, mc_in, eq_false c2, not_false_eq_true]
theorem md_number (hg : g 6 m 6 = some (22, m)) (hL : f 6 m 7 = nI L) (h100 : L ≤ 100) (hp : f 6 m 8 = nI p) (hp1 : p < 800) : mj_x X 141 [.inr (6, m)] (S, f, g) = some (some (.inl (if (mt_n (f 22 m) L p).1 = p then (-1) else (mt_n (f 22 m) L p).2)), (S, mj_u f 6 m 8 (nI (mt_n (f 22 m) L p).1), g)) := by
  have hb := mt_n_b (f 22 m) L p
  have z1 := md_numl (X := X) (S := S) (f := f) (m := m) (b := p) hg hL h100 (by omega) (min L (p + 4) - p) p (nI 0) (Nat.le_refl _) (by split <;> omega)
  rw [mj_ue hp] at z1
  have z2 : mj_x X 141 [.inr (6, m)] (S, f, g) = mj_g X 141 44 [some (.inr (6, m)), some (.inl (nI p)), some (.inl (mt_n (f 22 m) L p).2)] [] (S, mj_u f 6 m 8 (nI (mt_n (f 22 m) L p).1), g) := by
    rw [show mt_n (f 22 m) L p = mt_d (f 22 m) (min L (p + 4) - p) p (nI 0) from rfl, ← z1]
    simp (disch := omega) only [mj_x141, mj_g141_0, mj_g141_1, mj_g141_2, mj_g141_3, mj_g141_4, hp]
  rw [z2]
  generalize mt_n (f 22 m) L p = zz at hb ⊢
  by_cases c1 : zz.1 = p
  · rw [if_pos c1]
    simp (disch := omega) only [mj_g141_44, mj_g141_45, mj_g141_46, mj_g141_47, mj_g141_48, mj_g141_49, mj_g141_50, mj_g141_51, ↓reduceIte, Option.bind_some, Option.toList_some, Option.toList_none, List.cons_append, List.nil_append, mj_ixn, mj_add, mj_mul, mj_sub, mj_dv, mj_rmn, mj_ltT, mj_ltF, mj_leT, mj_leF, mj_eqT, mj_eqF, mj_z0T, mj_z0F, mj_bo0, mj_boc, mj_chk10, mj_chk11, mj_us, c1, not_true]
  · rw [if_neg c1]
    simp (disch := omega) only [mj_g141_44, mj_g141_45, mj_g141_46, mj_g141_47, mj_g141_48, mj_g141_49, mj_g141_50, mj_g141_51, ↓reduceIte, Option.bind_some, Option.toList_some, Option.toList_none, List.cons_append, List.nil_append, mj_ixn, mj_add, mj_mul, mj_sub, mj_dv, mj_rmn, mj_ltT, mj_ltF, mj_leT, mj_leF, mj_eqT, mj_eqF, mj_z0T, mj_z0F, mj_bo0, mj_boc, mj_chk10, mj_chk11, mj_us, not_false_eq_true]
end MS
