/-! the reference: a line of the text -/
theorem mt_d_v (t : Nat → Int32) (q : Nat) : ∀ (p v : Nat), (v + 1) * 10 ^ q ≤ 10000 → ∃ w, w < 10000 ∧ (mt_d t q p (nI v)).2 = nI w := by
  induction q with
  | zero =>
    intro p v h
    rw [Nat.pow_zero, Nat.mul_one] at h
    exact ⟨v, by omega, rfl⟩
  | succ q ih =>
    intro p v h
    have hq : 1 ≤ 10 ^ q := Nat.pow_pos (by omega)
    rw [mt_d_s]
    by_cases c1 : nI 48 ≤ t p ∧ t p ≤ nI 57
    · rw [if_pos c1]
      have a1 := Int32.le_iff_toInt_le.mp c1.1
      have a2 := Int32.le_iff_toInt_le.mp c1.2
      rw [nI_toInt (by omega)] at a1 a2
      obtain ⟨c, hc, e⟩ := mj_nIx (w := t p) (N := 58) (by omega) (by omega)
      rw [e, nI_toInt (by omega)] at a1
      rw [e, mj_mul, mj_sub (by omega), mj_add]
      refine ih (p + 1) (v * 10 + (c - 48)) ?_
      have h2 : (v + 1) * 10 ^ (q + 1) = ((v + 1) * 10) * 10 ^ q := by rw [Nat.pow_succ, Nat.mul_comm (10 ^ q) 10, Nat.mul_assoc]
      rw [h2] at h
      exact Nat.le_trans (Nat.mul_le_mul_right (10 ^ q) (by omega)) h
    · rw [if_neg c1]
      refine ⟨v, ?_, rfl⟩
      have h2 : 1 ≤ 10 ^ (q + 1) := Nat.pow_pos (by omega)
      have h3 := Nat.mul_le_mul_left (v + 1) h2
      omega
theorem mt_n_v (t : Nat → Int32) (L p : Nat) : ∃ w, w < 10000 ∧ (mt_n t L p).2 = nI w := by
  unfold mt_n
  refine mt_d_v t _ p 0 ?_
  have h2 : 10 ^ (min L (p + 4) - p) ≤ 10 ^ 4 := Nat.pow_le_pow_right (by omega) (by omega)
  omega
def md_Q (m : Nat) (f F : mj_F) : Prop := ∀ k i2 j, ¬ (k = 6 ∧ i2 = m ∧ 8 ≤ j) → F k i2 j = f k i2 j
theorem md_Q_u {m : Nat} {f F : mj_F} (h : md_Q m f F) {j : Nat} {x : Int32} (hj : 8 ≤ j) : md_Q m f (mj_u F 6 m j x) := fun k i2 j2 hn => by
  unfold mj_u
  rw [if_neg (fun q_ => hn ⟨q_.1, q_.2.1, by omega⟩)]
  exact h k i2 j2 hn
theorem md_Q_22 {m : Nat} {f F : mj_F} (h : md_Q m f F) : F 22 m = f 22 m := funext (fun j => h 22 m j (by omega))
theorem md_Q_18 {m : Nat} {f F : mj_F} (h : md_Q m f F) : F 18 m = f 18 m := funext (fun j => h 18 m j (by omega))
theorem md_Q_7 {m : Nat} {f F : mj_F} (h : md_Q m f F) : F 6 m 7 = f 6 m 7 := h 6 m 7 (by omega)
theorem md_O_e {f F : mj_F} {m r s n : Nat} (h : F 18 m = f 18 m) (hO : md_O f m r s n) : md_O F m r s n := by
  unfold md_O
  rw [h]
  exact hO
section MX
variable {X : mj_X} {S : List (Nat × Nat)} {f F : mj_F} {g : mj_G} {m L p b r s n : Nat} {c K : Int32} {l1 : Option mj_V}
theorem md_rtT (hg : g 6 m 6 = some (22, m)) (hL : F 6 m 7 = nI L) (h100 : L ≤ 100) (hp : F 6 m 8 = nI p) (hp1 : p < 900) (hc : mt_a (F 22 m) L p (nI 59)) : mj_g X 142 103 [some (.inr (6, m)), some (.inl (nI 1))] [] (S, F, g) = some (some (.inl (nI 1)), (S, mj_u F 6 m 8 (nI (p + 1)), g)) := by
  have z1 := md_passesT (X := X) (S := S) (c := nI 59) hg hL h100 hp hp1 hc
  simp (disch := omega) only [mj_g142_103, mj_g142_104, mj_g142_105, mj_g142_106, mj_g142_107, mj_g142_108, mj_g142_109, mj_g142_110, mj_g142_111, mj_g142_112, ↓reduceIte, Option.bind_some, Option.toList_some, Option.toList_none, List.cons_append, List.nil_append, mj_ixn, mj_add, mj_mul, mj_sub, mj_dv, mj_rmn, mj_ltT, mj_ltF, mj_leT, mj_leF, mj_eqT, mj_eqF, mj_z0T, mj_z0F, mj_bo0, mj_boc, mj_chk10, mj_chk11, z1]
theorem md_rtF (hg : g 6 m 6 = some (22, m)) (hL : F 6 m 7 = nI L) (h100 : L ≤ 100) (hp : F 6 m 8 = nI p) (hp1 : p < 900) (hc : ¬ mt_a (F 22 m) L p (nI 59)) : mj_g X 142 103 [some (.inr (6, m)), some (.inl (nI 1))] [] (S, F, g) = some (some (.inl (nI 0)), (S, F, g)) := by
  have z1 := md_passesF (X := X) (S := S) (c := nI 59) hg hL h100 hp hp1 hc
  simp (disch := omega) only [mj_g142_103, mj_g142_104, mj_g142_105, mj_g142_106, mj_g142_107, mj_g142_108, mj_g142_109, mj_g142_110, mj_g142_111, mj_g142_112, ↓reduceIte, Option.bind_some, Option.toList_some, Option.toList_none, List.cons_append, List.nil_append, mj_ixn, mj_add, mj_mul, mj_sub, mj_dv, mj_rmn, mj_ltT, mj_ltF, mj_leT, mj_leF, mj_eqT, mj_eqF, mj_z0T, mj_z0F, mj_bo0, mj_boc, mj_chk10, mj_chk11, z1]
theorem md_rt0 : mj_g X 142 103 [some (.inr (6, m)), some (.inl (nI 0))] [] (S, F, g) = some (some (.inl (nI 0)), (S, F, g)) := by
  simp (disch := omega) only [mj_g142_103, mj_g142_104, mj_g142_111, mj_g142_112, ↓reduceIte, Option.bind_some, Option.toList_some, Option.toList_none, List.cons_append, List.nil_append, mj_ixn, mj_add, mj_mul, mj_sub, mj_dv, mj_rmn, mj_ltT, mj_ltF, mj_leT, mj_leF, mj_eqT, mj_eqF, mj_z0T, mj_z0F, mj_bo0, mj_boc, mj_chk10, mj_chk11]
theorem md_rlz : mj_g X 142 36 [some (.inr (6, m)), l1] [] (S, F, g) = some (some (.inl (nI 0)), (S, mj_u F 6 m 11 (-1), g)) := by
  simp (disch := omega) only [mj_g142_36, mj_g142_37, mj_g142_38, mj_g142_39, mj_g142_40, mj_g142_44, mj_g142_45, mj_g142_46, mj_g142_47, mj_g142_72, mj_g142_73, mj_g142_74, ↓reduceIte, Option.bind_some, Option.toList_some, Option.toList_none, List.cons_append, List.nil_append, mj_ixn, mj_add, mj_mul, mj_sub, mj_dv, mj_rmn, mj_ltT, mj_ltF, mj_leT, mj_leF, mj_eqT, mj_eqF, mj_z0T, mj_z0F, mj_bo0, mj_boc, mj_chk10, mj_chk11]
  exact md_rt0
theorem md_rlB [Decidable (mt_in K (F 6 m 10) (F 6 m 11) r n)] (hg : g 6 m 0 = some (18, m)) (hO : md_O F m r s n) (hK : F 6 m 9 = K) (hK2 : K = nI 103 ∨ K = nI 104) : mj_g X 142 46 [some (.inr (6, m)), some (.inl (nI 1))] [] (S, F, g) = mj_g X 142 103 [some (.inr (6, m)), some (.inl (mj_bo (mt_in K (F 6 m 10) (F 6 m 11) r n)))] [] (S, F, g) := by
  rcases hK2 with rfl | rfl
  · have e1 : mt_in (nI 103) (F 6 m 10) (F 6 m 11) r n ↔ (nI 0 ≤ F 6 m 10 ∧ F 6 m 10 ≤ nI n - nI 1) ∧ (nI 1 ≤ F 6 m 11 ∧ F 6 m 11 ≤ nI 500) := ⟨fun h => h.2.1 rfl, fun h => ⟨fun q_ => absurd q_ (by decide), fun _ => h, fun q_ => absurd q_ (by decide)⟩⟩
    rw [mj_boi e1]
    by_cases c1 : nI 0 ≤ F 6 m 10 ∧ F 6 m 10 ≤ nI n - nI 1
    · by_cases c2 : nI 1 ≤ F 6 m 11 ∧ F 6 m 11 ≤ nI 500
      · rw [← mj_boT (P := (nI 0 ≤ F 6 m 10 ∧ F 6 m 10 ≤ nI n - nI 1) ∧ (nI 1 ≤ F 6 m 11 ∧ F 6 m 11 ≤ nI 500)) ⟨c1, c2⟩]
        simp (disch := omega) only [mj_g142_46, mj_g142_47, mj_g142_48, mj_g142_49, mj_g142_50, mj_g142_51, mj_g142_59, mj_g142_60, mj_g142_61, mj_g142_62, mj_g142_63, mj_g142_64, mj_g142_65, mj_g142_66, mj_g142_67, mj_g142_68, mj_g142_69, mj_g142_70, mj_g142_71, mj_g142_72, mj_g142_73, mj_g142_74, ↓reduceIte, Option.bind_some, Option.toList_some, Option.toList_none, List.cons_append, List.nil_append, mj_ixn, mj_add, mj_mul, mj_sub, mj_dv, mj_rmn, mj_ltT, mj_ltF, mj_leT, mj_leF, mj_eqT, mj_eqF, mj_z0T, mj_z0F, mj_bo0, mj_boc, mj_chk10, mj_chk11, hK, mj_kd3, md_isSpot hg hO, mc_in, eq_true c1, eq_true c2, not_true]
      · rw [← mj_boF (P := (nI 0 ≤ F 6 m 10 ∧ F 6 m 10 ≤ nI n - nI 1) ∧ (nI 1 ≤ F 6 m 11 ∧ F 6 m 11 ≤ nI 500)) (fun q_ => c2 q_.2)]
        simp (disch := omega) only [mj_g142_46, mj_g142_47, mj_g142_48, mj_g142_49, mj_g142_50, mj_g142_51, mj_g142_59, mj_g142_60, mj_g142_61, mj_g142_62, mj_g142_63, mj_g142_64, mj_g142_65, mj_g142_66, mj_g142_67, mj_g142_68, mj_g142_69, mj_g142_70, mj_g142_71, mj_g142_72, mj_g142_73, mj_g142_74, ↓reduceIte, Option.bind_some, Option.toList_some, Option.toList_none, List.cons_append, List.nil_append, mj_ixn, mj_add, mj_mul, mj_sub, mj_dv, mj_rmn, mj_ltT, mj_ltF, mj_leT, mj_leF, mj_eqT, mj_eqF, mj_z0T, mj_z0F, mj_bo0, mj_boc, mj_chk10, mj_chk11, hK, mj_kd3, md_isSpot hg hO, mc_in, eq_true c1, eq_false c2, not_true, not_false_eq_true]
    · rw [← mj_boF (P := (nI 0 ≤ F 6 m 10 ∧ F 6 m 10 ≤ nI n - nI 1) ∧ (nI 1 ≤ F 6 m 11 ∧ F 6 m 11 ≤ nI 500)) (fun q_ => c1 q_.1)]
      simp (disch := omega) only [mj_g142_46, mj_g142_47, mj_g142_48, mj_g142_49, mj_g142_50, mj_g142_51, mj_g142_59, mj_g142_60, mj_g142_61, mj_g142_62, mj_g142_63, mj_g142_64, mj_g142_65, mj_g142_66, mj_g142_67, mj_g142_68, mj_g142_69, mj_g142_70, mj_g142_71, mj_g142_72, mj_g142_73, mj_g142_74, ↓reduceIte, Option.bind_some, Option.toList_some, Option.toList_none, List.cons_append, List.nil_append, mj_ixn, mj_add, mj_mul, mj_sub, mj_dv, mj_rmn, mj_ltT, mj_ltF, mj_leT, mj_leF, mj_eqT, mj_eqF, mj_z0T, mj_z0F, mj_bo0, mj_boc, mj_chk10, mj_chk11, hK, mj_kd3, md_isSpot hg hO, eq_false c1, not_false_eq_true]
  · haveI : Decidable (mc_iH (F 6 m 10) (F 6 m 11)) := Classical.propDecidable _
    have e1 : mt_in (nI 104) (F 6 m 10) (F 6 m 11) r n ↔ mc_iH (F 6 m 10) (F 6 m 11) := ⟨fun h => h.1 rfl, fun h => ⟨fun _ => h, fun q_ => absurd q_ (by decide), fun q_ => absurd q_ (by decide)⟩⟩
    rw [mj_boi e1]
    by_cases c1 : mc_iH (F 6 m 10) (F 6 m 11)
    · rw [← mj_boT c1]
      simp (disch := omega) only [mj_g142_46, mj_g142_47, mj_g142_48, mj_g142_49, mj_g142_50, mj_g142_51, mj_g142_52, mj_g142_53, mj_g142_54, mj_g142_55, mj_g142_56, mj_g142_57, mj_g142_58, mj_g142_70, mj_g142_71, mj_g142_72, mj_g142_73, mj_g142_74, ↓reduceIte, Option.bind_some, Option.toList_some, Option.toList_none, List.cons_append, List.nil_append, mj_ixn, mj_add, mj_mul, mj_sub, mj_dv, mj_rmn, mj_ltT, mj_ltF, mj_leT, mj_leF, mj_eqT, mj_eqF, mj_z0T, mj_z0F, mj_bo0, mj_boc, mj_chk10, mj_chk11, hK, md_isHeat, eq_true c1, not_true]
    · rw [← mj_boF c1]
      simp (disch := omega) only [mj_g142_46, mj_g142_47, mj_g142_48, mj_g142_49, mj_g142_50, mj_g142_51, mj_g142_52, mj_g142_53, mj_g142_54, mj_g142_55, mj_g142_56, mj_g142_57, mj_g142_58, mj_g142_70, mj_g142_71, mj_g142_72, mj_g142_73, mj_g142_74, ↓reduceIte, Option.bind_some, Option.toList_some, Option.toList_none, List.cons_append, List.nil_append, mj_ixn, mj_add, mj_mul, mj_sub, mj_dv, mj_rmn, mj_ltT, mj_ltF, mj_leT, mj_leF, mj_eqT, mj_eqF, mj_z0T, mj_z0F, mj_bo0, mj_boc, mj_chk10, mj_chk11, hK, md_isHeat, eq_false c1, not_false_eq_true]
theorem mt_in_m1 {v : Int32} (hK2 : K = nI 103 ∨ K = nI 104) : ¬ mt_in K v (-1) r n := by
  rcases hK2 with rfl | rfl
  · exact fun h => absurd (h.2.1 rfl).2.1 (by decide)
  · exact fun h => absurd (h.1 rfl).2.1 (by decide)
theorem md_rl_hg (hg0 : g 6 m 0 = some (18, m)) (hg : g 6 m 6 = some (22, m)) (hO : md_O f m r s n) (hL : f 6 m 7 = nI L) (h100 : L ≤ 100) (hQ : md_Q m f F) (hp : F 6 m 8 = nI p) (hp1 : p < 200) (hK : F 6 m 9 = K) (hK2 : K = nI 103 ∨ K = nI 104) [Decidable (mt_hg (f 22 m) L p ∧ mt_in K (mt_n (f 22 m) L p).2 (mt_m2 (f 22 m) L p).2 r n)] : ∃ f2, mj_g X 142 23 [some (.inr (6, m)), l1] [] (S, F, g) = some (some (.inl (mj_bo (mt_hg (f 22 m) L p ∧ mt_in K (mt_n (f 22 m) L p).2 (mt_m2 (f 22 m) L p).2 r n))), (S, f2, g)) ∧ md_Q m f f2 ∧ f2 6 m 9 = K ∧ ((mt_hg (f 22 m) L p ∧ mt_in K (mt_n (f 22 m) L p).2 (mt_m2 (f 22 m) L p).2 r n) → f2 6 m 8 = nI ((mt_m2 (f 22 m) L p).1 + 1) ∧ f2 6 m 10 = (mt_n (f 22 m) L p).2 ∧ f2 6 m 11 = (mt_m2 (f 22 m) L p).2) := by
  have hL2 : F 6 m 7 = nI L := (md_Q_7 hQ).trans hL
  have r1 := md_number (X := X) (S := S) hg hL2 h100 hp (by omega)
  rw [md_Q_22 hQ] at r1
  have hb := mt_n_b (f 22 m) L p
  obtain ⟨w, hw, ew⟩ := mt_n_v (f 22 m) L p
  have hb2 := mt_n_b (f 22 m) L ((mt_n (f 22 m) L p).1 + 1)
  obtain ⟨w2, hw2, ew2⟩ := mt_n_v (f 22 m) L ((mt_n (f 22 m) L p).1 + 1)
  by_cases c1 : (mt_n (f 22 m) L p).1 = p
  · rw [if_pos c1] at r1
    refine ⟨mj_u (mj_u (mj_u F 6 m 8 (nI (mt_n (f 22 m) L p).1)) 6 m 10 (-1)) 6 m 11 (-1), ?_, md_Q_u (md_Q_u (md_Q_u hQ (by omega)) (by omega)) (by omega), ?_, fun q_ => absurd q_.1.1 (by omega)⟩
    · rw [← mj_boF (P := mt_hg (f 22 m) L p ∧ mt_in K (mt_n (f 22 m) L p).2 (mt_m2 (f 22 m) L p).2 r n) (fun q_ => absurd q_.1.1 (by omega))]
      have m1 : ((-1 : Int32) < 0) = True := eq_true (by decide)
      refine Eq.trans ?_ (md_rlz (X := X) (l1 := l1))
      simp (disch := omega) only [mj_g142_23, mj_g142_24, mj_g142_25, mj_g142_26, mj_g142_27, mj_g142_28, mj_g142_29, ↓reduceIte, Option.bind_some, Option.toList_some, List.cons_append, List.nil_append, r1, mj_us, m1]
    · rw [mj_uj (by decide), mj_uj (by decide), mj_uj (by decide), hK]
  · rw [if_neg c1] at r1
    have m2 : ((mt_n (f 22 m) L p).2 < 0) = False := by rw [ew]; exact eq_false (fun q_ => (mj_lt0 (by omega)).mp q_)
    have Q2 : md_Q m f (mj_u (mj_u F 6 m 8 (nI (mt_n (f 22 m) L p).1)) 6 m 10 (mt_n (f 22 m) L p).2) := md_Q_u (md_Q_u hQ (by omega)) (by omega)
    have p2 : mj_u (mj_u F 6 m 8 (nI (mt_n (f 22 m) L p).1)) 6 m 10 (mt_n (f 22 m) L p).2 6 m 8 = nI (mt_n (f 22 m) L p).1 := by rw [mj_uj (by decide), mj_us]
    have k2 : mj_u (mj_u F 6 m 8 (nI (mt_n (f 22 m) L p).1)) 6 m 10 (mt_n (f 22 m) L p).2 6 m 9 = K := by rw [mj_uj (by decide), mj_uj (by decide), hK]
    have v2 : mj_u (mj_u F 6 m 8 (nI (mt_n (f 22 m) L p).1)) 6 m 10 (mt_n (f 22 m) L p).2 6 m 10 = (mt_n (f 22 m) L p).2 := mj_us
    have g30 : mj_g X 142 23 [some (.inr (6, m)), l1] [] (S, F, g) = mj_g X 142 30 [some (.inr (6, m)), l1] [] (S, mj_u (mj_u F 6 m 8 (nI (mt_n (f 22 m) L p).1)) 6 m 10 (mt_n (f 22 m) L p).2, g) := by
      simp (disch := omega) only [mj_g142_23, mj_g142_24, mj_g142_25, mj_g142_26, mj_g142_27, mj_g142_28, mj_g142_29, ↓reduceIte, Option.bind_some, Option.toList_some, List.cons_append, List.nil_append, r1, mj_us, m2]
    rw [g30]
    generalize mj_u (mj_u F 6 m 8 (nI (mt_n (f 22 m) L p).1)) 6 m 10 (mt_n (f 22 m) L p).2 = F2 at Q2 p2 k2 v2
    by_cases c2 : mt_a (f 22 m) L (mt_n (f 22 m) L p).1 (nI 44)
    · have s1 := md_passesT (X := X) (S := S) (f := F2) (c := nI 44) hg ((md_Q_7 Q2).trans hL) h100 p2 (by omega) (by rw [md_Q_22 Q2]; exact c2)
      have Q3 : md_Q m f (mj_u F2 6 m 8 (nI ((mt_n (f 22 m) L p).1 + 1))) := md_Q_u Q2 (by omega)
      have r2 := md_number (X := X) (S := S) (f := mj_u F2 6 m 8 (nI ((mt_n (f 22 m) L p).1 + 1))) hg ((md_Q_7 Q3).trans hL) h100 mj_us (by omega)
      rw [md_Q_22 Q3] at r2
      have Q4 : ∀ z, md_Q m f (mj_u (mj_u (mj_u F2 6 m 8 (nI ((mt_n (f 22 m) L p).1 + 1))) 6 m 8 (nI (mt_m2 (f 22 m) L p).1)) 6 m 11 z) := fun z => md_Q_u (md_Q_u Q3 (by omega)) (by omega)
      have p4 : ∀ z, mj_u (mj_u (mj_u F2 6 m 8 (nI ((mt_n (f 22 m) L p).1 + 1))) 6 m 8 (nI (mt_m2 (f 22 m) L p).1)) 6 m 11 z 6 m 8 = nI (mt_m2 (f 22 m) L p).1 := fun z => by rw [mj_uj (by decide), mj_us]
      have k4 : ∀ z, mj_u (mj_u (mj_u F2 6 m 8 (nI ((mt_n (f 22 m) L p).1 + 1))) 6 m 8 (nI (mt_m2 (f 22 m) L p).1)) 6 m 11 z 6 m 9 = K := fun z => by rw [mj_uj (by decide), mj_uj (by decide), mj_uj (by decide), k2]
      have v4 : ∀ z, mj_u (mj_u (mj_u F2 6 m 8 (nI ((mt_n (f 22 m) L p).1 + 1))) 6 m 8 (nI (mt_m2 (f 22 m) L p).1)) 6 m 11 z 6 m 10 = (mt_n (f 22 m) L p).2 := fun z => by rw [mj_uj (by decide), mj_uj (by decide), mj_uj (by decide), v2]
      have w4 : ∀ z, mj_u (mj_u (mj_u F2 6 m 8 (nI ((mt_n (f 22 m) L p).1 + 1))) 6 m 8 (nI (mt_m2 (f 22 m) L p).1)) 6 m 11 z 6 m 11 = z := fun z => mj_us
      have g46 : ∀ z, mj_x X 141 [.inr (6, m)] (S, mj_u F2 6 m 8 (nI ((mt_n (f 22 m) L p).1 + 1)), g) = some (some (.inl z), (S, mj_u (mj_u F2 6 m 8 (nI ((mt_n (f 22 m) L p).1 + 1))) 6 m 8 (nI (mt_m2 (f 22 m) L p).1), g)) → mj_g X 142 30 [some (.inr (6, m)), l1] [] (S, F2, g) = mj_g X 142 46 [some (.inr (6, m)), some (.inl (nI 1))] [] (S, mj_u (mj_u (mj_u F2 6 m 8 (nI ((mt_n (f 22 m) L p).1 + 1))) 6 m 8 (nI (mt_m2 (f 22 m) L p).1)) 6 m 11 z, g) := fun z hz => by
        simp (disch := omega) only [mj_g142_30, mj_g142_31, mj_g142_32, mj_g142_33, mj_g142_34, mj_g142_35, mj_g142_36, mj_g142_37, mj_g142_38, mj_g142_39, mj_g142_40, mj_g142_41, mj_g142_42, mj_g142_43, mj_g142_45, ↓reduceIte, Option.bind_some, Option.toList_some, Option.toList_none, List.cons_append, List.nil_append, mj_ixn, mj_add, mj_mul, mj_sub, mj_dv, mj_rmn, mj_ltT, mj_ltF, mj_leT, mj_leF, mj_eqT, mj_eqF, mj_z0T, mj_z0F, mj_bo0, mj_boc, mj_chk10, mj_chk11, s1, hz]
      by_cases c3 : (mt_m2 (f 22 m) L p).1 = (mt_n (f 22 m) L p).1 + 1
      · rw [if_pos c3] at r2
        rw [g46 _ r2]
        haveI : ∀ z F', Decidable (mt_in K (mj_u F' 6 m 11 z 6 m 10) (mj_u F' 6 m 11 z 6 m 11) r n) := fun _ _ => Classical.propDecidable _
        refine ⟨_, ?_, Q4 (-1), k4 (-1), fun q_ => absurd q_.1.2.2.1 (by omega)⟩
        rw [← mj_boF (P := mt_hg (f 22 m) L p ∧ mt_in K (mt_n (f 22 m) L p).2 (mt_m2 (f 22 m) L p).2 r n) (fun q_ => absurd q_.1.2.2.1 (by omega))]
        have zB := md_rlB (X := X) (S := S) (r := r) (s := s) (n := n) hg0 (md_O_e (md_Q_18 (Q4 (-1))) hO) (k4 (-1)) hK2
        rw [zB, ← mj_boF (by rw [w4]; exact mt_in_m1 hK2)]
        exact md_rt0
      · rw [if_neg c3] at r2
        rw [g46 _ r2]
        have ew2' : (mt_m2 (f 22 m) L p).2 = nI w2 := ew2
        have Q4' := Q4 (mt_m2 (f 22 m) L p).2
        have p4' := p4 (mt_m2 (f 22 m) L p).2
        have k4' := k4 (mt_m2 (f 22 m) L p).2
        have v4' := v4 (mt_m2 (f 22 m) L p).2
        have w4' := w4 (mt_m2 (f 22 m) L p).2
        generalize mj_u (mj_u (mj_u F2 6 m 8 (nI ((mt_n (f 22 m) L p).1 + 1))) 6 m 8 (nI (mt_m2 (f 22 m) L p).1)) 6 m 11 (mt_m2 (f 22 m) L p).2 = F4 at Q4' p4' k4' v4' w4'
        haveI : Decidable (mt_in K (F4 6 m 10) (F4 6 m 11) r n) := Classical.propDecidable _
        have zB := md_rlB (X := X) (S := S) (r := r) (s := s) (n := n) hg0 (md_O_e (md_Q_18 Q4') hO) k4' hK2
        rw [zB]
        have hb2' : (mt_n (f 22 m) L p).1 + 1 ≤ (mt_m2 (f 22 m) L p).1 ∧ (mt_m2 (f 22 m) L p).1 ≤ (mt_n (f 22 m) L p).1 + 1 + 4 := ⟨hb2.1, hb2.2.1⟩
        by_cases c5 : mt_in K (F4 6 m 10) (F4 6 m 11) r n
        · rw [← mj_boT c5]
          have c5' : mt_in K (mt_n (f 22 m) L p).2 (mt_m2 (f 22 m) L p).2 r n := by rw [v4', w4'] at c5; exact c5
          by_cases c4 : mt_a (f 22 m) L (mt_m2 (f 22 m) L p).1 (nI 59)
          · refine ⟨mj_u F4 6 m 8 (nI ((mt_m2 (f 22 m) L p).1 + 1)), ?_, md_Q_u Q4' (by omega), by rw [mj_uj (by decide)]; exact k4', fun _ => ⟨mj_us, by rw [mj_uj (by decide)]; exact v4', by rw [mj_uj (by decide)]; exact w4'⟩⟩
            rw [← mj_boT (P := mt_hg (f 22 m) L p ∧ mt_in K (mt_n (f 22 m) L p).2 (mt_m2 (f 22 m) L p).2 r n) ⟨⟨by omega, c2, by omega, c4⟩, c5'⟩]
            exact md_rtT hg ((md_Q_7 Q4').trans hL) h100 p4' (by omega) (by rw [md_Q_22 Q4']; exact c4)
          · refine ⟨F4, ?_, Q4', k4', fun q_ => absurd q_.1.2.2.2 c4⟩
            rw [← mj_boF (P := mt_hg (f 22 m) L p ∧ mt_in K (mt_n (f 22 m) L p).2 (mt_m2 (f 22 m) L p).2 r n) (fun q_ => c4 q_.1.2.2.2)]
            exact md_rtF hg ((md_Q_7 Q4').trans hL) h100 p4' (by omega) (by rw [md_Q_22 Q4']; exact c4)
        · rw [← mj_boF c5]
          have c5' : ¬ mt_in K (mt_n (f 22 m) L p).2 (mt_m2 (f 22 m) L p).2 r n := by rw [v4', w4'] at c5; exact c5
          refine ⟨F4, ?_, Q4', k4', fun q_ => absurd q_.2 c5'⟩
          rw [← mj_boF (P := mt_hg (f 22 m) L p ∧ mt_in K (mt_n (f 22 m) L p).2 (mt_m2 (f 22 m) L p).2 r n) (fun q_ => c5' q_.2)]
          exact md_rt0
    · have s1 := md_passesF (X := X) (S := S) (f := F2) (c := nI 44) hg ((md_Q_7 Q2).trans hL) h100 p2 (by omega) (by rw [md_Q_22 Q2]; exact c2)
      refine ⟨mj_u F2 6 m 11 (-1), ?_, md_Q_u Q2 (by omega), by rw [mj_uj (by decide)]; exact k2, fun q_ => absurd q_.1.2.1 c2⟩
      rw [← mj_boF (P := mt_hg (f 22 m) L p ∧ mt_in K (mt_n (f 22 m) L p).2 (mt_m2 (f 22 m) L p).2 r n) (fun q_ => c2 q_.1.2.1)]
      refine Eq.trans ?_ (md_rlz (X := X) (l1 := l1))
      simp (disch := omega) only [mj_g142_30, mj_g142_31, mj_g142_32, mj_g142_33, ↓reduceIte, Option.bind_some, Option.toList_some, Option.toList_none, List.cons_append, List.nil_append, mj_ixn, mj_add, mj_mul, mj_sub, mj_dv, mj_rmn, mj_ltT, mj_ltF, mj_leT, mj_leF, mj_eqT, mj_eqF, mj_z0T, mj_z0F, mj_bo0, mj_boc, mj_chk10, mj_chk11, s1]
theorem md_rl_r (hg0 : g 6 m 0 = some (18, m)) (hg : g 6 m 6 = some (22, m)) (hO : md_O f m r s n) (hL : f 6 m 7 = nI L) (h100 : L ≤ 100) (hQ : md_Q m f F) (hp : F 6 m 8 = nI p) (hp1 : p < 200) (hK : F 6 m 9 = nI 114) [Decidable (mt_rr (f 22 m) L p ∧ (nI 0 ≤ (mt_n (f 22 m) L p).2 ∧ (mt_n (f 22 m) L p).2 ≤ nI r - nI 1))] : ∃ f2, mj_g X 142 75 [some (.inr (6, m)), l1] [] (S, F, g) = some (some (.inl (mj_bo (mt_rr (f 22 m) L p ∧ (nI 0 ≤ (mt_n (f 22 m) L p).2 ∧ (mt_n (f 22 m) L p).2 ≤ nI r - nI 1)))), (S, f2, g)) ∧ md_Q m f f2 ∧ f2 6 m 9 = nI 114 ∧ ((mt_rr (f 22 m) L p ∧ (nI 0 ≤ (mt_n (f 22 m) L p).2 ∧ (mt_n (f 22 m) L p).2 ≤ nI r - nI 1)) → f2 6 m 8 = nI ((mt_n (f 22 m) L p).1 + 1) ∧ f2 6 m 10 = (mt_n (f 22 m) L p).2) := by
  have hL2 : F 6 m 7 = nI L := (md_Q_7 hQ).trans hL
  have hd0 : F 18 m 0 = nI r := by rw [md_Q_18 hQ]; exact hO.1
  have r1 := md_number (X := X) (S := S) hg hL2 h100 hp (by omega)
  rw [md_Q_22 hQ] at r1
  have hb := mt_n_b (f 22 m) L p
  have g103 : ∀ z, mj_x X 141 [.inr (6, m)] (S, F, g) = some (some (.inl z), (S, mj_u F 6 m 8 (nI (mt_n (f 22 m) L p).1), g)) → mj_g X 142 75 [some (.inr (6, m)), l1] [] (S, F, g) = mj_g X 142 103 [some (.inr (6, m)), some (.inl (mj_bo (nI 0 ≤ z ∧ z ≤ nI r - nI 1)))] [] (S, mj_u (mj_u F 6 m 8 (nI (mt_n (f 22 m) L p).1)) 6 m 10 z, g) := fun z hz => by
    simp (disch := omega) only [mj_g142_75, mj_g142_76, mj_g142_77, mj_g142_78, mj_g142_79, mj_g142_80, mj_g142_81, mj_g142_82, mj_g142_83, mj_g142_84, mj_g142_85, mj_g142_86, mj_g142_87, mj_g142_88, mj_g142_89, mj_g142_90, mj_g142_91, mj_g142_92, mj_g142_93, mj_g142_94, ↓reduceIte, Option.bind_some, Option.toList_some, List.cons_append, List.nil_append, mj_ixn, mj_us, mj_uk, mc_in, hK, hz, hg0, hd0]
  have Q2 : ∀ z, md_Q m f (mj_u (mj_u F 6 m 8 (nI (mt_n (f 22 m) L p).1)) 6 m 10 z) := fun z => md_Q_u (md_Q_u hQ (by omega)) (by omega)
  have p2 : ∀ z, mj_u (mj_u F 6 m 8 (nI (mt_n (f 22 m) L p).1)) 6 m 10 z 6 m 8 = nI (mt_n (f 22 m) L p).1 := fun z => by rw [mj_uj (by decide), mj_us]
  have k2 : ∀ z, mj_u (mj_u F 6 m 8 (nI (mt_n (f 22 m) L p).1)) 6 m 10 z 6 m 9 = nI 114 := fun z => by rw [mj_uj (by decide), mj_uj (by decide), hK]
  by_cases c1 : (mt_n (f 22 m) L p).1 = p
  · rw [if_pos c1] at r1
    refine ⟨_, ?_, Q2 (-1), k2 (-1), fun q_ => absurd q_.1.1 (by omega)⟩
    rw [← mj_boF (P := mt_rr (f 22 m) L p ∧ (nI 0 ≤ (mt_n (f 22 m) L p).2 ∧ (mt_n (f 22 m) L p).2 ≤ nI r - nI 1)) (fun q_ => absurd q_.1.1 (by omega)), g103 _ r1, ← mj_boF (fun q_ => absurd q_.1 (by decide))]
    exact md_rt0
  · rw [if_neg c1] at r1
    rw [g103 _ r1]
    by_cases c2 : nI 0 ≤ (mt_n (f 22 m) L p).2 ∧ (mt_n (f 22 m) L p).2 ≤ nI r - nI 1
    · rw [← mj_boT c2]
      by_cases c4 : mt_a (f 22 m) L (mt_n (f 22 m) L p).1 (nI 59)
      · refine ⟨_, ?_, md_Q_u (Q2 (mt_n (f 22 m) L p).2) (j := 8) (x := nI ((mt_n (f 22 m) L p).1 + 1)) (by omega), by rw [mj_uj (by decide)]; exact k2 _, fun _ => ⟨mj_us, by rw [mj_uj (by decide), mj_us]⟩⟩
        rw [← mj_boT (P := mt_rr (f 22 m) L p ∧ (nI 0 ≤ (mt_n (f 22 m) L p).2 ∧ (mt_n (f 22 m) L p).2 ≤ nI r - nI 1)) ⟨⟨by omega, c4⟩, c2⟩]
        exact md_rtT hg ((md_Q_7 (Q2 _)).trans hL) h100 (p2 _) (by omega) (by rw [md_Q_22 (Q2 _)]; exact c4)
      · refine ⟨_, ?_, Q2 (mt_n (f 22 m) L p).2, k2 _, fun q_ => absurd q_.1.2 c4⟩
        rw [← mj_boF (P := mt_rr (f 22 m) L p ∧ (nI 0 ≤ (mt_n (f 22 m) L p).2 ∧ (mt_n (f 22 m) L p).2 ≤ nI r - nI 1)) (fun q_ => c4 q_.1.2)]
        exact md_rtF hg ((md_Q_7 (Q2 _)).trans hL) h100 (p2 _) (by omega) (by rw [md_Q_22 (Q2 _)]; exact c4)
    · rw [← mj_boF c2]
      refine ⟨_, ?_, Q2 (mt_n (f 22 m) L p).2, k2 _, fun q_ => absurd q_.2 c2⟩
      rw [← mj_boF (P := mt_rr (f 22 m) L p ∧ (nI 0 ≤ (mt_n (f 22 m) L p).2 ∧ (mt_n (f 22 m) L p).2 ≤ nI r - nI 1)) (fun q_ => c2 q_.2)]
      exact md_rt0
theorem md_readsLine (hg0 : g 6 m 0 = some (18, m)) (hg : g 6 m 6 = some (22, m)) (hO : md_O f m r s n) (hL : f 6 m 7 = nI L) (h100 : L ≤ 100) (hp : f 6 m 8 = nI b) (hb : b < L) [Decidable (mt_P (f 22 m) L r n b)] : ∃ f2, mj_x X 142 [.inr (6, m)] (S, f, g) = some (some (.inl (mj_bo (mt_P (f 22 m) L r n b))), (S, f2, g)) ∧ md_Q m f f2 ∧ f2 6 m 9 = f 22 m b ∧ (mt_P (f 22 m) L r n b → f2 6 m 8 = nI (mt_nx (f 22 m) L b) ∧ ((f 22 m b = nI 103 ∨ f 22 m b = nI 104 ∨ f 22 m b = nI 114) → f2 6 m 10 = (mt_n (f 22 m) L (b + 1)).2) ∧ ((f 22 m b = nI 103 ∨ f 22 m b = nI 104) → f2 6 m 11 = (mt_m2 (f 22 m) L (b + 1)).2)) := by
  have hQ : md_Q m f (mj_u (mj_u f 6 m 9 (f 22 m b)) 6 m 8 (nI (b + 1))) := md_Q_u (md_Q_u (fun _ _ _ _ => rfl) (by omega)) (by omega)
  have hp2 : mj_u (mj_u f 6 m 9 (f 22 m b)) 6 m 8 (nI (b + 1)) 6 m 8 = nI (b + 1) := mj_us
  have hk : mj_u (mj_u f 6 m 9 (f 22 m b)) 6 m 8 (nI (b + 1)) 6 m 9 = f 22 m b := by rw [mj_uj (by decide), mj_us]
  have st1 : mj_x X 142 [.inr (6, m)] (S, f, g) = mj_g X 142 15 [some (.inr (6, m)), some (.inl (nI 1))] [] (S, mj_u (mj_u f 6 m 9 (f 22 m b)) 6 m 8 (nI (b + 1)), g) := by
    simp (disch := omega) only [mj_x142, mj_g142_0, mj_g142_1, mj_g142_2, mj_g142_3, mj_g142_4, mj_g142_5, mj_g142_6, mj_g142_7, mj_g142_8, mj_g142_9, mj_g142_10, mj_g142_11, mj_g142_12, mj_g142_13, mj_g142_14, ↓reduceIte, Option.bind_some, Option.toList_some, Option.toList_none, List.cons_append, List.nil_append, mj_ixn, mj_add, mj_mul, mj_sub, mj_dv, mj_rmn, mj_ltT, mj_ltF, mj_leT, mj_leF, mj_eqT, mj_eqF, mj_z0T, mj_z0F, mj_bo0, mj_boc, mj_chk10, mj_chk11, hg, hp, mj_uj]
  rw [st1]
  generalize mj_u (mj_u f 6 m 9 (f 22 m b)) 6 m 8 (nI (b + 1)) = F at hQ hp2 hk
  by_cases c1 : f 22 m b = nI 103 ∨ f 22 m b = nI 104
  · have n14 : ¬ f 22 m b = nI 114 := fun q_ => c1.elim (fun y_ => by rw [y_] at q_; exact absurd q_ (by decide)) (fun y_ => by rw [y_] at q_; exact absurd q_ (by decide))
    have n15 : ¬ f 22 m b = nI 115 := fun q_ => c1.elim (fun y_ => by rw [y_] at q_; exact absurd q_ (by decide)) (fun y_ => by rw [y_] at q_; exact absurd q_ (by decide))
    have e1 : mt_P (f 22 m) L r n b ↔ (mt_hg (f 22 m) L (b + 1) ∧ mt_in (f 22 m b) (mt_n (f 22 m) L (b + 1)).2 (mt_m2 (f 22 m) L (b + 1)).2 r n) := ⟨fun h => ⟨h.1.elim (fun y_ => y_.2) (fun y_ => y_.elim (fun z_ => absurd z_.1 n14) (fun z_ => absurd z_.1 n15)), h.2⟩, fun h => ⟨Or.inl ⟨c1, h.1⟩, h.2⟩⟩
    haveI : Decidable (mt_hg (f 22 m) L (b + 1) ∧ mt_in (f 22 m b) (mt_n (f 22 m) L (b + 1)).2 (mt_m2 (f 22 m) L (b + 1)).2 r n) := Classical.propDecidable _
    obtain ⟨f2, a1, a2, a3, a4⟩ := md_rl_hg (X := X) (S := S) (l1 := some (.inl (nI 1))) hg0 hg hO hL h100 hQ hp2 (by omega) hk c1
    refine ⟨f2, ?_, a2, a3, fun ho => ?_⟩
    · rw [mj_boi e1, ← a1]
      rcases c1 with c1 | c1
      · simp (disch := omega) only [mj_g142_15, mj_g142_16, mj_g142_17, mj_g142_18, mj_g142_19, mj_g142_20, mj_g142_21, mj_g142_22, ↓reduceIte, Option.bind_some, Option.toList_some, Option.toList_none, List.cons_append, List.nil_append, mj_ixn, mj_add, mj_mul, mj_sub, mj_dv, mj_rmn, mj_ltT, mj_ltF, mj_leT, mj_leF, mj_eqT, mj_eqF, mj_z0T, mj_z0F, mj_bo0, mj_boc, mj_chk10, mj_chk11, hk, c1, mj_kd3]
      · simp (disch := omega) only [mj_g142_15, mj_g142_16, mj_g142_17, mj_g142_18, mj_g142_19, mj_g142_20, mj_g142_21, mj_g142_22, ↓reduceIte, Option.bind_some, Option.toList_some, Option.toList_none, List.cons_append, List.nil_append, mj_ixn, mj_add, mj_mul, mj_sub, mj_dv, mj_rmn, mj_ltT, mj_ltF, mj_leT, mj_leF, mj_eqT, mj_eqF, mj_z0T, mj_z0F, mj_bo0, mj_boc, mj_chk10, mj_chk11, hk, c1]
    · obtain ⟨b1, b2, b3⟩ := a4 (e1.mp ho)
      refine ⟨?_, fun _ => b2, fun _ => b3⟩
      rw [b1]
      unfold mt_nx
      rw [if_neg n14, if_neg n15]
  · have n3 : ¬ f 22 m b = nI 103 := fun q_ => c1 (Or.inl q_)
    have n4 : ¬ f 22 m b = nI 104 := fun q_ => c1 (Or.inr q_)
    have g75 : mj_g X 142 15 [some (.inr (6, m)), some (.inl (nI 1))] [] (S, F, g) = mj_g X 142 75 [some (.inr (6, m)), some (.inl (nI 1))] [] (S, F, g) := by
      simp (disch := omega) only [mj_g142_15, mj_g142_16, mj_g142_17, mj_g142_18, mj_g142_19, mj_g142_20, mj_g142_21, mj_g142_22, ↓reduceIte, hk, n3, n4]
    rw [g75]
    by_cases c2 : f 22 m b = nI 114
    · have n15 : ¬ f 22 m b = nI 115 := fun q_ => by rw [c2] at q_; exact absurd q_ (by decide)
      have e1 : mt_P (f 22 m) L r n b ↔ (mt_rr (f 22 m) L (b + 1) ∧ (nI 0 ≤ (mt_n (f 22 m) L (b + 1)).2 ∧ (mt_n (f 22 m) L (b + 1)).2 ≤ nI r - nI 1)) := ⟨fun h => ⟨h.1.elim (fun y_ => absurd y_.1 c1) (fun y_ => y_.elim (fun z_ => z_.2) (fun z_ => absurd z_.1 n15)), h.2.2.2 c2⟩, fun h => ⟨Or.inr (Or.inl ⟨c2, h.1⟩), fun q_ => absurd q_ n4, fun q_ => absurd q_ n3, fun _ => h.2⟩⟩
      haveI : Decidable (mt_rr (f 22 m) L (b + 1) ∧ (nI 0 ≤ (mt_n (f 22 m) L (b + 1)).2 ∧ (mt_n (f 22 m) L (b + 1)).2 ≤ nI r - nI 1)) := Classical.propDecidable _
      obtain ⟨f2, a1, a2, a3, a4⟩ := md_rl_r (X := X) (S := S) (l1 := some (.inl (nI 1))) hg0 hg hO hL h100 hQ hp2 (by omega) (hk.trans c2)
      refine ⟨f2, ?_, a2, a3.trans c2.symm, fun ho => ?_⟩
      · rw [mj_boi e1, ← a1]
      · obtain ⟨b1, b2⟩ := a4 (e1.mp ho)
        refine ⟨?_, fun _ => b2, fun q_ => absurd q_ c1⟩
        rw [b1]
        unfold mt_nx
        rw [if_pos c2]
    · have n14 : ¬ (f 22 m b = nI 103 ∨ f 22 m b = nI 104 ∨ f 22 m b = nI 114) := fun q_ => q_.elim n3 (fun y_ => y_.elim n4 c2)
      by_cases c3 : f 22 m b = nI 115
      · have g103 : mj_g X 142 75 [some (.inr (6, m)), some (.inl (nI 1))] [] (S, F, g) = mj_g X 142 103 [some (.inr (6, m)), some (.inl (nI 1))] [] (S, F, g) := by
          simp (disch := omega) only [mj_g142_75, mj_g142_76, mj_g142_77, mj_g142_78, mj_g142_95, mj_g142_96, mj_g142_97, mj_g142_98, mj_g142_99, mj_g142_100, mj_g142_101, mj_g142_102, ↓reduceIte, Option.bind_some, Option.toList_some, Option.toList_none, List.cons_append, List.nil_append, mj_ixn, mj_add, mj_mul, mj_sub, mj_dv, mj_rmn, mj_ltT, mj_ltF, mj_leT, mj_leF, mj_eqT, mj_eqF, mj_z0T, mj_z0F, mj_bo0, mj_boc, mj_chk10, mj_chk11, hk, c3, mj_kd9]
        rw [g103]
        have e1 : mt_P (f 22 m) L r n b ↔ mt_a (f 22 m) L (b + 1) (nI 59) := ⟨fun h => h.1.elim (fun y_ => absurd y_.1 c1) (fun y_ => y_.elim (fun z_ => absurd z_.1 c2) (fun z_ => z_.2)), fun h => ⟨Or.inr (Or.inr ⟨c3, h⟩), fun q_ => absurd q_ n4, fun q_ => absurd q_ n3, fun q_ => absurd q_ c2⟩⟩
        by_cases c4 : mt_a (f 22 m) L (b + 1) (nI 59)
        · refine ⟨_, ?_, md_Q_u hQ (j := 8) (x := nI (b + 2)) (by omega), by rw [mj_uj (by decide)]; exact hk, fun _ => ⟨?_, fun q_ => absurd q_ n14, fun q_ => absurd q_ c1⟩⟩
          · rw [← mj_boT (P := mt_P (f 22 m) L r n b) (e1.mpr c4)]
            exact md_rtT hg ((md_Q_7 hQ).trans hL) h100 hp2 (by omega) (by rw [md_Q_22 hQ]; exact c4)
          · rw [mj_us]
            unfold mt_nx
            rw [if_neg c2, if_pos c3]
        · refine ⟨F, ?_, hQ, hk, fun q_ => absurd (e1.mp q_) c4⟩
          rw [← mj_boF (P := mt_P (f 22 m) L r n b) (fun q_ => c4 (e1.mp q_))]
          exact md_rtF hg ((md_Q_7 hQ).trans hL) h100 hp2 (by omega) (by rw [md_Q_22 hQ]; exact c4)
      · have no : ¬ mt_P (f 22 m) L r n b := fun h => h.1.elim (fun y_ => c1 y_.1) (fun y_ => y_.elim (fun z_ => c2 z_.1) (fun z_ => c3 z_.1))
        refine ⟨F, ?_, hQ, hk, fun q_ => absurd q_ no⟩
        rw [← mj_boF (P := mt_P (f 22 m) L r n b) no]
        refine Eq.trans ?_ (md_rt0 (X := X) (m := m))
        simp (disch := omega) only [mj_g142_75, mj_g142_76, mj_g142_77, mj_g142_78, mj_g142_95, mj_g142_96, mj_g142_97, mj_g142_98, mj_g142_101, mj_g142_102, ↓reduceIte, hk, c2, c3]
end MX
