/-! what is asked of the class, in numbers -/
def mq_T (D : Nat → Int32) (j : Nat) : Nat := (sp_T D j).toNatClampNeg
def mq_b (D : Nat → Int32) (j : Nat) : Nat := (D (22 + j)).toNatClampNeg
def mq_l (D : Nat → Int32) (j : Nat) : Nat := (D (82 + j)).toNatClampNeg
section QG
variable {X : mj_X} {S : List (Nat × Nat)} {f F : mj_F} {g G : mj_G} {r s n H z j k c t l x : Nat} {sc sp : Nat → Nat} {D E : Nat → Int32} {Ds : Nat → Nat → Int32} {v : Int32}
theorem mq_bl (hV : mr_V D n) (hj : j < n) : mq_b D j + mq_l D j ≤ 3500 ∧ mq_b D j ≤ 3000 ∧ mq_T D j = mq_b D j + mq_l D j ∧ D (22 + j) = nI (mq_b D j) ∧ D (82 + j) = nI (mq_l D j) ∧ sp_T D j = nI (mq_T D j) := by
  obtain ⟨b, l, h1, h2, h3, h4⟩ := hV.2.2.2.2.2 j hj
  have e1 : mq_b D j = b := by unfold mq_b; rw [h3]; exact nI_clamp (by omega)
  have e2 : mq_l D j = l := by unfold mq_l; rw [h4]; exact nI_clamp (by omega)
  have e3 : sp_T D j = nI (b + l) := by unfold sp_T; rw [h3, h4, mj_add]
  have e4 : mq_T D j = b + l := by unfold mq_T; rw [e3]; exact nI_clamp (by omega)
  rw [e1, e2, e4]
  exact ⟨h1, h2, rfl, h3, h4, e3⟩
theorem mq_c_V (hc : mq_c f g r s n H D z Ds) : mr_V D n := by
  obtain ⟨sc, hg, hS, -⟩ := hc
  exact hS.2.1.2.2.2.1
theorem mq_c_ge (hc : mq_c f g r s n H D z Ds) : mc_Ge r s n := by
  obtain ⟨sc, hg, hS, -⟩ := hc
  exact hS.1.1.1
theorem mq_cnt_s (hc : mq_c f g r s n H D z Ds) (hk : k < 6) : mj_x X 55 [.inr (5, 0), .inl (nI (20 + k))] (S, f, g) = some (some (.inl (D (12 + k))), (S, f, g)) := by
  obtain ⟨sc, hg, hS, -⟩ := hc
  have b1 := mc_within (X := X) (σ := (S, f, g)) (v := nI (20 + k)) (lo := nI 20) (hi := nI 25)
  rw [← mj_boT ⟨(mj_le (by omega) (by omega)).mpr (by omega), (mj_le (by omega) (by omega)).mpr (by omega)⟩] at b1
  have e1 : f 11 0 (20 + k - 20) = D (12 + k) := by rw [show 20 + k - 20 = k by omega]; exact mr_L_s hS.1 (by omega)
  simp (disch := omega) only [mj_x55, mj_g55_0, mj_g55_1, mj_g55_2, mj_g55_3, mj_g55_4, mj_g55_5, mj_g55_6, mj_g55_7, mj_g55_8, mj_g55_9, mj_g55_10, mj_g55_11, mj_g55_12, mj_g55_13, mj_g55_14, mj_g55_15, ↓reduceIte, Option.bind_some, Option.toList_some, Option.toList_none, List.cons_append, List.nil_append, mj_ixn, mj_add, mj_mul, mj_sub, mj_dv, mj_rmn, mj_ltT, mj_ltF, mj_leT, mj_leF, mj_eqT, mj_eqF, mj_z0T, mj_z0F, mj_bo0, mj_boc, mj_chk10, mj_chk11, and_self, not_true, not_false_eq_true, b1, hg.1.1, hg.2.1.1, hg.2.1.2.2.1.2.2.2.1, e1]
theorem mq_cnt_a (hc : mq_c f g r s n H D z Ds) (hk : k ≤ 10) : mj_x X 55 [.inr (5, 0), .inl (nI k)] (S, f, g) = mj_g X 55 (mj_tsw 0 10 [18, 21, 24, 27, 30, 33, 40, 44, 48, 52, 55] 58 (nI k)) [some (.inr (5, 0)), some (.inl (nI k)), some (.inr (1, 0))] [] (S, f, g) := by
  obtain ⟨sc, hg, hS, -⟩ := hc
  have b1 := mc_within (X := X) (σ := (S, f, g)) (v := nI k) (lo := nI 20) (hi := nI 25)
  rw [← mj_boF (fun q_ => absurd ((mj_le (by omega) (by omega)).mp q_.1) (by omega))] at b1
  simp (disch := omega) only [mj_x55, mj_g55_0, mj_g55_1, mj_g55_2, mj_g55_3, mj_g55_4, mj_g55_5, mj_g55_6, mj_g55_7, mj_g55_8, mj_g55_16, mj_g55_17, ↓reduceIte, Option.bind_some, Option.toList_some, Option.toList_none, List.cons_append, List.nil_append, mj_ixn, mj_add, mj_mul, mj_sub, mj_dv, mj_rmn, mj_ltT, mj_ltF, mj_leT, mj_leF, mj_eqT, mj_eqF, mj_z0T, mj_z0F, mj_bo0, mj_boc, mj_chk10, mj_chk11, and_self, not_true, not_false_eq_true, b1, hg.1.1, hg.2.1.1]
theorem mq_cnt0 (hc : mq_c f g r s n H D z Ds) : mj_x X 55 [.inr (5, 0), .inl (nI 0)] (S, f, g) = some (some (.inl (nI r)), (S, f, g)) := by
  rw [mq_cnt_a hc (by omega)]
  obtain ⟨sc, hg, hS, -⟩ := hc
  have t1 : mj_tsw 0 10 [18, 21, 24, 27, 30, 33, 40, 44, 48, 52, 55] 58 (nI 0) = 18 := rfl
  simp (disch := omega) only [mj_g55_18, mj_g55_19, mj_g55_20, ↓reduceIte, Option.bind_some, Option.toList_some, Option.toList_none, List.cons_append, List.nil_append, mj_ixn, mj_add, mj_mul, mj_sub, mj_dv, mj_rmn, mj_ltT, mj_ltF, mj_leT, mj_leF, mj_eqT, mj_eqF, mj_z0T, mj_z0F, mj_bo0, mj_boc, mj_chk10, mj_chk11, and_self, not_true, not_false_eq_true, t1, hS.1.2.1.1]
theorem mq_cnt1 (hc : mq_c f g r s n H D z Ds) : mj_x X 55 [.inr (5, 0), .inl (nI 1)] (S, f, g) = some (some (.inl (nI s)), (S, f, g)) := by
  rw [mq_cnt_a hc (by omega)]
  obtain ⟨sc, hg, hS, -⟩ := hc
  have t1 : mj_tsw 0 10 [18, 21, 24, 27, 30, 33, 40, 44, 48, 52, 55] 58 (nI 1) = 21 := rfl
  simp (disch := omega) only [mj_g55_21, mj_g55_22, mj_g55_23, ↓reduceIte, Option.bind_some, Option.toList_some, Option.toList_none, List.cons_append, List.nil_append, mj_ixn, mj_add, mj_mul, mj_sub, mj_dv, mj_rmn, mj_ltT, mj_ltF, mj_leT, mj_leF, mj_eqT, mj_eqF, mj_z0T, mj_z0F, mj_bo0, mj_boc, mj_chk10, mj_chk11, and_self, not_true, not_false_eq_true, t1, hS.1.2.1.2.1]
theorem mq_cnt2 (hc : mq_c f g r s n H D z Ds) : mj_x X 55 [.inr (5, 0), .inl (nI 2)] (S, f, g) = some (some (.inl (D 2)), (S, f, g)) := by
  rw [mq_cnt_a hc (by omega)]
  obtain ⟨sc, hg, hS, -⟩ := hc
  have t1 : mj_tsw 0 10 [18, 21, 24, 27, 30, 33, 40, 44, 48, 52, 55] 58 (nI 2) = 24 := rfl
  simp (disch := omega) only [mj_g55_24, mj_g55_25, mj_g55_26, ↓reduceIte, Option.bind_some, Option.toList_some, Option.toList_none, List.cons_append, List.nil_append, mj_ixn, mj_add, mj_mul, mj_sub, mj_dv, mj_rmn, mj_ltT, mj_ltF, mj_leT, mj_leF, mj_eqT, mj_eqF, mj_z0T, mj_z0F, mj_bo0, mj_boc, mj_chk10, mj_chk11, and_self, not_true, not_false_eq_true, t1, hS.1.2.2.1.1]
theorem mq_cnt3 (hc : mq_c f g r s n H D z Ds) : mj_x X 55 [.inr (5, 0), .inl (nI 3)] (S, f, g) = some (some (.inl (D 3)), (S, f, g)) := by
  rw [mq_cnt_a hc (by omega)]
  obtain ⟨sc, hg, hS, -⟩ := hc
  have t1 : mj_tsw 0 10 [18, 21, 24, 27, 30, 33, 40, 44, 48, 52, 55] 58 (nI 3) = 27 := rfl
  simp (disch := omega) only [mj_g55_27, mj_g55_28, mj_g55_29, ↓reduceIte, Option.bind_some, Option.toList_some, Option.toList_none, List.cons_append, List.nil_append, mj_ixn, mj_add, mj_mul, mj_sub, mj_dv, mj_rmn, mj_ltT, mj_ltF, mj_leT, mj_leF, mj_eqT, mj_eqF, mj_z0T, mj_z0F, mj_bo0, mj_boc, mj_chk10, mj_chk11, and_self, not_true, not_false_eq_true, t1, hS.1.2.2.1.2.1]
theorem mq_cnt4 (hc : mq_c f g r s n H D z Ds) : mj_x X 55 [.inr (5, 0), .inl (nI 4)] (S, f, g) = some (some (.inl (D 4)), (S, f, g)) := by
  rw [mq_cnt_a hc (by omega)]
  obtain ⟨sc, hg, hS, -⟩ := hc
  have t1 : mj_tsw 0 10 [18, 21, 24, 27, 30, 33, 40, 44, 48, 52, 55] 58 (nI 4) = 30 := rfl
  simp (disch := omega) only [mj_g55_30, mj_g55_31, mj_g55_32, ↓reduceIte, Option.bind_some, Option.toList_some, Option.toList_none, List.cons_append, List.nil_append, mj_ixn, mj_add, mj_mul, mj_sub, mj_dv, mj_rmn, mj_ltT, mj_ltF, mj_leT, mj_leF, mj_eqT, mj_eqF, mj_z0T, mj_z0F, mj_bo0, mj_boc, mj_chk10, mj_chk11, and_self, not_true, not_false_eq_true, t1, hS.1.2.2.1.2.2.1]
theorem mq_cnt5 (hc : mq_c f g r s n H D z Ds) : mj_x X 55 [.inr (5, 0), .inl (nI 5)] (S, f, g) = some (some (.inl (D 5)), (S, f, g)) := by
  rw [mq_cnt_a hc (by omega)]
  obtain ⟨sc, hg, hS, -⟩ := hc
  have t1 : mj_tsw 0 10 [18, 21, 24, 27, 30, 33, 40, 44, 48, 52, 55] 58 (nI 5) = 33 := rfl
  rcases hS.2.1.2.2.2.1.1 with q5 | q5
  · simp (disch := omega) only [mj_g55_33, mj_g55_34, mj_g55_35, mj_g55_36, mj_g55_37, mj_g55_38, mj_g55_39, ↓reduceIte, Option.bind_some, Option.toList_some, Option.toList_none, List.cons_append, List.nil_append, mj_ixn, mj_add, mj_mul, mj_sub, mj_dv, mj_rmn, mj_ltT, mj_ltF, mj_leT, mj_leF, mj_eqT, mj_eqF, mj_z0T, mj_z0F, mj_bo0, mj_boc, mj_chk10, mj_chk11, and_self, not_true, not_false_eq_true, t1, hS.1.2.2.1.2.2.2, q5]
  · simp (disch := omega) only [mj_g55_33, mj_g55_34, mj_g55_35, mj_g55_36, mj_g55_37, mj_g55_38, mj_g55_39, ↓reduceIte, Option.bind_some, Option.toList_some, Option.toList_none, List.cons_append, List.nil_append, mj_ixn, mj_add, mj_mul, mj_sub, mj_dv, mj_rmn, mj_ltT, mj_ltF, mj_leT, mj_leF, mj_eqT, mj_eqF, mj_z0T, mj_z0F, mj_bo0, mj_boc, mj_chk10, mj_chk11, and_self, not_true, not_false_eq_true, t1, hS.1.2.2.1.2.2.2, q5]
theorem mq_cnt6 (hc : mq_c f g r s n H D z Ds) : ∃ c, c ≤ 4 ∧ mj_x X 55 [.inr (5, 0), .inl (nI 6)] (S, f, g) = some (some (.inl (nI c)), (S, f, g)) := by
  rw [mq_cnt_a hc (by omega)]
  obtain ⟨sc, hg, ⟨-, -, c, u1, u2, u3, -⟩, -⟩ := hc
  have t1 : mj_tsw 0 10 [18, 21, 24, 27, 30, 33, 40, 44, 48, 52, 55] 58 (nI 6) = 40 := rfl
  refine ⟨c, u1, ?_⟩
  simp (disch := omega) only [mj_g55_40, mj_g55_41, mj_g55_42, mj_g55_43, ↓reduceIte, Option.bind_some, Option.toList_some, Option.toList_none, List.cons_append, List.nil_append, mj_ixn, mj_add, mj_mul, mj_sub, mj_dv, mj_rmn, mj_ltT, mj_ltF, mj_leT, mj_leF, mj_eqT, mj_eqF, mj_z0T, mj_z0F, mj_bo0, mj_boc, mj_chk10, mj_chk11, and_self, not_true, not_false_eq_true, t1, hg.1.1, u3]
theorem mq_cnt10 (hc : mq_c f g r s n H D z Ds) : mj_x X 55 [.inr (5, 0), .inl (nI 10)] (S, f, g) = some (some (.inl (mc_mn (sp_T D) (n - 1))), (S, f, g)) := by
  rw [mq_cnt_a hc (by omega)]
  obtain ⟨sc, hg, hS, -⟩ := hc
  have t1 : mj_tsw 0 10 [18, 21, 24, 27, 30, 33, 40, 44, 48, 52, 55] 58 (nI 10) = 55 := rfl
  have hG := hS.1.1.1
  have hsn := hG.sn
  have hs3 := hG.2.2.1
  have la := mc_leastThickness (X := X) (S := S) hg.2.1.2.2.1 hS.1.2.1.2.2 (by omega) hG.n60
  rw [mc_mn_congr (u := sp_T D) (fun i hi => mr_L_T hS.1 (by omega))] at la
  simp (disch := omega) only [mj_g55_55, mj_g55_56, mj_g55_57, ↓reduceIte, Option.bind_some, Option.toList_some, Option.toList_none, List.cons_append, List.nil_append, mj_ixn, mj_add, mj_mul, mj_sub, mj_dv, mj_rmn, mj_ltT, mj_ltF, mj_leT, mj_leF, mj_eqT, mj_eqF, mj_z0T, mj_z0F, mj_bo0, mj_boc, mj_chk10, mj_chk11, and_self, not_true, not_false_eq_true, t1, la]
theorem mq_spt_a (hc : mq_c f g r s n H D z Ds) (hj : j < n) (hk : k ≤ 7) : mj_x X 56 [.inr (5, 0), .inl (nI j), .inl (nI k)] (S, f, g) = mj_g X 56 (mj_tsw 0 7 [12, 17, 22, 26, 30, 34, 38, 42] 49 (nI k)) [some (.inr (5, 0)), some (.inl (nI j)), some (.inl (nI k)), some (.inr (1, 0))] [] (S, f, g) := by
  obtain ⟨sc, hg, hS, -⟩ := hc
  have h60 := hS.1.1.1.n60
  have hI := mc_hasSpot (X := X) (S := S) (g := g) (v := nI j) hS.1.2.1.2.2
  rw [← mj_boT (mq_ixs h60 hj)] at hI
  simp (disch := omega) only [mj_x56, mj_g56_0, mj_g56_1, mj_g56_2, mj_g56_3, mj_g56_4, mj_g56_5, mj_g56_6, mj_g56_7, mj_g56_10, mj_g56_11, ↓reduceIte, Option.bind_some, Option.toList_some, Option.toList_none, List.cons_append, List.nil_append, mj_ixn, mj_add, mj_mul, mj_sub, mj_dv, mj_rmn, mj_ltT, mj_ltF, mj_leT, mj_leF, mj_eqT, mj_eqF, mj_z0T, mj_z0F, mj_bo0, mj_boc, mj_chk10, mj_chk11, and_self, not_true, not_false_eq_true, hI, hg.1.1, hg.2.1.1]
theorem mq_spt0 (hc : mq_c f g r s n H D z Ds) (hj : j < n) : mj_x X 56 [.inr (5, 0), .inl (nI j), .inl (nI 0)] (S, f, g) = some (some (.inl (nI (mq_b D j))), (S, f, g)) := by
  rw [mq_spt_a hc hj (by omega)]
  have e1 := (mq_bl (mq_c_V hc) hj).2.2.2.1
  obtain ⟨sc, hg, hS, -⟩ := hc
  have h60 := hS.1.1.1.n60
  have e2 := (hS.1.2.2.2.2.2.2 j hj).1
  rw [e1] at e2
  have t1 : mj_tsw 0 7 [12, 17, 22, 26, 30, 34, 38, 42] 49 (nI 0) = 12 := rfl
  simp (disch := omega) only [mj_g56_12, mj_g56_13, mj_g56_14, mj_g56_15, mj_g56_16, ↓reduceIte, Option.bind_some, Option.toList_some, Option.toList_none, List.cons_append, List.nil_append, mj_ixn, mj_add, mj_mul, mj_sub, mj_dv, mj_rmn, mj_ltT, mj_ltF, mj_leT, mj_leF, mj_eqT, mj_eqF, mj_z0T, mj_z0F, mj_bo0, mj_boc, mj_chk10, mj_chk11, and_self, not_true, not_false_eq_true, t1, hg.2.1.2.2.1.1, e2]
theorem mq_spt1 (hc : mq_c f g r s n H D z Ds) (hj : j < n) : mj_x X 56 [.inr (5, 0), .inl (nI j), .inl (nI 1)] (S, f, g) = some (some (.inl (nI (mq_l D j))), (S, f, g)) := by
  rw [mq_spt_a hc hj (by omega)]
  have e1 := (mq_bl (mq_c_V hc) hj).2.2.2.2.1
  obtain ⟨sc, hg, hS, -⟩ := hc
  have h60 := hS.1.1.1.n60
  have e2 := (hS.1.2.2.2.2.2.2 j hj).2
  rw [e1] at e2
  have t1 : mj_tsw 0 7 [12, 17, 22, 26, 30, 34, 38, 42] 49 (nI 1) = 17 := rfl
  simp (disch := omega) only [mj_g56_17, mj_g56_18, mj_g56_19, mj_g56_20, mj_g56_21, ↓reduceIte, Option.bind_some, Option.toList_some, Option.toList_none, List.cons_append, List.nil_append, mj_ixn, mj_add, mj_mul, mj_sub, mj_dv, mj_rmn, mj_ltT, mj_ltF, mj_leT, mj_leF, mj_eqT, mj_eqF, mj_z0T, mj_z0F, mj_bo0, mj_boc, mj_chk10, mj_chk11, and_self, not_true, not_false_eq_true, t1, hg.2.1.2.2.1.2.1, e2]
theorem mq_spt2 (hc : mq_c f g r s n H D z Ds) (hj : j < n) : mj_x X 56 [.inr (5, 0), .inl (nI j), .inl (nI 2)] (S, f, g) = some (some (.inl (nI (mq_T D j))), (S, f, g)) := by
  rw [mq_spt_a hc hj (by omega)]
  have e1 := (mq_bl (mq_c_V hc) hj).2.2.2.2.2
  obtain ⟨sc, hg, hS, -⟩ := hc
  have h60 := hS.1.1.1.n60
  have e2 := mr_L_T hS.1 hj
  rw [e1] at e2
  have t1 : mj_tsw 0 7 [12, 17, 22, 26, 30, 34, 38, 42] 49 (nI 2) = 22 := rfl
  simp (disch := omega) only [mj_g56_22, mj_g56_23, mj_g56_24, mj_g56_25, ↓reduceIte, Option.bind_some, Option.toList_some, Option.toList_none, List.cons_append, List.nil_append, mj_ixn, mj_add, mj_mul, mj_sub, mj_dv, mj_rmn, mj_ltT, mj_ltF, mj_leT, mj_leF, mj_eqT, mj_eqF, mj_z0T, mj_z0F, mj_bo0, mj_boc, mj_chk10, mj_chk11, and_self, not_true, not_false_eq_true, t1, mc_thickness hg.2.1.2.2.1, e2]
theorem mq_spt4 (hc : mq_c f g r s n H D z Ds) (hj : j < n) : ∃ F, mj_x X 56 [.inr (5, 0), .inl (nI j), .inl (nI 4)] (S, f, g) = some (some (.inl (sp_T D j - mc_lb (sp_T D) s n j)), (S, F, g)) ∧ mq_c F g r s n H D z Ds := by
  have C1 := mq_c_13 hc (F := mc_kp f 0 n) (fun k i j hn => mc_kp_k hn)
  rw [mq_spt_a hc hj (by omega)]
  obtain ⟨sc, hg, hS, -⟩ := hc
  have hG := hS.1.1.1
  have h60 := hG.n60
  have e1 := mc_standingOut (X := X) (S := S) hg.2.1.2.2.1 hG hS.1.2.1.2.1 hS.1.2.1.2.2 hj
  rw [mr_L_T hS.1 hj, mc_lb_congr hG hj (fun i hi => mr_L_T hS.1 hi)] at e1
  have t1 : mj_tsw 0 7 [12, 17, 22, 26, 30, 34, 38, 42] 49 (nI 4) = 30 := rfl
  refine ⟨mc_kp f 0 n, ?_, C1⟩
  simp (disch := omega) only [mj_g56_30, mj_g56_31, mj_g56_32, mj_g56_33, ↓reduceIte, Option.bind_some, Option.toList_some, Option.toList_none, List.cons_append, List.nil_append, mj_ixn, mj_add, mj_mul, mj_sub, mj_dv, mj_rmn, mj_ltT, mj_ltF, mj_leT, mj_leF, mj_eqT, mj_eqF, mj_z0T, mj_z0F, mj_bo0, mj_boc, mj_chk10, mj_chk11, and_self, not_true, not_false_eq_true, t1, e1]
theorem mq_spt5 (hc : mq_c f g r s n H D z Ds) (hj : j < n) : mj_x X 56 [.inr (5, 0), .inl (nI j), .inl (nI 5)] (S, f, g) = some (some (.inl (nI (mc_nn s n j))), (S, f, g)) := by
  rw [mq_spt_a hc hj (by omega)]
  obtain ⟨sc, hg, hS, -⟩ := hc
  have hG := hS.1.1.1
  have t1 : mj_tsw 0 7 [12, 17, 22, 26, 30, 34, 38, 42] 49 (nI 5) = 34 := rfl
  simp (disch := omega) only [mj_g56_34, mj_g56_35, mj_g56_36, mj_g56_37, ↓reduceIte, Option.bind_some, Option.toList_some, Option.toList_none, List.cons_append, List.nil_append, mj_ixn, mj_add, mj_mul, mj_sub, mj_dv, mj_rmn, mj_ltT, mj_ltF, mj_leT, mj_leF, mj_eqT, mj_eqF, mj_z0T, mj_z0F, mj_bo0, mj_boc, mj_chk10, mj_chk11, and_self, not_true, not_false_eq_true, t1, mc_neighboursOf hG hS.1.2.1.2.1 hS.1.2.1.2.2 hj]
theorem mq_nbr (hc : mq_c f g r s n H D z Ds) (hj : j < n) (hx : x < mc_nn s n j) : mj_x X 57 [.inr (5, 0), .inl (nI j), .inl (nI x)] (S, f, g) = some (some (.inl (nI (mc_na s j x))), (S, f, g)) := by
  obtain ⟨sc, hg, hS, -⟩ := hc
  have hG := hS.1.1.1
  have h60 := hG.n60
  have hI := mc_hasSpot (X := X) (S := S) (g := g) (v := nI j) hS.1.2.1.2.2
  rw [← mj_boT (mq_ixs h60 hj)] at hI
  have h4 := mc_nn_le (s := s) (n := n) (j := j)
  simp (disch := omega) only [mj_x57, mj_g57_0, mj_g57_1, mj_g57_2, mj_g57_3, mj_g57_4, mj_g57_5, mj_g57_6, mj_g57_7, mj_g57_8, mj_g57_9, mj_g57_10, mj_g57_11, mj_g57_12, mj_g57_13, mj_g57_14, mj_g57_15, mj_g57_16, mj_g57_19, mj_g57_20, mj_g57_21, mj_g57_22, mj_g57_23, mj_g57_24, mj_g57_25, ↓reduceIte, Option.bind_some, Option.toList_some, Option.toList_none, List.cons_append, List.nil_append, mj_ixn, mj_add, mj_mul, mj_sub, mj_dv, mj_rmn, mj_ltT, mj_ltF, mj_leT, mj_leF, mj_eqT, mj_eqF, mj_z0T, mj_z0F, mj_bo0, mj_boc, mj_chk10, mj_chk11, and_self, not_true, not_false_eq_true, hI, hg.1.1, hg.2.1.1, mj_ge0, mc_neighboursOf hG hS.1.2.1.2.1 hS.1.2.1.2.2 hj, mc_neighbourAt hG hS.1.2.1.2.1 hj (show x < 4 by omega)]
theorem mq_acc (hc : mq_c f g r s n H D z Ds) (hk : k < 4) : mj_x X 58 [.inr (5, 0), .inl (nI k)] (S, f, g) = some (some (.inl (D (18 + k))), (S, f, g)) := by
  obtain ⟨sc, hg, hS, -⟩ := hc
  have hac : f 12 0 k = D (18 + k) := hS.1.2.2.2.2.2.1 k (by omega)
  have b1 := mc_within (X := X) (σ := (S, f, g)) (v := nI k) (lo := nI 0) (hi := nI 3)
  rw [← mj_boT ⟨(mj_le (by omega) (by omega)).mpr (by omega), (mj_le (by omega) (by omega)).mpr (by omega)⟩] at b1
  simp (disch := omega) only [mj_x58, mj_g58_0, mj_g58_1, mj_g58_2, mj_g58_8, mj_g58_9, mj_g58_10, mj_g58_11, mj_g58_12, mj_g58_13, mj_g58_14, mj_g58_15, mj_g58_16, mj_g58_17, mj_g58_18, mj_g58_19, mj_g58_21, ↓reduceIte, Option.bind_some, Option.toList_some, Option.toList_none, List.cons_append, List.nil_append, mj_ixn, mj_add, mj_mul, mj_sub, mj_dv, mj_rmn, mj_ltT, mj_ltF, mj_leT, mj_leF, mj_eqT, mj_eqF, mj_z0T, mj_z0F, mj_bo0, mj_boc, mj_chk10, mj_chk11, and_self, not_true, not_false_eq_true, hg.1.1, hg.2.1.1, b1, hg.2.1.2.2.1.2.2.2.2.1, hac]
theorem mq_acc4 (hc : mq_c f g r s n H D z Ds) : mj_x X 58 [.inr (5, 0), .inl (nI 4)] (S, f, g) = some (some (.inl (mc_sm (sp_T D) n)), (S, f, g)) := by
  obtain ⟨sc, hg, hS, -⟩ := hc
  have h60 := hS.1.1.1.n60
  have sm := mc_sumOfThicknesses (X := X) (S := S) hg.2.1.2.2.1 hS.1.2.1.2.2 h60
  rw [mc_sm_congr (u := sp_T D) (fun i hi => mr_L_T hS.1 hi)] at sm
  simp (disch := omega) only [mj_x58, mj_g58_0, mj_g58_1, mj_g58_2, mj_g58_3, mj_g58_4, mj_g58_5, mj_g58_6, mj_g58_7, ↓reduceIte, Option.bind_some, Option.toList_some, Option.toList_none, List.cons_append, List.nil_append, mj_ixn, mj_add, mj_mul, mj_sub, mj_dv, mj_rmn, mj_ltT, mj_ltF, mj_leT, mj_leF, mj_eqT, mj_eqF, mj_z0T, mj_z0F, mj_bo0, mj_boc, mj_chk10, mj_chk11, and_self, not_true, not_false_eq_true, hg.1.1, hg.2.1.1, sm]
theorem mq_wear (hc : mq_c f g r s n H D z Ds) (hj : j < n) (t1 : 1400 ≤ t) (t2 : t ≤ 1800) (t3 : l ≤ 100) : ∃ F, mj_x X 60 [.inr (5, 0), .inl (nI j), .inl (nI t), .inl (nI l)] (S, f, g) = some (some (.inl (sp_W D s n (nI (mq_fn t l)) j)), (S, F, g)) ∧ mq_c F g r s n H D z Ds := by
  have C1 := mq_c_13 hc (F := mc_kp f 0 n) (fun k i j hn => mc_kp_k hn)
  obtain ⟨sc, hg, hS, -⟩ := hc
  have hG := hS.1.1.1
  have h60 := hG.n60
  have hV := hS.2.1.2.2.2.1
  haveI : Decidable (mc_iH (nI t) (nI l)) := Classical.propDecidable _
  have hI := mc_hasSpot (X := X) (S := S) (g := g) (v := nI j) hS.1.2.1.2.2
  rw [← mj_boT (mq_ixs h60 hj)] at hI
  have hA := mc_isHeat (X := X) (S := S) (f := f) (g := g) (t := nI t) (sl := nI l)
  rw [← mj_boT (mq_iH t1 t2 t3)] at hA
  obtain ⟨hp, ep⟩ := mq_fo t1 t2 t3
  have fo := mc_factorOf (X := X) (S := S) (f := f) (g := g) (t := nI t) (sl := nI l)
  rw [ep] at fo
  have wn := mc_wearNow (X := X) (S := S) (φ := nI (mq_fn t l)) hg.2.1.2.2.1 hG hS.1.2.1.2.1 hS.1.2.1.2.2 hj (mr_L_13 hS.1 hV)
  have ew : mc_wr (f 10 0 (j / s)) (nI (mq_fn t l)) (mc_T f 0 j - mc_lb (mc_T f 0) s n j) (f 11 0 1) = sp_W D s n (nI (mq_fn t l)) j := mr_L_W hS.1 hV hj hp
  rw [ew] at wn
  refine ⟨mc_kp f 0 n, ?_, C1⟩
  simp (disch := omega) only [mj_x60, mj_g60_0, mj_g60_1, mj_g60_2, mj_g60_3, mj_g60_4, mj_g60_5, mj_g60_6, mj_g60_7, mj_g60_8, mj_g60_9, mj_g60_12, mj_g60_13, mj_g60_14, mj_g60_15, mj_g60_16, mj_g60_17, mj_g60_18, mj_g60_19, mj_g60_20, ↓reduceIte, Option.bind_some, Option.toList_some, Option.toList_none, List.cons_append, List.nil_append, mj_ixn, mj_add, mj_mul, mj_sub, mj_dv, mj_rmn, mj_ltT, mj_ltF, mj_leT, mj_leF, mj_eqT, mj_eqF, mj_z0T, mj_z0F, mj_bo0, mj_boc, mj_chk10, mj_chk11, and_self, not_true, not_false_eq_true, hI, hA, hg.1.1, hg.2.1.1, fo, wn]
/-- the trend: of the latest two scans -/
theorem mq_trd (hc : mq_c f g r s n H D z Ds) (hj : j < n) (h142 : D 142 = nI c) (hc4 : c ≤ 4) (hc2 : 2 ≤ c) : mj_x X 59 [.inr (5, 0), .inl (nI j)] (S, f, g) = some (some (.inl (if D (143 + (c - 1)) - D (143 + (c - 2)) = 0 then (-1000004) else mj_fd ((D (387 + 60 * (c - 2) + j) - D (387 + 60 * (c - 1) + j)) * nI 100) (D (143 + (c - 1)) - D (143 + (c - 2))))), (S, f, g)) := by
  obtain ⟨sc, hg, hS, -⟩ := hc
  have h60 := hS.1.1.1.n60
  have hb := hS.1.2.1.2.2
  obtain ⟨-, -, c0, u1, u2, u3, u4⟩ := hS
  rw [h142] at u2
  have ec : c = c0 := (mj_eq (by omega) (by omega)).mp u2
  subst ec
  have hI := mc_hasSpot (X := X) (S := S) (g := g) (v := nI j) hb
  rw [← mj_boT (mq_ixs h60 hj)] at hI
  have ed : mc_dh f sc c = D (143 + (c - 1)) - D (143 + (c - 2)) := by
    unfold mc_dh
    rw [(u4 (c - 1) (by omega)).1, (u4 (c - 2) (by omega)).1]
  have kn := mc_trendIsKnown (X := X) (S := S) hg.2.1 u3 u1
  have tr := fun hz => mc_trendOf (X := X) (S := S) hg.2.1 u3 u1 hc2 (show j < 60 by omega) hz
  rw [ed] at kn tr
  rw [((u4 (c - 2) (by omega)).2 j hj).2, ((u4 (c - 1) (by omega)).2 j hj).2] at tr
  by_cases c2 : D (143 + (c - 1)) - D (143 + (c - 2)) = 0
  · rw [← mj_boF (fun q_ => q_.2 c2)] at kn
    rw [if_pos c2]
    simp (disch := omega) only [mj_x59, mj_g59_0, mj_g59_1, mj_g59_2, mj_g59_3, mj_g59_4, mj_g59_5, mj_g59_8, mj_g59_9, mj_g59_10, mj_g59_11, mj_g59_17, mj_g59_18, ↓reduceIte, Option.bind_some, Option.toList_some, Option.toList_none, List.cons_append, List.nil_append, mj_ixn, mj_add, mj_mul, mj_sub, mj_dv, mj_rmn, mj_ltT, mj_ltF, mj_leT, mj_leF, mj_eqT, mj_eqF, mj_z0T, mj_z0F, mj_bo0, mj_boc, mj_chk10, mj_chk11, and_self, not_true, not_false_eq_true, hI, hg.1.1, hg.2.1.1, kn]
  · rw [← mj_boT ⟨hc2, c2⟩] at kn
    have tr := tr c2
    rw [if_neg c2]
    simp (disch := omega) only [mj_x59, mj_g59_0, mj_g59_1, mj_g59_2, mj_g59_3, mj_g59_4, mj_g59_5, mj_g59_8, mj_g59_9, mj_g59_10, mj_g59_11, mj_g59_12, mj_g59_13, mj_g59_14, mj_g59_15, mj_g59_16, mj_g59_18, ↓reduceIte, Option.bind_some, Option.toList_some, Option.toList_none, List.cons_append, List.nil_append, mj_ixn, mj_add, mj_mul, mj_sub, mj_dv, mj_rmn, mj_ltT, mj_ltF, mj_leT, mj_leF, mj_eqT, mj_eqF, mj_z0T, mj_z0F, mj_bo0, mj_boc, mj_chk10, mj_chk11, and_self, not_true, not_false_eq_true, hI, hg.1.1, hg.2.1.1, kn, tr]
end QG
