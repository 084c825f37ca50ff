/-! the law: behind its loop; its start; the whole -/
theorem mq_rd1 {D : Nat → Int32} {z : Nat} {Ds : Nat → Nat → Int32} : sp_rd D z Ds (sp_rz z - 1) = D := by
  unfold sp_rd sp_rz
  by_cases c1 : z = 4
  · subst c1; rfl
  · rw [if_neg c1, if_neg c1, if_pos (by omega)]
theorem mq_rd2 {D : Nat → Int32} {z : Nat} {Ds : Nat → Nat → Int32} (h : 0 < z) : sp_rd D z Ds (sp_rz z - 1 - 1) = Ds (z - 1) := by
  unfold sp_rd sp_rz
  by_cases c1 : z = 4
  · subst c1; rfl
  · rw [if_neg c1, if_neg c1, if_neg (by omega)]
    exact congrArg Ds (by omega)
theorem mq_rz0 {z : Nat} : 0 < sp_rz z := by unfold sp_rz; split <;> omega
theorem mq_rz1 {z : Nat} (h : 0 < z) : 0 < sp_rz z - 1 := by unfold sp_rz; split <;> omega
theorem mq_rz4 {z : Nat} (h : z ≤ 4) : sp_rz z ≤ 4 := by unfold sp_rz; split <;> omega
section QZ
variable {X : mj_X} {S : List (Nat × Nat)} {f F f2 : mj_F} {g G g2 : mj_G} {r s n r2 s2 n2 H H2 z z2 j k m x t l w q i Y B c : Nat} {D : Nat → Int32} {Ds Ds2 : Nat → Nat → Int32} {o2 o3 o4 o5 o6 o7 o8 o9 o10 o11 o12 o13 o14 : Option mj_V} {v : Int32} {tt : Nat → Int32}
theorem mq_c_u (h : mq_c f g r s n H D z Ds) (h2 : mq_c f2 g2 r2 s2 n2 H2 D z2 Ds2) : r2 = r ∧ s2 = s ∧ n2 = n := by
  obtain ⟨sc, -, hS, -⟩ := h
  obtain ⟨sc2, -, hS2, -⟩ := h2
  obtain ⟨⟨a1, a2, a3, a4, a5⟩, a6, a7⟩ := hS.1.1
  obtain ⟨⟨b1, b2, b3, b4, b5⟩, b6, b7⟩ := hS2.1.1
  have e1 : r2 = r := (mj_eq (by omega) (by omega)).mp (b6.symm.trans a6)
  have e2 : s2 = s := (mj_eq (by omega) (by omega)).mp (b7.symm.trans a7)
  exact ⟨e1, e2, by rw [b5, a5, e1, e2]⟩
theorem mq_sc (h : D 142 = nI c) (hc : c < 4) : sp_sc D n = sp_st D c n := by
  unfold sp_sc
  rw [h, if_neg (fun q_ => absurd ((mj_eq (by omega) (by omega)).mp q_) (by omega)), nI_clamp (by omega)]
theorem mq_sm_n (h : ∀ i, i < n → ∃ x, x ≤ B ∧ tt i = nI x) : ∃ x, x ≤ n * B ∧ mc_sm tt n = nI x := by
  induction n with
  | zero => exact ⟨0, by omega, rfl⟩
  | succ n ih =>
    obtain ⟨x, h1, h2⟩ := ih (fun i hi => h i (by omega))
    obtain ⟨y, h3, h4⟩ := h n (by omega)
    refine ⟨x + y, by rw [Nat.succ_mul]; omega, ?_⟩
    show mc_sm tt n + tt n = _
    rw [h2, h4, mj_add]
theorem mq_x_n (hV : mr_V D n) (hG : mc_Ge r s n) (hp : q ≤ 200) : ∃ x, x ≤ 432000 ∧ sp_x D s n (nI q) = nI x := by
  have h60 := hG.n60
  obtain ⟨x, h1, h2⟩ := mq_sm_n (n := n) (B := 7200) (tt := fun j => mp_x (D (22 + j)) (D (82 + j)) (sp_W D s n (nI q) j)) (fun i hi => by
    have e1 := mq_x hV hG hi hp
    obtain ⟨-, hw⟩ := mq_w_e hV hG hi hp
    refine ⟨_, ?_, e1⟩
    split <;> omega)
  have := Nat.mul_le_mul_right 7200 h60
  exact ⟨x, by omega, h2⟩
theorem mq_st_T (hc : c < 4) (h60 : n ≤ 60) (hj : j < n) : sp_T (sp_st D c n) j = sp_T D j := by
  unfold sp_T
  rw [sp_st_o hc h60 (by omega), sp_st_o hc h60 (by omega)]
theorem mq_fd1 (x : Int32) : mj_fd x (nI 1) = x := by
  have e1 : x / nI 1 = x := by
    have e : nI 1 = 1 := by decide
    rw [e, Int32.div_one]
  have e2 : x / nI 1 * nI 1 = x := by
    have e : nI 1 = 1 := by decide
    rw [e1, e, Int32.mul_one]
  unfold mj_fd
  rw [if_pos e2, e1]
  split <;> rfl
/-- from the end of the loop to the first of the last three: relined all -/
theorem mq_e1 (hc : mq_c f g r s n H D z Ds) (hH : H < 800000) (hI : mq_I D n H) (h142 : D 142 = nI 0) : ∃ F G, mj_g X 71 263 [some (.inr (23, 0)), some (.inr (5, 0)), some (.inl (nI 1)), o3, o4, o5, o6, o7, o8, o9, o10, o11, o12, o13, o14] [] (S, f, g) = mj_g X 71 327 [some (.inr (23, 0)), some (.inr (5, 0)), some (.inl (nI 1)), some (.inl (D 4)), some (.inl (mc_sm (sp_T D) n)), some (.inl (D 21)), o6, o7, o8, o9, o10, o11, o12, o13, o14] [] (S, F, G) ∧ mq_c F G r s n H (sp_la (sp_st D 0 n) n) (sp_rz (sp_rz z)) (sp_rd (sp_st D 0 n) (sp_rz z) (sp_rd D z Ds)) := by
  have hG := mq_c_ge hc
  have h60 := hG.n60
  have hn3 : 3000 * r * s = 3000 * n := by rw [hG.2.2.2.2, Nat.mul_assoc]
  have c4 := mq_cnt4 (X := X) (S := S) hc
  have A4 := mq_acc4 (X := X) (S := S) hc
  have A3 : mj_x X 58 [.inr (5, 0), .inl (nI 3)] (S, f, g) = some (some (.inl (D 21)), (S, f, g)) := mq_acc hc (k := 3) (by omega)
  obtain ⟨F1, G1, q, hq, k1, k2⟩ := mq_scan (X := X) (S := S) hc
  rw [mq_sc h142 (by omega)] at k2
  have eT : mc_sm (sp_T (sp_st D 0 n)) n = mc_sm (sp_T D) n := mc_sm_congr (fun i hi => mq_st_T (by omega) h60 hi)
  obtain ⟨F2, k3, k4⟩ := mq_relineA (X := X) (S := S) k2
  rw [mq_lx_all, eT] at k3
  have I2 := mq_I_la (mq_I_st (c := 0) hI (by omega) h60) h60
  have B3 : mj_x X 58 [.inr (5, 0), .inl (nI 3)] (S, F2, G1) = some (some (.inl (D 21 + mc_sm (sp_T D) n)), (S, F2, G1)) := by
    have h := mq_acc (X := X) (S := S) k4 (k := 3) (by omega)
    rw [mq_la_21 h60, eT, sp_st_o (by omega) h60 (by omega)] at h
    exact h
  have d4 := mq_cnt4 (X := X) (S := S) k4
  rw [mq_la_4, sp_st_o (by omega) h60 (by omega)] at d4
  have d3 := mq_cnt3 (X := X) (S := S) k4
  rw [mq_la_3] at d3
  have d5 := mq_cnt5 (X := X) (S := S) k4
  rw [mq_la_5] at d5
  have B4 := mq_acc4 (X := X) (S := S) k4
  rw [mq_la_sm h60] at B4
  have d0 := mq_cnt0 (X := X) (S := S) k4
  have d1 := mq_cnt1 (X := X) (S := S) k4
  obtain ⟨F3, k5, k6⟩ := mq_holds (X := X) (S := S) k4 (by omega) I2
  refine ⟨F3, G1, ?_, k6⟩
  simp (disch := omega) only [mj_g71_263, mj_g71_264, mj_g71_265, mj_g71_266, mj_g71_267, mj_g71_268, mj_g71_269, mj_g71_270, mj_g71_271, mj_g71_272, mj_g71_273, mj_g71_274, mj_g71_275, mj_g71_276, mj_g71_277, mj_g71_278, mj_g71_279, mj_g71_280, mj_g71_281, mj_g71_282, mj_g71_283, mj_g71_284, mj_g71_285, mj_g71_286, mj_g71_287, mj_g71_288, mj_g71_289, mj_g71_290, mj_g71_291, mj_g71_292, mj_g71_293, mj_g71_294, mj_g71_295, mj_g71_296, mj_g71_297, mj_g71_298, mj_g71_299, mj_g71_300, mj_g71_301, mj_g71_302, mj_g71_303, mj_g71_304, mj_g71_305, mj_g71_306, mj_g71_307, mj_g71_308, mj_g71_309, mj_g71_310, mj_g71_311, mj_g71_312, mj_g71_313, mj_g71_314, mj_g71_315, mj_g71_316, mj_g71_317, mj_g71_318, mj_g71_319, mj_g71_320, mj_g71_321, mj_g71_322, mj_g71_323, mj_g71_324, mj_g71_326, ↓reduceIte, Option.bind_some, Option.toList_some, Option.toList_none, List.cons_append, List.nil_append, mj_ixn, mj_add, mj_mul, mj_sub, mj_dv, mj_rmn, mj_ltT, mj_ltF, mj_leT, mj_leF, mj_eqT, mj_eqF, mj_z0T, mj_z0F, mj_bo0, mj_boc, mj_chk10, mj_chk11, and_self, not_true, not_false_eq_true, c4, A4, A3, k1, mj_lt0, k3, B3, d4, d3, d5, B4, d0, d1, k5, hn3, eq_self]
/-- the trend -/
theorem mq_e2 (hc : mq_c f g r s n H D z Ds) (hH : H < 800000) (hz : 0 < z) (h142 : D 142 = nI 1) (h5 : D 5 = nI 0) (hT : ∀ j, j < n → sp_T D j = nI 3000) (h143 : D 143 = D 2) : ∃ F G p z2 Ds2 D4, mj_g X 71 327 [some (.inr (23, 0)), some (.inr (5, 0)), some (.inl (nI 1)), o3, o4, o5, o6, o7, o8, o9, o10, o11, o12, o13, o14] [] (S, f, g) = mj_g X 71 361 [some (.inr (23, 0)), some (.inr (5, 0)), some (.inl (nI 1)), o3, o4, o5, o6, o7, o8, o9, o10, o11, o12, o13, o14] [] (S, F, G) ∧ mq_c F G r s n (H + 1) p z2 Ds2 ∧ z2 = sp_rz (sp_rz (sp_rz z)) ∧ Ds2 = sp_rd D4 (sp_rz (sp_rz z)) (sp_rd (sp_st D 1 n) (sp_rz z) (sp_rd D z Ds)) := by
  have hG := mq_c_ge hc
  have h60 := hG.n60
  have hsn := hG.sn
  have hs3 := hG.2.2.1
  obtain ⟨F1, G1, q1, hq1, k1, k2⟩ := mq_scan (X := X) (S := S) hc
  rw [mq_sc h142 (by omega)] at k2
  have tr1 := mq_trd (X := X) (S := S) (j := 0) (c := 2) k2 (by omega) sp_st_142 (by omega) (by omega)
  have u1 : sp_st D 1 n (143 + (2 - 1)) = D 2 := sp_st_h (c := 1) (by omega) h60
  have u2 : sp_st D 1 n (143 + (2 - 2)) = D 2 := (sp_st_k (c := 1) (i := 0) (by omega) h60 (by omega)).trans h143
  rw [u1, u2, if_pos (Int32.sub_self _)] at tr1
  have h5b : sp_st D 1 n 5 = nI 0 := by rw [sp_st_o (by omega) h60 (by omega)]; exact h5
  have hp := mq_fn_le (t := 1600) (l := 0) (by omega) (by omega) (by omega)
  obtain ⟨F2, k3, k4⟩ := mq_heat (X := X) (S := S) (t := 1600) (l := 0) k2 (by omega) (by omega) (by omega) (by omega) h5b
  obtain ⟨y, hy, ey⟩ := mq_x_n (mq_c_V k2) hG hp
  rw [ey] at k3
  obtain ⟨F3, G3, q2, hq2, k5, k6⟩ := mq_scan (X := X) (S := S) k4
  have e142 : sp_ht (sp_st D 1 n) s n (nI (mq_fn 1600 0)) 142 = nI 2 := by rw [sp_ht_o (by omega)]; exact sp_st_142
  rw [mq_sc e142 (by omega)] at k6
  have tr2 := mq_trd (X := X) (S := S) (j := 0) (c := 3) k6 (by omega) sp_st_142 (by omega) (by omega)
  have s2 := mq_spt2 (X := X) (S := S) (j := 0) k6 (by omega)
  have b6 := (mq_bl (mq_c_V k6) (show 0 < n by omega)).2.2.2.2.2
  have v1 : sp_st (sp_ht (sp_st D 1 n) s n (nI (mq_fn 1600 0))) 2 n (143 + (3 - 1)) = D 2 + nI 1 := by
    refine (sp_st_h (c := 2) (by omega) h60).trans ?_
    rw [sp_ht_2, sp_st_o (by omega) h60 (by omega)]
  have v2 : sp_st (sp_ht (sp_st D 1 n) s n (nI (mq_fn 1600 0))) 2 n (143 + (3 - 2)) = D 2 := by
    refine (sp_st_k (c := 2) (i := 1) (by omega) h60 (by omega)).trans ?_
    rw [sp_ht_o (by omega)]
    exact u1
  have v3 : sp_st (sp_ht (sp_st D 1 n) s n (nI (mq_fn 1600 0))) 2 n (387 + 60 * (3 - 2) + 0) = nI 3000 := by
    refine (sp_st_ko (c := 2) (k := 1) (j := 0) (by omega) h60 (by omega) (by omega)).2.trans ?_
    rw [sp_ht_o (by omega)]
    exact (sp_st_x (c := 1) (j := 0) (by omega) h60 (by omega)).trans (hT 0 (by omega))
  have v4 : sp_st (sp_ht (sp_st D 1 n) s n (nI (mq_fn 1600 0))) 2 n (387 + 60 * (3 - 1) + 0) = nI (mq_T (sp_st (sp_ht (sp_st D 1 n) s n (nI (mq_fn 1600 0))) 2 n) 0) := by
    refine (sp_st_x (c := 2) (j := 0) (by omega) h60 (by omega)).trans ?_
    rw [← b6, mq_st_T (by omega) h60 (by omega)]
  have e1 : D 2 + nI 1 - D 2 = nI 1 := by grind
  have n10 : ¬ nI 1 = 0 := by decide
  rw [v1, v2, v3, v4, e1, if_neg n10, mq_fd1, Int32.mul_comm] at tr2
  refine ⟨F3, G3, _, _, _, _, ?_, k6, rfl, rfl⟩
  simp (disch := omega) only [mj_g71_327, mj_g71_328, mj_g71_329, mj_g71_330, mj_g71_331, mj_g71_332, mj_g71_333, mj_g71_334, mj_g71_335, mj_g71_336, mj_g71_337, mj_g71_338, mj_g71_339, mj_g71_340, mj_g71_341, mj_g71_342, mj_g71_343, mj_g71_344, mj_g71_345, mj_g71_346, mj_g71_347, mj_g71_348, mj_g71_349, mj_g71_350, mj_g71_351, mj_g71_352, mj_g71_353, mj_g71_354, mj_g71_355, mj_g71_356, mj_g71_357, mj_g71_358, mj_g71_360, ↓reduceIte, Option.bind_some, Option.toList_some, Option.toList_none, List.cons_append, List.nil_append, mj_ixn, mj_add, mj_mul, mj_sub, mj_dv, mj_rmn, mj_ltT, mj_ltF, mj_leT, mj_leF, mj_eqT, mj_eqF, mj_z0T, mj_z0F, mj_bo0, mj_boc, mj_chk10, mj_chk11, and_self, not_true, not_false_eq_true, k1, mj_lt0, tr1, k3, k5, tr2, s2, eq_self]
/-- taken back twice -/
theorem mq_e3 (hc : mq_c f g r s n H D z Ds) (hH : H < 800000) (hz : 0 < z) (hz1 : 0 < z - 1) (h0 : Ds (z - 1 - 1) 0 = nI r) (h1 : Ds (z - 1 - 1) 1 = nI s) (hI : mq_I (Ds (z - 1 - 1)) n H) (hT : ∀ j, j < n → sp_T (Ds (z - 1 - 1)) j = nI 3000) : ∃ F, mj_g X 71 361 [some (.inr (23, 0)), some (.inr (5, 0)), some (.inl (nI 1)), o3, o4, o5, o6, o7, o8, o9, o10, o11, o12, o13, o14] [] (S, f, g) = some (some (.inl (nI 1)), (S, F, g)) := by
  have hG := mq_c_ge hc
  have h60 := hG.n60
  have hz4 := mq_c_z hc
  have hn3 : 3000 * r * s = 3000 * n := by rw [hG.2.2.2.2, Nat.mul_assoc]
  obtain ⟨F1, r1, s1, n1, k1, k2⟩ := mq_undo (X := X) (S := S) hc hz
  obtain ⟨F2, r2, s2, n2, k3, k4⟩ := mq_undo (X := X) (S := S) k2 hz1
  have hG2 := mq_c_ge k4
  have e3 : r2 = r ∧ s2 = s := by
    obtain ⟨sc2, -, hS2, -⟩ := k4
    have b := hS2.1.1
    have a := hG
    obtain ⟨a1, a2, a3, a4, a5⟩ := a
    obtain ⟨⟨b1, b2, b3, b4, b5⟩, b6, b7⟩ := b
    exact ⟨(mj_eq (by omega) (by omega)).mp (b6.symm.trans h0), (mj_eq (by omega) (by omega)).mp (b7.symm.trans h1)⟩
  obtain ⟨rfl, rfl⟩ := e3
  have e4 : n2 = n := by rw [hG2.2.2.2.2, hG.2.2.2.2]
  subst e4
  have B4 := mq_acc4 (X := X) (S := S) k4
  have es : mc_sm (sp_T (Ds (z - 1 - 1))) n2 = nI (3000 * n2) := by
    rw [← mq_sm_c]
    exact mc_sm_congr (fun i hi => hT i hi)
  rw [es] at B4
  have d0 := mq_cnt0 (X := X) (S := S) k4
  have d1 := mq_cnt1 (X := X) (S := S) k4
  obtain ⟨F3, k5, k6⟩ := mq_holds (X := X) (S := S) k4 (by omega) hI
  refine ⟨F3, ?_⟩
  simp (disch := omega) only [mj_g71_361, mj_g71_362, mj_g71_363, mj_g71_364, mj_g71_365, mj_g71_366, mj_g71_367, mj_g71_368, mj_g71_369, mj_g71_370, mj_g71_371, mj_g71_372, mj_g71_373, mj_g71_374, mj_g71_375, mj_g71_376, mj_g71_377, mj_g71_378, mj_g71_379, mj_g71_380, mj_g71_381, mj_g71_382, mj_g71_383, mj_g71_384, mj_g71_385, mj_g71_386, mj_g71_388, ↓reduceIte, Option.bind_some, Option.toList_some, Option.toList_none, List.cons_append, List.nil_append, mj_ixn, mj_add, mj_mul, mj_sub, mj_dv, mj_rmn, mj_ltT, mj_ltF, mj_leT, mj_leF, mj_eqT, mj_eqF, mj_z0T, mj_z0F, mj_bo0, mj_boc, mj_chk10, mj_chk11, and_self, not_true, not_false_eq_true, k1, k3, mj_lt0, B4, d0, d1, hn3, k5, eq_self]
theorem mq_end (hJ : mq_J f g H) (hH : H < 700000) : ∃ F G, mj_g X 71 263 [some (.inr (23, 0)), some (.inr (5, 0)), some (.inl (nI 1)), o3, o4, o5, o6, o7, o8, o9, o10, o11, o12, o13, o14] [] (S, f, g) = some (some (.inl (nI 1)), (S, F, G)) := by
  obtain ⟨r, s, n, D, z, Ds, hc, hI, h142, m, h12⟩ := hJ
  have hG := mq_c_ge hc
  have h60 := hG.n60
  obtain ⟨F1, G1, k1, k2⟩ := mq_e1 (X := X) (S := S) (o3 := o3) (o4 := o4) (o5 := o5) (o6 := o6) (o7 := o7) (o8 := o8) (o9 := o9) (o10 := o10) (o11 := o11) (o12 := o12) (o13 := o13) (o14 := o14) hc (by omega) hI h142
  have I2 := mq_I_la (mq_I_st (c := 0) hI (by omega) h60) h60
  have o_ : ∀ i, i = 0 ∨ i = 1 ∨ i = 2 ∨ i = 142 ∨ i = 143 → sp_la (sp_st D 0 n) n i = sp_st D 0 n i := fun i hi => by
    unfold sp_la
    rw [sp_lr_o (by omega), sp_lu_o (by omega)]
  have hT : ∀ j, j < n → sp_T (sp_la (sp_st D 0 n) n) j = nI 3000 := fun j hj => mq_la_T h60 hj
  have e2 : sp_la (sp_st D 0 n) n 2 = D 2 := by rw [o_ 2 (by omega), sp_st_o (by omega) h60 (by omega)]
  obtain ⟨F2, G2, D5, z5, Ds5, D4, k3, k4, hz5, hD5⟩ := mq_e2 (X := X) (S := S) (o3 := some (.inl (D 4))) (o4 := some (.inl (mc_sm (sp_T D) n))) (o5 := some (.inl (D 21))) (o6 := o6) (o7 := o7) (o8 := o8) (o9 := o9) (o10 := o10) (o11 := o11) (o12 := o12) (o13 := o13) (o14 := o14) k2 (by omega) mq_rz0 (by rw [o_ 142 (by omega)]; exact sp_st_142) mq_la_5 hT (by rw [e2, o_ 143 (by omega)]; exact sp_st_h (c := 0) (by omega) h60)
  have hz51 : 0 < z5 := by rw [hz5]; exact mq_rz0
  have hz52 : 0 < z5 - 1 := by rw [hz5]; exact mq_rz1 mq_rz0
  have hDD : Ds5 (z5 - 1 - 1) = sp_st (sp_la (sp_st D 0 n) n) 1 n := by
    rw [hD5, hz5, mq_rd2 mq_rz0, mq_rd1]
  have hS := k2
  obtain ⟨sc, -, hS, -⟩ := hS
  obtain ⟨-, y0, y1⟩ := hS.1.1
  have I3 := mq_I_st (c := 1) I2 (by omega) h60
  obtain ⟨F3, k5⟩ := mq_e3 (X := X) (S := S) (o3 := some (.inl (D 4))) (o4 := some (.inl (mc_sm (sp_T D) n))) (o5 := some (.inl (D 21))) (o6 := o6) (o7 := o7) (o8 := o8) (o9 := o9) (o10 := o10) (o11 := o11) (o12 := o12) (o13 := o13) (o14 := o14) k4 (by omega) hz51 hz52 (by rw [hDD, sp_st_o (by omega) h60 (by omega)]; exact y0) (by rw [hDD, sp_st_o (by omega) h60 (by omega)]; exact y1) (by
    rw [hDD]
    obtain ⟨i1, a, b, i2, i3, i4, i5⟩ := I3
    exact ⟨i1, a, b, i2, i3, i4, by omega⟩) (fun j hj => by rw [hDD, mq_st_T (by omega) h60 hj]; exact hT j hj)
  exact ⟨F3, G2, k1.trans (k3.trans k5)⟩
theorem mq_law (hX : X.1 ≤ 260) (f : mj_F) (g : mj_G) : ∃ S2 F G, mj_x X 71 [.inr (23, 0)] ([], f, g) = some (some (.inl (nI 1)), (S2, F, G)) ∧ mi_bd [] S2 117 3867 := by
  have u : ∀ (C : Nat → Nat) (k j : Nat), j ≠ k → mi_up C k j = C j := fun C k j hj => by unfold mi_up; rw [if_neg hj]
  have hC0 : mj_ct [] (fun _ => 0) := ⟨fun k i hi => absurd hi List.not_mem_nil, fun _ => rfl⟩
  obtain ⟨a1, a2, a3⟩ := mj_nw (k := 5) (a := 0) hC0 rfl
  rw [List.nil_append] at a3
  obtain ⟨S1, F1, G1, C1, e1, e2, e2b, e3, e4⟩ := mi_log (X := X) (f := mj_z f 5 0) (g := mj_n g 5 0) a3 (fun k hk h5 h6 => by rw [u _ _ _ h5])
  obtain ⟨q1, q5, q6, q7, q9, q10, q11, q12, q13, q14, q15, q16, q17⟩ := e4
  have hG : mc_Ge 3 6 18 := ⟨by omega, by omega, by omega, by omega, rfl⟩
  have e142 : sp_bg 3 6 18 142 = nI 0 := rfl
  have hc : mq_c F1 G1 3 6 18 0 (sp_bg 3 6 18) 0 (fun _ _ => nI 0) := ⟨fun j => 0 + j, ⟨q1, q5, q6, q7, q9, fun k hk => by show 0 ≤ 0 + k ∧ 0 + k < 0 + 4; omega, fun k q hk hq e => by have e0 : 0 + k = 0 + q := e; omega⟩, ⟨q11, sp_ok_bg hG, 0, by omega, e142, q12, fun k hk => by omega⟩, ⟨0, by omega, by omega, q13, q14, fun k hk => by omega⟩⟩
  have bd : mi_bd [] S1 117 3867 := mi_bd_t (show mi_bd [] [(5, 0)] 1 5 from mi_bd_a (S := []) (k := 5) rfl) e2b rfl rfl
  obtain ⟨Y0, hY0, c0⟩ := mq_cell (X := X) (S := S1) (i := 0) hX (by omega)
  obtain ⟨Y1, hY1, c1⟩ := mq_cell (X := X) (S := S1) (i := 1) hX (by omega)
  obtain ⟨Y2, hY2, c2⟩ := mq_cell (X := X) (S := S1) (i := 2) hX (by omega)
  obtain ⟨F2, k1, k2⟩ := mq_holds (X := X) (S := S1) hc (by omega) (mq_I_bg (by omega))
  have r1 : 1 ≤ 1 + Y0 % 6 := by omega
  have r6 : 1 + Y0 % 6 ≤ 6 := by omega
  have s3 : 3 ≤ 3 + Y1 % 8 := by omega
  have s10 : 3 + Y1 % 8 ≤ 10 := by omega
  have hv1 : 1 ≤ 1 + Y2 % 6 := by omega
  have hv2 : 1 + Y2 % 6 ≤ 6 := by omega
  generalize hrr : 1 + Y0 % 6 = r at r1 r6
  generalize hss : 3 + Y1 % 8 = s at s3 s10
  generalize hvv : 1 + Y2 % 6 = v at hv1 hv2
  have hG2 : mc_Ge r s (r * s) := ⟨r1, r6, s3, s10, rfl⟩
  have h60 := hG2.n60
  have hsn := hG2.sn
  obtain ⟨F3, k3, k4⟩ := mq_begin (X := X) (S := S1) k2 r1 r6 s3 s10
  obtain ⟨F4, k5, k6⟩ := mq_holds (X := X) (S := S1) k4 (by omega) (mq_I_bg h60)
  obtain ⟨F5, k7, k8⟩ := mq_set (X := X) (S := S1) (k := 5) (v := nI v) k6 (by omega) ⟨(mj_le (a := 1) (by omega) (by omega)).mpr (by omega), (mj_le (b := 100) (by omega) (by omega)).mpr (by omega)⟩
  have e20 : sp_bg r s (r * s) (12 + 5) = nI 20 := rfl
  rw [e20] at k7
  have hJ : mq_J F5 G1 0 := by
    refine ⟨r, s, r * s, _, _, _, k8, mq_I_u (mq_I_bg h60) h60 (by omega) (by omega), ?_, 800, by omega, ?_⟩
    · rw [sp_u_o (by omega)]; exact mq_bg_0 (by omega) h60
    · rw [sp_u_o (by omega)]; rfl
  obtain ⟨F6, p4, p5, p6, p7, p8, p9, p10, p11, p12, p13, p14, l1, l2⟩ := mq_loop (X := X) (S := S1) (g := G1) hX 30 0 F5 none none none none none none none none none none none rfl hJ
  obtain ⟨F7, G7, m1⟩ := mq_end (X := X) (S := S1) (o3 := some (.inl (nI 30))) (o4 := p4) (o5 := p5) (o6 := p6) (o7 := p7) (o8 := p8) (o9 := p9) (o10 := p10) (o11 := p11) (o12 := p12) (o13 := p13) (o14 := p14) l2 (by omega)
  refine ⟨S1, F7, G7, ?_, bd⟩
  rw [← m1, ← l1]
  have nle : ¬ nI (r * s) ≤ 0 := fun q_ => by
    have h := (mj_le0 (a := r * s) (by omega)).mp q_
    omega
  have g1 : mj_x X 71 [.inr (23, 0)] ([], f, g) = mj_g X 71 4 [some (.inr (23, 0)), some (.inr (5, 0)), none, none, none, none, none, none, none, none, none, none, none, none, none] [] (S1, F1, G1) := by
    simp only [mj_x71, mj_g71_0, mj_g71_1, mj_g71_2, mj_g71_3, a1, a2, e1, ↓reduceIte, Option.bind_some, Option.toList_none, List.nil_append]
  rw [g1]
  simp (disch := omega) only [mj_g71_4, mj_g71_5, mj_g71_6, mj_g71_7, mj_g71_8, mj_g71_9, mj_g71_10, mj_g71_11, mj_g71_12, mj_g71_13, mj_g71_14, mj_g71_15, mj_g71_16, mj_g71_17, mj_g71_18, mj_g71_19, mj_g71_20, mj_g71_21, mj_g71_22, mj_g71_23, mj_g71_24, mj_g71_25, mj_g71_26, mj_g71_27, mj_g71_28, mj_g71_29, mj_g71_30, mj_g71_31, mj_g71_32, mj_g71_33, mj_g71_34, mj_g71_35, mj_g71_36, mj_g71_37, mj_g71_38, mj_g71_39, mj_g71_40, mj_g71_42, mj_g71_43, mj_g71_44, ↓reduceIte, Option.bind_some, Option.toList_some, Option.toList_none, List.cons_append, List.nil_append, mj_ixn, mj_add, mj_mul, mj_sub, mj_dv, mj_rmn, mj_ltT, mj_ltF, mj_leT, mj_leF, mj_eqT, mj_eqF, mj_z0T, mj_z0F, mj_bo0, mj_boc, mj_chk10, mj_chk11, and_self, not_true, not_false_eq_true, k1, c0, c1, c2, hrr, hss, hvv, k3, nle, k5, k7]
end QZ
