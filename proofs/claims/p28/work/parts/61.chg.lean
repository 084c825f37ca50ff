/-! changes: what the class makes of its state, call by call (arguments in their ranges) -/
section QF
variable {X : mj_X} {S : List (Nat × Nat)} {f F : mj_F} {g G : mj_G} {r s n r2 s2 c H H2 z j k m t l : Nat} {sc sp : Nat → Nat} {D E : Nat → Int32} {Ds : Nat → Nat → Int32} {v : Int32}
theorem mq_begin (hc : mq_c f g r s n H D z Ds) (k1 : 1 ≤ r2) (k2 : r2 ≤ 6) (k3 : 3 ≤ s2) (k4 : s2 ≤ 10) : ∃ F, mj_x X 47 [.inr (5, 0), .inl (nI r2), .inl (nI s2)] (S, f, g) = some (some (.inl (nI (r2 * s2))), (S, F, g)) ∧ mq_c F g r2 s2 (r2 * s2) H (sp_bg r2 s2 (r2 * s2)) (sp_rz z) (sp_rd D z Ds) := by
  have hc0 := hc
  obtain ⟨sc0, hg0, -⟩ := hc
  obtain ⟨F, e1, e2⟩ := mq_rec (X := X) (S := S) hc0
  have e20 := e2
  obtain ⟨sc, hg, hS, -⟩ := e2
  have hG : mc_Ge r2 s2 (r2 * s2) := ⟨k1, k2, k3, k4, rfl⟩
  have h60 := hG.n60
  have st := mc_startAnew (X := X) (S := S) (f := F) hg.2.1 hG
  have FG : mr_G 0 0 0 F (mj_u (mc_lay F 0 r2 s2) 4 0 2 (nI 0)) := mr_G_t (mr_G_F mr_F_lay) (fun k i j n1 n2 n3 => mj_u_n (by omega))
  have L2 : mr_L (mj_u (mc_lay F 0 r2 s2) 4 0 2 (nI 0)) 0 (sp_bg r2 s2 (r2 * s2)) r2 s2 (r2 * s2) := mr_L_e (mr_L_lay hG) (fun k j hk => mj_uk (by omega))
  have ok2 := sp_ok_bg (H := H) hG
  have e142 : sp_bg r2 s2 (r2 * s2) 142 = nI 0 := by unfold sp_bg; rw [if_neg (by omega), if_neg (by omega), if_neg (by omega), if_neg (by omega), if_neg (by omega), if_neg (by omega), if_neg (by omega)]
  have C2 : mq_c (mj_u (mc_lay F 0 r2 s2) 4 0 2 (nI 0)) g r2 s2 (r2 * s2) H (sp_bg r2 s2 (r2 * s2)) (sp_rz z) (sp_rd D z Ds) := mq_c_G e20 (Nat.le_refl _) FG hg ⟨L2, ok2, 0, by omega, e142, mj_us, fun k hk => by omega⟩
  have q2 := L2.2.1.2.2
  have c1 : nI 1 ≤ nI r2 ∧ nI r2 ≤ nI 6 := ⟨(mj_le (by omega) (by omega)).mpr k1, (mj_le (by omega) (by omega)).mpr k2⟩
  have c2 : nI 3 ≤ nI s2 ∧ nI s2 ≤ nI 10 := ⟨(mj_le (by omega) (by omega)).mpr k3, (mj_le (by omega) (by omega)).mpr k4⟩
  have b1 := mc_within (X := X) (σ := (S, f, g)) (v := nI r2) (lo := nI 1) (hi := nI 6)
  have b2 := mc_within (X := X) (σ := (S, f, g)) (v := nI s2) (lo := nI 3) (hi := nI 10)
  rw [← mj_boT c1] at b1
  rw [← mj_boT c2] at b2
  refine ⟨_, ?_, C2⟩
  simp (disch := omega) only [mj_x47, mj_g47_0, mj_g47_1, mj_g47_2, mj_g47_3, mj_g47_4, mj_g47_5, mj_g47_6, mj_g47_7, mj_g47_8, mj_g47_9, mj_g47_10, mj_g47_11, mj_g47_12, mj_g47_13, mj_g47_14, mj_g47_15, mj_g47_16, mj_g47_17, mj_g47_18, mj_g47_19, mj_g47_20, mj_g47_21, mj_g47_22, mj_g47_23, mj_g47_24, mj_g47_25, mj_g47_26, ↓reduceIte, Option.bind_some, Option.toList_some, Option.toList_none, List.cons_append, List.nil_append, mj_ixn, mj_add, mj_mul, mj_sub, mj_dv, mj_rmn, mj_ltT, mj_ltF, mj_leT, mj_leF, mj_eqT, mj_eqF, mj_z0T, mj_z0F, mj_bo0, mj_boc, mj_chk10, mj_chk11, and_self, not_true, not_false_eq_true, b1, b2, hg0.1.1, hg0.1.2.2.1, e1, st, hg.2.1.1, q2]
theorem mq_rate (hc : mq_c f g r s n H D z Ds) (hj : j < r) (hk : k ≤ 50) : ∃ F, mj_x X 48 [.inr (5, 0), .inl (nI j), .inl (nI k)] (S, f, g) = some (some (.inl (D (6 + j))), (S, F, g)) ∧ mq_c F g r s n H (sp_u D (6 + j) (nI k)) (sp_rz z) (sp_rd D z Ds) := by
  have hc0 := hc
  obtain ⟨sc0, hg0, hS0, -⟩ := hc
  have hr6 := hS0.1.1.1.2.1
  have hR := mc_hasRing (X := X) (S := S) (g := g) (v := nI j) hS0.1.2.1.1
  rw [← mj_boT (mq_ixs (n := r) (j := j) (by omega) hj)] at hR
  have b2 := mc_within (X := X) (σ := (S, f, g)) (v := nI k) (lo := nI 0) (hi := nI 50)
  rw [← mj_boT ⟨(mj_le (by omega) (by omega)).mpr (by omega), (mj_le (by omega) (by omega)).mpr hk⟩] at b2
  obtain ⟨F, e1, e2⟩ := mq_rec (X := X) (S := S) hc0
  have e20 := e2
  obtain ⟨sc, hg, hS, -⟩ := e2
  have L2 := mr_L_rate (v := nI k) hS.1 (show j < 6 by omega)
  have FF : mr_F 0 F (mj_u F 10 0 j (nI k)) := fun k i j hn => mj_u_n (by omega)
  have hok : sp_ok (sp_u D (6 + j) (nI k)) r s n H := by
    obtain ⟨o1, o2, o3, ⟨a1, a2, a3, a4, a5, a6⟩, c, o5, o6, o7⟩ := hS.2.1
    refine ⟨o1, by rw [sp_u_o (by omega)]; exact o2, by rw [sp_u_o (by omega)]; exact o3, ⟨by rw [sp_u_o (by omega)]; exact a1, fun i hi => ?_, by rw [sp_u_o (by omega)]; exact a3, by rw [sp_u_o (by omega)]; exact a4, by rw [sp_u_o (by omega)]; exact a5, fun i hi => by rw [sp_u_o (by omega), sp_u_o (by omega)]; exact a6 i hi⟩, c, o5, by rw [sp_u_o (by omega)]; exact o6, mr_U_e o7 (Nat.le_refl _) (sp_u_o (by omega)) (fun i hi => sp_u_o (by omega))⟩
    by_cases c3 : i = j
    · subst c3; rw [sp_u_s]; exact ⟨k, hk, rfl⟩
    · rw [sp_u_o (by omega)]; exact a2 i hi
  have C2 := mq_c_G e20 (Nat.le_refl _) (mr_G_F FF) hg (mr_S_L hS FF L2 hok (fun i hi => sp_u_o (by omega)))
  have p1 : F 10 0 j = D (6 + j) := hS.1.2.2.2.1 j (by omega)
  refine ⟨_, ?_, C2⟩
  simp (disch := omega) only [mj_x48, mj_g48_0, mj_g48_1, mj_g48_2, mj_g48_3, mj_g48_4, mj_g48_5, mj_g48_6, mj_g48_7, mj_g48_8, mj_g48_9, mj_g48_10, mj_g48_11, mj_g48_12, mj_g48_13, mj_g48_14, mj_g48_15, mj_g48_16, mj_g48_17, mj_g48_18, mj_g48_19, mj_g48_20, mj_g48_21, mj_g48_22, mj_g48_23, mj_g48_24, mj_g48_25, mj_g48_26, mj_g48_27, mj_g48_28, mj_g48_29, mj_g48_30, mj_g48_31, ↓reduceIte, Option.bind_some, Option.toList_some, Option.toList_none, List.cons_append, List.nil_append, mj_ixn, mj_add, mj_mul, mj_sub, mj_dv, mj_rmn, mj_ltT, mj_ltF, mj_leT, mj_leF, mj_eqT, mj_eqF, mj_z0T, mj_z0F, mj_bo0, mj_boc, mj_chk10, mj_chk11, and_self, not_true, not_false_eq_true, b2, hg0.1.1, hg0.2.1.1, hR, hg0.1.2.2.1, e1, hg.2.2.2.1, hg0.2.1.2.2.1.2.2.1, hg.2.1.2.2.1.2.2.1, p1]
theorem mq_set (hc : mq_c f g r s n H D z Ds) (hk : k < 6) (hv : mj_tb 1 k ≤ v ∧ v ≤ mj_tb 2 k) : ∃ F, mj_x X 49 [.inr (5, 0), .inl (nI k), .inl v] (S, f, g) = some (some (.inl (D (12 + k))), (S, F, g)) ∧ mq_c F g r s n H (sp_u D (12 + k) v) (sp_rz z) (sp_rd D z Ds) := by
  have hc0 := hc
  obtain ⟨sc0, hg0, hS0, -⟩ := hc
  have b1 := mc_within (X := X) (σ := (S, f, g)) (v := nI k) (lo := nI 0) (hi := nI 5)
  rw [← mj_boT ⟨(mj_le (by omega) (by omega)).mpr (by omega), (mj_le (by omega) (by omega)).mpr (by omega)⟩] at b1
  have b2 := mc_within (X := X) (σ := (S, f, g)) (v := v) (lo := mj_tb 1 k) (hi := mj_tb 2 k)
  rw [← mj_boT hv] at b2
  obtain ⟨F, e1, e2⟩ := mq_rec (X := X) (S := S) hc0
  have e20 := e2
  obtain ⟨sc, hg, hS, -⟩ := e2
  have L2 := mr_L_set (v := v) hS.1 hk
  have FF : mr_F 0 F (mj_u F 11 0 k v) := fun k i j hn => mj_u_n (by omega)
  have hok := sp_ok_set hS.2.1 hk hv
  have C2 := mq_c_G e20 (Nat.le_refl _) (mr_G_F FF) hg (mr_S_L hS FF L2 hok (fun i hi => sp_u_o (by omega)))
  have p1 : F 11 0 k = D (12 + k) := mr_L_s hS.1 (by omega)
  refine ⟨_, ?_, C2⟩
  simp (disch := omega) only [mj_x49, mj_g49_0, mj_g49_1, mj_g49_2, mj_g49_3, mj_g49_4, mj_g49_5, mj_g49_6, mj_g49_7, mj_g49_8, mj_g49_9, mj_g49_10, mj_g49_11, mj_g49_12, mj_g49_13, mj_g49_14, mj_g49_15, mj_g49_16, mj_g49_17, mj_g49_18, mj_g49_19, mj_g49_20, mj_g49_21, mj_g49_22, mj_g49_23, mj_g49_24, mj_g49_25, mj_g49_26, mj_g49_27, mj_g49_28, mj_g49_29, mj_g49_30, mj_g49_31, mj_g49_32, mj_g49_33, mj_g49_34, mj_g49_35, ↓reduceIte, Option.bind_some, Option.toList_some, Option.toList_none, List.cons_append, List.nil_append, mj_ixn, mj_add, mj_mul, mj_sub, mj_dv, mj_rmn, mj_ltT, mj_ltF, mj_leT, mj_leF, mj_eqT, mj_eqF, mj_z0T, mj_z0F, mj_bo0, mj_boc, mj_chk10, mj_chk11, and_self, not_true, not_false_eq_true, b1, b2, hg0.1.1, hg0.2.1.1, hg0.1.2.2.1, e1, hg0.2.1.2.2.1.2.2.2.1, p1]
theorem mq_heat (hc : mq_c f g r s n H D z Ds) (hH : H < 900000) (t1 : 1400 ≤ t) (t2 : t ≤ 1800) (t3 : l ≤ 100) (h5 : D 5 = nI 0) : ∃ F, mj_x X 50 [.inr (5, 0), .inl (nI t), .inl (nI l)] (S, f, g) = some (some (.inl (sp_x D s n (nI (mq_fn t l)))), (S, F, g)) ∧ mq_c F g r s n (H + 1) (sp_ht D s n (nI (mq_fn t l))) (sp_rz z) (sp_rd D z Ds) := by
  have hc0 := hc
  obtain ⟨sc0, hg0, hS0, -⟩ := hc
  haveI : Decidable (mc_iH (nI t) (nI l)) := Classical.propDecidable _
  have hI := mc_isHeat (X := X) (S := S) (f := f) (g := g) (t := nI t) (sl := nI l)
  rw [← mj_boT (mq_iH t1 t2 t3)] at hI
  have ov : f 1 0 11 = D 5 := hS0.1.2.2.1.2.2.2
  obtain ⟨hp, ep⟩ := mq_fo t1 t2 t3
  obtain ⟨F, e1, e2⟩ := mq_rec (X := X) (S := S) hc0
  have e20 := e2
  obtain ⟨sc, hg, hS, -⟩ := e2
  have hV := hS.2.1.2.2.2.1
  have h60 := hS.1.1.1.n60
  have L2 := mr_L_ht hS.1 hV hp h5
  have FF := mr_F_ht (a := 0) (f := F) (s := s) (n := n) (φ := nI (mq_fn t l))
  have hok := sp_ok_ht hS.2.1 hp (by omega)
  have C2 := mq_c_G e20 (Nat.le_succ H) (mr_G_F FF) hg (mr_S_L hS FF L2 hok (fun i hi => sp_ht_o (by omega)))
  have mh := mc_makeHeat (X := X) (S := S) (φ := mc_fo (nI t) (nI l)) hg.2.1.2.2.1 (mr_L_O hS.1 hV)
  rw [ep] at mh
  have hx := mr_L_x hS.1 hV hp
  have fo := mc_factorOf (X := X) (S := S) (f := F) (g := g) (t := nI t) (sl := nI l)
  rw [ep] at fo
  refine ⟨_, ?_, C2⟩
  simp (disch := omega) only [mj_x50, mj_g50_0, mj_g50_1, mj_g50_2, mj_g50_3, mj_g50_4, mj_g50_5, mj_g50_6, mj_g50_7, mj_g50_8, mj_g50_9, mj_g50_10, mj_g50_11, mj_g50_12, mj_g50_13, mj_g50_14, mj_g50_15, mj_g50_16, mj_g50_17, mj_g50_18, mj_g50_19, mj_g50_20, mj_g50_21, mj_g50_22, mj_g50_23, mj_g50_24, mj_g50_25, ↓reduceIte, Option.bind_some, Option.toList_some, Option.toList_none, List.cons_append, List.nil_append, mj_ixn, mj_add, mj_mul, mj_sub, mj_dv, mj_rmn, mj_ltT, mj_ltF, mj_leT, mj_leF, mj_eqT, mj_eqF, mj_z0T, mj_z0F, mj_bo0, mj_boc, mj_chk10, mj_chk11, and_self, not_true, not_false_eq_true, hI, hg0.1.1, hg0.2.1.1, ov, h5, hg0.1.2.2.1, e1, fo, mh, hx]
theorem mq_heatO (hc : mq_c f g r s n H D z Ds) (t1 : 1400 ≤ t) (t2 : t ≤ 1800) (t3 : l ≤ 100) (h5 : D 5 = nI 1) : mj_x X 50 [.inr (5, 0), .inl (nI t), .inl (nI l)] (S, f, g) = some (some (.inl (-1000002)), (S, f, g)) := by
  obtain ⟨sc0, hg0, hS0, -⟩ := hc
  haveI : Decidable (mc_iH (nI t) (nI l)) := Classical.propDecidable _
  have hI := mc_isHeat (X := X) (S := S) (f := f) (g := g) (t := nI t) (sl := nI l)
  rw [← mj_boT (mq_iH t1 t2 t3)] at hI
  have ov : f 1 0 11 = D 5 := hS0.1.2.2.1.2.2.2
  simp (disch := omega) only [mj_x50, mj_g50_0, mj_g50_1, mj_g50_2, mj_g50_3, mj_g50_4, mj_g50_5, mj_g50_6, mj_g50_7, mj_g50_8, mj_g50_9, mj_g50_10, mj_g50_11, mj_g50_12, ↓reduceIte, Option.bind_some, Option.toList_some, Option.toList_none, List.cons_append, List.nil_append, mj_ixn, mj_add, mj_mul, mj_sub, mj_dv, mj_rmn, mj_ltT, mj_ltF, mj_leT, mj_leF, mj_eqT, mj_eqF, mj_z0T, mj_z0F, mj_bo0, mj_boc, mj_chk10, mj_chk11, and_self, not_true, not_false_eq_true, hI, hg0.1.1, hg0.2.1.1, ov, h5]
theorem mq_gun (hc : mq_c f g r s n H D z Ds) (hj : j < n) (hm1 : 1 ≤ m) (hm5 : m ≤ 500) : (sp_gr D j (nI m) = nI 0 ∧ ∃ F, mj_x X 51 [.inr (5, 0), .inl (nI j), .inl (nI m)] (S, f, g) = some (some (.inl (sp_sy D j (nI m))), (S, F, g)) ∧ mq_c F g r s n H (sp_po D j (nI m)) (sp_rz z) (sp_rd D z Ds)) ∨ ∃ v, v < 0 ∧ mj_x X 51 [.inr (5, 0), .inl (nI j), .inl (nI m)] (S, f, g) = some (some (.inl v), (S, f, g)) := by
  have hc0 := hc
  obtain ⟨sc0, hg0, hS0, -⟩ := hc
  have h60 := hS0.1.1.1.n60
  have hI := mc_hasSpot (X := X) (S := S) (g := g) (v := nI j) hS0.1.2.1.2.2
  rw [← mj_boT (mq_ixs h60 hj)] at hI
  have hA := mc_isAmount (X := X) (S := S) (f := f) (g := g) (m := nI m)
  rw [← mj_boT ⟨(mj_le (by omega) (by omega)).mpr hm1, (mj_le (by omega) (by omega)).mpr hm5⟩] at hA
  have hV := hS0.2.1.2.2.2.1
  have gr := mc_gunningRefusal (X := X) (S := S) (m := nI m) hg0.2.1.2.2.1 (show j < 60 by omega) (mr_L_T0 hS0.1 hV hj)
  rw [mr_L_gr hS0.1 hV hj] at gr
  rcases sp_gr_c (D := D) (j := j) (q := nI m) with e_ | e_ | e_ | e_
  · rw [e_] at gr
    refine Or.inl ⟨e_, ?_⟩
    obtain ⟨F, e1, e2⟩ := mq_rec (X := X) (S := S) hc0
    have e20 := e2
    obtain ⟨sc, hg, hS, -⟩ := e2
    have L2 := mr_L_po (q := nI m) hS.1 hj
    have FF := mr_F_po (a := 0) (f := F) (j := j) (q := nI m)
    have hok := sp_ok_po hS.2.1 hj hm5 e_
    have C2 := mq_c_G e20 (Nat.le_refl _) (mr_G_F FF) hg (mr_S_L hS FF L2 hok (fun i hi => sp_po_o (by omega)))
    have po := mc_putOn (X := X) (S := S) (m := nI m) hg.2.1.2.2.1 (show j < 60 by omega) (mr_L_T0 hS.1 hV hj)
    rw [mr_L_sy hS.1 hj] at po
    generalize mc_po F 0 j (nI m) = F1 at C2 po
    refine ⟨F1, ?_, C2⟩
    simp (disch := omega) only [mj_x51, mj_g51_0, mj_g51_1, mj_g51_2, mj_g51_3, mj_g51_4, mj_g51_5, mj_g51_6, mj_g51_7, mj_g51_8, mj_g51_9, mj_g51_10, mj_g51_11, mj_g51_12, mj_g51_13, mj_g51_14, mj_g51_15, mj_g51_16, mj_g51_17, mj_g51_18, mj_g51_19, mj_g51_20, mj_g51_21, mj_g51_22, mj_g51_23, mj_g51_24, mj_g51_25, mj_g51_26, mj_g51_27, mj_g51_28, mj_g51_29, mj_g51_30, mj_g51_31, mj_g51_32, mj_g51_33, mj_g51_34, mj_g51_35, mj_g51_36, ↓reduceIte, Option.bind_some, Option.toList_some, Option.toList_none, List.cons_append, List.nil_append, mj_ixn, mj_add, mj_mul, mj_sub, mj_dv, mj_rmn, mj_ltT, mj_ltF, mj_leT, mj_leF, mj_eqT, mj_eqF, mj_z0T, mj_z0F, mj_bo0, mj_boc, mj_chk10, mj_chk11, and_self, not_true, not_false_eq_true, hI, hA, gr, hg0.1.1, hg0.2.1.1, hg0.1.2.2.1, e1, po]
  · rw [e_] at gr
    refine Or.inr ⟨-1000002, by decide, ?_⟩
    simp (disch := omega) only [mj_x51, mj_g51_0, mj_g51_1, mj_g51_2, mj_g51_3, mj_g51_4, mj_g51_5, mj_g51_6, mj_g51_7, mj_g51_8, mj_g51_9, mj_g51_10, mj_g51_11, mj_g51_12, mj_g51_13, mj_g51_14, mj_g51_15, mj_g51_16, mj_g51_17, mj_g51_18, mj_g51_19, mj_g51_20, mj_g51_21, mj_g51_22, mj_g51_23, mj_g51_24, mj_g51_25, mj_g51_26, ↓reduceIte, Option.bind_some, Option.toList_some, Option.toList_none, List.cons_append, List.nil_append, mj_ixn, mj_add, mj_mul, mj_sub, mj_dv, mj_rmn, mj_ltT, mj_ltF, mj_leT, mj_leF, mj_eqT, mj_eqF, mj_z0T, mj_z0F, mj_bo0, mj_boc, mj_chk10, mj_chk11, and_self, not_true, not_false_eq_true, hI, hA, gr, hg0.1.1, hg0.2.1.1]
  · rw [e_] at gr
    refine Or.inr ⟨-1000002, by decide, ?_⟩
    simp (disch := omega) only [mj_x51, mj_g51_0, mj_g51_1, mj_g51_2, mj_g51_3, mj_g51_4, mj_g51_5, mj_g51_6, mj_g51_7, mj_g51_8, mj_g51_9, mj_g51_10, mj_g51_11, mj_g51_12, mj_g51_13, mj_g51_14, mj_g51_15, mj_g51_16, mj_g51_17, mj_g51_18, mj_g51_19, mj_g51_20, mj_g51_21, mj_g51_22, mj_g51_23, mj_g51_24, mj_g51_25, mj_g51_26, ↓reduceIte, Option.bind_some, Option.toList_some, Option.toList_none, List.cons_append, List.nil_append, mj_ixn, mj_add, mj_mul, mj_sub, mj_dv, mj_rmn, mj_ltT, mj_ltF, mj_leT, mj_leF, mj_eqT, mj_eqF, mj_z0T, mj_z0F, mj_bo0, mj_boc, mj_chk10, mj_chk11, and_self, not_true, not_false_eq_true, hI, hA, gr, hg0.1.1, hg0.2.1.1]
  · rw [e_] at gr
    refine Or.inr ⟨-1000003, by decide, ?_⟩
    simp (disch := omega) only [mj_x51, mj_g51_0, mj_g51_1, mj_g51_2, mj_g51_3, mj_g51_4, mj_g51_5, mj_g51_6, mj_g51_7, mj_g51_8, mj_g51_9, mj_g51_10, mj_g51_11, mj_g51_12, mj_g51_13, mj_g51_14, mj_g51_15, mj_g51_16, mj_g51_17, mj_g51_18, mj_g51_19, mj_g51_20, mj_g51_21, mj_g51_22, mj_g51_23, mj_g51_24, mj_g51_25, mj_g51_26, ↓reduceIte, Option.bind_some, Option.toList_some, Option.toList_none, List.cons_append, List.nil_append, mj_ixn, mj_add, mj_mul, mj_sub, mj_dv, mj_rmn, mj_ltT, mj_ltF, mj_leT, mj_leF, mj_eqT, mj_eqF, mj_z0T, mj_z0F, mj_bo0, mj_boc, mj_chk10, mj_chk11, and_self, not_true, not_false_eq_true, hI, hA, gr, hg0.1.1, hg0.2.1.1]
theorem mq_reline (hc : mq_c f g r s n H D z Ds) (hj : j < r) : ∃ F, mj_x X 52 [.inr (5, 0), .inl (nI j)] (S, f, g) = some (some (.inl (sp_lx D (s * j) s)), (S, F, g)) ∧ mq_c F g r s n H (sp_lr D (s * j) s) (sp_rz z) (sp_rd D z Ds) := by
  have hc0 := hc
  obtain ⟨sc0, hg0, hS0, -⟩ := hc
  have hG := hS0.1.1.1
  have hr6 := hG.2.1
  have hs10 := hG.2.2.2.1
  have hnn := hG.2.2.2.2
  have h60 := hG.n60
  have hR := mc_hasRing (X := X) (S := S) (g := g) (v := nI j) hS0.1.2.1.1
  rw [← mj_boT (mq_ixs (n := r) (j := j) (by omega) hj)] at hR
  obtain ⟨F, e1, e2⟩ := mq_rec (X := X) (S := S) hc0
  have e20 := e2
  obtain ⟨sc, hg, hS, -⟩ := e2
  have h7 := Nat.mul_le_mul_left s (show j + 1 ≤ r from hj)
  rw [Nat.mul_add, Nat.mul_one, Nat.mul_comm s r, ← hnn] at h7
  have L2 := mr_L_lr hS.1 hj
  have FF := mr_F_lr (a := 0) (f := F) (s := s) (j := j)
  have hok := sp_ok_lr hS.2.1 h7
  have C2 := mq_c_G e20 (Nat.le_refl _) (mr_G_F FF) hg (mr_S_L hS FF L2 hok (fun i hi => sp_lr_o (by omega)))
  have lr := mc_layRing (X := X) (S := S) (j := j) hg.2.1.2.2.1 hS.1.2.1.2.1 (by omega) (by omega) (by rw [Nat.mul_comm]; omega)
  rw [mr_L_lrx hS.1 hj] at lr
  generalize mc_lr F 0 s j = F1 at C2 lr
  have nm1 := mr_m1n (j := j) (by omega)
  refine ⟨F1, ?_, C2⟩
  simp (disch := omega) only [mj_x52, mj_g52_0, mj_g52_1, mj_g52_2, mj_g52_3, mj_g52_4, mj_g52_5, mj_g52_6, mj_g52_7, mj_g52_8, mj_g52_9, mj_g52_10, mj_g52_11, mj_g52_12, mj_g52_13, mj_g52_14, mj_g52_15, mj_g52_16, mj_g52_17, mj_g52_18, mj_g52_19, mj_g52_20, mj_g52_21, mj_g52_22, mj_g52_23, mj_g52_24, mj_g52_25, mj_g52_26, mj_g52_27, mj_g52_28, mj_g52_29, ↓reduceIte, Option.bind_some, Option.toList_some, Option.toList_none, List.cons_append, List.nil_append, mj_ixn, mj_add, mj_mul, mj_sub, mj_dv, mj_rmn, mj_ltT, mj_ltF, mj_leT, mj_leF, mj_eqT, mj_eqF, mj_z0T, mj_z0F, mj_bo0, mj_boc, mj_chk10, mj_chk11, and_self, not_true, not_false_eq_true, hg0.1.1, hg0.2.1.1, hg0.1.2.2.1, hR, nm1, e1, lr]
theorem mq_relineA (hc : mq_c f g r s n H D z Ds) : ∃ F, mj_x X 52 [.inr (5, 0), .inl (-1)] (S, f, g) = some (some (.inl (sp_lx D 0 n)), (S, F, g)) ∧ mq_c F g r s n H (sp_la D n) (sp_rz z) (sp_rd D z Ds) := by
  have hc0 := hc
  obtain ⟨sc0, hg0, hS0, -⟩ := hc
  have hG := hS0.1.1.1
  have h60 := hG.n60
  obtain ⟨F, e1, e2⟩ := mq_rec (X := X) (S := S) hc0
  have e20 := e2
  obtain ⟨sc, hg, hS, -⟩ := e2
  obtain ⟨L2, lx, FF⟩ := mr_L_la hS.1
  have hok := sp_ok_la hS.2.1
  have C2 := mq_c_G e20 (Nat.le_refl _) (mr_G_F FF) hg (mr_S_L hS FF L2 hok (fun i hi => by unfold sp_la; rw [sp_lr_o (by omega), sp_lu_o (by omega)]))
  have la := mc_layAllRings (X := X) (S := S) hg.2.1.2.2.1 hS.1.2.1.1 hS.1.2.1.2.1 hG
  rw [lx] at la
  generalize mc_la F 0 s r = F1 at C2 la
  refine ⟨F1, ?_, C2⟩
  simp (disch := omega) only [mj_x52, mj_g52_0, mj_g52_1, mj_g52_2, mj_g52_3, mj_g52_4, mj_g52_5, mj_g52_6, mj_g52_7, mj_g52_8, mj_g52_9, mj_g52_10, mj_g52_11, mj_g52_12, mj_g52_13, mj_g52_14, mj_g52_15, mj_g52_16, mj_g52_17, mj_g52_18, mj_g52_19, mj_g52_20, mj_g52_21, mj_g52_22, mj_g52_23, mj_g52_24, mj_g52_25, mj_g52_26, mj_g52_27, mj_g52_28, mj_g52_29, ↓reduceIte, Option.bind_some, Option.toList_some, Option.toList_none, List.cons_append, List.nil_append, mj_ixn, mj_add, mj_mul, mj_sub, mj_dv, mj_rmn, mj_ltT, mj_ltF, mj_leT, mj_leF, mj_eqT, mj_eqF, mj_z0T, mj_z0F, mj_bo0, mj_boc, mj_chk10, mj_chk11, and_self, not_true, not_false_eq_true, hg0.1.1, hg0.2.1.1, hg0.1.2.2.1, e1, la]
theorem mq_scan (hc : mq_c f g r s n H D z Ds) : ∃ F G q, q ≤ n ∧ mj_x X 53 [.inr (5, 0)] (S, f, g) = some (some (.inl (nI q)), (S, F, G)) ∧ mq_c F G r s n H (sp_sc D n) (sp_rz z) (sp_rd D z Ds) := by
  have hc0 := hc
  obtain ⟨sc0, hg0, hS0, -⟩ := hc
  have h60 := hS0.1.1.1.n60
  obtain ⟨F, e1, e2⟩ := mq_rec (X := X) (S := S) hc0
  have e20 := e2
  obtain ⟨sc, hg, hS, -⟩ := e2
  obtain ⟨F1, G, sd, d, t1, t2, t3, t4, t5, t6, t7, t8⟩ := mr_take (X := X) (S := S) hg.2.1 hS hg.2.2.2.2.2
  have hgG := mq_g_dg hg t5 t7 t6
  have C2 := mq_c_G e20 (Nat.le_refl _) t8 hgG t2
  have hot := mc_hotSpots (X := X) (S := S) (t5.2.2.2 d t4).2 t5.2.2.1 t2.1.2.1.2.2 h60
  refine ⟨F1, G, mc_cn (fun j => decide (¬ F1 15 (sd d) j < F1 11 0 3)) n, mc_cn_le _ _, ?_, C2⟩
  simp (disch := omega) only [mj_x53, mj_g53_0, mj_g53_1, mj_g53_2, mj_g53_3, mj_g53_4, mj_g53_5, mj_g53_6, mj_g53_7, mj_g53_8, mj_g53_9, mj_g53_10, mj_g53_11, mj_g53_12, mj_g53_13, mj_g53_14, ↓reduceIte, Option.bind_some, Option.toList_some, Option.toList_none, List.cons_append, List.nil_append, mj_ixn, mj_add, mj_mul, mj_sub, mj_dv, mj_rmn, mj_ltT, mj_ltF, mj_leT, mj_leF, mj_eqT, mj_eqF, mj_z0T, mj_z0F, mj_bo0, mj_boc, mj_chk10, mj_chk11, and_self, not_true, not_false_eq_true, hg0.1.1, hg0.1.2.2.1, e1, t1, hgG.1.1, t5.1, hot]
theorem mq_undo (hc : mq_c f g r s n H D z Ds) (hz : 0 < z) : ∃ F r2 s2 n2, mj_x X 54 [.inr (5, 0)] (S, f, g) = some (some (.inl (nI (z - 1))), (S, F, g)) ∧ mq_c F g r2 s2 n2 H (Ds (z - 1)) (z - 1) Ds := by
  obtain ⟨sc, hg, hS, ⟨o, h1, h2, h3, h4, h5⟩⟩ := hc
  have hP := hg.2.2.2.2.2
  obtain ⟨r2, s2, n2, h6⟩ := h5 (z - 1) (by omega)
  have hq : (o + (z - 1)) % 4 < 4 := by omega
  have A : ∀ k i j, k ≠ 0 → mj_u f 0 0 2 (nI (z - 1)) k i j = f k i j := fun k i j hk => mj_uk hk
  obtain ⟨c, y1, y2, y3, y4, y5, y6⟩ := mr_copy (f := mj_u f 0 0 2 (nI (z - 1))) (lo := 0) hg.2.1 (hg.2.2.2.2.1 _ hq) (mr_S_k h6 (fun k i j hn => A _ _ _ (by omega))) (by omega) (by omega) hP (fun k hk => Or.inr (by omega))
  rw [A _ _ _ (by decide)] at y2 y3
  have rs := mc_restoreLatest (X := X) (S := S) hg.2.2.2.1 h3 h1 h4 (by omega) h2 hg.2.1 (hg.2.2.2.2.1 _ hq) (by omega) (by omega) y2 y1 y3 y4
  have z2 : mc_cst (mj_u f 0 0 2 (nI (z - 1))) 0 0 ((o + (z - 1)) % 4 + 2) sc (fun j => 4 * ((o + (z - 1)) % 4 + 1) + j) c 0 0 2 = nI (z - 1) := by rw [y6 _ _ _ (by omega) (by omega) (by omega), mj_us]
  have C2 : mq_c (mc_cst (mj_u f 0 0 2 (nI (z - 1))) 0 0 ((o + (z - 1)) % 4 + 2) sc (fun j => 4 * ((o + (z - 1)) % 4 + 1) + j) c) g r2 s2 n2 H (Ds (z - 1)) (z - 1) Ds := by
    refine ⟨sc, hg, y5, ⟨o, h1, by omega, ?_, z2, fun k hk => ?_⟩⟩
    · rw [y6 _ _ _ (by omega) (by omega) (by omega), mj_uj (by decide)]; exact h3
    · obtain ⟨r3, s3, n3, h7⟩ := h5 k (by omega)
      exact ⟨r3, s3, n3, mr_S_e (mr_S_k h7 (fun k i j hn => A _ _ _ (by omega))) y6 (by omega) (by omega) (fun j hj => by omega)⟩
  generalize mc_cst (mj_u f 0 0 2 (nI (z - 1))) 0 0 ((o + (z - 1)) % 4 + 2) sc (fun j => 4 * ((o + (z - 1)) % 4 + 1) + j) c = F1 at rs z2 C2
  refine ⟨F1, r2, s2, n2, ?_, C2⟩
  simp (disch := omega) only [mj_x54, mj_g54_0, mj_g54_1, mj_g54_2, mj_g54_3, mj_g54_4, mj_g54_5, mj_g54_6, mj_g54_7, mj_g54_8, mj_g54_9, mj_g54_10, mj_g54_11, mj_g54_12, mj_g54_13, mj_g54_14, ↓reduceIte, Option.bind_some, Option.toList_some, Option.toList_none, List.cons_append, List.nil_append, mj_ixn, mj_add, mj_mul, mj_sub, mj_dv, mj_rmn, mj_ltT, mj_ltF, mj_leT, mj_leF, mj_eqT, mj_eqF, mj_z0T, mj_z0F, mj_bo0, mj_boc, mj_chk10, mj_chk11, and_self, not_true, not_false_eq_true, hg.1.1, hg.1.2.2.1, h4, rs, z2]
end QF
