/-! calls: set, heat, gun, reline -/
theorem mr_is_k {k : Nat} {v : Int32} (hk : k < 6) : mr_is (nI k) v ↔ mj_tb 1 k ≤ v ∧ v ≤ mj_tb 2 k := by
  have e6 : ∀ i, i < 6 → (nI k = nI i ↔ k = i) := fun i hi => mj_eq (by omega) (by omega)
  unfold mr_is
  rw [e6 0 (by omega), e6 1 (by omega), e6 2 (by omega), e6 3 (by omega), e6 4 (by omega), e6 5 (by omega)]
  have hk6 : k = 0 ∨ k = 1 ∨ k = 2 ∨ k = 3 ∨ k = 4 ∨ k = 5 := by omega
  rcases hk6 with rfl | rfl | rfl | rfl | rfl | rfl
  · exact Iff.trans (by simp) (show (nI 0 ≤ v ∧ v ≤ nI 2000) ↔ _ from Iff.rfl)
  · exact Iff.trans (by simp) (show (nI 1 ≤ v ∧ v ≤ nI 500) ↔ _ from Iff.rfl)
  · exact Iff.trans (by simp) (show (nI 1000 ≤ v ∧ v ≤ nI 100000) ↔ _ from Iff.rfl)
  · exact Iff.trans (by simp) (show (nI 50 ≤ v ∧ v ≤ nI 1000) ↔ _ from Iff.rfl)
  · exact Iff.trans (by simp) (show (nI 0 ≤ v ∧ v ≤ nI 100000) ↔ _ from Iff.rfl)
  · exact Iff.trans (by simp) (show (nI 1 ≤ v ∧ v ≤ nI 100) ↔ _ from Iff.rfl)
theorem mr_is_0 {w v : Int32} (h : mr_is w v) : nI 0 ≤ w ∧ w ≤ nI 5 := by
  rcases h with h | h | h | h | h | h
  all_goals rw [h.1]; exact ⟨(mj_le (by omega) (by omega)).mpr (by omega), (mj_le (by omega) (by omega)).mpr (by omega)⟩
section O2
variable {X : mj_X} {S : List (Nat × Nat)} {f F F2 : mj_F} {g G : mj_G} {r s n c H H2 z L j k : Nat} {sc sp : Nat → Nat} {D E : Nat → Int32} {Ds : Nat → Nat → Int32} {t : Nat → Int32} {w v a b : Int32}
theorem sp_ok_set (h : sp_ok D r s n H) (hk : k < 6) (hv : mj_tb 1 k ≤ v ∧ v ≤ mj_tb 2 k) : sp_ok (sp_u D (12 + k) v) r s n H := by
  obtain ⟨o1, o2, o3, ⟨a1, a2, a3, a4, a5, a6⟩, c, o5, o6, o7⟩ := h
  have h60 := o1.n60
  refine ⟨o1, by rw [sp_u_o (by omega)]; exact o2, by rw [sp_u_o (by omega)]; exact o3, ⟨by rw [sp_u_o (by omega)]; exact a1, fun i hi => by rw [sp_u_o (by omega)]; exact a2 i hi, ?_, ?_, ?_, fun i hi => by rw [sp_u_o (by omega), sp_u_o (by omega)]; exact a6 i hi⟩, c, o5, by rw [sp_u_o (by omega)]; exact o6, mr_U_e o7 (Nat.le_refl _) (sp_u_o (by omega)) (fun i hi => sp_u_o (by omega))⟩
  · by_cases c1 : k = 1
    · subst c1
      rw [sp_u_s]
      obtain ⟨x, x1, x2, x3⟩ := mr_rg (lo := 1) (hi := 500) (by omega) (by omega) hv
      exact ⟨x, x1, x2, x3⟩
    · rw [sp_u_o (by omega)]; exact a3
  · by_cases c1 : k = 2
    · subst c1
      rw [sp_u_s]
      obtain ⟨x, x1, x2, x3⟩ := mr_rg (lo := 1000) (hi := 100000) (by omega) (by omega) hv
      exact ⟨x, x2, x3⟩
    · rw [sp_u_o (by omega)]; exact a4
  · by_cases c1 : k = 5
    · subst c1
      rw [sp_u_s]
      obtain ⟨x, x1, x2, x3⟩ := mr_rg (lo := 1) (hi := 100) (by omega) (by omega) hv
      exact ⟨x, x1, x2, x3⟩
    · rw [sp_u_o (by omega)]; exact a5
theorem mr_set : mr_op X 62 112 [.inl a, .inl b] := by
  intro S f g r s n H D z Ds L t w hH hc hm
  have hz := mr_c_z hc
  have hc0 := hc
  obtain ⟨sc0, hg0, hS0, -⟩ := hc
  haveI : Decidable (mr_is a b) := Classical.propDecidable _
  have hI := md_isSetting (X := X) (w := a) (v := b) (σ := (S, f, g))
  by_cases c1 : nI 0 ≤ a ∧ a ≤ nI 5
  · obtain ⟨k, -, hk, rfl⟩ := mr_rg (by omega) (by omega) c1
    have ek := mr_is_k (v := b) (show k < 6 by omega)
    by_cases c2 : mj_tb 1 k ≤ b ∧ b ≤ mj_tb 2 k
    · obtain ⟨F, e1, e2, e3⟩ := mr_rec (X := X) (S := S) hc0
      have e20 := e2
      obtain ⟨sc, hg, hS, -⟩ := e2
      have L2 := mr_L_set (v := b) hS.1 (show k < 6 by omega)
      have FF : mr_F 0 F (mj_u F 11 0 k b) := fun k i j hn => mj_u_n (by omega)
      have hok := sp_ok_set hS.2.1 (show k < 6 by omega) c2
      have C2 := mr_c_G e20 (Nat.le_refl _) (mr_G_F FF) hg (mr_S_L hS FF L2 hok (fun i hi => sp_u_o (by omega)))
      have M1 := mr_m_c hm (mr_fc_t e3 (mr_fc_F FF))
      obtain ⟨F3, y1, y2, y3⟩ := mr_mrec (X := X) (S := S) hg.2.2.2.2.2.2.1.1 hg.2.2.2.2.2.2.1.2.1 M1 hz
      have hI2 := md_isSetting (X := X) (w := nI k) (v := b) (σ := (S, mj_u F 11 0 k b, g))
      rw [← mj_boT (ek.mpr c2)] at hI2
      have p1 : F 11 0 k = D (12 + k) := mr_L_s hS.1 (by omega)
      have p2 : F3 18 0 (12 + k) = D (12 + k) := by rw [y2.1]
      refine mr_done (v := D (12 + k)) (F := mj_u F 11 0 k b) (F2 := mj_u F3 18 0 (12 + k) b) ?_ C2 (by omega) ?_ (mr_fm_t y3 (mr_fm_u (by omega))) (fun _ _ => rfl) (mr_m_u y2)
      · simp (disch := omega) only [mj_x62, mj_g62_0, mj_g62_1, mj_g62_2, mj_g62_3, mj_g62_4, mj_g62_5, mj_g62_6, mj_g62_7, mj_g62_8, mj_g62_9, mj_g62_10, mj_g62_11, mj_g62_12, mj_g62_13, mj_g62_14, mj_g62_15, mj_g62_16, mj_g62_17, mj_g62_18, mj_g62_19, mj_g62_20, mj_g62_21, mj_g62_22, mj_g62_23, mj_g62_24, mj_g62_25, mj_g62_26, mj_g62_27, mj_g62_28, mj_g62_29, mj_g62_30, mj_g62_31, mj_g62_32, mj_g62_33, mj_g62_34, mj_g62_35, ↓reduceIte, Option.bind_some, Option.toList_some, Option.toList_none, List.cons_append, List.nil_append, mj_ixn, mj_add, mj_mul, mj_sub, mj_dv, mj_rmn, mj_ltT, mj_ltF, mj_leT, mj_leF, mj_eqT, mj_eqF, mj_z0T, mj_z0F, mj_bo0, mj_boc, mj_chk10, mj_chk11, and_self, not_true, not_false_eq_true, mc_within, hg0.1.1, hg0.2.1.1, hg0.1.2.2.1, e1, hg0.2.1.2.2.1.2.2.2.1, p1, eq_true c2]
      · simp (disch := omega) only [mj_x112, mj_g112_0, mj_g112_1, mj_g112_2, mj_g112_3, mj_g112_4, mj_g112_5, mj_g112_6, mj_g112_7, mj_g112_8, mj_g112_9, mj_g112_10, mj_g112_11, mj_g112_12, mj_g112_13, mj_g112_14, mj_g112_15, mj_g112_16, mj_g112_17, mj_g112_18, mj_g112_19, mj_g112_20, mj_g112_21, mj_g112_22, mj_g112_23, ↓reduceIte, Option.bind_some, Option.toList_some, Option.toList_none, List.cons_append, List.nil_append, mj_ixn, mj_add, mj_mul, mj_sub, mj_dv, mj_rmn, mj_ltT, mj_ltF, mj_leT, mj_leF, mj_eqT, mj_eqF, mj_z0T, mj_z0F, mj_bo0, mj_boc, mj_chk10, mj_chk11, and_self, not_true, not_false_eq_true, hI2, hg.2.2.2.2.2.2.1.1, y1, p2]
    · refine mr_same (v := (-1000001)) (F := f) (F2 := f) ?_ hc0 ?_ mr_fm_r hm
      · simp (disch := omega) only [mj_x62, mj_g62_0, mj_g62_1, mj_g62_2, mj_g62_3, mj_g62_4, mj_g62_5, mj_g62_6, mj_g62_7, mj_g62_8, mj_g62_9, mj_g62_10, mj_g62_11, mj_g62_12, mj_g62_13, mj_g62_14, mj_g62_15, ↓reduceIte, Option.bind_some, Option.toList_some, Option.toList_none, List.cons_append, List.nil_append, mj_ixn, mj_add, mj_mul, mj_sub, mj_dv, mj_rmn, mj_ltT, mj_ltF, mj_leT, mj_leF, mj_eqT, mj_eqF, mj_z0T, mj_z0F, mj_bo0, mj_boc, mj_chk10, mj_chk11, and_self, not_true, not_false_eq_true, mc_within, eq_false c2]
      · rw [← mj_boF (fun q_ => c2 (ek.mp q_))] at hI
        simp (disch := omega) only [mj_x112, mj_g112_0, mj_g112_1, mj_g112_2, mj_g112_3, mj_g112_4, mj_g112_5, ↓reduceIte, Option.bind_some, Option.toList_some, Option.toList_none, List.cons_append, List.nil_append, mj_ixn, mj_add, mj_mul, mj_sub, mj_dv, mj_rmn, mj_ltT, mj_ltF, mj_leT, mj_leF, mj_eqT, mj_eqF, mj_z0T, mj_z0F, mj_bo0, mj_boc, mj_chk10, mj_chk11, and_self, not_true, not_false_eq_true, hI]
  · refine mr_same (v := (-1000001)) (F := f) (F2 := f) ?_ hc0 ?_ mr_fm_r hm
    · simp (disch := omega) only [mj_x62, mj_g62_0, mj_g62_1, mj_g62_2, mj_g62_3, mj_g62_4, mj_g62_14, mj_g62_15, ↓reduceIte, Option.bind_some, Option.toList_some, Option.toList_none, List.cons_append, List.nil_append, mj_ixn, mj_add, mj_mul, mj_sub, mj_dv, mj_rmn, mj_ltT, mj_ltF, mj_leT, mj_leF, mj_eqT, mj_eqF, mj_z0T, mj_z0F, mj_bo0, mj_boc, mj_chk10, mj_chk11, and_self, not_true, not_false_eq_true, mc_within, eq_false c1]
    · rw [← mj_boF (fun q_ => c1 (mr_is_0 q_))] at hI
      simp (disch := omega) only [mj_x112, mj_g112_0, mj_g112_1, mj_g112_2, mj_g112_3, mj_g112_4, mj_g112_5, ↓reduceIte, Option.bind_some, Option.toList_some, Option.toList_none, List.cons_append, List.nil_append, mj_ixn, mj_add, mj_mul, mj_sub, mj_dv, mj_rmn, mj_ltT, mj_ltF, mj_leT, mj_leF, mj_eqT, mj_eqF, mj_z0T, mj_z0F, mj_bo0, mj_boc, mj_chk10, mj_chk11, and_self, not_true, not_false_eq_true, hI]
theorem mr_heat : mr_op X 63 115 [.inl a, .inl b] := by
  intro S f g r s n H D z Ds L t w hH hc hm
  have hz := mr_c_z hc
  have hc0 := hc
  obtain ⟨sc0, hg0, hS0, -⟩ := hc
  haveI : Decidable (mc_iH a b) := Classical.propDecidable _
  have hI := mc_isHeat (X := X) (S := S) (f := f) (g := g) (t := a) (sl := b)
  have hJ := md_isHeat (X := X) (S := S) (f := f) (g := g) (t := a) (sl := b)
  have ov : f 1 0 11 = D 5 := hS0.1.2.2.1.2.2.2
  have od : f 18 0 5 = D 5 := by rw [hm.1]
  have h5 := hS0.2.1.2.2.2.1.1
  by_cases c1 : mc_iH a b
  · rw [← mj_boT c1] at hI hJ
    rcases h5 with h5 | h5
    · obtain ⟨p, hp, ep, ep2⟩ := mr_fo c1
      obtain ⟨F, e1, e2, e3⟩ := mr_rec (X := X) (S := S) hc0
      have e20 := e2
      obtain ⟨sc, hg, hS, -⟩ := e2
      have hV := hS.2.1.2.2.2.1
      have h60 := hS.1.1.1.n60
      have L2 := mr_L_ht hS.1 hV hp h5
      have FF := mr_F_ht (a := 0) (f := F) (s := s) (n := n) (φ := nI p)
      have hok := sp_ok_ht hS.2.1 hp (by omega)
      have C2 := mr_c_G e20 (Nat.le_succ H) (mr_G_F FF) hg (mr_S_L hS FF L2 hok (fun i hi => sp_ht_o (by omega)))
      have M1 := mr_m_c hm (mr_fc_t e3 (mr_fc_F FF))
      have mh := mc_makeHeat (X := X) (S := S) (φ := mc_fo a b) hg.2.1.2.2.1 (mr_L_O hS.1 hV)
      rw [ep] at mh
      have hx := mr_L_x hS.1 hV hp
      have fo := mc_factorOf (X := X) (S := S) (f := F) (g := g) (t := a) (sl := b)
      rw [ep] at fo
      have od2 : mc_ht F 0 s n (nI p) 18 0 5 = D 5 := by rw [M1.1]
      have hJ2 := md_isHeat (X := X) (S := S) (f := mc_ht F 0 s n (nI p)) (g := g) (t := a) (sl := b)
      rw [← mj_boT c1] at hJ2
      obtain ⟨F3, y1, y2, y3⟩ := mr_mrec (X := X) (S := S) hg.2.2.2.2.2.2.1.1 hg.2.2.2.2.2.2.1.2.1 M1 hz
      have ok3 : sp_ok (F3 18 0) r s n H := by rw [y2.1]; exact hS.2.1
      have hh := md_heats (X := X) (S := S) (t := a) (sl := b) hg.2.2.2.2.2.2.1.1 hg.2.2.2.2.2.2.1.2.2.2.1 (md_O_ok ok3) (md_ok_13 ok3) (md_ok_17 ok3)
      rw [ep2] at hh
      have K3 : md_K 0 F3 (md_ht F3 0 s n (nI p)) := fun k i j hn => md_ht_o (by omega) (by omega)
      have M3 := mr_m_K y2 K3
      rw [md_ht_sp h60, y2.1] at M3
      have hx3 : md_hx F3 0 s n (nI p) = sp_x D s n (nI p) := by rw [← y2.1]; rfl
      refine mr_done (v := sp_x D s n (nI p)) (F := mc_ht F 0 s n (nI p)) (F2 := md_ht F3 0 s n (nI p)) ?_ C2 (by omega) ?_ (mr_fm_t y3 (mr_fm_K K3)) (fun _ _ => rfl) M3
      · simp (disch := omega) only [mj_x63, mj_g63_0, mj_g63_1, mj_g63_2, mj_g63_3, mj_g63_4, mj_g63_5, mj_g63_6, mj_g63_7, mj_g63_8, mj_g63_9, mj_g63_10, mj_g63_11, mj_g63_12, mj_g63_13, mj_g63_14, mj_g63_15, mj_g63_16, mj_g63_17, mj_g63_18, mj_g63_19, mj_g63_20, mj_g63_21, mj_g63_22, mj_g63_23, mj_g63_24, mj_g63_25, ↓reduceIte, Option.bind_some, Option.toList_some, Option.toList_none, List.cons_append, List.nil_append, mj_ixn, mj_add, mj_mul, mj_sub, mj_dv, mj_rmn, mj_ltT, mj_ltF, mj_leT, mj_leF, mj_eqT, mj_eqF, mj_z0T, mj_z0F, mj_bo0, mj_boc, mj_chk10, mj_chk11, and_self, not_true, not_false_eq_true, hI, hg0.1.1, hg0.2.1.1, ov, h5, hg0.1.2.2.1, e1, fo, mh, hx]
      · simp (disch := omega) only [mj_x115, mj_g115_0, mj_g115_1, mj_g115_2, mj_g115_3, mj_g115_4, mj_g115_5, mj_g115_6, mj_g115_7, mj_g115_8, mj_g115_9, mj_g115_10, mj_g115_11, mj_g115_12, mj_g115_13, mj_g115_14, mj_g115_15, mj_g115_16, mj_g115_17, mj_g115_18, mj_g115_19, mj_g115_20, ↓reduceIte, Option.bind_some, Option.toList_some, Option.toList_none, List.cons_append, List.nil_append, mj_ixn, mj_add, mj_mul, mj_sub, mj_dv, mj_rmn, mj_ltT, mj_ltF, mj_leT, mj_leF, mj_eqT, mj_eqF, mj_z0T, mj_z0F, mj_bo0, mj_boc, mj_chk10, mj_chk11, and_self, not_true, not_false_eq_true, hJ2, hg.2.2.2.2.2.2.1.1, od2, h5, y1, hh, hx3]
    · refine mr_same (v := (-1000002)) (F := f) (F2 := f) ?_ hc0 ?_ mr_fm_r hm
      · simp (disch := omega) only [mj_x63, mj_g63_0, mj_g63_1, mj_g63_2, mj_g63_3, mj_g63_4, mj_g63_5, mj_g63_6, mj_g63_7, mj_g63_8, mj_g63_9, mj_g63_10, mj_g63_11, mj_g63_12, ↓reduceIte, Option.bind_some, Option.toList_some, Option.toList_none, List.cons_append, List.nil_append, mj_ixn, mj_add, mj_mul, mj_sub, mj_dv, mj_rmn, mj_ltT, mj_ltF, mj_leT, mj_leF, mj_eqT, mj_eqF, mj_z0T, mj_z0F, mj_bo0, mj_boc, mj_chk10, mj_chk11, and_self, not_true, not_false_eq_true, hI, hg0.1.1, hg0.2.1.1, ov, h5]
      · simp (disch := omega) only [mj_x115, mj_g115_0, mj_g115_1, mj_g115_2, mj_g115_3, mj_g115_4, mj_g115_5, mj_g115_6, mj_g115_7, mj_g115_8, mj_g115_9, mj_g115_10, mj_g115_11, mj_g115_12, mj_g115_13, ↓reduceIte, Option.bind_some, Option.toList_some, Option.toList_none, List.cons_append, List.nil_append, mj_ixn, mj_add, mj_mul, mj_sub, mj_dv, mj_rmn, mj_ltT, mj_ltF, mj_leT, mj_leF, mj_eqT, mj_eqF, mj_z0T, mj_z0F, mj_bo0, mj_boc, mj_chk10, mj_chk11, and_self, not_true, not_false_eq_true, hJ, hg0.2.2.2.2.2.2.1.1, od, h5]
  · rw [← mj_boF c1] at hI hJ
    refine mr_same (v := (-1000001)) (F := f) (F2 := f) ?_ hc0 ?_ mr_fm_r hm
    · simp (disch := omega) only [mj_x63, mj_g63_0, mj_g63_1, mj_g63_2, mj_g63_3, mj_g63_4, mj_g63_5, ↓reduceIte, Option.bind_some, Option.toList_some, Option.toList_none, List.cons_append, List.nil_append, mj_ixn, mj_add, mj_mul, mj_sub, mj_dv, mj_rmn, mj_ltT, mj_ltF, mj_leT, mj_leF, mj_eqT, mj_eqF, mj_z0T, mj_z0F, mj_bo0, mj_boc, mj_chk10, mj_chk11, and_self, not_true, not_false_eq_true, hI]
    · simp (disch := omega) only [mj_x115, mj_g115_0, mj_g115_1, mj_g115_2, mj_g115_3, mj_g115_4, mj_g115_5, ↓reduceIte, Option.bind_some, Option.toList_some, Option.toList_none, List.cons_append, List.nil_append, mj_ixn, mj_add, mj_mul, mj_sub, mj_dv, mj_rmn, mj_ltT, mj_ltF, mj_leT, mj_leF, mj_eqT, mj_eqF, mj_z0T, mj_z0F, mj_bo0, mj_boc, mj_chk10, mj_chk11, and_self, not_true, not_false_eq_true, hJ]
theorem mr_gun : mr_op X 64 116 [.inl a, .inl b] := by
  intro S f g r s n H D z Ds L t w hH hc hm
  have hz := mr_c_z hc
  have hc0 := hc
  obtain ⟨sc0, hg0, hS0, -⟩ := hc
  have h60 := hS0.1.1.1.n60
  have hsn := hS0.1.1.1.sn
  have hs3 := hS0.1.1.1.2.2.1
  have ok0 : sp_ok (f 18 0) r s n H := by rw [hm.1]; exact hS0.2.1
  have hI := mc_hasSpot (X := X) (S := S) (g := g) (v := a) hS0.1.2.1.2.2
  have hJ := md_isSpot (X := X) (S := S) (v := a) hg0.2.2.2.2.2.2.1.1 (md_O_ok ok0)
  have hA := mc_isAmount (X := X) (S := S) (f := f) (g := g) (m := b)
  by_cases c1 : nI 0 ≤ a ∧ a ≤ nI n - nI 1
  · rw [← mj_boT c1] at hI hJ
    by_cases c2 : nI 1 ≤ b ∧ b ≤ nI 500
    · rw [← mj_boT c2] at hA
      obtain ⟨j, hj, rfl⟩ := mr_in (by omega) (by omega) c1
      obtain ⟨m, hm1, hm5, rfl⟩ := mr_am c2
      have hV := hS0.2.1.2.2.2.1
      have gr := mc_gunningRefusal (X := X) (S := S) (m := nI m) hg0.2.1.2.2.1 (show j < 60 by omega) (mr_L_T0 hS0.1 hV hj)
      rw [mr_L_gr hS0.1 hV hj] at gr
      have rf := md_refusal (X := X) (S := S) (q := nI m) hg0.2.2.2.2.2.2.1.1 (show j < 60 by omega) (md_ok_T ok0 j hj)
      have eg : md_gr f 0 j (nI m) = sp_gr D j (nI m) := by rw [← hm.1]; rfl
      rw [eg] at rf
      rcases sp_gr_c (D := D) (j := j) (q := nI m) with e_ | e_ | e_ | e_
      · rw [e_] at gr
        obtain ⟨F, e1, e2, e3⟩ := mr_rec (X := X) (S := S) hc0
        have e20 := e2
        obtain ⟨sc, hg, hS, -⟩ := e2
        have L2 := mr_L_po (q := nI m) hS.1 hj
        have FF := mr_F_po (a := 0) (f := F) (j := j) (q := nI m)
        have hok := sp_ok_po hS.2.1 hj hm5 e_
        have C2 := mr_c_G e20 (Nat.le_refl _) (mr_G_F FF) hg (mr_S_L hS FF L2 hok (fun i hi => sp_po_o (by omega)))
        have M1 := mr_m_c hm (mr_fc_t e3 (mr_fc_F FF))
        have po := mc_putOn (X := X) (S := S) (m := nI m) hg.2.1.2.2.1 (show j < 60 by omega) (mr_L_T0 hS.1 hV hj)
        rw [mr_L_sy hS.1 hj] at po
        generalize mc_po F 0 j (nI m) = F1 at C2 M1 po
        have ok1 : sp_ok (F1 18 0) r s n H := by rw [M1.1]; exact hS0.2.1
        have hJ2 := md_isSpot (X := X) (S := S) (v := nI j) hg.2.2.2.2.2.2.1.1 (md_O_ok ok1)
        rw [← mj_boT c1] at hJ2
        have rf2 := md_refusal (X := X) (S := S) (q := nI m) hg.2.2.2.2.2.2.1.1 (show j < 60 by omega) (md_ok_T ok1 j hj)
        have eg2 : md_gr F1 0 j (nI m) = sp_gr D j (nI m) := by rw [← M1.1]; rfl
        rw [eg2, e_] at rf2
        obtain ⟨F3, y1, y2, y3⟩ := mr_mrec (X := X) (S := S) hg.2.2.2.2.2.2.1.1 hg.2.2.2.2.2.2.1.2.1 M1 hz
        have ok3 : sp_ok (F3 18 0) r s n H := by rw [y2.1]; exact hS.2.1
        have gu := md_guns (X := X) (S := S) (q := nI m) hg.2.2.2.2.2.2.1.1 (show j < 60 by omega) (md_ok_T ok3 j hj)
        have es : md_sy F3 0 j (nI m) = sp_sy D j (nI m) := by rw [← y2.1]; rfl
        rw [es] at gu
        have K3 : md_K 0 F3 (md_po F3 0 j (nI m)) := fun k i j2 hn => by
          unfold md_po
          rw [mj_u_n (by omega), mj_u_n (by omega), mj_u_n (by omega)]
        have M3 := mr_m_K y2 K3
        rw [md_po_sp (by omega), y2.1] at M3
        refine mr_done (v := sp_sy D j (nI m)) (F := F1) (F2 := md_po F3 0 j (nI m)) ?_ C2 (by omega) ?_ (mr_fm_t y3 (mr_fm_K K3)) (fun _ _ => rfl) M3
        · simp (disch := omega) only [mj_x64, mj_g64_0, mj_g64_1, mj_g64_2, mj_g64_3, mj_g64_4, mj_g64_5, mj_g64_6, mj_g64_7, mj_g64_8, mj_g64_9, mj_g64_10, mj_g64_11, mj_g64_12, mj_g64_13, mj_g64_14, mj_g64_15, mj_g64_16, mj_g64_17, mj_g64_18, mj_g64_19, mj_g64_20, mj_g64_21, mj_g64_22, mj_g64_23, mj_g64_24, mj_g64_25, mj_g64_26, mj_g64_27, mj_g64_28, mj_g64_29, mj_g64_30, mj_g64_31, mj_g64_32, mj_g64_33, mj_g64_34, mj_g64_35, mj_g64_36, ↓reduceIte, Option.bind_some, Option.toList_some, Option.toList_none, List.cons_append, List.nil_append, mj_ixn, mj_add, mj_mul, mj_sub, mj_dv, mj_rmn, mj_ltT, mj_ltF, mj_leT, mj_leF, mj_eqT, mj_eqF, mj_z0T, mj_z0F, mj_bo0, mj_boc, mj_chk10, mj_chk11, and_self, not_true, not_false_eq_true, hI, hA, gr, hg0.1.1, hg0.2.1.1, hg0.1.2.2.1, e1, po]
        · simp (disch := omega) only [mj_x116, mj_g116_0, mj_g116_1, mj_g116_2, mj_g116_3, mj_g116_4, mj_g116_5, mj_g116_6, mj_g116_7, mj_g116_8, mj_g116_9, mj_g116_10, mj_g116_11, mj_g116_12, mj_g116_13, mj_g116_14, mj_g116_15, mj_g116_16, mj_g116_17, mj_g116_25, mj_g116_26, mj_g116_27, mj_g116_28, mj_g116_29, mj_g116_30, mj_g116_31, ↓reduceIte, Option.bind_some, Option.toList_some, Option.toList_none, List.cons_append, List.nil_append, mj_ixn, mj_add, mj_mul, mj_sub, mj_dv, mj_rmn, mj_ltT, mj_ltF, mj_leT, mj_leF, mj_eqT, mj_eqF, mj_z0T, mj_z0F, mj_bo0, mj_boc, mj_chk10, mj_chk11, and_self, not_true, not_false_eq_true, hJ2, mc_in, rf2, mj_le00, y1, gu]
      · rw [e_] at gr rf
        refine mr_same (v := (-1000002)) (F := f) (F2 := f) ?_ hc0 ?_ mr_fm_r hm
        · simp (disch := omega) only [mj_x64, mj_g64_0, mj_g64_1, mj_g64_2, mj_g64_3, mj_g64_4, mj_g64_5, mj_g64_6, mj_g64_7, mj_g64_8, mj_g64_9, mj_g64_10, mj_g64_11, mj_g64_12, mj_g64_13, mj_g64_14, mj_g64_15, mj_g64_16, mj_g64_17, mj_g64_18, mj_g64_19, mj_g64_20, mj_g64_21, mj_g64_22, mj_g64_23, mj_g64_24, mj_g64_25, mj_g64_26, ↓reduceIte, Option.bind_some, Option.toList_some, Option.toList_none, List.cons_append, List.nil_append, mj_ixn, mj_add, mj_mul, mj_sub, mj_dv, mj_rmn, mj_ltT, mj_ltF, mj_leT, mj_leF, mj_eqT, mj_eqF, mj_z0T, mj_z0F, mj_bo0, mj_boc, mj_chk10, mj_chk11, and_self, not_true, not_false_eq_true, hI, hA, gr, hg0.1.1, hg0.2.1.1]
        · simp (disch := omega) only [mj_x116, mj_g116_0, mj_g116_1, mj_g116_2, mj_g116_3, mj_g116_4, mj_g116_5, mj_g116_6, mj_g116_7, mj_g116_8, mj_g116_9, mj_g116_10, mj_g116_11, mj_g116_12, mj_g116_13, mj_g116_14, mj_g116_15, mj_g116_16, mj_g116_17, mj_g116_18, mj_g116_19, mj_g116_20, mj_g116_21, mj_g116_22, mj_g116_23, mj_g116_24, ↓reduceIte, Option.bind_some, Option.toList_some, Option.toList_none, List.cons_append, List.nil_append, mj_ixn, mj_add, mj_mul, mj_sub, mj_dv, mj_rmn, mj_ltT, mj_ltF, mj_leT, mj_leF, mj_eqT, mj_eqF, mj_z0T, mj_z0F, mj_bo0, mj_boc, mj_chk10, mj_chk11, and_self, not_true, not_false_eq_true, hJ, mc_in, rf, mj_le01]
      · rw [e_] at gr rf
        refine mr_same (v := (-1000002)) (F := f) (F2 := f) ?_ hc0 ?_ mr_fm_r hm
        · simp (disch := omega) only [mj_x64, mj_g64_0, mj_g64_1, mj_g64_2, mj_g64_3, mj_g64_4, mj_g64_5, mj_g64_6, mj_g64_7, mj_g64_8, mj_g64_9, mj_g64_10, mj_g64_11, mj_g64_12, mj_g64_13, mj_g64_14, mj_g64_15, mj_g64_16, mj_g64_17, mj_g64_18, mj_g64_19, mj_g64_20, mj_g64_21, mj_g64_22, mj_g64_23, mj_g64_24, mj_g64_25, mj_g64_26, ↓reduceIte, Option.bind_some, Option.toList_some, Option.toList_none, List.cons_append, List.nil_append, mj_ixn, mj_add, mj_mul, mj_sub, mj_dv, mj_rmn, mj_ltT, mj_ltF, mj_leT, mj_leF, mj_eqT, mj_eqF, mj_z0T, mj_z0F, mj_bo0, mj_boc, mj_chk10, mj_chk11, and_self, not_true, not_false_eq_true, hI, hA, gr, hg0.1.1, hg0.2.1.1]
        · simp (disch := omega) only [mj_x116, mj_g116_0, mj_g116_1, mj_g116_2, mj_g116_3, mj_g116_4, mj_g116_5, mj_g116_6, mj_g116_7, mj_g116_8, mj_g116_9, mj_g116_10, mj_g116_11, mj_g116_12, mj_g116_13, mj_g116_14, mj_g116_15, mj_g116_16, mj_g116_17, mj_g116_18, mj_g116_19, mj_g116_20, mj_g116_21, mj_g116_22, mj_g116_23, mj_g116_24, ↓reduceIte, Option.bind_some, Option.toList_some, Option.toList_none, List.cons_append, List.nil_append, mj_ixn, mj_add, mj_mul, mj_sub, mj_dv, mj_rmn, mj_ltT, mj_ltF, mj_leT, mj_leF, mj_eqT, mj_eqF, mj_z0T, mj_z0F, mj_bo0, mj_boc, mj_chk10, mj_chk11, and_self, not_true, not_false_eq_true, hJ, mc_in, rf, mj_le02]
      · rw [e_] at gr rf
        refine mr_same (v := (-1000003)) (F := f) (F2 := f) ?_ hc0 ?_ mr_fm_r hm
        · simp (disch := omega) only [mj_x64, mj_g64_0, mj_g64_1, mj_g64_2, mj_g64_3, mj_g64_4, mj_g64_5, mj_g64_6, mj_g64_7, mj_g64_8, mj_g64_9, mj_g64_10, mj_g64_11, mj_g64_12, mj_g64_13, mj_g64_14, mj_g64_15, mj_g64_16, mj_g64_17, mj_g64_18, mj_g64_19, mj_g64_20, mj_g64_21, mj_g64_22, mj_g64_23, mj_g64_24, mj_g64_25, mj_g64_26, ↓reduceIte, Option.bind_some, Option.toList_some, Option.toList_none, List.cons_append, List.nil_append, mj_ixn, mj_add, mj_mul, mj_sub, mj_dv, mj_rmn, mj_ltT, mj_ltF, mj_leT, mj_leF, mj_eqT, mj_eqF, mj_z0T, mj_z0F, mj_bo0, mj_boc, mj_chk10, mj_chk11, and_self, not_true, not_false_eq_true, hI, hA, gr, hg0.1.1, hg0.2.1.1]
        · simp (disch := omega) only [mj_x116, mj_g116_0, mj_g116_1, mj_g116_2, mj_g116_3, mj_g116_4, mj_g116_5, mj_g116_6, mj_g116_7, mj_g116_8, mj_g116_9, mj_g116_10, mj_g116_11, mj_g116_12, mj_g116_13, mj_g116_14, mj_g116_15, mj_g116_16, mj_g116_17, mj_g116_18, mj_g116_19, mj_g116_20, mj_g116_21, mj_g116_22, mj_g116_23, mj_g116_24, ↓reduceIte, Option.bind_some, Option.toList_some, Option.toList_none, List.cons_append, List.nil_append, mj_ixn, mj_add, mj_mul, mj_sub, mj_dv, mj_rmn, mj_ltT, mj_ltF, mj_leT, mj_leF, mj_eqT, mj_eqF, mj_z0T, mj_z0F, mj_bo0, mj_boc, mj_chk10, mj_chk11, and_self, not_true, not_false_eq_true, hJ, mc_in, rf, mj_le03]
    · rw [← mj_boF c2] at hA
      refine mr_same (v := (-1000001)) (F := f) (F2 := f) ?_ hc0 ?_ mr_fm_r hm
      · simp (disch := omega) only [mj_x64, mj_g64_0, mj_g64_1, mj_g64_2, mj_g64_3, mj_g64_4, mj_g64_5, mj_g64_6, mj_g64_7, mj_g64_8, mj_g64_9, mj_g64_10, mj_g64_11, mj_g64_12, ↓reduceIte, Option.bind_some, Option.toList_some, Option.toList_none, List.cons_append, List.nil_append, mj_ixn, mj_add, mj_mul, mj_sub, mj_dv, mj_rmn, mj_ltT, mj_ltF, mj_leT, mj_leF, mj_eqT, mj_eqF, mj_z0T, mj_z0F, mj_bo0, mj_boc, mj_chk10, mj_chk11, and_self, not_true, not_false_eq_true, hI, hA, hg0.1.1, hg0.2.1.1]
      · simp (disch := omega) only [mj_x116, mj_g116_0, mj_g116_1, mj_g116_2, mj_g116_3, mj_g116_4, mj_g116_5, mj_g116_6, mj_g116_7, mj_g116_8, mj_g116_9, mj_g116_10, ↓reduceIte, Option.bind_some, Option.toList_some, Option.toList_none, List.cons_append, List.nil_append, mj_ixn, mj_add, mj_mul, mj_sub, mj_dv, mj_rmn, mj_ltT, mj_ltF, mj_leT, mj_leF, mj_eqT, mj_eqF, mj_z0T, mj_z0F, mj_bo0, mj_boc, mj_chk10, mj_chk11, and_self, not_true, not_false_eq_true, hJ, mc_in, eq_false c2]
  · rw [← mj_boF c1] at hI hJ
    refine mr_same (v := (-1000001)) (F := f) (F2 := f) ?_ hc0 ?_ mr_fm_r hm
    · simp (disch := omega) only [mj_x64, mj_g64_0, mj_g64_1, mj_g64_2, mj_g64_3, mj_g64_4, mj_g64_5, mj_g64_6, mj_g64_7, mj_g64_8, mj_g64_9, mj_g64_10, mj_g64_11, mj_g64_12, ↓reduceIte, Option.bind_some, Option.toList_some, Option.toList_none, List.cons_append, List.nil_append, mj_ixn, mj_add, mj_mul, mj_sub, mj_dv, mj_rmn, mj_ltT, mj_ltF, mj_leT, mj_leF, mj_eqT, mj_eqF, mj_z0T, mj_z0F, mj_bo0, mj_boc, mj_chk10, mj_chk11, and_self, not_true, not_false_eq_true, hI, hg0.1.1, hg0.2.1.1]
    · simp (disch := omega) only [mj_x116, mj_g116_0, mj_g116_1, mj_g116_2, mj_g116_3, mj_g116_4, mj_g116_5, mj_g116_6, mj_g116_7, mj_g116_8, mj_g116_9, mj_g116_10, ↓reduceIte, Option.bind_some, Option.toList_some, Option.toList_none, List.cons_append, List.nil_append, mj_ixn, mj_add, mj_mul, mj_sub, mj_dv, mj_rmn, mj_ltT, mj_ltF, mj_leT, mj_leF, mj_eqT, mj_eqF, mj_z0T, mj_z0F, mj_bo0, mj_boc, mj_chk10, mj_chk11, and_self, not_true, not_false_eq_true, hJ]
end O2
