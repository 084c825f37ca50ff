/-! calls: reline, scan, undo -/
section O3
variable {X : mj_X} {S : List (Nat × Nat)} {f F F2 : mj_F} {g G : mj_G} {r s n c H H2 z L j k d : Nat} {sc sp : Nat → Nat} {D E : Nat → Int32} {Ds : Nat → Nat → Int32} {t : Nat → Int32} {w v a b : Int32}
theorem sp_ok_lu (h : sp_ok D r s n H) : sp_ok (sp_lu D) r s n H := by
  obtain ⟨o1, o2, o3, ⟨a1, a2, a3, a4, a5, a6⟩, c, o5, o6, o7⟩ := h
  exact ⟨o1, by rw [sp_lu_o (by omega)]; exact o2, by rw [sp_lu_o (by omega)]; exact o3, ⟨Or.inl rfl, fun i hi => by rw [sp_lu_o (by omega)]; exact a2 i hi, by rw [sp_lu_o (by omega)]; exact a3, by rw [sp_lu_o (by omega)]; exact a4, by rw [sp_lu_o (by omega)]; exact a5, fun i hi => by rw [sp_lu_o (by omega), sp_lu_o (by omega)]; exact a6 i hi⟩, c, o5, by rw [sp_lu_o (by omega)]; exact o6, mr_U_e o7 (Nat.le_refl _) (sp_lu_o (by omega)) (fun i hi => sp_lu_o (by omega))⟩
theorem sp_ok_la (h : sp_ok D r s n H) : sp_ok (sp_la D n) r s n H := sp_ok_lr (sp_ok_lu h) (by omega)
theorem sp_lx_lu (h60 : n ≤ 60) : sp_lx (sp_lu D) 0 n = sp_lx D 0 n := by
  unfold sp_lx
  refine mc_sm_congr (fun i hi => ?_)
  unfold sp_T
  rw [sp_lu_o (by omega), sp_lu_o (by omega)]
theorem mr_ring (hr : 0 < r) (hr6 : r ≤ 6) : ((-1 : Int32) ≤ a ∧ a ≤ nI r - nI 1) ↔ (a = -1 ∨ (nI 0 ≤ a ∧ a ≤ nI r - nI 1)) := by
  have e1 : (-1 : Int32).toInt = -1 := by decide
  rw [mj_sub (by omega), Int32.le_iff_toInt_le, Int32.le_iff_toInt_le, Int32.le_iff_toInt_le, nI_toInt (n := r - 1) (by omega), nI_toInt (n := 0) (by omega), e1]
  constructor
  · intro ⟨h1, h2⟩
    by_cases c1 : a.toInt = -1
    · exact Or.inl (Int32.toInt_inj.mp (c1.trans e1.symm))
    · exact Or.inr ⟨by omega, h2⟩
  · rintro (rfl | ⟨h1, h2⟩)
    · rw [e1]; omega
    · omega
theorem mr_m1n (hj : j < 2147483648) : ¬ nI j = -1 := by
  intro q_
  have h1 := (mj_ge0 hj).mpr trivial
  rw [q_] at h1
  exact absurd h1 (by decide)
theorem mr_reline : mr_op X 65 117 [.inl a] := by
  intro S f g r s n H D z Ds L t w hH hc hm
  have hz := mr_c_z hc
  have hc0 := hc
  obtain ⟨sc0, hg0, hS0, -⟩ := hc
  have hG := hS0.1.1.1
  have hr1 := hG.1
  have hr6 := hG.2.1
  have hs3 := hG.2.2.1
  have hs10 := hG.2.2.2.1
  have hnn := hG.2.2.2.2
  have h60 := hG.n60
  have d0 : f 18 0 0 = nI r := by rw [hm.1]; exact hS0.1.1.2.1
  have hR := mc_hasRing (X := X) (S := S) (g := g) (v := a) hS0.1.2.1.1
  have er := mr_ring (a := a) (r := r) hr1 hr6
  by_cases c0 : a = -1
  · subst c0
    obtain ⟨F, e1, e2, e3⟩ := mr_rec (X := X) (S := S) hc0
    have e20 := e2
    obtain ⟨sc, hg, hS, -⟩ := e2
    obtain ⟨L2, lx, FF⟩ := mr_L_la hS.1
    have hok := sp_ok_la hS.2.1
    have C2 := mr_c_G e20 (Nat.le_refl _) (mr_G_F FF) hg (mr_S_L hS FF L2 hok (fun i hi => by unfold sp_la; rw [sp_lr_o (by omega), sp_lu_o (by omega)]))
    have M1 := mr_m_c hm (mr_fc_t e3 (mr_fc_F FF))
    have la := mc_layAllRings (X := X) (S := S) hg.2.1.2.2.1 hS.1.2.1.1 hS.1.2.1.2.1 hG
    rw [lx] at la
    generalize mc_la F 0 s r = F1 at C2 M1 la
    have d1 : F1 18 0 0 = nI r := by rw [M1.1]; exact hS0.1.1.2.1
    obtain ⟨F3, y1, y2, y3⟩ := mr_mrec (X := X) (S := S) hg.2.2.2.2.2.2.1.1 hg.2.2.2.2.2.2.1.2.1 M1 hz
    have p4 : F3 18 0 4 = D 4 := by rw [y2.1]
    have M3 := mr_m_u (v := nI 0) (j := 5) (mr_m_u (v := nI 0) (j := 3) (mr_m_u (v := D 4 + nI 1) (j := 4) y2))
    have K3 : md_K 0 F3 (mj_u (mj_u (mj_u F3 18 0 4 (D 4 + nI 1)) 18 0 3 (nI 0)) 18 0 5 (nI 0)) := fun k i j hn => by rw [mj_u_n (by omega), mj_u_n (by omega), mj_u_n (by omega)]
    have e5 : sp_u (sp_u (sp_u D 4 (D 4 + nI 1)) 3 (nI 0)) 5 (nI 0) = sp_lu D := rfl
    rw [e5] at M3
    have m1 : ((-1 : Int32) < 0) = True := eq_true (by decide)
    have g1 : mj_x X 117 [.inr (6, 0), .inl (-1)] (S, F1, g) = mj_g X 117 54 [some (.inr (6, 0)), some (.inl (-1))] [] (S, mj_u (mj_u (mj_u F3 18 0 4 (D 4 + nI 1)) 18 0 3 (nI 0)) 18 0 5 (nI 0), g) := by
      simp (disch := omega) only [mj_x117, mj_g117_0, mj_g117_1, mj_g117_2, mj_g117_3, mj_g117_4, mj_g117_5, mj_g117_6, mj_g117_7, mj_g117_8, mj_g117_9, mj_g117_12, mj_g117_13, mj_g117_14, mj_g117_15, mj_g117_36, mj_g117_37, mj_g117_38, mj_g117_39, mj_g117_40, mj_g117_41, mj_g117_42, mj_g117_43, mj_g117_44, mj_g117_45, mj_g117_46, mj_g117_47, mj_g117_48, mj_g117_49, mj_g117_50, mj_g117_51, mj_g117_52, mj_g117_53, ↓reduceIte, Option.bind_some, Option.toList_some, Option.toList_none, List.cons_append, List.nil_append, mj_ixn, mj_bo0, and_self, not_true, not_false_eq_true, mc_in, hg.2.2.2.2.2.2.1.1, d1, eq_true (er.mpr (Or.inl rfl)), y1, p4, m1]
    generalize mj_u (mj_u (mj_u F3 18 0 4 (D 4 + nI 1)) 18 0 3 (nI 0)) 18 0 5 (nI 0) = F4 at M3 K3 g1
    have ok4 : sp_ok (F4 18 0) r s n H := by rw [M3.1]; exact sp_ok_lu hS.2.1
    have rl := md_relines (X := X) (S := S) (f := F4) (b := 0) (c := n) hg.2.2.2.2.2.2.1.1 (by omega)
    rw [Nat.zero_add] at rl
    have ex : md_lx F4 0 0 n = sp_lx D 0 n := by rw [← sp_lx_lu h60, ← M3.1]; rfl
    rw [ex] at rl
    have K4 : md_K 0 F4 (md_lr F4 0 0 n) := fun k i j2 hn => by
      unfold md_lr
      rw [mj_u_n (by omega), md_ly_o (by omega)]
    have M4 := mr_m_K M3 K4
    rw [md_lr_sp (by omega), M3.1] at M4
    refine mr_done (v := sp_lx D 0 n) (F := F1) (F2 := md_lr F4 0 0 n) ?_ C2 (by omega) ?_ (mr_fm_t y3 (mr_fm_t (mr_fm_K K3) (mr_fm_K K4))) (fun _ _ => rfl) M4
    · simp (disch := omega) only [mj_x65, mj_g65_0, mj_g65_1, mj_g65_2, mj_g65_3, mj_g65_4, mj_g65_5, mj_g65_6, mj_g65_7, mj_g65_8, mj_g65_9, mj_g65_10, mj_g65_11, mj_g65_12, mj_g65_13, mj_g65_14, mj_g65_15, mj_g65_16, mj_g65_17, mj_g65_18, mj_g65_19, mj_g65_20, mj_g65_21, mj_g65_22, mj_g65_23, mj_g65_24, mj_g65_25, mj_g65_26, mj_g65_27, mj_g65_28, mj_g65_29, ↓reduceIte, Option.bind_some, Option.toList_some, Option.toList_none, List.cons_append, List.nil_append, mj_ixn, mj_add, mj_mul, mj_sub, mj_dv, mj_rmn, mj_ltT, mj_ltF, mj_leT, mj_leF, mj_eqT, mj_eqF, mj_z0T, mj_z0F, mj_bo0, mj_boc, mj_chk10, mj_chk11, and_self, not_true, not_false_eq_true, hg0.1.1, hg0.2.1.1, hg0.1.2.2.1, e1, la]
    · rw [g1]
      simp (disch := omega) only [mj_g117_54, mj_g117_55, mj_g117_56, mj_g117_57, mj_g117_58, mj_g117_59, ↓reduceIte, Option.bind_some, Option.toList_some, Option.toList_none, List.cons_append, List.nil_append, mj_ixn, mj_add, mj_mul, mj_sub, mj_dv, mj_rmn, mj_ltT, mj_ltF, mj_leT, mj_leF, mj_eqT, mj_eqF, mj_z0T, mj_z0F, mj_bo0, mj_boc, mj_chk10, mj_chk11, and_self, not_true, not_false_eq_true, md_spots hg.2.2.2.2.2.2.1.1 (md_O_ok ok4), rl]
  · by_cases c1 : nI 0 ≤ a ∧ a ≤ nI r - nI 1
    · rw [← mj_boT c1] at hR
      obtain ⟨j, hj, rfl⟩ := mr_in (by omega) (by omega) c1
      obtain ⟨F, e1, e2, e3⟩ := mr_rec (X := X) (S := S) hc0
      have e20 := e2
      obtain ⟨sc, hg, hS, -⟩ := e2
      have h7 := Nat.mul_le_mul_left s (show j + 1 ≤ r from hj)
      rw [Nat.mul_add, Nat.mul_one, Nat.mul_comm s r, ← hnn] at h7
      have L2 := mr_L_lr hS.1 hj
      have FF := mr_F_lr (a := 0) (f := F) (s := s) (j := j)
      have hok := sp_ok_lr hS.2.1 h7
      have C2 := mr_c_G e20 (Nat.le_refl _) (mr_G_F FF) hg (mr_S_L hS FF L2 hok (fun i hi => sp_lr_o (by omega)))
      have M1 := mr_m_c hm (mr_fc_t e3 (mr_fc_F FF))
      have lr := mc_layRing (X := X) (S := S) (j := j) hg.2.1.2.2.1 hS.1.2.1.2.1 (by omega) (by omega) (by rw [Nat.mul_comm]; omega)
      rw [mr_L_lrx hS.1 hj] at lr
      generalize mc_lr F 0 s j = F1 at C2 M1 lr
      have d1 : F1 18 0 0 = nI r := by rw [M1.1]; exact hS0.1.1.2.1
      obtain ⟨F3, y1, y2, y3⟩ := mr_mrec (X := X) (S := S) hg.2.2.2.2.2.2.1.1 hg.2.2.2.2.2.2.1.2.1 M1 hz
      have d3 : F3 18 0 1 = nI s := by rw [y2.1]; exact hS0.1.1.2.2
      have rl := md_relines (X := X) (S := S) (f := F3) (b := s * j) (c := s) hg.2.2.2.2.2.2.1.1 (by omega)
      have ex : md_lx F3 0 (s * j) s = sp_lx D (s * j) s := by rw [← y2.1]; rfl
      rw [ex] at rl
      have K4 : md_K 0 F3 (md_lr F3 0 (s * j) s) := fun k i j2 hn => by
        unfold md_lr
        rw [mj_u_n (by omega), md_ly_o (by omega)]
      have M4 := mr_m_K y2 K4
      rw [md_lr_sp (by omega), y2.1] at M4
      have nm1 := mr_m1n (j := j) (by omega)
      refine mr_done (v := sp_lx D (s * j) s) (F := F1) (F2 := md_lr F3 0 (s * j) s) ?_ C2 (by omega) ?_ (mr_fm_t y3 (mr_fm_K K4)) (fun _ _ => rfl) M4
      · simp (disch := omega) only [mj_x65, mj_g65_0, mj_g65_1, mj_g65_2, mj_g65_3, mj_g65_4, mj_g65_5, mj_g65_6, mj_g65_7, mj_g65_8, mj_g65_9, mj_g65_10, mj_g65_11, mj_g65_12, mj_g65_13, mj_g65_14, mj_g65_15, mj_g65_16, mj_g65_17, mj_g65_18, mj_g65_19, mj_g65_20, mj_g65_21, mj_g65_22, mj_g65_23, mj_g65_24, mj_g65_25, mj_g65_26, mj_g65_27, mj_g65_28, mj_g65_29, ↓reduceIte, Option.bind_some, Option.toList_some, Option.toList_none, List.cons_append, List.nil_append, mj_ixn, mj_add, mj_mul, mj_sub, mj_dv, mj_rmn, mj_ltT, mj_ltF, mj_leT, mj_leF, mj_eqT, mj_eqF, mj_z0T, mj_z0F, mj_bo0, mj_boc, mj_chk10, mj_chk11, and_self, not_true, not_false_eq_true, hg0.1.1, hg0.2.1.1, hg0.1.2.2.1, hR, nm1, e1, lr]
      · simp (disch := omega) only [mj_x117, mj_g117_0, mj_g117_1, mj_g117_2, mj_g117_3, mj_g117_4, mj_g117_5, mj_g117_6, mj_g117_7, mj_g117_8, mj_g117_9, mj_g117_12, mj_g117_13, mj_g117_14, mj_g117_15, mj_g117_16, mj_g117_17, mj_g117_18, mj_g117_19, mj_g117_20, mj_g117_21, mj_g117_22, mj_g117_23, mj_g117_24, mj_g117_25, mj_g117_26, mj_g117_27, mj_g117_28, mj_g117_29, mj_g117_30, mj_g117_31, mj_g117_32, mj_g117_33, mj_g117_34, mj_g117_35, ↓reduceIte, Option.bind_some, Option.toList_some, Option.toList_none, List.cons_append, List.nil_append, mj_ixn, mj_bo0, and_self, not_true, not_false_eq_true, mj_mul, mj_add, mj_lt0, mc_in, hg.2.2.2.2.2.2.1.1, d1, d3, eq_true (er.mpr (Or.inr c1)), y1, rl]
    · rw [← mj_boF c1] at hR
      refine mr_same (v := (-1000001)) (F := f) (F2 := f) ?_ hc0 ?_ mr_fm_r hm
      · simp (disch := omega) only [mj_x65, mj_g65_0, mj_g65_1, mj_g65_2, mj_g65_3, mj_g65_4, mj_g65_5, mj_g65_6, mj_g65_7, mj_g65_8, mj_g65_9, mj_g65_10, ↓reduceIte, Option.bind_some, Option.toList_some, Option.toList_none, List.cons_append, List.nil_append, mj_ixn, mj_add, mj_mul, mj_sub, mj_dv, mj_rmn, mj_ltT, mj_ltF, mj_leT, mj_leF, mj_eqT, mj_eqF, mj_z0T, mj_z0F, mj_bo0, mj_boc, mj_chk10, mj_chk11, and_self, not_true, not_false_eq_true, hg0.1.1, hg0.2.1.1, c0, hR]
      · simp (disch := omega) only [mj_x117, mj_g117_0, mj_g117_1, mj_g117_2, mj_g117_3, mj_g117_4, mj_g117_5, mj_g117_6, mj_g117_7, mj_g117_8, mj_g117_9, mj_g117_10, mj_g117_11, ↓reduceIte, Option.bind_some, Option.toList_some, Option.toList_none, List.cons_append, List.nil_append, mj_ixn, mj_bo0, and_self, not_true, not_false_eq_true, mc_in, hg0.2.2.2.2.2.2.1.1, d0, eq_false (fun q_ => (er.mp q_).elim c0 c1)]
theorem mc_cn_congr {p q : Nat → Bool} (h : ∀ i, i < n → p i = q i) : mc_cn p n = mc_cn q n := by
  induction n with
  | zero => rfl
  | succ n ih =>
    show mc_cn p n + _ = mc_cn q n + _
    rw [ih (fun i hi => h i (by omega)), h n (by omega)]
theorem md_hotl {l1 l2 : Option mj_V} (hg : g 6 0 0 = some (18, 0)) (hO : md_O f 0 r s n) (hd : f 18 0 142 = nI (d + 1)) (hd4 : d < 4) : mj_g X 118 4 [some (.inr (6, 0)), l1, l2] [] (S, f, g) = some (some (.inl (nI (mc_cn (fun j => decide (¬ f 18 0 (147 + 60 * d + j) < f 18 0 15)) n))), (S, f, g)) := by
  have h60 := hO.2.2.n60
  have hl := mj_loop (fun k => mj_g X 118 8 [some (.inr (6, 0)), some (.inl (nI (mc_cn (fun j => decide (¬ f 18 0 (147 + 60 * d + j) < f 18 0 15)) k))), some (.inl (nI k))] [] (S, f, g)) n (fun k hk => by
    have hh := md_isHot (X := X) (S := S) (f := f) (k := d) (j := k) hg (by omega) (by omega)
    have ed : d + 1 - 1 = d := by omega
    refine Eq.trans mj_g118_8 ?_
    simp (disch := omega) only [mj_g118_9, mj_g118_10, mj_g118_11, mj_g118_12, mj_g118_13, mj_g118_14, mj_g118_15, mj_g118_16, mj_g118_17, mj_g118_18, mj_g118_19, mj_g118_20, mj_g118_21, mj_g118_22, mj_g118_23, mj_g118_24, mj_g118_25, mj_g118_26, mj_g118_27, mj_g118_28, mj_g118_29, ↓reduceIte, Option.bind_some, Option.toList_some, Option.toList_none, List.cons_append, List.nil_append, mj_ixn, mj_add, mj_mul, mj_sub, mj_dv, mj_rmn, mj_ltT, mj_ltF, mj_leT, mj_leF, mj_eqT, mj_eqF, mj_z0T, mj_z0F, mj_bo0, mj_boc, mj_chk10, mj_chk11, and_self, not_true, not_false_eq_true, md_spots hg hO, hg, hd, ed, hh, mc_cn, decide_eq_true_eq]
    by_cases c1 : f 18 0 (147 + 60 * d + k) < f 18 0 15
    · simp only [c1, not_true, not_false_eq_true, ↓reduceIte, mj_add]
    · simp only [c1, not_true, not_false_eq_true, ↓reduceIte, mj_add])
  simp only [mj_g118_4, mj_g118_5, mj_g118_6, mj_g118_7]
  refine Eq.trans ?_ (hl.trans ?_)
  · rfl
  · simp (disch := omega) only [mj_g118_8, mj_g118_9, mj_g118_10, mj_g118_11, mj_g118_30, mj_g118_31, ↓reduceIte, Option.bind_some, Option.toList_some, Option.toList_none, List.cons_append, List.nil_append, mj_ixn, mj_add, mj_mul, mj_sub, mj_dv, mj_rmn, mj_ltT, mj_ltF, mj_leT, mj_leF, mj_eqT, mj_eqF, mj_z0T, mj_z0F, mj_bo0, mj_boc, mj_chk10, mj_chk11, and_self, not_true, not_false_eq_true, md_spots hg hO]
theorem mr_scan : mr_op X 66 118 [] := by
  intro S f g r s n H D z Ds L t w hH hc hm
  have hz := mr_c_z hc
  have hc0 := hc
  obtain ⟨sc0, hg0, hS0, -⟩ := hc
  have h60 := hS0.1.1.1.n60
  obtain ⟨F, e1, e2, e3⟩ := mr_rec (X := X) (S := S) hc0
  have e20 := e2
  obtain ⟨sc, hg, hS, -⟩ := e2
  obtain ⟨F1, G, sd, d, t1, t2, t3, t4, t5, t6, t7, t8⟩ := mr_take (X := X) (S := S) hg.2.1 hS hg.2.2.2.2.2.2.2
  have hgG := mr_g_dg hg t5 t7 t6
  have C2 := mr_c_G e20 (Nat.le_refl _) t8 hgG t2
  have M1 := mr_m_c hm (mr_fc_t e3 (mr_fc_G t8))
  have hot := mc_hotSpots (X := X) (S := S) (t5.2.2.2 d t4).2 t5.2.2.1 t2.1.2.1.2.2 h60
  have hC : ∀ j, j < n → F1 15 (sd d) j = sp_sc D n (147 + 60 * d + j) := by
    obtain ⟨-, -, c, u1, u2, u3, u4⟩ := t2
    rw [t3] at u2
    have ec : d + 1 = c := (mj_eq (by omega) (by omega)).mp u2
    exact fun j hj => ((u4 d (by omega)).2 j hj).1
  have e11 : F1 11 0 3 = sp_sc D n 15 := mr_L_s t2.1 (by omega)
  have ev : mc_cn (fun j => decide (¬ F1 15 (sd d) j < F1 11 0 3)) n = mc_cn (fun j => decide (¬ sp_sc D n (147 + 60 * d + j) < sp_sc D n 15)) n := mc_cn_congr (fun i hi => by rw [hC i hi, e11])
  rw [ev] at hot
  obtain ⟨F3, y1, y2, y3⟩ := mr_mrec (X := X) (S := S) hgG.2.2.2.2.2.2.1.1 hgG.2.2.2.2.2.2.1.2.1 M1 hz
  have ok3 : sp_ok (F3 18 0) r s n H := by rw [y2.1]; exact hS.2.1
  obtain ⟨F4, s1, s2, s3⟩ := md_scansAny (X := X) (S := S) hgG.2.2.2.2.2.2.1.1 ok3
  have M4 := mr_m_K y2 s3
  rw [s2, y2.1] at M4
  have ok4 : sp_ok (F4 18 0) r s n H := by rw [M4.1]; exact t2.2.1
  have hl := md_hotl (X := X) (S := S) (d := d) (l1 := none) (l2 := none) hgG.2.2.2.2.2.2.1.1 (md_O_ok ok4) (by rw [M4.1]; exact t3) t4
  rw [M4.1] at hl
  refine mr_done (v := nI (mc_cn (fun j => decide (¬ sp_sc D n (147 + 60 * d + j) < sp_sc D n 15)) n)) (F := F1) (F2 := F4) ?_ C2 (by omega) ?_ (mr_fm_t y3 (mr_fm_K s3)) (fun _ _ => rfl) M4
  · simp (disch := omega) only [mj_x66, mj_g66_0, mj_g66_1, mj_g66_2, mj_g66_3, mj_g66_4, mj_g66_5, mj_g66_6, mj_g66_7, mj_g66_8, mj_g66_9, mj_g66_10, mj_g66_11, mj_g66_12, mj_g66_13, mj_g66_14, ↓reduceIte, Option.bind_some, Option.toList_some, Option.toList_none, List.cons_append, List.nil_append, mj_ixn, mj_add, mj_mul, mj_sub, mj_dv, mj_rmn, mj_ltT, mj_ltF, mj_leT, mj_leF, mj_eqT, mj_eqF, mj_z0T, mj_z0F, mj_bo0, mj_boc, mj_chk10, mj_chk11, and_self, not_true, not_false_eq_true, hg0.1.1, hg0.1.2.2.1, e1, t1, hgG.1.1, t5.1, hot]
  · simp (disch := omega) only [mj_x118, mj_g118_0, mj_g118_1, mj_g118_2, mj_g118_3, ↓reduceIte, Option.bind_some, Option.toList_some, Option.toList_none, List.cons_append, List.nil_append, mj_ixn, mj_add, mj_mul, mj_sub, mj_dv, mj_rmn, mj_ltT, mj_ltF, mj_leT, mj_leF, mj_eqT, mj_eqF, mj_z0T, mj_z0F, mj_bo0, mj_boc, mj_chk10, mj_chk11, and_self, not_true, not_false_eq_true, y1, s1]
    exact hl
theorem mr_undo : mr_op X 67 119 [] := by
  intro S f g r s n H D z Ds L t w hH hc hm
  have hc0 := hc
  obtain ⟨sc, hg, hS, ⟨o, h1, h2, h3, h4, h5⟩, hX, hw⟩ := hc
  have hP := hg.2.2.2.2.2.2.2
  by_cases c1 : z = 0
  · subst c1
    refine mr_same (v := (-1000002)) (F := f) (F2 := f) ?_ hc0 ?_ mr_fm_r hm
    · simp (disch := omega) only [mj_x67, mj_g67_0, mj_g67_1, mj_g67_2, mj_g67_3, mj_g67_4, mj_g67_5, ↓reduceIte, Option.bind_some, Option.toList_some, Option.toList_none, List.cons_append, List.nil_append, mj_ixn, mj_add, mj_mul, mj_sub, mj_dv, mj_rmn, mj_ltT, mj_ltF, mj_leT, mj_leF, mj_eqT, mj_eqF, mj_z0T, mj_z0F, mj_bo0, mj_boc, mj_chk10, mj_chk11, and_self, not_true, not_false_eq_true, hg.1.2.2.1, h4]
    · simp (disch := omega) only [mj_x119, mj_g119_0, mj_g119_1, mj_g119_2, mj_g119_3, mj_g119_4, ↓reduceIte, Option.bind_some, Option.toList_some, Option.toList_none, List.cons_append, List.nil_append, mj_ixn, mj_add, mj_mul, mj_sub, mj_dv, mj_rmn, mj_ltT, mj_ltF, mj_leT, mj_leF, mj_eqT, mj_eqF, mj_z0T, mj_z0F, mj_bo0, mj_boc, mj_chk10, mj_chk11, and_self, not_true, not_false_eq_true, hm.2.1]
  · obtain ⟨r2, s2, n2, h6⟩ := h5 (z - 1) (by omega)
    have hq : (o + (z - 1)) % 4 < 4 := by omega
    have A : ∀ k i j, k ≠ 0 → mj_u f 0 0 2 (nI (z - 1)) k i j = f k i j := fun k i j hk => mj_uk hk
    obtain ⟨c, y1, y2, y3, y4, y5, y6⟩ := mr_copy (f := mj_u f 0 0 2 (nI (z - 1))) (lo := 0) hg.2.1 (hg.2.2.2.2.1 _ hq) (mr_S_k h6 (fun k i j hn => A _ _ _ (by omega))) (by omega) (by omega) hP (fun k hk => Or.inr (by omega))
    rw [A _ _ _ (by decide)] at y2 y3
    have rs := mc_restoreLatest (X := X) (S := S) hg.2.2.2.1 h3 h1 h4 (by omega) h2 hg.2.1 (hg.2.2.2.2.1 _ hq) (by omega) (by omega) y2 y1 y3 y4
    have z2 : mc_cst (mj_u f 0 0 2 (nI (z - 1))) 0 0 ((o + (z - 1)) % 4 + 2) sc (fun j => 4 * ((o + (z - 1)) % 4 + 1) + j) c 0 0 2 = nI (z - 1) := by rw [y6 _ _ _ (by omega) (by omega) (by omega), mj_us]
    have C2 : mr_c (mc_cst (mj_u f 0 0 2 (nI (z - 1))) 0 0 ((o + (z - 1)) % 4 + 2) sc (fun j => 4 * ((o + (z - 1)) % 4 + 1) + j) c) g r2 s2 n2 H (Ds (z - 1)) (z - 1) Ds L t w := by
      refine ⟨sc, hg, y5, ⟨o, h1, by omega, ?_, z2, fun k hk => ?_⟩, mr_X_k hX (fun k i j hn => ?_), ?_⟩
      · rw [y6 _ _ _ (by omega) (by omega) (by omega), mj_uj (by decide)]; exact h3
      · obtain ⟨r3, s3, n3, h7⟩ := h5 k (by omega)
        exact ⟨r3, s3, n3, mr_S_e (mr_S_k h7 (fun k i j hn => A _ _ _ (by omega))) y6 (by omega) (by omega) (fun j hj => by omega)⟩
      · rw [y6 _ _ _ (by omega) (by omega) (by omega), A _ _ _ (by omega)]
      · rw [y6 _ _ _ (by omega) (by omega) (by omega), A _ _ _ (by omega)]; exact hw
    have FC : mr_fc f (mc_cst (mj_u f 0 0 2 (nI (z - 1))) 0 0 ((o + (z - 1)) % 4 + 2) sc (fun j => 4 * ((o + (z - 1)) % 4 + 1) + j) c) := mr_fc_t (mr_fc_u (by omega)) (mr_fc_G y6)
    have M1 := mr_m_c hm FC
    generalize mc_cst (mj_u f 0 0 2 (nI (z - 1))) 0 0 ((o + (z - 1)) % 4 + 2) sc (fun j => 4 * ((o + (z - 1)) % 4 + 1) + j) c = F1 at rs z2 C2 FC M1
    have hl := mj_loop (fun k => mj_g X 119 13 [some (.inr (6, 0)), some (.inl (nI k))] [] (S, mc_fl (mj_u F1 6 0 2 (nI (z - 1))) 18 0 (fun i => F1 19 0 (627 * (z - 1) + i)) k, g)) 627 (fun k hk => by
      have e1 : mc_fl (mj_u F1 6 0 2 (nI (z - 1))) 18 0 (fun i => F1 19 0 (627 * (z - 1) + i)) k 19 0 (627 * (z - 1) + k) = F1 19 0 (627 * (z - 1) + k) := by rw [mc_fl_o (by omega), mj_u_n (by omega)]
      have e2 : mc_fl (mj_u F1 6 0 2 (nI (z - 1))) 18 0 (fun i => F1 19 0 (627 * (z - 1) + i)) k 6 0 2 = nI (z - 1) := by rw [mc_fl_o (by omega), mj_us]
      refine Eq.trans mj_g119_13 ?_
      simp (disch := omega) only [mj_g119_14, mj_g119_15, mj_g119_16, mj_g119_17, mj_g119_18, mj_g119_19, mj_g119_20, mj_g119_21, mj_g119_22, mj_g119_23, mj_g119_24, mj_g119_25, mj_g119_26, mj_g119_27, mj_g119_28, mj_g119_29, mj_g119_30, ↓reduceIte, Option.bind_some, Option.toList_some, Option.toList_none, List.cons_append, List.nil_append, mj_ixn, mj_add, mj_mul, mj_sub, mj_dv, mj_rmn, mj_ltT, mj_ltF, mj_leT, mj_leF, mj_eqT, mj_eqF, mj_z0T, mj_z0F, mj_bo0, mj_boc, mj_chk10, mj_chk11, and_self, not_true, not_false_eq_true, hg.2.2.2.2.2.2.1.1, hg.2.2.2.2.2.2.1.2.1, e2, e1]
      rfl)
    have e9 : mc_fl (mj_u F1 6 0 2 (nI (z - 1))) 18 0 (fun i => F1 19 0 (627 * (z - 1) + i)) 627 6 0 2 = nI (z - 1) := by rw [mc_fl_o (by omega), mj_us]
    have FM : mr_fm F1 (mc_fl (mj_u F1 6 0 2 (nI (z - 1))) 18 0 (fun i => F1 19 0 (627 * (z - 1) + i)) 627) := fun k i j hn => by rw [mc_fl_o (by omega), mj_u_n (by omega)]
    have M2 : mr_m (mc_fl (mj_u F1 6 0 2 (nI (z - 1))) 18 0 (fun i => F1 19 0 (627 * (z - 1) + i)) 627) (mc_fl (mj_u F1 6 0 2 (nI (z - 1))) 18 0 (fun i => F1 19 0 (627 * (z - 1) + i)) 627 18 0) (z - 1) Ds L t w := by
      obtain ⟨m1, m2, m3, m4, m5, m6⟩ := M1
      refine ⟨rfl, e9, fun k hk j hj => ?_, ?_, ?_, ?_⟩
      · rw [mc_fl_o (by omega), mj_u_n (by omega)]; exact m3 k (by omega) j hj
      · rw [mc_fl_o (by omega), mj_u_n (by omega)]; exact m4
      · rw [← m5]; funext j; rw [mc_fl_o (by omega), mj_u_n (by omega)]
      · rw [mc_fl_o (by omega), mj_u_n (by omega)]; exact m6
    have AG : ∀ i, i < 627 → mc_fl (mj_u F1 6 0 2 (nI (z - 1))) 18 0 (fun i => F1 19 0 (627 * (z - 1) + i)) 627 18 0 i = Ds (z - 1) i := fun i hi => by
      rw [mc_fl_j hi]
      exact M1.2.2.1 (z - 1) (by omega) i hi
    refine mr_done (v := nI (z - 1)) ?_ C2 (by omega) ?_ FM AG M2
    · simp (disch := omega) only [mj_x67, mj_g67_0, mj_g67_1, mj_g67_2, mj_g67_3, mj_g67_4, mj_g67_5, mj_g67_6, mj_g67_7, mj_g67_8, mj_g67_9, mj_g67_10, mj_g67_11, mj_g67_12, mj_g67_13, mj_g67_14, ↓reduceIte, Option.bind_some, Option.toList_some, Option.toList_none, List.cons_append, List.nil_append, mj_ixn, mj_add, mj_mul, mj_sub, mj_dv, mj_rmn, mj_ltT, mj_ltF, mj_leT, mj_leF, mj_eqT, mj_eqF, mj_z0T, mj_z0F, mj_bo0, mj_boc, mj_chk10, mj_chk11, and_self, not_true, not_false_eq_true, hg.1.1, hg.1.2.2.1, h4, rs, z2]
    · simp (disch := omega) only [mj_x119, mj_g119_0, mj_g119_1, mj_g119_2, mj_g119_5, mj_g119_6, mj_g119_7, mj_g119_8, mj_g119_9, mj_g119_10, mj_g119_11, mj_g119_12, ↓reduceIte, Option.bind_some, Option.toList_some, Option.toList_none, List.cons_append, List.nil_append, mj_ixn, mj_add, mj_mul, mj_sub, mj_dv, mj_rmn, mj_ltT, mj_ltF, mj_leT, mj_leF, mj_eqT, mj_eqF, mj_z0T, mj_z0F, mj_bo0, mj_boc, mj_chk10, mj_chk11, and_self, not_true, not_false_eq_true, M1.2.1]
      refine Eq.trans ?_ (hl.trans ?_)
      · rfl
      · simp (disch := omega) only [mj_g119_13, mj_g119_14, mj_g119_15, mj_g119_31, mj_g119_32, mj_g119_33, ↓reduceIte, Option.bind_some, Option.toList_some, Option.toList_none, List.cons_append, List.nil_append, mj_ixn, mj_add, mj_mul, mj_sub, mj_dv, mj_rmn, mj_ltT, mj_ltF, mj_leT, mj_leF, mj_eqT, mj_eqF, mj_z0T, mj_z0F, mj_bo0, mj_boc, mj_chk10, mj_chk11, and_self, not_true, not_false_eq_true, e9]
end O3
