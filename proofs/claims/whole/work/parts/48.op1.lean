/-! calls: both answer the same, and hold the same behind it -/
def mr_rs (X : mj_X) (ma mb : Nat) (as : List mj_V) (S : List (Nat × Nat)) (f : mj_F) (g : mj_G) (H : Nat) : Prop :=
  ∃ v f1 g1 f2 r2 s2 n2 D2 z2 Ds2 L2 t2 w2, mj_x X ma (.inr (5, 0) :: as) (S, f, g) = some (some (.inl v), (S, f1, g1)) ∧ mj_x X mb (.inr (6, 0) :: as) (S, f1, g1) = some (some (.inl v), (S, f2, g1)) ∧ mr_c f2 g1 r2 s2 n2 (H + 100) D2 z2 Ds2 L2 t2 w2 ∧ mr_m f2 D2 z2 Ds2 L2 t2 w2
def mr_op (X : mj_X) (ma mb : Nat) (as : List mj_V) : Prop :=
  ∀ S f g r s n H D z Ds L t w, H < 900000 → mr_c f g r s n H D z Ds L t w → mr_m f D z Ds L t w → mr_rs X ma mb as S f g H
theorem mr_done {X : mj_X} {ma mb : Nat} {as : List mj_V} {S : List (Nat × Nat)} {f F F2 : mj_F} {g G : mj_G} {H H2 r2 s2 n2 z2 L2 : Nat} {v : Int32} {D2 E : Nat → Int32} {Ds2 : Nat → Nat → Int32} {t2 : Nat → Int32} {w2 : Int32} (h1 : mj_x X ma (.inr (5, 0) :: as) (S, f, g) = some (some (.inl v), (S, F, G))) (h2 : mr_c F G r2 s2 n2 H2 D2 z2 Ds2 L2 t2 w2) (hH : H2 ≤ H + 100) (h3 : mj_x X mb (.inr (6, 0) :: as) (S, F, G) = some (some (.inl v), (S, F2, G))) (h4 : mr_fm F F2) (h5 : ∀ i, i < 627 → E i = D2 i) (h6 : mr_m F2 E z2 Ds2 L2 t2 w2) : mr_rs X ma mb as S f g H :=
  ⟨v, F, G, F2, r2, s2, n2, E, z2, Ds2, L2, t2, w2, h1, h3, mr_c_H (mr_c_D (mr_c_m h2 h4) h5) hH, h6⟩
theorem mr_same {X : mj_X} {ma mb : Nat} {as : List mj_V} {S : List (Nat × Nat)} {f F F2 : mj_F} {g : mj_G} {H r s n z L : Nat} {v : Int32} {D : Nat → Int32} {Ds : Nat → Nat → Int32} {t : Nat → Int32} {w : Int32} (h1 : mj_x X ma (.inr (5, 0) :: as) (S, f, g) = some (some (.inl v), (S, F, g))) (h2 : mr_c F g r s n H D z Ds L t w) (h3 : mj_x X mb (.inr (6, 0) :: as) (S, F, g) = some (some (.inl v), (S, F2, g))) (h4 : mr_fm F F2) (h6 : mr_m F2 D z Ds L t w) : mr_rs X ma mb as S f g H := mr_done h1 h2 (by omega) h3 h4 (fun _ _ => rfl) h6
theorem mr_rg {v : Int32} {lo hi : Nat} (hh : hi < 2147483648) (hl : lo < 2147483648) (h : nI lo ≤ v ∧ v ≤ nI hi) : ∃ k, lo ≤ k ∧ k ≤ hi ∧ v = nI k := by
  obtain ⟨h1, h2⟩ := h
  rw [Int32.le_iff_toInt_le, nI_toInt (by omega)] at h1 h2
  obtain ⟨k, hk, rfl⟩ := mj_nIx (w := v) (N := hi + 1) (by omega) (by omega)
  rw [nI_toInt (by omega)] at h1
  exact ⟨k, by omega, by omega, rfl⟩
theorem sp_ok_bg {r s n H : Nat} (hG : mc_Ge r s n) : sp_ok (sp_bg r s n) r s n H := by
  have h60 := hG.n60
  have b : ∀ i, 142 ≤ i → sp_bg r s n i = nI 0 := fun i hi => by unfold sp_bg; rw [if_neg (by omega), if_neg (by omega), if_neg (by omega), if_neg (by omega), if_neg (by omega), if_neg (by omega), if_neg (by omega)]
  refine ⟨hG, rfl, rfl, ⟨Or.inl ?_, fun j hj => ⟨10, by omega, ?_⟩, ⟨50, by omega, by omega, ?_⟩, ⟨30000, by omega, ?_⟩, ⟨20, by omega, by omega, ?_⟩, fun j hj => ⟨3000, 0, by omega, by omega, ?_, ?_⟩⟩, 0, by omega, b 142 (by omega), 0, fun _ => 0, ?_, by omega, fun k hk => by omega, fun k hk => by omega, fun k hk => by omega⟩
  · unfold sp_bg; rw [if_neg (by omega), if_neg (by omega), if_neg (by omega), if_neg (by omega), if_neg (by omega), if_neg (by omega), if_neg (by omega)]
  · unfold sp_bg; rw [if_neg (by omega), if_neg (by omega), if_neg (by omega), if_pos (by omega)]
  · unfold sp_bg; rw [if_neg (by omega), if_neg (by omega), if_neg (by omega), if_neg (by omega), if_pos (by omega)]; rfl
  · unfold sp_bg; rw [if_neg (by omega), if_neg (by omega), if_neg (by omega), if_neg (by omega), if_pos (by omega)]; rfl
  · unfold sp_bg; rw [if_neg (by omega), if_neg (by omega), if_neg (by omega), if_neg (by omega), if_pos (by omega)]; rfl
  · unfold sp_bg; rw [if_neg (by omega), if_neg (by omega), if_neg (by omega), if_neg (by omega), if_neg (by omega), if_neg (by omega), if_pos (by omega)]
  · unfold sp_bg; rw [if_neg (by omega), if_neg (by omega), if_neg (by omega), if_neg (by omega), if_neg (by omega), if_neg (by omega), if_neg (by omega)]
  · unfold sp_bg; rw [if_neg (by omega), if_neg (by omega), if_neg (by omega), if_neg (by omega), if_neg (by omega), if_neg (by omega), if_neg (by omega)]
section O1
variable {X : mj_X} {S : List (Nat × Nat)} {f F F2 : mj_F} {g G : mj_G} {r s n c H H2 z L j : Nat} {sc sp : Nat → Nat} {D E : Nat → Int32} {Ds : Nat → Nat → Int32} {t : Nat → Int32} {w v a b : Int32}
theorem mr_c_z (h : mr_c f g r s n H D z Ds L t w) : z ≤ 4 := by
  obtain ⟨sc, h1, h2, ⟨o, h3, h4, h5⟩, h6⟩ := h
  exact h4
/-- an act of the reference on its state alone -/
theorem mr_m_K (h : mr_m f D z Ds L t w) (hK : md_K 0 f F) : mr_m F (F 18 0) z Ds L t w := by
  obtain ⟨h1, h2, h3, h4, h5, h6⟩ := h
  exact ⟨rfl, by rw [hK _ _ _ (by omega)]; exact h2, fun k hk j hj => by rw [hK _ _ _ (by omega)]; exact h3 k hk j hj, by rw [hK _ _ _ (by omega)]; exact h4, by rw [← h5]; exact funext (fun j => hK _ _ _ (by omega)), by rw [hK _ _ _ (by omega)]; exact h6⟩
theorem mr_m_u (h : mr_m f D z Ds L t w) : mr_m (mj_u f 18 0 j v) (sp_u D j v) z Ds L t w := by
  have h2 := mr_m_K h (F := mj_u f 18 0 j v) (fun k i j hn => mj_u_n (by omega))
  have e1 : mj_u f 18 0 j v 18 0 = sp_u D j v := by
    rw [← h.1]
    funext i
    by_cases c1 : i = j
    · subst c1; rw [mj_us, sp_u_s]
    · rw [mj_uj c1, sp_u_o c1]
  rw [e1] at h2
  exact h2
theorem mr_begin : mr_op X 60 109 [.inl a, .inl b] := by
  intro S f g r s n H D z Ds L t w hH hc hm
  have hz := mr_c_z hc
  have hc0 := hc
  obtain ⟨sc0, hg0, -⟩ := hc
  by_cases c1 : nI 1 ≤ a ∧ a ≤ nI 6
  · by_cases c2 : nI 3 ≤ b ∧ b ≤ nI 10
    · obtain ⟨F, e1, e2, e3⟩ := mr_rec (X := X) (S := S) hc0
      have e20 := e2
      obtain ⟨sc, hg, hS, -⟩ := e2
      obtain ⟨r2, k1, k2, rfl⟩ := mr_rg (by omega) (by omega) c1
      obtain ⟨s2, k3, k4, rfl⟩ := mr_rg (by omega) (by omega) c2
      have hG : mc_Ge r2 s2 (r2 * s2) := ⟨k1, k2, k3, k4, rfl⟩
      have h60 := hG.n60
      have st := mc_startAnew (X := X) (S := S) (f := F) hg.2.1 hG
      have FG : mr_G 0 0 0 F (mj_u (mc_lay F 0 r2 s2) 4 0 2 (nI 0)) := mr_G_t (mr_G_F mr_F_lay) (fun k i j n1 n2 n3 => mj_u_n (by omega))
      have L2 : mr_L (mj_u (mc_lay F 0 r2 s2) 4 0 2 (nI 0)) 0 (sp_bg r2 s2 (r2 * s2)) r2 s2 (r2 * s2) := mr_L_e (mr_L_lay hG) (fun k j hk => mj_uk (by omega))
      have ok2 := sp_ok_bg (H := H) hG
      have e142 : sp_bg r2 s2 (r2 * s2) 142 = nI 0 := by unfold sp_bg; rw [if_neg (by omega), if_neg (by omega), if_neg (by omega), if_neg (by omega), if_neg (by omega), if_neg (by omega), if_neg (by omega)]
      have C2 : mr_c (mj_u (mc_lay F 0 r2 s2) 4 0 2 (nI 0)) g r2 s2 (r2 * s2) H (sp_bg r2 s2 (r2 * s2)) (sp_rz z) (sp_rd D z Ds) L t w := mr_c_G e20 (Nat.le_refl _) FG hg ⟨L2, ok2, 0, by omega, e142, mj_us, fun k hk => by omega⟩
      have M1 := mr_m_c hm (mr_fc_t e3 (mr_fc_G FG))
      have q2 := L2.2.1.2.2
      generalize mj_u (mc_lay F 0 r2 s2) 4 0 2 (nI 0) = F1 at st C2 M1 q2
      obtain ⟨F3, y1, y2, y3⟩ := mr_mrec (X := X) (S := S) hg.2.2.2.2.2.2.1.1 hg.2.2.2.2.2.2.1.2.1 M1 hz
      have bg := md_begins (X := X) (S := S) (f := F3) hg.2.2.2.2.2.2.1.1 hG
      have bs := md_bg_sp (f := F3) (m := 0) (r := r2) (s := s2) h60
      have K3 : md_K 0 F3 (md_bg F3 0 r2 s2 (r2 * s2)) := fun k i j hn => by
        unfold md_bg md_b2 md_b1
        rw [mj_u_n (by omega), md_sf_o (by omega), mj_u_n (by omega), mj_u_n (by omega), mj_u_n (by omega), mj_u_n (by omega), mj_u_n (by omega), mj_u_n (by omega), md_sf_o (by omega), mj_u_n (by omega), mj_u_n (by omega), mj_u_n (by omega), mc_fl_o (by omega)]
      have O3 : md_O (md_bg F3 0 r2 s2 (r2 * s2)) 0 r2 s2 (r2 * s2) := ⟨by rw [bs 0 (by omega)]; rfl, by rw [bs 1 (by omega)]; rfl, hG⟩
      refine mr_done (v := nI (r2 * s2)) (F := F1) (F2 := md_bg F3 0 r2 s2 (r2 * s2)) ?_ C2 (by omega) ?_ (mr_fm_t y3 (mr_fm_K K3)) bs (mr_m_K y2 K3)
      · simp (disch := omega) only [mj_x60, mj_g60_0, mj_g60_1, mj_g60_2, mj_g60_3, mj_g60_4, mj_g60_5, mj_g60_6, mj_g60_7, mj_g60_8, mj_g60_9, mj_g60_10, mj_g60_11, mj_g60_12, mj_g60_13, mj_g60_14, mj_g60_15, mj_g60_16, mj_g60_17, mj_g60_18, mj_g60_19, mj_g60_20, mj_g60_21, mj_g60_22, mj_g60_23, mj_g60_24, mj_g60_25, mj_g60_26, ↓reduceIte, Option.bind_some, Option.toList_some, Option.toList_none, List.cons_append, List.nil_append, mj_ixn, mj_add, mj_mul, mj_sub, mj_dv, mj_rmn, mj_ltT, mj_ltF, mj_leT, mj_leF, mj_eqT, mj_eqF, mj_z0T, mj_z0F, mj_bo0, mj_boc, mj_chk10, mj_chk11, and_self, not_true, not_false_eq_true, mc_within, hg0.1.1, hg0.1.2.2.1, e1, st, hg.2.1.1, q2]
      · simp (disch := omega) only [mj_x109, mj_g109_0, mj_g109_1, mj_g109_2, mj_g109_3, mj_g109_4, mj_g109_5, mj_g109_6, mj_g109_7, mj_g109_8, mj_g109_9, mj_g109_10, mj_g109_11, mj_g109_12, mj_g109_13, mj_g109_14, mj_g109_15, mj_g109_16, mj_g109_17, mj_g109_18, mj_g109_19, mj_g109_20, ↓reduceIte, Option.bind_some, Option.toList_some, Option.toList_none, List.cons_append, List.nil_append, mj_ixn, mj_add, mj_mul, mj_sub, mj_dv, mj_rmn, mj_ltT, mj_ltF, mj_leT, mj_leF, mj_eqT, mj_eqF, mj_z0T, mj_z0F, mj_bo0, mj_boc, mj_chk10, mj_chk11, and_self, not_true, not_false_eq_true, mc_in, y1, bg, md_spots hg.2.2.2.2.2.2.1.1 O3]
    · refine mr_same (v := (-1000001)) (F := f) (F2 := f) ?_ hc0 ?_ mr_fm_r hm
      · simp (disch := omega) only [mj_x60, mj_g60_0, mj_g60_1, mj_g60_2, mj_g60_3, mj_g60_4, mj_g60_5, mj_g60_6, mj_g60_7, mj_g60_8, mj_g60_9, mj_g60_10, mj_g60_11, ↓reduceIte, Option.bind_some, Option.toList_some, Option.toList_none, List.cons_append, List.nil_append, mj_ixn, mj_add, mj_mul, mj_sub, mj_dv, mj_rmn, mj_ltT, mj_ltF, mj_leT, mj_leF, mj_eqT, mj_eqF, mj_z0T, mj_z0F, mj_bo0, mj_boc, mj_chk10, mj_chk11, and_self, not_true, not_false_eq_true, mc_within, eq_true c1, eq_false c2]
      · simp (disch := omega) only [mj_x109, mj_g109_0, mj_g109_1, mj_g109_2, mj_g109_3, mj_g109_4, mj_g109_5, mj_g109_6, mj_g109_7, mj_g109_8, mj_g109_9, mj_g109_10, mj_g109_11, ↓reduceIte, Option.bind_some, Option.toList_some, Option.toList_none, List.cons_append, List.nil_append, mj_ixn, mj_add, mj_mul, mj_sub, mj_dv, mj_rmn, mj_ltT, mj_ltF, mj_leT, mj_leF, mj_eqT, mj_eqF, mj_z0T, mj_z0F, mj_bo0, mj_boc, mj_chk10, mj_chk11, and_self, not_true, not_false_eq_true, mc_in, eq_true c1, eq_false c2]
  · refine mr_same (v := (-1000001)) (F := f) (F2 := f) ?_ hc0 ?_ mr_fm_r hm
    · simp (disch := omega) only [mj_x60, mj_g60_0, mj_g60_1, mj_g60_2, mj_g60_3, mj_g60_4, mj_g60_5, mj_g60_6, mj_g60_7, mj_g60_8, mj_g60_9, mj_g60_10, mj_g60_11, ↓reduceIte, Option.bind_some, Option.toList_some, Option.toList_none, List.cons_append, List.nil_append, mj_ixn, mj_add, mj_mul, mj_sub, mj_dv, mj_rmn, mj_ltT, mj_ltF, mj_leT, mj_leF, mj_eqT, mj_eqF, mj_z0T, mj_z0F, mj_bo0, mj_boc, mj_chk10, mj_chk11, and_self, not_true, not_false_eq_true, mc_within, eq_false c1]
    · simp (disch := omega) only [mj_x109, mj_g109_0, mj_g109_1, mj_g109_2, mj_g109_3, mj_g109_4, mj_g109_5, mj_g109_6, mj_g109_7, mj_g109_8, mj_g109_9, mj_g109_10, mj_g109_11, ↓reduceIte, Option.bind_some, Option.toList_some, Option.toList_none, List.cons_append, List.nil_append, mj_ixn, mj_add, mj_mul, mj_sub, mj_dv, mj_rmn, mj_ltT, mj_ltF, mj_leT, mj_leF, mj_eqT, mj_eqF, mj_z0T, mj_z0F, mj_bo0, mj_boc, mj_chk10, mj_chk11, and_self, not_true, not_false_eq_true, mc_in, eq_false c1]
theorem mr_rate : mr_op X 61 110 [.inl a, .inl b] := by
  intro S f g r s n H D z Ds L t w hH hc hm
  have hz := mr_c_z hc
  have hc0 := hc
  obtain ⟨sc0, hg0, hS0, -⟩ := hc
  have d0 : f 18 0 0 = nI r := by rw [hm.1]; exact hS0.1.1.2.1
  have hr1 := hS0.1.1.1.1
  have hr6 := hS0.1.1.1.2.1
  have hR := mc_hasRing (X := X) (S := S) (g := g) (v := a) hS0.1.2.1.1
  by_cases c1 : nI 0 ≤ a ∧ a ≤ nI r - nI 1
  · by_cases c2 : nI 0 ≤ b ∧ b ≤ nI 50
    · rw [← mj_boT c1] at hR
      obtain ⟨j, hj, rfl⟩ := mr_in (by omega) (by omega) c1
      obtain ⟨k, k1, k2, rfl⟩ := mr_rg (by omega) (by omega) c2
      obtain ⟨F, e1, e2, e3⟩ := mr_rec (X := X) (S := S) hc0
      have e20 := e2
      obtain ⟨sc, hg, hS, -⟩ := e2
      have L2 := mr_L_rate (v := nI k) hS.1 (show j < 6 by omega)
      have FF : mr_F 0 F (mj_u F 10 0 j (nI k)) := fun k i j hn => mj_u_n (by omega)
      have hok : sp_ok (sp_u D (6 + j) (nI k)) r s n H := by
        obtain ⟨o1, o2, o3, ⟨a1, a2, a3, a4, a5, a6⟩, c, o5, o6, o7⟩ := hS.2.1
        refine ⟨o1, by rw [sp_u_o (by omega)]; exact o2, by rw [sp_u_o (by omega)]; exact o3, ⟨by rw [sp_u_o (by omega)]; exact a1, fun i hi => ?_, by rw [sp_u_o (by omega)]; exact a3, by rw [sp_u_o (by omega)]; exact a4, by rw [sp_u_o (by omega)]; exact a5, fun i hi => by rw [sp_u_o (by omega), sp_u_o (by omega)]; exact a6 i hi⟩, c, o5, by rw [sp_u_o (by omega)]; exact o6, mr_U_e o7 (Nat.le_refl _) (sp_u_o (by omega)) (fun i hi => sp_u_o (by omega))⟩
        by_cases c3 : i = j
        · subst c3; rw [sp_u_s]; exact ⟨k, k2, rfl⟩
        · rw [sp_u_o (by omega)]; exact a2 i hi
      have C2 := mr_c_G e20 (Nat.le_refl _) (mr_G_F FF) hg (mr_S_L hS FF L2 hok (fun i hi => sp_u_o (by omega)))
      have M1 := mr_m_c hm (mr_fc_t e3 (mr_fc_F FF))
      obtain ⟨F3, y1, y2, y3⟩ := mr_mrec (X := X) (S := S) hg.2.2.2.2.2.2.1.1 hg.2.2.2.2.2.2.1.2.1 M1 hz
      have p1 : F 10 0 j = D (6 + j) := hS.1.2.2.2.1 j (by omega)
      have d1 : mj_u F 10 0 j (nI k) 18 0 0 = nI r := by rw [M1.1]; exact hS0.1.1.2.1
      have p2 : F3 18 0 (6 + j) = D (6 + j) := by rw [y2.1]
      refine mr_done (v := D (6 + j)) (F := mj_u F 10 0 j (nI k)) (F2 := mj_u F3 18 0 (6 + j) (nI k)) ?_ C2 (by omega) ?_ (mr_fm_t y3 (mr_fm_u (by omega))) (fun _ _ => rfl) (mr_m_u y2)
      · simp (disch := omega) only [mj_x61, mj_g61_0, mj_g61_1, mj_g61_2, mj_g61_3, mj_g61_4, mj_g61_5, mj_g61_6, mj_g61_7, mj_g61_8, mj_g61_9, mj_g61_10, mj_g61_11, mj_g61_12, mj_g61_13, mj_g61_14, mj_g61_15, mj_g61_16, mj_g61_17, mj_g61_18, mj_g61_19, mj_g61_20, mj_g61_21, mj_g61_22, mj_g61_23, mj_g61_24, mj_g61_25, mj_g61_26, mj_g61_27, mj_g61_28, mj_g61_29, mj_g61_30, mj_g61_31, ↓reduceIte, Option.bind_some, Option.toList_some, Option.toList_none, List.cons_append, List.nil_append, mj_ixn, mj_add, mj_mul, mj_sub, mj_dv, mj_rmn, mj_ltT, mj_ltF, mj_leT, mj_leF, mj_eqT, mj_eqF, mj_z0T, mj_z0F, mj_bo0, mj_boc, mj_chk10, mj_chk11, and_self, not_true, not_false_eq_true, mc_within, hg0.1.1, hg0.2.1.1, hR, hg0.1.2.2.1, e1, hg.2.2.2.1, hg0.2.1.2.2.1.2.2.1, hg.2.1.2.2.1.2.2.1, p1]
      · simp (disch := omega) only [mj_x110, mj_g110_0, mj_g110_1, mj_g110_2, mj_g110_3, mj_g110_4, mj_g110_5, mj_g110_6, mj_g110_7, mj_g110_8, mj_g110_9, mj_g110_10, mj_g110_11, mj_g110_12, mj_g110_13, mj_g110_14, mj_g110_15, mj_g110_16, mj_g110_17, mj_g110_18, mj_g110_19, mj_g110_20, mj_g110_21, mj_g110_22, mj_g110_23, mj_g110_24, mj_g110_25, mj_g110_26, mj_g110_27, mj_g110_28, mj_g110_29, mj_g110_30, mj_g110_31, mj_g110_32, mj_g110_33, mj_g110_34, ↓reduceIte, Option.bind_some, Option.toList_some, Option.toList_none, List.cons_append, List.nil_append, mj_ixn, mj_add, mj_mul, mj_sub, mj_dv, mj_rmn, mj_ltT, mj_ltF, mj_leT, mj_leF, mj_eqT, mj_eqF, mj_z0T, mj_z0F, mj_bo0, mj_boc, mj_chk10, mj_chk11, and_self, not_true, not_false_eq_true, mc_in, hg.2.2.2.2.2.2.1.1, d1, y1, p2, eq_true c1]
    · refine mr_same (v := (-1000001)) (F := f) (F2 := f) ?_ hc0 ?_ mr_fm_r hm
      · rw [← mj_boT c1] at hR
        simp (disch := omega) only [mj_x61, mj_g61_0, mj_g61_1, mj_g61_2, mj_g61_3, mj_g61_4, mj_g61_5, mj_g61_6, mj_g61_7, mj_g61_8, mj_g61_9, mj_g61_10, mj_g61_11, mj_g61_12, mj_g61_13, mj_g61_14, ↓reduceIte, Option.bind_some, Option.toList_some, Option.toList_none, List.cons_append, List.nil_append, mj_ixn, mj_add, mj_mul, mj_sub, mj_dv, mj_rmn, mj_ltT, mj_ltF, mj_leT, mj_leF, mj_eqT, mj_eqF, mj_z0T, mj_z0F, mj_bo0, mj_boc, mj_chk10, mj_chk11, and_self, not_true, not_false_eq_true, mc_within, hg0.1.1, hg0.2.1.1, hR, eq_false c2]
      · simp (disch := omega) only [mj_x110, mj_g110_0, mj_g110_1, mj_g110_2, mj_g110_3, mj_g110_4, mj_g110_5, mj_g110_6, mj_g110_7, mj_g110_8, mj_g110_9, mj_g110_10, mj_g110_11, mj_g110_12, mj_g110_13, mj_g110_14, mj_g110_15, mj_g110_16, ↓reduceIte, Option.bind_some, Option.toList_some, Option.toList_none, List.cons_append, List.nil_append, mj_ixn, mj_bo0, and_self, not_true, not_false_eq_true, mc_in, hg0.2.2.2.2.2.2.1.1, d0, eq_true c1, eq_false c2]
  · refine mr_same (v := (-1000001)) (F := f) (F2 := f) ?_ hc0 ?_ mr_fm_r hm
    · rw [← mj_boF c1] at hR
      simp (disch := omega) only [mj_x61, mj_g61_0, mj_g61_1, mj_g61_2, mj_g61_3, mj_g61_4, mj_g61_5, mj_g61_6, mj_g61_7, mj_g61_8, mj_g61_9, mj_g61_10, mj_g61_11, mj_g61_12, mj_g61_13, mj_g61_14, ↓reduceIte, Option.bind_some, Option.toList_some, Option.toList_none, List.cons_append, List.nil_append, mj_ixn, mj_add, mj_mul, mj_sub, mj_dv, mj_rmn, mj_ltT, mj_ltF, mj_leT, mj_leF, mj_eqT, mj_eqF, mj_z0T, mj_z0F, mj_bo0, mj_boc, mj_chk10, mj_chk11, and_self, not_true, not_false_eq_true, mc_within, hg0.1.1, hg0.2.1.1, hR]
    · simp (disch := omega) only [mj_x110, mj_g110_0, mj_g110_1, mj_g110_2, mj_g110_3, mj_g110_4, mj_g110_5, mj_g110_6, mj_g110_7, mj_g110_8, mj_g110_9, mj_g110_10, mj_g110_11, mj_g110_12, mj_g110_13, mj_g110_14, mj_g110_15, mj_g110_16, ↓reduceIte, Option.bind_some, Option.toList_some, Option.toList_none, List.cons_append, List.nil_append, mj_ixn, mj_bo0, and_self, not_true, not_false_eq_true, mc_in, hg0.2.2.2.2.2.2.1.1, d0, eq_false c1]
end O1
