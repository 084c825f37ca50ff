/-! calls: run -/
def mr_Y (f F : mj_F) : Prop := ∀ k i j, ¬ ((k = 1 ∨ (8 ≤ k ∧ k ≤ 13)) ∧ i = 0) → ¬ (k = 4 ∧ i = 0) → ¬ ((k = 3 ∨ k = 15 ∨ k = 16) ∧ i < 4) → ¬ (k = 2 ∧ i = 0 ∧ 2 ≤ j) → ¬ (k = 5 ∧ i = 0 ∧ j = 4) → F k i j = f k i j
theorem mr_Y_t {f F E : mj_F} (h : mr_Y f F) (h2 : mr_Y F E) : mr_Y f E := fun k i j n1 n2 n3 n4 n5 => (h2 k i j n1 n2 n3 n4 n5).trans (h k i j n1 n2 n3 n4 n5)
theorem mr_Y_r {f : mj_F} : mr_Y f f := fun _ _ _ _ _ _ _ _ => rfl
theorem mr_Y_G {f F : mj_F} (h : mr_G 0 0 0 f F) : mr_Y f F := fun k i j n1 n2 n3 _ _ => h k i j n1 n2 (by omega)
theorem mr_Y_Q {f F : mj_F} (h : mt_Q 0 f F) : mr_Y f F := fun k i j _ _ _ n4 _ => h k i j n4
theorem mr_fc_Y {f F : mj_F} (h : mr_Y f F) : mr_fc f F := fun k i j hn => h k i j (by omega) (by omega) (by omega) (by omega) (by omega)
theorem mt_ff_lt {t : Nat → Int32} {L r n : Nat} : ∀ (q b j : Nat), mt_ff t L r n q b = some j → j < L := by
  intro q
  induction q with
  | zero => intro b j h; cases h
  | succ q ih =>
    intro b j h
    rw [mt_ff_s] at h
    by_cases c1 : b < L
    · rw [if_pos c1] at h
      by_cases c2 : mt_P t L r n b
      · rw [if_pos c2] at h; exact ih _ _ h
      · rw [if_neg c2] at h; cases h; exact c1
    · rw [if_neg c1] at h; cases h
section O7
variable {X : mj_X} {S : List (Nat × Nat)} {f F F2 : mj_F} {g G : mj_G} {r s n c H H2 z L j k d m p : Nat} {sc sp : Nat → Nat} {D E : Nat → Int32} {Ds : Nat → Nat → Int32} {t : Nat → Int32} {w v a b e φ K : Int32} {o2 o3 o4 : Option mj_V}
theorem mr_HC_Y (h : mr_HC f z Ds H) (hH : H ≤ H2) (hY : mr_Y f F) : mr_HC F z Ds H2 := by
  obtain ⟨o, h1, h2, h3, h4, h5⟩ := h
  refine ⟨o, h1, h2, by rw [hY _ _ _ (by omega) (by omega) (by omega) (by omega) (by omega)]; exact h3, by rw [hY _ _ _ (by omega) (by omega) (by omega) (by omega) (by omega)]; exact h4, fun k0 hk0 => ?_⟩
  obtain ⟨r, s, n, h6⟩ := h5 k0 hk0
  obtain ⟨k1, k2, c, k3, k4, k5, k6⟩ := mr_S_H h6 hH
  refine ⟨r, s, n, mr_L_e k1 (fun k j hk => hY _ _ _ (by omega) (by omega) (by omega) (by omega) (by omega)), k2, c, k3, k4, by rw [hY _ _ _ (by omega) (by omega) (by omega) (by omega) (by omega)]; exact k5, fun k hk => ⟨?_, fun j hj => ⟨?_, ?_⟩⟩⟩
  · have hb : 4 ≤ (fun j => 4 * ((o + k0) % 4 + 1) + j) k := by show 4 ≤ 4 * ((o + k0) % 4 + 1) + k; omega
    rw [hY _ _ _ (by omega) (by omega) (by omega) (by omega) (by omega)]; exact (k6 k hk).1
  · have hb : 4 ≤ (fun j => 4 * ((o + k0) % 4 + 1) + j) k := by show 4 ≤ 4 * ((o + k0) % 4 + 1) + k; omega
    rw [hY _ _ _ (by omega) (by omega) (by omega) (by omega) (by omega)]; exact ((k6 k hk).2 j hj).1
  · have hb : 4 ≤ (fun j => 4 * ((o + k0) % 4 + 1) + j) k := by show 4 ≤ 4 * ((o + k0) % 4 + 1) + k; omega
    rw [hY _ _ _ (by omega) (by omega) (by omega) (by omega) (by omega)]; exact ((k6 k hk).2 j hj).2
theorem mr_S_Q (h : mr_S f 0 0 sc D r s n H) (hQ : mt_Q 0 f F) : mr_S F 0 0 sc D r s n H := mr_S_k h (fun k i j hn => hQ k i j (by omega))
theorem mr_carry (hg : mr_g g sc) (hS : mr_S f 0 0 sc D r s n H) (hH : H < 1000000) (hK : f 2 0 2 = K) (hv : (K = nI 103 ∨ K = nI 104 ∨ K = nI 114) → f 2 0 3 = v) (hw : (K = nI 103 ∨ K = nI 104) → f 2 0 4 = w) (hK4 : K = nI 103 ∨ K = nI 104 ∨ K = nI 114 ∨ K = nI 115) (hin : mt_in K v w r n) : ∃ F2 G sc2, mj_x X 85 [.inr (5, 0)] (S, f, g) = some (some (.inl (sp_ln D s n K v w).1), (S, F2, G)) ∧ mr_g G sc2 ∧ mr_S F2 0 0 sc2 (sp_ln D s n K v w).2 r s n (H + 1) ∧ mr_G 0 0 0 f F2 := by
  have hG := hS.1.1.1
  have h60 := hG.n60
  have hsn := hG.sn
  have hs3 := hG.2.2.1
  have hs10 := hG.2.2.2.1
  have hr6 := hG.2.1
  have hr1 := hG.1
  have hV := hS.2.1.2.2.2.1
  have hok1 := sp_ok_ln (K := K) (v := v) (w := w) hS.2.1 hH hK4 hin
  unfold sp_ln at hok1 ⊢
  rcases hK4 with rfl | rfl | rfl | rfl
  · have v1 := hv (Or.inl rfl)
    have w1 := hw (Or.inl rfl)
    obtain ⟨i1, i2⟩ := hin.2.1 rfl
    obtain ⟨j, hj, rfl⟩ := mr_in (by omega) (by omega) i1
    obtain ⟨q, hq1, hq, rfl⟩ := mr_am i2
    rw [if_pos rfl, nI_clamp (by omega)] at hok1 ⊢
    dsimp only at hok1 ⊢
    have gr := mc_gunningRefusal (X := X) (S := S) (m := nI q) hg.2.1.2.2.1 (show j < 60 by omega) (mr_L_T0 hS.1 hV hj)
    rw [mr_L_gr hS.1 hV hj] at gr
    by_cases c0 : sp_gr D j (nI q) = nI 0
    · rw [if_pos c0] at hok1 ⊢
      rw [c0] at gr ⊢
      have po := mc_putOn (X := X) (S := S) (m := nI q) hg.2.1.2.2.1 (show j < 60 by omega) (mr_L_T0 hS.1 hV hj)
      have FF := mr_F_po (a := 0) (f := f) (j := j) (q := nI q)
      refine ⟨mc_po f 0 j (nI q), g, sc, ?_, hg, mr_S_L hS FF (mr_L_po hS.1 hj) hok1 (fun i hi => sp_po_o (by omega)), mr_G_F FF⟩
      simp (disch := omega) only [mj_x85, mj_g85_0, mj_g85_1, mj_g85_2, mj_g85_3, mj_g85_4, mj_g85_5, mj_g85_6, mj_g85_7, mj_g85_25, mj_g85_26, mj_g85_27, mj_g85_28, mj_g85_29, mj_g85_30, mj_g85_31, mj_g85_32, mj_g85_33, mj_g85_34, mj_g85_35, mj_g85_36, mj_g85_37, mj_g85_38, mj_g85_39, mj_g85_40, mj_g85_41, mj_g85_42, mj_g85_43, mj_g85_44, mj_g85_45, mj_g85_46, ↓reduceIte, Option.bind_some, Option.toList_some, Option.toList_none, List.cons_append, List.nil_append, mj_ixn, mj_add, mj_mul, mj_sub, mj_dv, mj_rmn, mj_ltT, mj_ltF, mj_leT, mj_leF, mj_eqT, mj_eqF, mj_z0T, mj_z0F, mj_bo0, mj_boc, mj_chk10, mj_chk11, and_self, not_true, not_false_eq_true, hg.1.1, hg.2.1.1, hg.1.2.2.2, hK, mj_ti3, mj_ti4, mj_ti14, v1, w1, gr, po]
    · rw [if_neg c0] at hok1 ⊢
      have c0' : ¬ sp_gr D j (nI q) = 0 := fun q_ => c0 (q_.trans nI_0.symm)
      refine ⟨f, g, sc, ?_, hg, mr_S_H hS (by omega), mr_G_r⟩
      simp (disch := omega) only [mj_x85, mj_g85_0, mj_g85_1, mj_g85_2, mj_g85_3, mj_g85_4, mj_g85_5, mj_g85_6, mj_g85_7, mj_g85_25, mj_g85_26, mj_g85_27, mj_g85_28, mj_g85_29, mj_g85_30, mj_g85_31, mj_g85_32, mj_g85_33, mj_g85_34, mj_g85_35, mj_g85_45, mj_g85_46, ↓reduceIte, Option.bind_some, Option.toList_some, Option.toList_none, List.cons_append, List.nil_append, mj_ixn, mj_add, mj_mul, mj_sub, mj_dv, mj_rmn, mj_ltT, mj_ltF, mj_leT, mj_leF, mj_eqT, mj_eqF, mj_z0T, mj_z0F, mj_bo0, mj_boc, mj_chk10, mj_chk11, and_self, not_true, not_false_eq_true, hg.1.1, hg.2.1.1, hg.1.2.2.2, hK, mj_ti3, mj_ti4, mj_ti14, v1, w1, gr, c0']
  · have v1 := hv (Or.inr (Or.inl rfl))
    have w1 := hw (Or.inr rfl)
    rw [if_neg (by decide), if_pos rfl] at hok1 ⊢
    obtain ⟨p, hp, ep, -⟩ := mr_fo (hin.1 rfl)
    have ov : f 1 0 11 = D 5 := hS.1.2.2.1.2.2.2
    rw [ep] at hok1 ⊢
    rcases hV.1 with h5 | h5
    · rw [if_pos h5] at hok1 ⊢
      have mh := mc_makeHeat (X := X) (S := S) (φ := nI p) hg.2.1.2.2.1 (mr_L_O hS.1 hV)
      have fo := mc_factorOf (X := X) (S := S) (f := f) (g := g) (t := v) (sl := w)
      rw [ep] at fo
      have FF := mr_F_ht (a := 0) (f := f) (s := s) (n := n) (φ := nI p)
      refine ⟨mc_ht f 0 s n (nI p), g, sc, ?_, hg, mr_S_L hS FF (mr_L_ht hS.1 hV hp h5) hok1 (fun i hi => sp_ht_o (by omega)), mr_G_F FF⟩
      simp (disch := omega) only [mj_x85, mj_g85_0, mj_g85_1, mj_g85_2, mj_g85_3, mj_g85_4, mj_g85_5, mj_g85_6, mj_g85_7, mj_g85_8, mj_g85_9, mj_g85_10, mj_g85_13, mj_g85_14, mj_g85_15, mj_g85_16, mj_g85_17, mj_g85_18, mj_g85_19, mj_g85_20, mj_g85_21, mj_g85_22, mj_g85_23, mj_g85_24, ↓reduceIte, Option.bind_some, Option.toList_some, Option.toList_none, List.cons_append, List.nil_append, mj_ixn, mj_add, mj_mul, mj_sub, mj_dv, mj_rmn, mj_ltT, mj_ltF, mj_leT, mj_leF, mj_eqT, mj_eqF, mj_z0T, mj_z0F, mj_bo0, mj_boc, mj_chk10, mj_chk11, and_self, not_true, not_false_eq_true, hg.1.1, hg.2.1.1, hg.1.2.2.2, hK, mj_ti3, mj_ti4, mj_ti14, mj_kd4, ov, h5, v1, w1, fo, mh]
    · rw [if_neg (by rw [h5]; decide)] at hok1 ⊢
      refine ⟨f, g, sc, ?_, hg, mr_S_H hS (by omega), mr_G_r⟩
      simp (disch := omega) only [mj_x85, mj_g85_0, mj_g85_1, mj_g85_2, mj_g85_3, mj_g85_4, mj_g85_5, mj_g85_6, mj_g85_7, mj_g85_8, mj_g85_9, mj_g85_10, mj_g85_11, mj_g85_12, ↓reduceIte, Option.bind_some, Option.toList_some, Option.toList_none, List.cons_append, List.nil_append, mj_ixn, mj_add, mj_mul, mj_sub, mj_dv, mj_rmn, mj_ltT, mj_ltF, mj_leT, mj_leF, mj_eqT, mj_eqF, mj_z0T, mj_z0F, mj_bo0, mj_boc, mj_chk10, mj_chk11, and_self, not_true, not_false_eq_true, hg.1.1, hg.2.1.1, hg.1.2.2.2, hK, mj_ti3, mj_ti4, mj_ti14, mj_kd4, ov, h5]
  · have v1 := hv (Or.inr (Or.inr rfl))
    rw [if_neg (by decide), if_neg (by decide), if_neg (by decide)] at hok1 ⊢
    obtain ⟨j, hj, rfl⟩ := mr_in (by omega) (by omega) (hin.2.2 rfl)
    rw [nI_clamp (by omega)] at hok1 ⊢
    have h6 := hG.2.2.2.2
    have h7 := Nat.mul_le_mul_left s (show j + 1 ≤ r from hj)
    rw [Nat.mul_add, Nat.mul_one, Nat.mul_comm s r, ← h6] at h7
    have lr := mc_layRing (X := X) (S := S) (j := j) hg.2.1.2.2.1 hS.1.2.1.2.1 (by omega) (by omega) (by rw [Nat.mul_comm]; omega)
    have FF := mr_F_lr (a := 0) (f := f) (s := s) (j := j)
    refine ⟨mc_lr f 0 s j, g, sc, ?_, hg, mr_S_L hS FF (mr_L_lr hS.1 hj) hok1 (fun i hi => sp_lr_o (by omega)), mr_G_F FF⟩
    simp (disch := omega) only [mj_x85, mj_g85_0, mj_g85_1, mj_g85_2, mj_g85_3, mj_g85_4, mj_g85_5, mj_g85_6, mj_g85_7, mj_g85_47, mj_g85_48, mj_g85_49, mj_g85_50, mj_g85_51, mj_g85_52, mj_g85_53, mj_g85_54, ↓reduceIte, Option.bind_some, Option.toList_some, Option.toList_none, List.cons_append, List.nil_append, mj_ixn, mj_add, mj_mul, mj_sub, mj_dv, mj_rmn, mj_ltT, mj_ltF, mj_leT, mj_leF, mj_eqT, mj_eqF, mj_z0T, mj_z0F, mj_bo0, mj_boc, mj_chk10, mj_chk11, and_self, not_true, not_false_eq_true, hg.1.1, hg.2.1.1, hg.1.2.2.2, hK, mj_ti3, mj_ti4, mj_ti14, mj_kd5, mj_kd6, v1, lr]
  · rw [if_neg (by decide), if_neg (by decide), if_pos rfl] at hok1 ⊢
    obtain ⟨F1, G, sd, d, t1, t2, t3, t4, t5, t6, t7, t8⟩ := mr_take (X := X) (S := S) hg.2.1 hS hg.2.2.2.2.2.2.2
    refine ⟨F1, G, sd, ?_, mr_g_dg hg t5 t7 t6, mr_S_H t2 (by omega), t8⟩
    simp (disch := omega) only [mj_x85, mj_g85_0, mj_g85_1, mj_g85_2, mj_g85_3, mj_g85_4, mj_g85_5, mj_g85_6, mj_g85_7, mj_g85_55, mj_g85_56, mj_g85_57, mj_g85_58, mj_g85_59, mj_g85_60, ↓reduceIte, Option.bind_some, Option.toList_some, Option.toList_none, List.cons_append, List.nil_append, mj_ixn, mj_add, mj_mul, mj_sub, mj_dv, mj_rmn, mj_ltT, mj_ltF, mj_leT, mj_leF, mj_eqT, mj_eqF, mj_z0T, mj_z0F, mj_bo0, mj_boc, mj_chk10, mj_chk11, and_self, not_true, not_false_eq_true, hg.1.1, hg.2.1.1, hg.1.2.2.2, hK, mj_ti3, mj_ti4, mj_ti14, mj_kd7, mj_kd8, mj_kd9, t1]
theorem mr_runl (h100 : L ≤ 100) : ∀ (q k b c H : Nat) (f : mj_F) (g : mj_G) (sc : Nat → Nat) (D : Nat → Int32) (o4 : Option mj_V), mr_g g sc → mr_S f 0 0 sc D r s n H → f 14 0 = t → f 2 0 1 = nI L → (∀ j, j < L → mj_chk 2 (t j) = true) → k + q = 100 → b ≤ 2000 → c ≤ k → H + q ≤ 1000000 → mt_ff t L r n q b = none → ∃ F G sc2, mj_g X 83 21 [some (.inr (5, 0)), some (.inl (nI c)), some (.inl (nI b)), some (.inl (nI k)), o4] [] (S, f, g) = some (some (.inl (nI (sp_run t L s n q b c D).1)), (S, F, G)) ∧ mr_g G sc2 ∧ mr_S F 0 0 sc2 (sp_run t L s n q b c D).2.2 r s n (H + q) ∧ F 5 0 4 = (if (sp_run t L s n q b c D).2.1 = nI 0 then f 5 0 4 else (sp_run t L s n q b c D).2.1) ∧ mr_Y f F := by
  intro q
  induction q with
  | zero =>
    intro k b c H f g sc D o4 hg hS ht hL hch hk hb hck hH hff
    refine ⟨f, g, sc, ?_, hg, hS, (if_pos rfl).symm, mr_Y_r⟩
    refine Eq.trans mj_g83_21 ?_
    simp (disch := omega) only [mj_g83_22, mj_g83_23, mj_g83_51, mj_g83_52, ↓reduceIte, Option.bind_some, Option.toList_some, Option.toList_none, List.cons_append, List.nil_append, mj_ixn, mj_add, mj_mul, mj_sub, mj_dv, mj_rmn, mj_ltT, mj_ltF, mj_leT, mj_leF, mj_eqT, mj_eqF, mj_z0T, mj_z0F, mj_bo0, mj_boc, mj_chk10, mj_chk11, and_self, not_true, not_false_eq_true]
    rfl
  | succ q ih =>
    intro k b c H f g sc D o4 hg hS ht hL hch hk hb hck hH hff
    rw [mt_ff_s] at hff
    rw [sp_run_s]
    by_cases c1 : b < L
    · rw [if_pos c1] at hff ⊢
      by_cases c2 : mt_P t L r n b
      · rw [if_pos c2] at hff
        obtain ⟨f2, a1, a2, a3, a4⟩ := mc_readLine (X := X) (S := S) (f := f) (b := b) hg.2.2.2.2.2.1 hL h100 c1 (by rw [ht]; exact hch b c1)
        rw [ht] at a1 a3 a4
        obtain ⟨b1, b2, b3⟩ := a4 c2.1
        obtain ⟨f3, G, sc3, d1, d2, d3, d4⟩ := mr_carry (X := X) (S := S) hg (mr_S_Q hS a2) (by omega) a3 b2 b3 (mt_ok_K c2.1) c2.2
        have k5 := sp_ln_c (s := s) (n := n) (K := t b) (v := (mt_n t L (b + 1)).2) (w := (mt_m2 t L (b + 1)).2) hS.2.1.2.2.2.1.1
        have y3 : mr_Y f f3 := mr_Y_t (mr_Y_Q a2) (mr_Y_G d4)
        have w3 : f3 5 0 4 = f 5 0 4 := (d4 5 0 4 (by omega) (by omega) (by omega)).trans (a2 5 0 4 (by omega))
        have t3 : f3 14 0 = t := by rw [← ht]; exact funext (fun j => y3 14 0 j (by omega) (by omega) (by omega) (by omega) (by omega))
        have L3 : f3 2 0 1 = nI L := (y3 2 0 1 (by omega) (by omega) (by omega) (by omega) (by omega)).trans hL
        have p3 : f3 2 0 5 = nI (mt_nx t L b) := (d4 2 0 5 (by omega) (by omega) (by omega)).trans b1
        generalize (sp_ln D s n (t b) (mt_n t L (b + 1)).2 (mt_m2 t L (b + 1)).2).1 = why at d1 k5 ⊢
        generalize (sp_ln D s n (t b) (mt_n t L (b + 1)).2 (mt_m2 t L (b + 1)).2).2 = D2 at d3 ⊢
        by_cases c3 : why = nI 0
        · rw [if_pos c3]
          have hx := mt_nx_b (t := t) (L := L) (b := b)
          have hx2 := mt_nx_u (t := t) (L := L) (b := b)
          obtain ⟨F, G2, sc4, e1, e2, e3, e4, e5⟩ := ih (k + 1) (mt_nx t L b) (c + 1) (H + 1) f3 G sc3 D2 (some (.inl (nI 0))) d2 d3 t3 L3 hch (by omega) (by omega) (by omega) (by omega) hff
          refine ⟨F, G2, sc4, ?_, e2, by rw [show H + (q + 1) = H + 1 + q by omega]; exact e3, by rw [e4, w3], mr_Y_t y3 e5⟩
          rw [← e1]
          subst c3
          refine Eq.trans mj_g83_21 ?_
          simp (disch := omega) only [mj_g83_22, mj_g83_23, mj_g83_24, mj_g83_25, mj_g83_26, mj_g83_27, mj_g83_28, mj_g83_29, mj_g83_30, mj_g83_31, mj_g83_32, mj_g83_33, mj_g83_34, mj_g83_35, mj_g83_36, mj_g83_37, mj_g83_38, mj_g83_44, mj_g83_45, mj_g83_46, mj_g83_47, mj_g83_48, mj_g83_49, mj_g83_50, ↓reduceIte, Option.bind_some, Option.toList_some, Option.toList_none, List.cons_append, List.nil_append, mj_ixn, mj_add, mj_mul, mj_sub, mj_dv, mj_rmn, mj_ltT, mj_ltF, mj_leT, mj_leF, mj_eqT, mj_eqF, mj_z0T, mj_z0F, mj_bo0, mj_boc, mj_chk10, mj_chk11, and_self, not_true, not_false_eq_true, hg.1.2.2.2, d2.1.2.2.2, hL, a1, d1, p3]
        · rw [if_neg c3]
          have c3' : ¬ why = 0 := fun q_ => c3 (q_.trans nI_0.symm)
          refine ⟨mj_u f3 5 0 4 why, G, sc3, ?_, d2, mr_S_k (mr_S_H d3 (by omega)) (fun k i j hn => mj_u_n (by omega)), ?_, mr_Y_t y3 (fun k i j n1 n2 n3 n4 n5 => mj_u_n (by omega))⟩
          · refine Eq.trans mj_g83_21 ?_
            simp (disch := omega) only [mj_g83_22, mj_g83_23, mj_g83_24, mj_g83_25, mj_g83_26, mj_g83_27, mj_g83_28, mj_g83_29, mj_g83_30, mj_g83_31, mj_g83_32, mj_g83_33, mj_g83_34, mj_g83_35, mj_g83_36, mj_g83_37, mj_g83_38, mj_g83_39, mj_g83_40, mj_g83_41, mj_g83_42, mj_g83_43, ↓reduceIte, Option.bind_some, Option.toList_some, Option.toList_none, List.cons_append, List.nil_append, mj_ixn, mj_add, mj_mul, mj_sub, mj_dv, mj_rmn, mj_ltT, mj_ltF, mj_leT, mj_leF, mj_eqT, mj_eqF, mj_z0T, mj_z0F, mj_bo0, mj_boc, mj_chk10, mj_chk11, and_self, not_true, not_false_eq_true, hg.1.2.2.2, hL, a1, d1, c3']
          · rw [mj_us, if_neg c3]
      · rw [if_neg c2] at hff; cases hff
    · rw [if_neg c1]
      refine ⟨f, g, sc, ?_, hg, mr_S_H hS (by omega), (if_pos rfl).symm, mr_Y_r⟩
      refine Eq.trans mj_g83_21 ?_
      simp (disch := omega) only [mj_g83_22, mj_g83_23, mj_g83_24, mj_g83_25, mj_g83_26, mj_g83_27, mj_g83_28, mj_g83_51, mj_g83_52, ↓reduceIte, Option.bind_some, Option.toList_some, Option.toList_none, List.cons_append, List.nil_append, mj_ixn, mj_add, mj_mul, mj_sub, mj_dv, mj_rmn, mj_ltT, mj_ltF, mj_leT, mj_leF, mj_eqT, mj_eqF, mj_z0T, mj_z0F, mj_bo0, mj_boc, mj_chk10, mj_chk11, and_self, not_true, not_false_eq_true, hg.1.2.2.2, hL]
theorem mr_m_Q (h : mr_m f D z Ds L t w) (hQ : md_Q 0 f F) : mr_m F D z Ds L t w := by
  obtain ⟨m1, m2, m3, m4, m5, m6⟩ := h
  exact ⟨by rw [← m1]; exact funext (fun j => hQ _ _ _ (by omega)), by rw [hQ _ _ _ (by omega)]; exact m2, fun k hk j hj => by rw [hQ _ _ _ (by omega)]; exact m3 k hk j hj, by rw [hQ _ _ _ (by omega)]; exact m4, by rw [← m5]; exact funext (fun j => hQ _ _ _ (by omega)), by rw [hQ _ _ _ (by omega)]; exact m6⟩
theorem mr_run : mr_op X 83 145 [] := by
  intro S f g r s n H D z Ds L t w hH hc hm
  have hz := mr_c_z hc
  have hc0 := hc
  obtain ⟨sc, hg, hS, h3, hX, hw⟩ := hc
  obtain ⟨f2, d1, d2⟩ := mc_firstFault (X := X) (S := S) (r := r) (n := n) hg.2.2.2.2.2.1 hX.2.1 hX.1 (fun j hj => by rw [hX.2.2.1]; exact hX.2.2.2 j hj) hS.1.2.1.1 hS.1.2.1.2.2
  rw [hX.2.2.1] at d1
  have C1 := mr_c_q hc0 d2
  have oi := mc_oi_n (o := mt_ff t L r n 100 0) (fun j hj => by have := mt_ff_lt _ _ _ hj; have := hX.1; omega)
  by_cases c1 : mt_ff t L r n 100 0 = none
  · have oi2 := oi.mpr c1
    rw [oi2] at d1
    obtain ⟨F, e1, e2, e3⟩ := mr_rec (X := X) (S := S) C1
    have e20 := e2
    obtain ⟨sc1, hg1, hS1, hH1, hX1, hw1⟩ := e2
    obtain ⟨F3, G, sc3, r1, r2, r3, r4, r5⟩ := mr_runl (X := X) (S := S) (r := r) (s := s) (n := n) hX.1 100 0 0 0 H F g sc1 D none hg1 hS1 hX1.2.2.1 hX1.2.1 hX1.2.2.2 rfl (by omega) (Nat.le_refl 0) (by omega) c1
    have C2 : mr_c F3 G r s n (H + 100) (sp_run t L s n 100 0 0 D).2.2 (sp_rz z) (sp_rd D z Ds) L t (if (sp_run t L s n 100 0 0 D).2.1 = nI 0 then w else (sp_run t L s n 100 0 0 D).2.1) := ⟨sc3, r2, r3, mr_HC_Y hH1 (by omega) r5, mr_X_k hX1 (fun k i j hn => r5 k i j (by omega) (by omega) (by omega) (by omega) (by omega)), by rw [r4, hw1]⟩
    have FC := mr_fc_t (mr_fc_Q d2) (mr_fc_t e3 (mr_fc_Y r5))
    have M1 := mr_m_c hm FC
    have ok1 : sp_ok (F3 18 0) r s n H := by rw [M1.1]; exact hS.2.1
    have gm := r2.2.2.2.2.2.2.1
    obtain ⟨f4, d3, d4⟩ := md_fault (X := X) (S := S) gm.1 gm.2.2.2.2 (md_O_ok ok1) M1.2.2.2.1 hX.1
    rw [M1.2.2.2.2.1, oi2] at d3
    have M2 := mr_m_Q M1 d4
    obtain ⟨F5, y1, y2, y3⟩ := mr_mrec (X := X) (S := S) gm.1 gm.2.1 M2 hz
    have Q6 : md_Q 0 F5 (mj_u F5 6 0 8 (nI 0)) := md_Q_u (fun _ _ _ _ => rfl) (by omega)
    have M3 := mr_m_Q y2 Q6
    obtain ⟨F6, s1, s2, s3, s4, s5⟩ := md_runl (X := X) (S := S) (r := r) (s := s) (n := n) gm.1 gm.2.2.2.1 gm.2.2.2.2 hX.1 100 0 0 H (mj_u F5 6 0 8 (nI 0)) M3.2.2.2.2.1 M3.2.2.2.1 mj_us (by omega) (by omega) (by have := hX.1; omega) (by omega) c1 (by rw [M3.1]; exact hS.2.1)
    rw [M3.1] at s1 s2 s3
    rw [M3.2.2.2.2.2] at s3
    have M4 : mr_m F6 (sp_run t L s n 100 0 0 D).2.2 (sp_rz z) (sp_rd D z Ds) L t (if (sp_run t L s n 100 0 0 D).2.1 = nI 0 then w else (sp_run t L s n 100 0 0 D).2.1) := by
      obtain ⟨m1, m2, m3, m4, m5, m6⟩ := M3
      exact ⟨s2, by rw [s4 _ _ _ (by omega) (by omega)]; exact m2, fun k hk j hj => by rw [s4 _ _ _ (by omega) (by omega)]; exact m3 k hk j hj, by rw [s4 _ _ _ (by omega) (by omega)]; exact m4, by rw [← m5]; exact funext (fun j => s4 _ _ _ (by omega) (by omega)), s3⟩
    refine mr_done (v := nI (sp_run t L s n 100 0 0 D).1) ?_ C2 (Nat.le_refl _) ?_ (mr_fm_t (mr_fm_Q d4) (mr_fm_t y3 (mr_fm_t (mr_fm_Q Q6) (mr_fm_J s4)))) (fun _ _ => rfl) M4
    · rw [← r1]
      simp (disch := omega) only [mj_x83, mj_g83_0, mj_g83_1, mj_g83_2, mj_g83_3, mj_g83_4, mj_g83_5, mj_g83_6, mj_g83_7, mj_g83_10, mj_g83_11, mj_g83_12, mj_g83_13, mj_g83_14, mj_g83_15, mj_g83_16, mj_g83_17, mj_g83_18, mj_g83_19, mj_g83_20, ↓reduceIte, Option.bind_some, Option.toList_some, Option.toList_none, List.cons_append, List.nil_append, mj_ixn, mj_add, mj_mul, mj_sub, mj_dv, mj_rmn, mj_ltT, mj_ltF, mj_leT, mj_leF, mj_eqT, mj_eqF, mj_z0T, mj_z0F, mj_bo0, mj_boc, mj_chk10, mj_chk11, and_self, not_true, not_false_eq_true, hg.1.2.2.2, hg.1.2.2.1, hg.1.1, hg.2.1.1, d1, e1]
    · rw [← s1]
      simp (disch := omega) only [mj_x145, mj_g145_0, mj_g145_1, mj_g145_2, mj_g145_3, mj_g145_6, mj_g145_7, mj_g145_8, mj_g145_9, mj_g145_10, mj_g145_11, mj_g145_12, mj_g145_13, mj_g145_14, ↓reduceIte, Option.bind_some, Option.toList_some, Option.toList_none, List.cons_append, List.nil_append, mj_ixn, mj_add, mj_mul, mj_sub, mj_dv, mj_rmn, mj_ltT, mj_ltF, mj_leT, mj_leF, mj_eqT, mj_eqF, mj_z0T, mj_z0F, mj_bo0, mj_boc, mj_chk10, mj_chk11, and_self, not_true, not_false_eq_true, d3, y1]
  · have oi2 : ¬ mc_oi (mt_ff t L r n 100 0) = (-1000004) := fun q_ => c1 (oi.mp q_)
    have M1 := mr_m_c hm (mr_fc_Q d2)
    have ok1 : sp_ok (f2 18 0) r s n H := by rw [M1.1]; exact hS.2.1
    have gm := hg.2.2.2.2.2.2.1
    obtain ⟨f3, d3, d4⟩ := md_fault (X := X) (S := S) gm.1 gm.2.2.2.2 (md_O_ok ok1) M1.2.2.2.1 hX.1
    rw [M1.2.2.2.2.1] at d3
    refine mr_same (v := (-1000002)) (F := f2) (F2 := f3) ?_ C1 ?_ (mr_fm_Q d4) (mr_m_Q M1 d4)
    · simp (disch := omega) only [mj_x83, mj_g83_0, mj_g83_1, mj_g83_2, mj_g83_3, mj_g83_4, mj_g83_5, mj_g83_6, mj_g83_7, mj_g83_8, mj_g83_9, ↓reduceIte, Option.bind_some, Option.toList_some, Option.toList_none, List.cons_append, List.nil_append, mj_ixn, mj_add, mj_mul, mj_sub, mj_dv, mj_rmn, mj_ltT, mj_ltF, mj_leT, mj_leF, mj_eqT, mj_eqF, mj_z0T, mj_z0F, mj_bo0, mj_boc, mj_chk10, mj_chk11, and_self, not_true, not_false_eq_true, hg.1.2.2.2, hg.1.1, hg.2.1.1, d1, oi2]
    · simp (disch := omega) only [mj_x145, mj_g145_0, mj_g145_1, mj_g145_2, mj_g145_3, mj_g145_4, mj_g145_5, ↓reduceIte, Option.bind_some, Option.toList_some, Option.toList_none, List.cons_append, List.nil_append, mj_ixn, mj_add, mj_mul, mj_sub, mj_dv, mj_rmn, mj_ltT, mj_ltF, mj_leT, mj_leF, mj_eqT, mj_eqF, mj_z0T, mj_z0F, mj_bo0, mj_boc, mj_chk10, mj_chk11, and_self, not_true, not_false_eq_true, d3, oi2]
end O7
