/-! what a line, and a text, makes of a state; the reference carries out just that -/
def sp_sc (D : Nat → Int32) (n : Nat) : Nat → Int32 := if D 142 = nI 4 then sp_st (sp_sd D) 3 n else sp_st D (D 142).toNatClampNeg n
def sp_ln (D : Nat → Int32) (s n : Nat) (K v w : Int32) : Int32 × (Nat → Int32) :=
  if K = nI 103 then (sp_gr D v.toNatClampNeg w, if sp_gr D v.toNatClampNeg w = nI 0 then sp_po D v.toNatClampNeg w else D)
  else if K = nI 104 then (if D 5 = nI 0 then (nI 0, sp_ht D s n (mc_fo v w)) else (nI 1, D))
  else if K = nI 115 then (nI 0, sp_sc D n)
  else (nI 0, sp_lr D (s * v.toNatClampNeg) s)
def sp_run (t : Nat → Int32) (L s n : Nat) : Nat → Nat → Nat → (Nat → Int32) → Nat × Int32 × (Nat → Int32)
  | 0, _, c, D => (c, nI 0, D)
  | q + 1, b, c, D => if b < L then (if (sp_ln D s n (t b) (mt_n t L (b + 1)).2 (mt_m2 t L (b + 1)).2).1 = nI 0 then sp_run t L s n q (mt_nx t L b) (c + 1) (sp_ln D s n (t b) (mt_n t L (b + 1)).2 (mt_m2 t L (b + 1)).2).2 else (c, (sp_ln D s n (t b) (mt_n t L (b + 1)).2 (mt_m2 t L (b + 1)).2).1, (sp_ln D s n (t b) (mt_n t L (b + 1)).2 (mt_m2 t L (b + 1)).2).2)) else (c, nI 0, D)
theorem sp_run_s (t : Nat → Int32) (L s n q b c : Nat) (D : Nat → Int32) : sp_run t L s n (q + 1) b c D = if b < L then (if (sp_ln D s n (t b) (mt_n t L (b + 1)).2 (mt_m2 t L (b + 1)).2).1 = nI 0 then sp_run t L s n q (mt_nx t L b) (c + 1) (sp_ln D s n (t b) (mt_n t L (b + 1)).2 (mt_m2 t L (b + 1)).2).2 else (c, (sp_ln D s n (t b) (mt_n t L (b + 1)).2 (mt_m2 t L (b + 1)).2).1, (sp_ln D s n (t b) (mt_n t L (b + 1)).2 (mt_m2 t L (b + 1)).2).2)) else (c, nI 0, D) := rfl
def sp_ok (D : Nat → Int32) (r s n H : Nat) : Prop := mc_Ge r s n ∧ D 0 = nI r ∧ D 1 = nI s ∧ mr_V D n ∧ ∃ c, c ≤ 4 ∧ D 142 = nI c ∧ mr_U D c n H
theorem mr_fo_chk : ∀ a, a < 401 → md_dn (nI (1400 + a) - nI 1600) (nI 4) = mj_fd (nI (1400 + a) - nI 1600) (nI 4) ∧ nI 100 + mj_fd (nI (1400 + a) - nI 1600) (nI 4) = nI ((1400 + a) / 4 - 300) := by decide +kernel
theorem mr_fo {t sl : Int32} (h : mc_iH t sl) : ∃ p, p ≤ 200 ∧ mc_fo t sl = nI p ∧ md_fo t sl = nI p := by
  obtain ⟨⟨h1, h2⟩, h3, h4⟩ := h
  rw [Int32.le_iff_toInt_le, nI_toInt (by omega)] at h1 h2 h3 h4
  obtain ⟨a, ha, rfl⟩ := mj_nIx (w := t) (N := 1801) (by omega) (by omega)
  obtain ⟨b, hb, rfl⟩ := mj_nIx (w := sl) (N := 101) (by omega) (by omega)
  rw [nI_toInt (by omega)] at h1
  obtain ⟨e1, e2⟩ := mr_fo_chk (a - 1400) (by omega)
  rw [show 1400 + (a - 1400) = a by omega] at e1 e2
  refine ⟨a / 4 - 300 + b / 2, by omega, ?_, ?_⟩
  · unfold mc_fo
    rw [e2, mj_dv (by omega) (by omega) (by omega), mj_add]
  · unfold md_fo
    rw [e1, e2, mj_dv (by omega) (by omega) (by omega), mj_add]
theorem mr_in {v : Int32} {n : Nat} (h0 : 0 < n) (hn : n ≤ 1000) (h : nI 0 ≤ v ∧ v ≤ nI n - nI 1) : ∃ j, j < n ∧ v = nI j := by
  obtain ⟨h1, h2⟩ := h
  rw [mj_sub (by omega), Int32.le_iff_toInt_le, nI_toInt (by omega)] at h2
  rw [Int32.le_iff_toInt_le, nI_toInt (by omega)] at h1
  exact mj_nIx (by omega) (by omega)
theorem mr_am {v : Int32} (h : nI 1 ≤ v ∧ v ≤ nI 500) : ∃ m, 1 ≤ m ∧ m ≤ 500 ∧ v = nI m := by
  obtain ⟨h1, h2⟩ := h
  rw [Int32.le_iff_toInt_le, nI_toInt (by omega)] at h1 h2
  obtain ⟨m, hm, rfl⟩ := mj_nIx (w := v) (N := 501) (by omega) (by omega)
  rw [nI_toInt (by omega)] at h1
  exact ⟨m, by omega, by omega, rfl⟩
theorem sp_gr_c {D : Nat → Int32} {j : Nat} {q : Int32} : sp_gr D j q = nI 0 ∨ sp_gr D j q = nI 1 ∨ sp_gr D j q = nI 2 ∨ sp_gr D j q = nI 3 := by
  unfold sp_gr
  split
  · exact Or.inr (Or.inl rfl)
  · split
    · split
      · exact Or.inl rfl
      · exact Or.inr (Or.inr (Or.inr rfl))
    · exact Or.inr (Or.inr (Or.inl rfl))
section OK
variable {D : Nat → Int32} {r s n H H2 j m b c : Nat} {K v w φ : Int32}
theorem sp_ok_H (h : sp_ok D r s n H) (hH : H ≤ H2) : sp_ok D r s n H2 := by
  obtain ⟨h1, h2, h3, h4, c, h5, h6, h7⟩ := h
  exact ⟨h1, h2, h3, h4, c, h5, h6, mr_U_h h7 hH⟩
theorem sp_ok_ht {p : Nat} (h : sp_ok D r s n H) (hp : p ≤ 200) (hH : H < 1000000) : sp_ok (sp_ht D s n (nI p)) r s n (H + 1) := by
  obtain ⟨h1, h2, h3, h4, c, h5, h6, h7⟩ := h
  have h60 := h1.n60
  exact ⟨h1, by rw [sp_ht_o (by omega)]; exact h2, by rw [sp_ht_o (by omega)]; exact h3, mr_V_ht h4 h1 hp, c, h5, by rw [sp_ht_o (by omega)]; exact h6, mr_U_ht h7 h60 hH⟩
theorem sp_ok_po (h : sp_ok D r s n H) (hj : j < n) (hm : m ≤ 500) (hr : sp_gr D j (nI m) = nI 0) : sp_ok (sp_po D j (nI m)) r s n H := by
  obtain ⟨h1, h2, h3, h4, c, h5, h6, h7⟩ := h
  have h60 := h1.n60
  exact ⟨h1, by rw [sp_po_o (by omega)]; exact h2, by rw [sp_po_o (by omega)]; exact h3, mr_V_po h4 h60 hj hm hr, c, h5, by rw [sp_po_o (by omega)]; exact h6, mr_U_e h7 (Nat.le_refl _) (sp_po_o (by omega)) (fun i hi => sp_po_o (by omega))⟩
theorem sp_ok_lr (h : sp_ok D r s n H) (hb : b + c ≤ n) : sp_ok (sp_lr D b c) r s n H := by
  obtain ⟨h1, h2, h3, h4, c, h5, h6, h7⟩ := h
  have h60 := h1.n60
  exact ⟨h1, by rw [sp_lr_o (by omega)]; exact h2, by rw [sp_lr_o (by omega)]; exact h3, mr_V_lr h4 h60 hb, c, h5, by rw [sp_lr_o (by omega)]; exact h6, mr_U_e h7 (Nat.le_refl _) (sp_lr_o (by omega)) (fun i hi => sp_lr_o (by omega))⟩
theorem sp_st_142 : sp_st D c n 142 = nI (c + 1) := rfl
theorem sp_ok_sc (h : sp_ok D r s n H) : sp_ok (sp_sc D n) r s n H := by
  obtain ⟨h1, h2, h3, h4, c, h5, h6, h7⟩ := h
  have h60 := h1.n60
  unfold sp_sc
  by_cases c1 : c = 4
  · subst c1
    rw [if_pos h6]
    exact ⟨h1, by rw [sp_st_o (by omega) h60 (by omega), sp_sd_o (by omega)]; exact h2, by rw [sp_st_o (by omega) h60 (by omega), sp_sd_o (by omega)]; exact h3, mr_V_142 h4 h60 (fun i hi => by rw [sp_st_o (by omega) h60 hi, sp_sd_o hi]), 4, by omega, sp_st_142, mr_U_st (mr_V_142 h4 h60 (fun i hi => sp_sd_o hi)) (mr_U_sd h7 h60) (by omega) h60⟩
  · rw [h6, if_neg (fun q_ => c1 ((mj_eq (by omega) (by omega)).mp q_)), nI_clamp (by omega)]
    exact ⟨h1, by rw [sp_st_o (by omega) h60 (by omega)]; exact h2, by rw [sp_st_o (by omega) h60 (by omega)]; exact h3, mr_V_142 h4 h60 (fun i hi => by rw [sp_st_o (by omega) h60 hi]), c + 1, by omega, sp_st_142, mr_U_st h4 h7 (by omega) h60⟩
theorem sp_ok_ln (h : sp_ok D r s n H) (hH : H < 1000000) (hK : K = nI 103 ∨ K = nI 104 ∨ K = nI 114 ∨ K = nI 115) (hin : mt_in K v w r n) : sp_ok (sp_ln D s n K v w).2 r s n (H + 1) := by
  have h0 := h.1
  have h60 := h0.n60
  have hsn := h0.sn
  have hs3 := h0.2.2.1
  have hr6 := h0.2.1
  unfold sp_ln
  rcases hK with rfl | rfl | rfl | rfl
  · rw [if_pos rfl]
    obtain ⟨h1, h2⟩ := hin.2.1 rfl
    obtain ⟨j, hj, rfl⟩ := mr_in (by omega) (by omega) h1
    obtain ⟨m, hm1, hm, rfl⟩ := mr_am h2
    rw [nI_clamp (by omega)]
    show sp_ok (if _ then _ else _) r s n (H + 1)
    by_cases c1 : sp_gr D j (nI m) = nI 0
    · rw [if_pos c1]
      exact sp_ok_H (sp_ok_po h hj hm c1) (by omega)
    · rw [if_neg c1]
      exact sp_ok_H h (by omega)
  · rw [if_neg (by decide), if_pos rfl]
    obtain ⟨p, hp, ep, -⟩ := mr_fo (hin.1 rfl)
    rw [ep]
    by_cases c1 : D 5 = nI 0
    · rw [if_pos c1]
      exact sp_ok_ht h hp hH
    · rw [if_neg c1]
      exact sp_ok_H h (by omega)
  · rw [if_neg (by decide), if_neg (by decide), if_neg (by decide)]
    obtain ⟨j, hj, rfl⟩ := mr_in (by have := h0.1; omega) (by omega) (hin.2.2 rfl)
    rw [nI_clamp (by omega)]
    refine sp_ok_H (sp_ok_lr h ?_) (by omega)
    have h5 := h0.2.2.2.2
    have h6 := Nat.mul_le_mul_left s (show j + 1 ≤ r from hj)
    rw [Nat.mul_add, Nat.mul_one] at h6
    rw [h5, Nat.mul_comm r s]
    exact h6
  · rw [if_neg (by decide), if_neg (by decide), if_pos rfl]
    exact sp_ok_H (sp_ok_sc h) (by omega)
theorem sp_ln_c (h5 : D 5 = nI 0 ∨ D 5 = nI 1) : (sp_ln D s n K v w).1 = nI 0 ∨ (sp_ln D s n K v w).1 = nI 1 ∨ (sp_ln D s n K v w).1 = nI 2 ∨ (sp_ln D s n K v w).1 = nI 3 := by
  unfold sp_ln
  split
  · exact sp_gr_c
  · split
    · split
      · exact Or.inl rfl
      · exact Or.inr (Or.inl rfl)
    · split <;> exact Or.inl rfl
end OK
def md_K (m : Nat) (f F : mj_F) : Prop := ∀ k i j, ¬ ((k = 18 ∨ k = 21) ∧ i = m) → F k i j = f k i j
theorem mj_le00 : (nI 0 ≤ 0) = True := eq_true (by decide)
theorem mj_le01 : (nI 1 ≤ 0) = False := eq_false (by decide)
theorem mj_le02 : (nI 2 ≤ 0) = False := eq_false (by decide)
theorem mj_le03 : (nI 3 ≤ 0) = False := eq_false (by decide)
section CA
variable {X : mj_X} {S : List (Nat × Nat)} {f F : mj_F} {g : mj_G} {m L p b r s n H : Nat} {K v w : Int32} {l1 : Option mj_V}
theorem md_O_ok (h : sp_ok (f 18 m) r s n H) : md_O f m r s n := ⟨h.2.1, h.2.2.1, h.1⟩
theorem md_ok_T (h : sp_ok (f 18 m) r s n H) : ∀ j, j < n → ¬ md_T f m j + nI 100 = 0 := fun j hj => mr_T0 h.2.2.2.1 hj
theorem md_ok_13 (h : sp_ok (f 18 m) r s n H) : ¬ f 18 m 13 = 0 := by
  obtain ⟨v, h1, h2, h3⟩ := h.2.2.2.1.2.2.1
  rw [h3]
  exact of_eq_false (mj_z0F (by omega) (by omega))
theorem md_ok_17 (h : sp_ok (f 18 m) r s n H) : ¬ f 18 m 17 = 0 := by
  obtain ⟨v, h1, h2, h3⟩ := h.2.2.2.1.2.2.2.2.1
  rw [h3]
  exact of_eq_false (mj_z0F (by omega) (by omega))
theorem md_scansAny (hg : g 6 m 0 = some (18, m)) (h : sp_ok (f 18 m) r s n H) : ∃ F, mj_x X 108 [.inr (6, m)] (S, f, g) = some (none, (S, F, g)) ∧ F 18 m = sp_sc (f 18 m) n ∧ md_K m f F := by
  have hO := md_O_ok h
  have hT := md_ok_T h
  have h60 := h.1.n60
  obtain ⟨-, -, -, -, c, h5, h6, -⟩ := h
  unfold sp_sc
  by_cases c1 : c = 4
  · subst c1
    rw [if_pos h6]
    refine ⟨_, md_scans4 hg hO h6 hT, by rw [md_sc_sp (by omega) h60, md_sd_sp], fun k i j hn => ?_⟩
    unfold md_sc md_sd
    rw [mj_u, if_neg (by omega), md_sl_o (by omega), mj_u, if_neg (by omega), mj_u, if_neg (by omega), md_so_o (by omega)]
  · rw [h6, if_neg (fun q_ => c1 ((mj_eq (by omega) (by omega)).mp q_)), nI_clamp (by omega)]
    refine ⟨_, md_scans hg hO h6 (by omega) hT, md_sc_sp (by omega) h60, fun k i j hn => ?_⟩
    unfold md_sc
    rw [mj_u, if_neg (by omega), md_sl_o (by omega), mj_u, if_neg (by omega)]
theorem md_carries (hg0 : g 6 m 0 = some (18, m)) (hg5 : g 6 m 5 = some (21, m)) (h : sp_ok (f 18 m) r s n H) (hK : f 6 m 9 = K) (hv : (K = nI 103 ∨ K = nI 104 ∨ K = nI 114) → f 6 m 10 = v) (hw : (K = nI 103 ∨ K = nI 104) → f 6 m 11 = w) (hK4 : K = nI 103 ∨ K = nI 104 ∨ K = nI 114 ∨ K = nI 115) (hin : mt_in K v w r n) : ∃ F, mj_x X 144 [.inr (6, m)] (S, f, g) = some (some (.inl (sp_ln (f 18 m) s n K v w).1), (S, F, g)) ∧ F 18 m = (sp_ln (f 18 m) s n K v w).2 ∧ md_K m f F := by
  have hO := md_O_ok h
  have hT := md_ok_T h
  have h13 := md_ok_13 h
  have h17 := md_ok_17 h
  have h60 := h.1.n60
  have hsn := h.1.sn
  have hs3 := h.1.2.2.1
  have hs10 := h.1.2.2.2.1
  have hr6 := h.1.2.1
  have hr1 := h.1.1
  have h5 := h.2.2.2.1.1
  unfold sp_ln
  rcases hK4 with rfl | rfl | rfl | rfl
  · have v1 := hv (Or.inl rfl)
    have w1 := hw (Or.inl rfl)
    obtain ⟨i1, i2⟩ := hin.2.1 rfl
    obtain ⟨j, hj, rfl⟩ := mr_in (by omega) (by omega) i1
    obtain ⟨q, hq1, hq, rfl⟩ := mr_am i2
    rw [if_pos rfl, nI_clamp (by omega)]
    dsimp only
    have rf := md_refusal (X := X) (S := S) (q := nI q) hg0 (show j < 60 by omega) (hT j hj)
    have eg : md_gr f m j (nI q) = sp_gr (f 18 m) j (nI q) := rfl
    rw [eg] at rf
    by_cases c0 : sp_gr (f 18 m) j (nI q) = nI 0
    · rw [if_pos c0]
      refine ⟨md_po f m j (nI q), ?_, md_po_sp (by omega), fun k i j2 hn => ?_⟩
      · rw [c0] at rf ⊢
        have gu := md_guns (X := X) (S := S) (q := nI q) hg0 (show j < 60 by omega) (hT j hj)
        simp (disch := omega) only [mj_x144, mj_g144_0, mj_g144_1, mj_g144_2, mj_g144_3, mj_g144_4, mj_g144_5, mj_g144_6, mj_g144_7, mj_g144_8, mj_g144_9, mj_g144_10, mj_g144_21, mj_g144_22, mj_g144_23, mj_g144_26, mj_g144_27, mj_g144_28, mj_g144_29, mj_g144_30, mj_g144_31, mj_g144_32, mj_g144_33, mj_g144_34, mj_g144_35, mj_g144_36, mj_g144_37, mj_g144_79, mj_g144_80, ↓reduceIte, Option.bind_some, Option.toList_some, List.cons_append, List.nil_append, hK, v1, w1, rf, gu, mj_le00]
      · unfold md_po mj_u
        rw [if_neg (by omega), if_neg (by omega), if_neg (by omega)]
    · rw [if_neg c0]
      refine ⟨f, ?_, rfl, fun k i j2 hn => rfl⟩
      rcases sp_gr_c (D := f 18 m) (j := j) (q := nI q) with e_ | e_ | e_ | e_
      · exact absurd e_ c0
      · rw [e_] at rf ⊢
        simp (disch := omega) only [mj_x144, mj_g144_0, mj_g144_1, mj_g144_2, mj_g144_3, mj_g144_4, mj_g144_5, mj_g144_6, mj_g144_7, mj_g144_8, mj_g144_9, mj_g144_10, mj_g144_21, mj_g144_22, mj_g144_23, mj_g144_24, mj_g144_25, ↓reduceIte, Option.bind_some, Option.toList_some, List.cons_append, List.nil_append, hK, v1, w1, rf, mj_le01]
      · rw [e_] at rf ⊢
        simp (disch := omega) only [mj_x144, mj_g144_0, mj_g144_1, mj_g144_2, mj_g144_3, mj_g144_4, mj_g144_5, mj_g144_6, mj_g144_7, mj_g144_8, mj_g144_9, mj_g144_10, mj_g144_21, mj_g144_22, mj_g144_23, mj_g144_24, mj_g144_25, ↓reduceIte, Option.bind_some, Option.toList_some, List.cons_append, List.nil_append, hK, v1, w1, rf, mj_le02]
      · rw [e_] at rf ⊢
        simp (disch := omega) only [mj_x144, mj_g144_0, mj_g144_1, mj_g144_2, mj_g144_3, mj_g144_4, mj_g144_5, mj_g144_6, mj_g144_7, mj_g144_8, mj_g144_9, mj_g144_10, mj_g144_21, mj_g144_22, mj_g144_23, mj_g144_24, mj_g144_25, ↓reduceIte, Option.bind_some, Option.toList_some, List.cons_append, List.nil_append, hK, v1, w1, rf, mj_le03]
  · have v1 := hv (Or.inr (Or.inl rfl))
    have w1 := hw (Or.inr rfl)
    rw [if_neg (by decide), if_pos rfl]
    obtain ⟨p, hp, ep, ep2⟩ := mr_fo (hin.1 rfl)
    rcases h5 with h5 | h5
    · rw [if_pos h5]
      have hh := md_heats (X := X) (S := S) (t := v) (sl := w) hg0 hg5 hO h13 h17
      refine ⟨md_ht f m s n (md_fo v w), ?_, ?_, ?_⟩
      · simp (disch := omega) only [mj_x144, mj_g144_0, mj_g144_1, mj_g144_2, mj_g144_3, mj_g144_11, mj_g144_12, mj_g144_13, mj_g144_14, mj_g144_15, mj_g144_16, mj_g144_17, mj_g144_18, mj_g144_19, mj_g144_21, mj_g144_22, mj_g144_23, mj_g144_26, mj_g144_27, mj_g144_28, mj_g144_29, mj_g144_38, mj_g144_39, mj_g144_40, mj_g144_41, mj_g144_42, mj_g144_43, mj_g144_44, mj_g144_45, mj_g144_46, mj_g144_47, mj_g144_48, mj_g144_49, mj_g144_79, mj_g144_80, ↓reduceIte, Option.bind_some, Option.toList_some, List.cons_append, List.nil_append, mj_ixn, hK, hg0, h5, v1, w1, hh, mj_kd4, mj_le00]
      · rw [md_ht_sp h60, ep, ep2]
      · intro k i j hn
        exact md_ht_o (by omega) (by omega)
    · rw [if_neg (by rw [h5]; decide)]
      refine ⟨f, ?_, rfl, fun k i j2 hn => rfl⟩
      simp (disch := omega) only [mj_x144, mj_g144_0, mj_g144_1, mj_g144_2, mj_g144_3, mj_g144_11, mj_g144_12, mj_g144_13, mj_g144_14, mj_g144_15, mj_g144_16, mj_g144_17, mj_g144_18, mj_g144_19, mj_g144_21, mj_g144_22, mj_g144_23, mj_g144_24, mj_g144_25, ↓reduceIte, Option.bind_some, Option.toList_some, List.cons_append, List.nil_append, mj_ixn, hK, hg0, h5, mj_kd4, mj_le01]
  · have v1 := hv (Or.inr (Or.inr rfl))
    rw [if_neg (by decide), if_neg (by decide), if_neg (by decide)]
    obtain ⟨j, hj, rfl⟩ := mr_in (by omega) (by omega) (hin.2.2 rfl)
    rw [nI_clamp (by omega)]
    have h6 := h.1.2.2.2.2
    have hb : s * j + s ≤ n := by
      have h7 := Nat.mul_le_mul_left s (show j + 1 ≤ r from hj)
      rw [Nat.mul_add, Nat.mul_one] at h7
      rw [h6, Nat.mul_comm r s]
      exact h7
    have rl := md_relines (X := X) (S := S) (f := f) (b := s * j) (c := s) hg0 (by omega)
    have d1 := hO.2.1
    refine ⟨md_lr f m (s * j) s, ?_, md_lr_sp (by omega), fun k i j2 hn => ?_⟩
    · simp (disch := omega) only [mj_x144, mj_g144_0, mj_g144_1, mj_g144_2, mj_g144_3, mj_g144_11, mj_g144_12, mj_g144_13, mj_g144_14, mj_g144_20, mj_g144_21, mj_g144_22, mj_g144_23, mj_g144_26, mj_g144_27, mj_g144_28, mj_g144_29, mj_g144_38, mj_g144_39, mj_g144_40, mj_g144_41, mj_g144_50, mj_g144_51, mj_g144_52, mj_g144_53, mj_g144_57, mj_g144_58, mj_g144_59, mj_g144_60, mj_g144_61, mj_g144_62, mj_g144_63, mj_g144_64, mj_g144_65, mj_g144_66, mj_g144_67, mj_g144_68, mj_g144_69, mj_g144_70, mj_g144_71, mj_g144_72, mj_g144_73, mj_g144_74, mj_g144_75, mj_g144_76, mj_g144_77, mj_g144_78, mj_g144_79, mj_g144_80, ↓reduceIte, Option.bind_some, Option.toList_some, List.cons_append, List.nil_append, mj_ixn, mj_mul, mj_add, hK, hg0, d1, v1, rl, mj_kd5, mj_kd6, mj_kd14, mj_le00]
    · unfold md_lr
      rw [mj_u, if_neg (by omega), md_ly_o (by omega)]
  · rw [if_neg (by decide), if_neg (by decide), if_pos rfl]
    obtain ⟨F, s1, s2, s3⟩ := md_scansAny (X := X) (S := S) hg0 h
    refine ⟨F, ?_, s2, s3⟩
    simp (disch := omega) only [mj_x144, mj_g144_0, mj_g144_1, mj_g144_2, mj_g144_3, mj_g144_11, mj_g144_12, mj_g144_13, mj_g144_14, mj_g144_20, mj_g144_21, mj_g144_22, mj_g144_23, mj_g144_26, mj_g144_27, mj_g144_28, mj_g144_29, mj_g144_38, mj_g144_39, mj_g144_40, mj_g144_41, mj_g144_50, mj_g144_51, mj_g144_52, mj_g144_53, mj_g144_54, mj_g144_55, mj_g144_56, mj_g144_79, mj_g144_80, ↓reduceIte, Option.bind_some, Option.toList_some, Option.toList_none, List.cons_append, List.nil_append, hK, s1, mj_kd7, mj_kd8, mj_le00]
/-- what a run of the reference may change beside its state -/
def md_J (m : Nat) (f F : mj_F) : Prop := ∀ k i j, ¬ ((k = 18 ∨ k = 21) ∧ i = m) → ¬ (k = 6 ∧ i = m ∧ (j = 3 ∨ 8 ≤ j)) → F k i j = f k i j
theorem mt_ok_K {t : Nat → Int32} {L b : Nat} (h : mt_ok t L b) : t b = nI 103 ∨ t b = nI 104 ∨ t b = nI 114 ∨ t b = nI 115 := h.elim (fun y_ => y_.1.elim Or.inl (fun z_ => Or.inr (Or.inl z_))) (fun y_ => y_.elim (fun z_ => Or.inr (Or.inr (Or.inl z_.1))) (fun z_ => Or.inr (Or.inr (Or.inr z_.1))))
theorem md_runl (hg0 : g 6 m 0 = some (18, m)) (hg5 : g 6 m 5 = some (21, m)) (hg6 : g 6 m 6 = some (22, m)) (h100 : L ≤ 100) {t : Nat → Int32} : ∀ (q b c H : Nat) (f : mj_F), f 22 m = t → f 6 m 7 = nI L → f 6 m 8 = nI b → b ≤ 1000 → c + q ≤ 1000 → L ≤ b + q → H + q ≤ 1000000 → mt_ff t L r n q b = none → sp_ok (f 18 m) r s n H → ∃ F, mj_g X 145 15 [some (.inr (6, m)), some (.inl (nI c)), some (.inl (nI 0))] [] (S, f, g) = some (some (.inl (nI (sp_run t L s n q b c (f 18 m)).1)), (S, F, g)) ∧ F 18 m = (sp_run t L s n q b c (f 18 m)).2.2 ∧ F 6 m 3 = (if (sp_run t L s n q b c (f 18 m)).2.1 = nI 0 then f 6 m 3 else (sp_run t L s n q b c (f 18 m)).2.1) ∧ md_J m f F ∧ sp_ok (F 18 m) r s n (H + q) := by
  intro q
  induction q with
  | zero =>
    intro b c H f h22 hL h8 hb hcq hq hH hff hok
    refine ⟨mj_u f 6 m 3 (f 6 m 3), ?_, ?_, ?_, ?_, ?_⟩
    · refine Eq.trans mj_g145_15 ?_
      simp (disch := omega) only [mj_g145_16, mj_g145_17, mj_g145_18, mj_g145_19, mj_g145_20, mj_g145_21, mj_g145_37, mj_g145_38, mj_g145_39, mj_g145_42, mj_g145_43, mj_g145_44, mj_g145_45, mj_g145_46, ↓reduceIte, Option.bind_some, Option.toList_some, Option.toList_none, List.cons_append, List.nil_append, mj_ixn, mj_add, mj_mul, mj_sub, mj_dv, mj_rmn, mj_ltT, mj_ltF, mj_leT, mj_leF, mj_eqT, mj_eqF, mj_z0T, mj_z0F, mj_bo0, mj_boc, mj_chk10, mj_chk11, h8, hL, mj_le00]
      rfl
    · rw [mj_ue rfl]; rfl
    · rw [mj_us]; rfl
    · rw [mj_ue rfl]; exact fun _ _ _ _ _ => rfl
    · rw [mj_ue rfl]; exact hok
  | succ q ih =>
    intro b c H f h22 hL h8 hb hcq hq hH hff hok
    rw [mt_ff_s] at hff
    rw [sp_run_s]
    by_cases c1 : b < L
    · rw [if_pos c1] at hff ⊢
      by_cases c2 : mt_P t L r n b
      · rw [if_pos c2] at hff
        haveI : Decidable (mt_P (f 22 m) L r n b) := Classical.propDecidable _
        obtain ⟨f2, a1, a2, a3, a4⟩ := md_readsLine (X := X) (S := S) (f := f) hg0 hg6 (md_O_ok hok) hL h100 h8 c1
        rw [h22] at a3 a4
        obtain ⟨b1, b2, b3⟩ := a4 c2
        have c2' : mt_P (f 22 m) L r n b := by rw [h22]; exact c2
        rw [← mj_boT c2'] at a1
        have e18 := md_Q_18 a2
        have hok2 : sp_ok (f2 18 m) r s n H := by rw [e18]; exact hok
        obtain ⟨f3, d1, d2, d3⟩ := md_carries (X := X) (S := S) hg0 hg5 hok2 a3 b2 b3 (mt_ok_K c2.1) c2.2
        rw [e18] at d1 d2
        have hok3 := sp_ok_ln hok (by omega) (mt_ok_K c2.1) c2.2
        have k5 := sp_ln_c (s := s) (n := n) (K := t b) (v := (mt_n t L (b + 1)).2) (w := (mt_m2 t L (b + 1)).2) hok.2.2.2.1.1
        rw [← d2] at hok3 ⊢
        generalize (sp_ln (f 18 m) s n (t b) (mt_n t L (b + 1)).2 (mt_m2 t L (b + 1)).2).1 = why at d1 k5 ⊢
        have j3 : md_J m f f3 := fun k i j n1 n2 => (d3 k i j n1).trans (a2 k i j (fun q_ => n2 ⟨q_.1, q_.2.1, Or.inr q_.2.2⟩))
        have r3 : f3 6 m 3 = f 6 m 3 := (d3 6 m 3 (by omega)).trans (a2 6 m 3 (by omega))
        have t3 : f3 22 m = t := by rw [← h22]; exact funext (fun j => j3 22 m j (by omega) (by omega))
        have L3 : f3 6 m 7 = nI L := (j3 6 m 7 (by omega) (by omega)).trans hL
        have p3 : f3 6 m 8 = nI (mt_nx t L b) := (d3 6 m 8 (by omega)).trans b1
        by_cases c3 : why = nI 0
        · rw [if_pos c3]
          have hx := mt_nx_b (t := t) (L := L) (b := b)
          have hx2 := mt_nx_u (t := t) (L := L) (b := b)
          obtain ⟨F, e1, e2, e3, e4, e5⟩ := ih (mt_nx t L b) (c + 1) (H + 1) f3 t3 L3 p3 (by omega) (by omega) (by omega) (by omega) hff hok3
          refine ⟨F, ?_, e2, ?_, fun k i j n1 n2 => (e4 k i j n1 n2).trans (j3 k i j n1 n2), by rw [show H + (q + 1) = H + 1 + q by omega]; exact e5⟩
          · rw [← e1]
            subst c3
            refine Eq.trans mj_g145_15 ?_
            simp (disch := omega) only [mj_g145_16, mj_g145_17, mj_g145_18, mj_g145_19, mj_g145_20, mj_g145_21, mj_g145_22, mj_g145_23, mj_g145_24, mj_g145_25, mj_g145_26, mj_g145_27, mj_g145_28, mj_g145_29, mj_g145_30, mj_g145_31, mj_g145_32, mj_g145_33, mj_g145_34, mj_g145_35, mj_g145_36, ↓reduceIte, Option.bind_some, Option.toList_some, Option.toList_none, List.cons_append, List.nil_append, mj_ixn, mj_add, mj_mul, mj_sub, mj_dv, mj_rmn, mj_ltT, mj_ltF, mj_leT, mj_leF, mj_eqT, mj_eqF, mj_z0T, mj_z0F, mj_bo0, mj_boc, mj_chk10, mj_chk11, h8, hL, a1, d1]
          · rw [e3, r3]
        · rw [if_neg c3]
          refine ⟨mj_u f3 6 m 3 why, ?_, ?_, ?_, ?_, ?_⟩
          · rcases k5 with rfl | rfl | rfl | rfl
            · exact absurd rfl c3
            · refine Eq.trans mj_g145_15 ?_
              simp (disch := omega) only [mj_g145_16, mj_g145_17, mj_g145_18, mj_g145_19, mj_g145_20, mj_g145_21, mj_g145_22, mj_g145_23, mj_g145_24, mj_g145_25, mj_g145_26, mj_g145_27, mj_g145_28, mj_g145_29, mj_g145_30, mj_g145_31, mj_g145_32, mj_g145_33, mj_g145_34, mj_g145_35, mj_g145_36, ↓reduceIte, Option.bind_some, Option.toList_some, Option.toList_none, List.cons_append, List.nil_append, mj_ixn, mj_add, mj_mul, mj_sub, mj_dv, mj_rmn, mj_ltT, mj_ltF, mj_leT, mj_leF, mj_eqT, mj_eqF, mj_z0T, mj_z0F, mj_bo0, mj_boc, mj_chk10, mj_chk11, h8, hL, a1, d1]
              refine Eq.trans mj_g145_15 ?_
              simp (disch := omega) only [mj_g145_16, mj_g145_37, mj_g145_38, mj_g145_39, mj_g145_40, mj_g145_41, mj_g145_44, mj_g145_45, mj_g145_46, ↓reduceIte, Option.bind_some, Option.toList_some, Option.toList_none, List.cons_append, List.nil_append, mj_ixn, mj_add, mj_mul, mj_sub, mj_dv, mj_rmn, mj_ltT, mj_ltF, mj_leT, mj_leF, mj_eqT, mj_eqF, mj_z0T, mj_z0F, mj_bo0, mj_boc, mj_chk10, mj_chk11, mj_le01]
              rfl
            · refine Eq.trans mj_g145_15 ?_
              simp (disch := omega) only [mj_g145_16, mj_g145_17, mj_g145_18, mj_g145_19, mj_g145_20, mj_g145_21, mj_g145_22, mj_g145_23, mj_g145_24, mj_g145_25, mj_g145_26, mj_g145_27, mj_g145_28, mj_g145_29, mj_g145_30, mj_g145_31, mj_g145_32, mj_g145_33, mj_g145_34, mj_g145_35, mj_g145_36, ↓reduceIte, Option.bind_some, Option.toList_some, Option.toList_none, List.cons_append, List.nil_append, mj_ixn, mj_add, mj_mul, mj_sub, mj_dv, mj_rmn, mj_ltT, mj_ltF, mj_leT, mj_leF, mj_eqT, mj_eqF, mj_z0T, mj_z0F, mj_bo0, mj_boc, mj_chk10, mj_chk11, h8, hL, a1, d1]
              refine Eq.trans mj_g145_15 ?_
              simp (disch := omega) only [mj_g145_16, mj_g145_37, mj_g145_38, mj_g145_39, mj_g145_40, mj_g145_41, mj_g145_44, mj_g145_45, mj_g145_46, ↓reduceIte, Option.bind_some, Option.toList_some, Option.toList_none, List.cons_append, List.nil_append, mj_ixn, mj_add, mj_mul, mj_sub, mj_dv, mj_rmn, mj_ltT, mj_ltF, mj_leT, mj_leF, mj_eqT, mj_eqF, mj_z0T, mj_z0F, mj_bo0, mj_boc, mj_chk10, mj_chk11, mj_le02]
              rfl
            · refine Eq.trans mj_g145_15 ?_
              simp (disch := omega) only [mj_g145_16, mj_g145_17, mj_g145_18, mj_g145_19, mj_g145_20, mj_g145_21, mj_g145_22, mj_g145_23, mj_g145_24, mj_g145_25, mj_g145_26, mj_g145_27, mj_g145_28, mj_g145_29, mj_g145_30, mj_g145_31, mj_g145_32, mj_g145_33, mj_g145_34, mj_g145_35, mj_g145_36, ↓reduceIte, Option.bind_some, Option.toList_some, Option.toList_none, List.cons_append, List.nil_append, mj_ixn, mj_add, mj_mul, mj_sub, mj_dv, mj_rmn, mj_ltT, mj_ltF, mj_leT, mj_leF, mj_eqT, mj_eqF, mj_z0T, mj_z0F, mj_bo0, mj_boc, mj_chk10, mj_chk11, h8, hL, a1, d1]
              refine Eq.trans mj_g145_15 ?_
              simp (disch := omega) only [mj_g145_16, mj_g145_37, mj_g145_38, mj_g145_39, mj_g145_40, mj_g145_41, mj_g145_44, mj_g145_45, mj_g145_46, ↓reduceIte, Option.bind_some, Option.toList_some, Option.toList_none, List.cons_append, List.nil_append, mj_ixn, mj_add, mj_mul, mj_sub, mj_dv, mj_rmn, mj_ltT, mj_ltF, mj_leT, mj_leF, mj_eqT, mj_eqF, mj_z0T, mj_z0F, mj_bo0, mj_boc, mj_chk10, mj_chk11, mj_le03]
              rfl
          · exact funext (fun j => mj_uk (by decide))
          · rw [mj_us, if_neg c3]
          · intro k i j n1 n2
            rw [mj_u, if_neg (by omega)]
            exact j3 k i j n1 n2
          · have e0 : mj_u f3 6 m 3 why 18 m = f3 18 m := funext (fun j => mj_uk (by decide))
            rw [e0]
            exact sp_ok_H hok3 (by omega)
      · rw [if_neg c2] at hff; cases hff
    · rw [if_neg c1]
      refine ⟨mj_u f 6 m 3 (f 6 m 3), ?_, ?_, ?_, ?_, ?_⟩
      · refine Eq.trans mj_g145_15 ?_
        simp (disch := omega) only [mj_g145_16, mj_g145_17, mj_g145_18, mj_g145_19, mj_g145_20, mj_g145_21, mj_g145_37, mj_g145_38, mj_g145_39, mj_g145_42, mj_g145_43, mj_g145_44, mj_g145_45, mj_g145_46, ↓reduceIte, Option.bind_some, Option.toList_some, Option.toList_none, List.cons_append, List.nil_append, mj_ixn, mj_add, mj_mul, mj_sub, mj_dv, mj_rmn, mj_ltT, mj_ltF, mj_leT, mj_leF, mj_eqT, mj_eqF, mj_z0T, mj_z0F, mj_bo0, mj_boc, mj_chk10, mj_chk11, h8, hL, mj_le00]
      · rw [mj_ue rfl]
      · rw [mj_us, if_pos rfl]
      · rw [mj_ue rfl]; exact fun _ _ _ _ _ => rfl
      · rw [mj_ue rfl]; exact sp_ok_H hok (by omega)
end CA
