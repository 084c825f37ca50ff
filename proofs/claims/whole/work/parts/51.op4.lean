/-! calls: count, spot, neighbour, account, wear, texts -/
theorem mc_mn_congr {t u : Nat → Int32} {n : Nat} (h : ∀ i, i ≤ n → t i = u i) : mc_mn t n = mc_mn u n := by
  induction n with
  | zero => exact h 0 (by omega)
  | succ n ih =>
    show mj_mi (mc_mn t n) _ = mj_mi (mc_mn u n) _
    rw [ih (fun i hi => h i (by omega)), h (n + 1) (by omega)]
theorem mr_ch_chk : ∀ k, k < 127 → ((nI k).toUInt32 % 65536).toInt32 = nI k ∧ mj_chk 2 (nI k) = true := by decide +kernel
section O4
variable {X : mj_X} {S : List (Nat × Nat)} {f F F2 : mj_F} {g G : mj_G} {r s n c H H2 z L j k d m : Nat} {sc sp : Nat → Nat} {D E : Nat → Int32} {Ds : Nat → Nat → Int32} {t : Nat → Int32} {w v a b e : Int32} {o2 o3 o4 : Option mj_V}
theorem mr_mn_s {t : Nat → Int32} {k : Nat} : (if t k < mc_mn t (k - 1) then t k else mc_mn t (k - 1)) = mc_mn t k := by
  cases k with
  | zero =>
    show (if t 0 < t 0 then t 0 else t 0) = t 0
    split <;> rfl
  | succ k => rfl
theorem md_cntl (hg : g 6 0 0 = some (18, 0)) (hO : md_O f 0 r s n) : mj_g X 120 14 [some (.inr (6, 0)), some (.inl a), o2, o3, o4] [] (S, f, g) = mj_g X 120 52 [some (.inr (6, 0)), some (.inl a), some (.inl (nI (mc_cn (fun j => decide (0 < f 18 0 (82 + j))) n))), some (.inl (mc_mn (md_T f 0) (n - 1))), some (.inl (nI n))] [] (S, f, g) := by
  have h60 := hO.2.2.n60
  have hl := mj_loop (fun k => mj_g X 120 22 [some (.inr (6, 0)), some (.inl a), some (.inl (nI (mc_cn (fun j => decide (0 < f 18 0 (82 + j))) k))), some (.inl (mc_mn (md_T f 0) (k - 1))), some (.inl (nI k))] [] (S, f, g)) n (fun k hk => by
    have ea : k + 1 - 1 = k := by omega
    have em := mr_mn_s (t := md_T f 0) (k := k)
    refine Eq.trans mj_g120_22 ?_
    by_cases c1 : 0 < f 18 0 (82 + k)
    · by_cases c2 : md_T f 0 k < mc_mn (md_T f 0) (k - 1)
      · rw [if_pos c2] at em
        simp (disch := omega) only [mj_g120_23, mj_g120_24, mj_g120_25, mj_g120_26, mj_g120_27, mj_g120_28, mj_g120_29, mj_g120_30, mj_g120_31, mj_g120_32, mj_g120_33, mj_g120_34, mj_g120_35, mj_g120_36, mj_g120_37, mj_g120_38, mj_g120_39, mj_g120_40, mj_g120_41, mj_g120_42, mj_g120_43, mj_g120_44, mj_g120_45, mj_g120_46, mj_g120_47, mj_g120_48, mj_g120_49, mj_g120_50, mj_g120_51, ↓reduceIte, Option.bind_some, Option.toList_some, Option.toList_none, List.cons_append, List.nil_append, mj_ixn, mj_add, mj_mul, mj_sub, mj_dv, mj_rmn, mj_ltT, mj_ltF, mj_leT, mj_leF, mj_eqT, mj_eqF, mj_z0T, mj_z0F, mj_bo0, mj_boc, mj_chk10, mj_chk11, and_self, not_true, not_false_eq_true, md_spots hg hO, hg, eq_false (Int32.not_le.mpr c1), md_thick hg, eq_false (Int32.not_le.mpr c2), mc_cn, decide_eq_true_eq, eq_true c1, ea, ← em]
      · rw [if_neg c2] at em
        simp (disch := omega) only [mj_g120_23, mj_g120_24, mj_g120_25, mj_g120_26, mj_g120_27, mj_g120_28, mj_g120_29, mj_g120_30, mj_g120_31, mj_g120_32, mj_g120_33, mj_g120_34, mj_g120_35, mj_g120_36, mj_g120_37, mj_g120_38, mj_g120_39, mj_g120_40, mj_g120_41, mj_g120_42, mj_g120_43, mj_g120_44, mj_g120_45, mj_g120_46, mj_g120_47, mj_g120_48, mj_g120_49, mj_g120_50, mj_g120_51, ↓reduceIte, Option.bind_some, Option.toList_some, Option.toList_none, List.cons_append, List.nil_append, mj_ixn, mj_add, mj_mul, mj_sub, mj_dv, mj_rmn, mj_ltT, mj_ltF, mj_leT, mj_leF, mj_eqT, mj_eqF, mj_z0T, mj_z0F, mj_bo0, mj_boc, mj_chk10, mj_chk11, and_self, not_true, not_false_eq_true, md_spots hg hO, hg, eq_false (Int32.not_le.mpr c1), md_thick hg, eq_true (Int32.not_lt.mp c2), mc_cn, decide_eq_true_eq, eq_true c1, ea, ← em]
    · by_cases c2 : md_T f 0 k < mc_mn (md_T f 0) (k - 1)
      · rw [if_pos c2] at em
        simp (disch := omega) only [mj_g120_23, mj_g120_24, mj_g120_25, mj_g120_26, mj_g120_27, mj_g120_28, mj_g120_29, mj_g120_30, mj_g120_31, mj_g120_32, mj_g120_33, mj_g120_34, mj_g120_35, mj_g120_36, mj_g120_37, mj_g120_38, mj_g120_39, mj_g120_40, mj_g120_41, mj_g120_42, mj_g120_43, mj_g120_44, mj_g120_45, mj_g120_46, mj_g120_47, mj_g120_48, mj_g120_49, mj_g120_50, mj_g120_51, ↓reduceIte, Option.bind_some, Option.toList_some, Option.toList_none, List.cons_append, List.nil_append, mj_ixn, mj_add, mj_mul, mj_sub, mj_dv, mj_rmn, mj_ltT, mj_ltF, mj_leT, mj_leF, mj_eqT, mj_eqF, mj_z0T, mj_z0F, mj_bo0, mj_boc, mj_chk10, mj_chk11, and_self, not_true, not_false_eq_true, md_spots hg hO, hg, eq_true (Int32.not_lt.mp c1), md_thick hg, eq_false (Int32.not_le.mpr c2), mc_cn, decide_eq_true_eq, eq_false c1, ea, ← em]
      · rw [if_neg c2] at em
        simp (disch := omega) only [mj_g120_23, mj_g120_24, mj_g120_25, mj_g120_26, mj_g120_27, mj_g120_28, mj_g120_29, mj_g120_30, mj_g120_31, mj_g120_32, mj_g120_33, mj_g120_34, mj_g120_35, mj_g120_36, mj_g120_37, mj_g120_38, mj_g120_39, mj_g120_40, mj_g120_41, mj_g120_42, mj_g120_43, mj_g120_44, mj_g120_45, mj_g120_46, mj_g120_47, mj_g120_48, mj_g120_49, mj_g120_50, mj_g120_51, ↓reduceIte, Option.bind_some, Option.toList_some, Option.toList_none, List.cons_append, List.nil_append, mj_ixn, mj_add, mj_mul, mj_sub, mj_dv, mj_rmn, mj_ltT, mj_ltF, mj_leT, mj_leF, mj_eqT, mj_eqF, mj_z0T, mj_z0F, mj_bo0, mj_boc, mj_chk10, mj_chk11, and_self, not_true, not_false_eq_true, md_spots hg hO, hg, eq_true (Int32.not_lt.mp c1), md_thick hg, eq_true (Int32.not_lt.mp c2), mc_cn, decide_eq_true_eq, eq_false c1, ea, ← em])
  simp (disch := omega) only [mj_g120_14, mj_g120_15, mj_g120_16, mj_g120_17, mj_g120_18, mj_g120_19, mj_g120_20, mj_g120_21, ↓reduceIte, Option.bind_some, Option.toList_some, Option.toList_none, List.cons_append, List.nil_append, mj_ixn, mj_add, mj_mul, mj_sub, mj_dv, mj_rmn, mj_ltT, mj_ltF, mj_leT, mj_leF, mj_eqT, mj_eqF, mj_z0T, mj_z0F, mj_bo0, mj_boc, mj_chk10, mj_chk11, and_self, not_true, not_false_eq_true, md_thick hg]
  refine Eq.trans ?_ (hl.trans ?_)
  · rfl
  · simp (disch := omega) only [mj_g120_22, mj_g120_23, mj_g120_24, mj_g120_25, ↓reduceIte, Option.bind_some, Option.toList_some, Option.toList_none, List.cons_append, List.nil_append, mj_ixn, mj_add, mj_mul, mj_sub, mj_dv, mj_rmn, mj_ltT, mj_ltF, mj_leT, mj_leF, mj_eqT, mj_eqF, mj_z0T, mj_z0F, mj_bo0, mj_boc, mj_chk10, mj_chk11, and_self, not_true, not_false_eq_true, md_spots hg hO]
theorem mr_count : mr_op X 68 120 [.inl a] := by
  intro S f g r s n H D z Ds L t w hH hc hm
  have hc0 := hc
  obtain ⟨sc, hg, hS, ⟨o, h1, h2, h3, h4, h5⟩, hX, hw⟩ := hc
  have hG := hS.1.1.1
  have h60 := hG.n60
  have hsn := hG.sn
  have hs3 := hG.2.2.1
  have ok0 : sp_ok (f 18 0) r s n H := by rw [hm.1]; exact hS.2.1
  have hO := md_O_ok ok0
  have hgm := hg.2.2.2.2.2.2.1.1
  by_cases c1 : nI 20 ≤ a ∧ a ≤ nI 25
  · obtain ⟨k, k1, k2, rfl⟩ := mr_rg (by omega) (by omega) c1
    have e1 : f 11 0 (k - 20) = D (12 + (k - 20)) := mr_L_s hS.1 (by omega)
    have e2 : f 18 0 (12 + k - 20) = D (12 + (k - 20)) := by rw [hm.1]; exact congrArg D (by omega)
    refine mr_same (v := D (12 + (k - 20))) (F := f) (F2 := f) ?_ hc0 ?_ mr_fm_r hm
    · simp (disch := omega) only [mj_x68, mj_g68_0, mj_g68_1, mj_g68_2, mj_g68_3, mj_g68_4, mj_g68_5, mj_g68_6, mj_g68_7, mj_g68_8, mj_g68_9, mj_g68_10, mj_g68_11, mj_g68_12, mj_g68_13, mj_g68_14, mj_g68_15, ↓reduceIte, Option.bind_some, Option.toList_some, Option.toList_none, List.cons_append, List.nil_append, mj_ixn, mj_add, mj_mul, mj_sub, mj_dv, mj_rmn, mj_ltT, mj_ltF, mj_leT, mj_leF, mj_eqT, mj_eqF, mj_z0T, mj_z0F, mj_bo0, mj_boc, mj_chk10, mj_chk11, and_self, not_true, not_false_eq_true, mc_within, hg.1.1, hg.2.1.1, hg.2.1.2.2.1.2.2.2.1, e1]
    · simp (disch := omega) only [mj_x120, mj_g120_0, mj_g120_1, mj_g120_2, mj_g120_3, mj_g120_4, mj_g120_5, mj_g120_6, mj_g120_7, mj_g120_8, mj_g120_9, mj_g120_10, mj_g120_11, mj_g120_12, mj_g120_13, ↓reduceIte, Option.bind_some, Option.toList_some, Option.toList_none, List.cons_append, List.nil_append, mj_ixn, mj_add, mj_mul, mj_sub, mj_dv, mj_rmn, mj_ltT, mj_ltF, mj_leT, mj_leF, mj_eqT, mj_eqF, mj_z0T, mj_z0F, mj_bo0, mj_boc, mj_chk10, mj_chk11, and_self, not_true, not_false_eq_true, mc_in, hgm, e2]
  · have g1 : mj_x X 68 [.inr (5, 0), .inl a] (S, f, g) = mj_g X 68 17 [some (.inr (5, 0)), some (.inl a), some (.inr (1, 0))] [.inl a] (S, f, g) := by
      simp (disch := omega) only [mj_x68, mj_g68_0, mj_g68_1, mj_g68_2, mj_g68_3, mj_g68_4, mj_g68_5, mj_g68_6, mj_g68_7, mj_g68_8, mj_g68_16, ↓reduceIte, Option.bind_some, Option.toList_some, Option.toList_none, List.cons_append, List.nil_append, mj_ixn, mj_add, mj_mul, mj_sub, mj_dv, mj_rmn, mj_ltT, mj_ltF, mj_leT, mj_leF, mj_eqT, mj_eqF, mj_z0T, mj_z0F, mj_bo0, mj_boc, mj_chk10, mj_chk11, and_self, not_true, not_false_eq_true, mc_within, hg.1.1, hg.2.1.1, eq_false c1]
    have g2 : mj_x X 120 [.inr (6, 0), .inl a] (S, f, g) = mj_g X 120 53 [some (.inr (6, 0)), some (.inl a), some (.inl (nI (mc_cn (fun j => decide (0 < f 18 0 (82 + j))) n))), some (.inl (mc_mn (md_T f 0) (n - 1))), some (.inl (nI n))] [.inl a] (S, f, g) := by
      simp (disch := omega) only [mj_x120, mj_g120_0, mj_g120_1, mj_g120_2, mj_g120_3, mj_g120_4, ↓reduceIte, Option.bind_some, Option.toList_some, Option.toList_none, List.cons_append, List.nil_append, mj_ixn, mj_add, mj_mul, mj_sub, mj_dv, mj_rmn, mj_ltT, mj_ltF, mj_leT, mj_leF, mj_eqT, mj_eqF, mj_z0T, mj_z0F, mj_bo0, mj_boc, mj_chk10, mj_chk11, and_self, not_true, not_false_eq_true, mc_in, eq_false c1]
      refine Eq.trans (md_cntl hgm hO) ?_
      simp (disch := omega) only [mj_g120_52]
    by_cases c2 : 0 ≤ a.toInt ∧ a.toInt < ((11 : Nat) : Int)
    · obtain ⟨k, hk, rfl⟩ := mj_nIx c2.1 c2.2
      have hk11 : k = 0 ∨ k = 1 ∨ k = 2 ∨ k = 3 ∨ k = 4 ∨ k = 5 ∨ k = 6 ∨ k = 7 ∨ k = 8 ∨ k = 9 ∨ k = 10 := by omega
      obtain ⟨⟨y0, y1, y2⟩, ⟨b1, b2, b3⟩, ⟨x5, x6, x7, x8⟩, x9, x10, x11, x12⟩ := hS.1
      have hd : ∀ i, f 18 0 i = D i := fun i => by rw [hm.1]
      rcases hk11 with rfl | rfl | rfl | rfl | rfl | rfl | rfl | rfl | rfl | rfl | rfl
      · have t1 : mj_tsw 0 10 [18, 21, 24, 27, 30, 33, 40, 44, 48, 52, 55] 58 (nI 0) = 18 := rfl
        have t2 : mj_tsw 0 10 [54, 54, 54, 54, 54, 54, 59, 64, 67, 70, 72] 74 (nI 0) = 54 := rfl
        refine mr_same (v := nI r) (F := f) (F2 := f) (g1.trans ?_) hc0 (g2.trans ?_) mr_fm_r hm
        · simp (disch := omega) only [mj_g68_17, mj_g68_18, mj_g68_19, mj_g68_20, ↓reduceIte, Option.bind_some, Option.toList_some, Option.toList_none, List.cons_append, List.nil_append, mj_ixn, mj_add, mj_mul, mj_sub, mj_dv, mj_rmn, mj_ltT, mj_ltF, mj_leT, mj_leF, mj_eqT, mj_eqF, mj_z0T, mj_z0F, mj_bo0, mj_boc, mj_chk10, mj_chk11, and_self, not_true, not_false_eq_true, t1, b1]
        · simp (disch := omega) only [mj_g120_53, mj_g120_54, mj_g120_55, mj_g120_56, mj_g120_57, mj_g120_58, ↓reduceIte, Option.bind_some, Option.toList_some, Option.toList_none, List.cons_append, List.nil_append, mj_ixn, mj_add, mj_mul, mj_sub, mj_dv, mj_rmn, mj_ltT, mj_ltF, mj_leT, mj_leF, mj_eqT, mj_eqF, mj_z0T, mj_z0F, mj_bo0, mj_boc, mj_chk10, mj_chk11, and_self, not_true, not_false_eq_true, t2, hgm, hd, y1]
      · have t1 : mj_tsw 0 10 [18, 21, 24, 27, 30, 33, 40, 44, 48, 52, 55] 58 (nI 1) = 21 := rfl
        have t2 : mj_tsw 0 10 [54, 54, 54, 54, 54, 54, 59, 64, 67, 70, 72] 74 (nI 1) = 54 := rfl
        refine mr_same (v := nI s) (F := f) (F2 := f) (g1.trans ?_) hc0 (g2.trans ?_) mr_fm_r hm
        · simp (disch := omega) only [mj_g68_17, mj_g68_21, mj_g68_22, mj_g68_23, ↓reduceIte, Option.bind_some, Option.toList_some, Option.toList_none, List.cons_append, List.nil_append, mj_ixn, mj_add, mj_mul, mj_sub, mj_dv, mj_rmn, mj_ltT, mj_ltF, mj_leT, mj_leF, mj_eqT, mj_eqF, mj_z0T, mj_z0F, mj_bo0, mj_boc, mj_chk10, mj_chk11, and_self, not_true, not_false_eq_true, t1, b2]
        · simp (disch := omega) only [mj_g120_53, mj_g120_54, mj_g120_55, mj_g120_56, mj_g120_57, mj_g120_58, ↓reduceIte, Option.bind_some, Option.toList_some, Option.toList_none, List.cons_append, List.nil_append, mj_ixn, mj_add, mj_mul, mj_sub, mj_dv, mj_rmn, mj_ltT, mj_ltF, mj_leT, mj_leF, mj_eqT, mj_eqF, mj_z0T, mj_z0F, mj_bo0, mj_boc, mj_chk10, mj_chk11, and_self, not_true, not_false_eq_true, t2, hgm, hd, y2]
      · have t1 : mj_tsw 0 10 [18, 21, 24, 27, 30, 33, 40, 44, 48, 52, 55] 58 (nI 2) = 24 := rfl
        have t2 : mj_tsw 0 10 [54, 54, 54, 54, 54, 54, 59, 64, 67, 70, 72] 74 (nI 2) = 54 := rfl
        refine mr_same (v := D 2) (F := f) (F2 := f) (g1.trans ?_) hc0 (g2.trans ?_) mr_fm_r hm
        · simp (disch := omega) only [mj_g68_17, mj_g68_24, mj_g68_25, mj_g68_26, ↓reduceIte, Option.bind_some, Option.toList_some, Option.toList_none, List.cons_append, List.nil_append, mj_ixn, mj_add, mj_mul, mj_sub, mj_dv, mj_rmn, mj_ltT, mj_ltF, mj_leT, mj_leF, mj_eqT, mj_eqF, mj_z0T, mj_z0F, mj_bo0, mj_boc, mj_chk10, mj_chk11, and_self, not_true, not_false_eq_true, t1, x5]
        · simp (disch := omega) only [mj_g120_53, mj_g120_54, mj_g120_55, mj_g120_56, mj_g120_57, mj_g120_58, ↓reduceIte, Option.bind_some, Option.toList_some, Option.toList_none, List.cons_append, List.nil_append, mj_ixn, mj_add, mj_mul, mj_sub, mj_dv, mj_rmn, mj_ltT, mj_ltF, mj_leT, mj_leF, mj_eqT, mj_eqF, mj_z0T, mj_z0F, mj_bo0, mj_boc, mj_chk10, mj_chk11, and_self, not_true, not_false_eq_true, t2, hgm, hd]
      · have t1 : mj_tsw 0 10 [18, 21, 24, 27, 30, 33, 40, 44, 48, 52, 55] 58 (nI 3) = 27 := rfl
        have t2 : mj_tsw 0 10 [54, 54, 54, 54, 54, 54, 59, 64, 67, 70, 72] 74 (nI 3) = 54 := rfl
        refine mr_same (v := D 3) (F := f) (F2 := f) (g1.trans ?_) hc0 (g2.trans ?_) mr_fm_r hm
        · simp (disch := omega) only [mj_g68_17, mj_g68_27, mj_g68_28, mj_g68_29, ↓reduceIte, Option.bind_some, Option.toList_some, Option.toList_none, List.cons_append, List.nil_append, mj_ixn, mj_add, mj_mul, mj_sub, mj_dv, mj_rmn, mj_ltT, mj_ltF, mj_leT, mj_leF, mj_eqT, mj_eqF, mj_z0T, mj_z0F, mj_bo0, mj_boc, mj_chk10, mj_chk11, and_self, not_true, not_false_eq_true, t1, x6]
        · simp (disch := omega) only [mj_g120_53, mj_g120_54, mj_g120_55, mj_g120_56, mj_g120_57, mj_g120_58, ↓reduceIte, Option.bind_some, Option.toList_some, Option.toList_none, List.cons_append, List.nil_append, mj_ixn, mj_add, mj_mul, mj_sub, mj_dv, mj_rmn, mj_ltT, mj_ltF, mj_leT, mj_leF, mj_eqT, mj_eqF, mj_z0T, mj_z0F, mj_bo0, mj_boc, mj_chk10, mj_chk11, and_self, not_true, not_false_eq_true, t2, hgm, hd]
      · have t1 : mj_tsw 0 10 [18, 21, 24, 27, 30, 33, 40, 44, 48, 52, 55] 58 (nI 4) = 30 := rfl
        have t2 : mj_tsw 0 10 [54, 54, 54, 54, 54, 54, 59, 64, 67, 70, 72] 74 (nI 4) = 54 := rfl
        refine mr_same (v := D 4) (F := f) (F2 := f) (g1.trans ?_) hc0 (g2.trans ?_) mr_fm_r hm
        · simp (disch := omega) only [mj_g68_17, mj_g68_30, mj_g68_31, mj_g68_32, ↓reduceIte, Option.bind_some, Option.toList_some, Option.toList_none, List.cons_append, List.nil_append, mj_ixn, mj_add, mj_mul, mj_sub, mj_dv, mj_rmn, mj_ltT, mj_ltF, mj_leT, mj_leF, mj_eqT, mj_eqF, mj_z0T, mj_z0F, mj_bo0, mj_boc, mj_chk10, mj_chk11, and_self, not_true, not_false_eq_true, t1, x7]
        · simp (disch := omega) only [mj_g120_53, mj_g120_54, mj_g120_55, mj_g120_56, mj_g120_57, mj_g120_58, ↓reduceIte, Option.bind_some, Option.toList_some, Option.toList_none, List.cons_append, List.nil_append, mj_ixn, mj_add, mj_mul, mj_sub, mj_dv, mj_rmn, mj_ltT, mj_ltF, mj_leT, mj_leF, mj_eqT, mj_eqF, mj_z0T, mj_z0F, mj_bo0, mj_boc, mj_chk10, mj_chk11, and_self, not_true, not_false_eq_true, t2, hgm, hd]
      · have t1 : mj_tsw 0 10 [18, 21, 24, 27, 30, 33, 40, 44, 48, 52, 55] 58 (nI 5) = 33 := rfl
        have t2 : mj_tsw 0 10 [54, 54, 54, 54, 54, 54, 59, 64, 67, 70, 72] 74 (nI 5) = 54 := rfl
        refine mr_same (v := D 5) (F := f) (F2 := f) (g1.trans ?_) hc0 (g2.trans ?_) mr_fm_r hm
        · rcases hS.2.1.2.2.2.1.1 with q5 | q5
          · simp (disch := omega) only [mj_g68_17, mj_g68_33, mj_g68_34, mj_g68_35, mj_g68_36, mj_g68_37, mj_g68_38, mj_g68_39, ↓reduceIte, Option.bind_some, Option.toList_some, Option.toList_none, List.cons_append, List.nil_append, mj_ixn, mj_add, mj_mul, mj_sub, mj_dv, mj_rmn, mj_ltT, mj_ltF, mj_leT, mj_leF, mj_eqT, mj_eqF, mj_z0T, mj_z0F, mj_bo0, mj_boc, mj_chk10, mj_chk11, and_self, not_true, not_false_eq_true, t1, x8, q5]
          · simp (disch := omega) only [mj_g68_17, mj_g68_33, mj_g68_34, mj_g68_35, mj_g68_36, mj_g68_37, mj_g68_38, mj_g68_39, ↓reduceIte, Option.bind_some, Option.toList_some, Option.toList_none, List.cons_append, List.nil_append, mj_ixn, mj_add, mj_mul, mj_sub, mj_dv, mj_rmn, mj_ltT, mj_ltF, mj_leT, mj_leF, mj_eqT, mj_eqF, mj_z0T, mj_z0F, mj_bo0, mj_boc, mj_chk10, mj_chk11, and_self, not_true, not_false_eq_true, t1, x8, q5]
        · simp (disch := omega) only [mj_g120_53, mj_g120_54, mj_g120_55, mj_g120_56, mj_g120_57, mj_g120_58, ↓reduceIte, Option.bind_some, Option.toList_some, Option.toList_none, List.cons_append, List.nil_append, mj_ixn, mj_add, mj_mul, mj_sub, mj_dv, mj_rmn, mj_ltT, mj_ltF, mj_leT, mj_leF, mj_eqT, mj_eqF, mj_z0T, mj_z0F, mj_bo0, mj_boc, mj_chk10, mj_chk11, and_self, not_true, not_false_eq_true, t2, hgm, hd]
      · have t1 : mj_tsw 0 10 [18, 21, 24, 27, 30, 33, 40, 44, 48, 52, 55] 58 (nI 6) = 40 := rfl
        have t2 : mj_tsw 0 10 [54, 54, 54, 54, 54, 54, 59, 64, 67, 70, 72] 74 (nI 6) = 59 := rfl
        obtain ⟨-, -, c, u1, u2, u3, -⟩ := hS
        refine mr_same (v := nI c) (F := f) (F2 := f) (g1.trans ?_) hc0 (g2.trans ?_) mr_fm_r hm
        · simp (disch := omega) only [mj_g68_17, mj_g68_40, mj_g68_41, mj_g68_42, mj_g68_43, ↓reduceIte, Option.bind_some, Option.toList_some, Option.toList_none, List.cons_append, List.nil_append, mj_ixn, mj_add, mj_mul, mj_sub, mj_dv, mj_rmn, mj_ltT, mj_ltF, mj_leT, mj_leF, mj_eqT, mj_eqF, mj_z0T, mj_z0F, mj_bo0, mj_boc, mj_chk10, mj_chk11, and_self, not_true, not_false_eq_true, t1, hg.1.1, u3]
        · simp (disch := omega) only [mj_g120_53, mj_g120_59, mj_g120_60, mj_g120_61, mj_g120_62, mj_g120_63, ↓reduceIte, Option.bind_some, Option.toList_some, Option.toList_none, List.cons_append, List.nil_append, mj_ixn, mj_add, mj_mul, mj_sub, mj_dv, mj_rmn, mj_ltT, mj_ltF, mj_leT, mj_leF, mj_eqT, mj_eqF, mj_z0T, mj_z0F, mj_bo0, mj_boc, mj_chk10, mj_chk11, and_self, not_true, not_false_eq_true, t2, hgm, hd, u2]
      · have t1 : mj_tsw 0 10 [18, 21, 24, 27, 30, 33, 40, 44, 48, 52, 55] 58 (nI 7) = 44 := rfl
        have t2 : mj_tsw 0 10 [54, 54, 54, 54, 54, 54, 59, 64, 67, 70, 72] 74 (nI 7) = 64 := rfl
        refine mr_same (v := nI z) (F := f) (F2 := f) (g1.trans ?_) hc0 (g2.trans ?_) mr_fm_r hm
        · simp (disch := omega) only [mj_g68_17, mj_g68_44, mj_g68_45, mj_g68_46, mj_g68_47, ↓reduceIte, Option.bind_some, Option.toList_some, Option.toList_none, List.cons_append, List.nil_append, mj_ixn, mj_add, mj_mul, mj_sub, mj_dv, mj_rmn, mj_ltT, mj_ltF, mj_leT, mj_leF, mj_eqT, mj_eqF, mj_z0T, mj_z0F, mj_bo0, mj_boc, mj_chk10, mj_chk11, and_self, not_true, not_false_eq_true, t1, hg.1.2.2.1, h4]
        · simp (disch := omega) only [mj_g120_53, mj_g120_64, mj_g120_65, mj_g120_66, ↓reduceIte, Option.bind_some, Option.toList_some, Option.toList_none, List.cons_append, List.nil_append, mj_ixn, mj_add, mj_mul, mj_sub, mj_dv, mj_rmn, mj_ltT, mj_ltF, mj_leT, mj_leF, mj_eqT, mj_eqF, mj_z0T, mj_z0F, mj_bo0, mj_boc, mj_chk10, mj_chk11, and_self, not_true, not_false_eq_true, t2, hm.2.1]
      · have t1 : mj_tsw 0 10 [18, 21, 24, 27, 30, 33, 40, 44, 48, 52, 55] 58 (nI 8) = 48 := rfl
        have t2 : mj_tsw 0 10 [54, 54, 54, 54, 54, 54, 59, 64, 67, 70, 72] 74 (nI 8) = 67 := rfl
        refine mr_same (v := nI L) (F := f) (F2 := f) (g1.trans ?_) hc0 (g2.trans ?_) mr_fm_r hm
        · simp (disch := omega) only [mj_g68_17, mj_g68_48, mj_g68_49, mj_g68_50, mj_g68_51, ↓reduceIte, Option.bind_some, Option.toList_some, Option.toList_none, List.cons_append, List.nil_append, mj_ixn, mj_add, mj_mul, mj_sub, mj_dv, mj_rmn, mj_ltT, mj_ltF, mj_leT, mj_leF, mj_eqT, mj_eqF, mj_z0T, mj_z0F, mj_bo0, mj_boc, mj_chk10, mj_chk11, and_self, not_true, not_false_eq_true, t1, hg.1.2.2.2, hX.2.1]
        · simp (disch := omega) only [mj_g120_53, mj_g120_67, mj_g120_68, mj_g120_69, ↓reduceIte, Option.bind_some, Option.toList_some, Option.toList_none, List.cons_append, List.nil_append, mj_ixn, mj_add, mj_mul, mj_sub, mj_dv, mj_rmn, mj_ltT, mj_ltF, mj_leT, mj_leF, mj_eqT, mj_eqF, mj_z0T, mj_z0F, mj_bo0, mj_boc, mj_chk10, mj_chk11, and_self, not_true, not_false_eq_true, t2, hm.2.2.2.1]
      · have t1 : mj_tsw 0 10 [18, 21, 24, 27, 30, 33, 40, 44, 48, 52, 55] 58 (nI 9) = 52 := rfl
        have t2 : mj_tsw 0 10 [54, 54, 54, 54, 54, 54, 59, 64, 67, 70, 72] 74 (nI 9) = 70 := rfl
        have la := mc_layeredSpots (X := X) (S := S) hg.2.1.2.2.1 b3 h60
        have ea : mc_cn (fun j => decide (0 < f 9 0 j)) n = mc_cn (fun j => decide (0 < f 18 0 (82 + j))) n := mc_cn_congr (fun i hi => by rw [(x12 i hi).2, hd])
        rw [ea] at la
        refine mr_same (v := nI (mc_cn (fun j => decide (0 < f 18 0 (82 + j))) n)) (F := f) (F2 := f) (g1.trans ?_) hc0 (g2.trans ?_) mr_fm_r hm
        · simp (disch := omega) only [mj_g68_17, mj_g68_52, mj_g68_53, mj_g68_54, ↓reduceIte, Option.bind_some, Option.toList_some, Option.toList_none, List.cons_append, List.nil_append, mj_ixn, mj_add, mj_mul, mj_sub, mj_dv, mj_rmn, mj_ltT, mj_ltF, mj_leT, mj_leF, mj_eqT, mj_eqF, mj_z0T, mj_z0F, mj_bo0, mj_boc, mj_chk10, mj_chk11, and_self, not_true, not_false_eq_true, t1, la]
        · simp (disch := omega) only [mj_g120_53, mj_g120_70, mj_g120_71, ↓reduceIte, Option.bind_some, Option.toList_some, Option.toList_none, List.cons_append, List.nil_append, mj_ixn, mj_add, mj_mul, mj_sub, mj_dv, mj_rmn, mj_ltT, mj_ltF, mj_leT, mj_leF, mj_eqT, mj_eqF, mj_z0T, mj_z0F, mj_bo0, mj_boc, mj_chk10, mj_chk11, and_self, not_true, not_false_eq_true, t2]
      · have t1 : mj_tsw 0 10 [18, 21, 24, 27, 30, 33, 40, 44, 48, 52, 55] 58 (nI 10) = 55 := rfl
        have t2 : mj_tsw 0 10 [54, 54, 54, 54, 54, 54, 59, 64, 67, 70, 72] 74 (nI 10) = 72 := rfl
        have la := mc_leastThickness (X := X) (S := S) hg.2.1.2.2.1 b3 (by omega) h60
        have ea : mc_mn (mc_T f 0) (n - 1) = mc_mn (md_T f 0) (n - 1) := mc_mn_congr (fun i hi => by rw [mr_L_T hS.1 (by omega), ← hm.1]; rfl)
        rw [ea] at la
        refine mr_same (v := mc_mn (md_T f 0) (n - 1)) (F := f) (F2 := f) (g1.trans ?_) hc0 (g2.trans ?_) mr_fm_r hm
        · simp (disch := omega) only [mj_g68_17, mj_g68_55, mj_g68_56, mj_g68_57, ↓reduceIte, Option.bind_some, Option.toList_some, Option.toList_none, List.cons_append, List.nil_append, mj_ixn, mj_add, mj_mul, mj_sub, mj_dv, mj_rmn, mj_ltT, mj_ltF, mj_leT, mj_leF, mj_eqT, mj_eqF, mj_z0T, mj_z0F, mj_bo0, mj_boc, mj_chk10, mj_chk11, and_self, not_true, not_false_eq_true, t1, la]
        · simp (disch := omega) only [mj_g120_53, mj_g120_72, mj_g120_73, ↓reduceIte, Option.bind_some, Option.toList_some, Option.toList_none, List.cons_append, List.nil_append, mj_ixn, mj_add, mj_mul, mj_sub, mj_dv, mj_rmn, mj_ltT, mj_ltF, mj_leT, mj_leF, mj_eqT, mj_eqF, mj_z0T, mj_z0F, mj_bo0, mj_boc, mj_chk10, mj_chk11, and_self, not_true, not_false_eq_true, t2]
    · have t1 : mj_tsw 0 10 [18, 21, 24, 27, 30, 33, 40, 44, 48, 52, 55] 58 a = 58 := mj_tswo (by omega)
      have t2 : mj_tsw 0 10 [54, 54, 54, 54, 54, 54, 59, 64, 67, 70, 72] 74 a = 74 := mj_tswo (by omega)
      refine mr_same (v := (-1000001)) (F := f) (F2 := f) (g1.trans ?_) hc0 (g2.trans ?_) mr_fm_r hm
      · simp (disch := omega) only [mj_g68_17, mj_g68_58, mj_g68_59, ↓reduceIte, Option.bind_some, Option.toList_some, Option.toList_none, List.cons_append, List.nil_append, mj_ixn, mj_add, mj_mul, mj_sub, mj_dv, mj_rmn, mj_ltT, mj_ltF, mj_leT, mj_leF, mj_eqT, mj_eqF, mj_z0T, mj_z0F, mj_bo0, mj_boc, mj_chk10, mj_chk11, and_self, not_true, not_false_eq_true, t1]
      · simp (disch := omega) only [mj_g120_53, mj_g120_74, mj_g120_75, ↓reduceIte, Option.bind_some, Option.toList_some, Option.toList_none, List.cons_append, List.nil_append, mj_ixn, mj_add, mj_mul, mj_sub, mj_dv, mj_rmn, mj_ltT, mj_ltF, mj_leT, mj_leF, mj_eqT, mj_eqF, mj_z0T, mj_z0F, mj_bo0, mj_boc, mj_chk10, mj_chk11, and_self, not_true, not_false_eq_true, t2]
theorem mr_spot : mr_op X 69 121 [.inl a, .inl b] := by
  intro S f g r s n H D z Ds L t w hH hc hm
  have hc0 := hc
  obtain ⟨sc, hg, hS, -⟩ := hc
  have hG := hS.1.1.1
  have h60 := hG.n60
  have hsn := hG.sn
  have hs3 := hG.2.2.1
  have hs10 := hG.2.2.2.1
  have hV := hS.2.1.2.2.2.1
  have ok0 : sp_ok (f 18 0) r s n H := by rw [hm.1]; exact hS.2.1
  have hO := md_O_ok ok0
  have hgm := hg.2.2.2.2.2.2.1.1
  have hgc := hg.2.1.2.2.1
  have hI := mc_hasSpot (X := X) (S := S) (g := g) (v := a) hS.1.2.1.2.2
  have hJ := md_isSpot (X := X) (S := S) (v := a) hgm hO
  have hd : ∀ i, f 18 0 i = D i := fun i => by rw [hm.1]
  have hdT : md_T f 0 = sp_T D := by rw [← hm.1]; rfl
  by_cases c1 : nI 0 ≤ a ∧ a ≤ nI n - nI 1
  · rw [← mj_boT c1] at hI hJ
    obtain ⟨j, hj, rfl⟩ := mr_in (by omega) (by omega) c1
    obtain ⟨q1, q2, q3, q4⟩ := hG.q hj
    have hr6 := hG.2.1
    obtain ⟨⟨y0, y1, y2⟩, ⟨b1, b2, b3⟩, ⟨x5, x6, x7, x8⟩, x9, x10, x11, x12⟩ := hS.1
    have g1 : mj_x X 69 [.inr (5, 0), .inl (nI j), .inl b] (S, f, g) = mj_g X 69 11 [some (.inr (5, 0)), some (.inl (nI j)), some (.inl b), some (.inr (1, 0))] [.inl b] (S, f, g) := by
      simp (disch := omega) only [mj_x69, mj_g69_0, mj_g69_1, mj_g69_2, mj_g69_3, mj_g69_4, mj_g69_5, mj_g69_6, mj_g69_7, mj_g69_10, ↓reduceIte, Option.bind_some, Option.toList_some, Option.toList_none, List.cons_append, List.nil_append, mj_ixn, mj_add, mj_mul, mj_sub, mj_dv, mj_rmn, mj_ltT, mj_ltF, mj_leT, mj_leF, mj_eqT, mj_eqF, mj_z0T, mj_z0F, mj_bo0, mj_boc, mj_chk10, mj_chk11, and_self, not_true, not_false_eq_true, hI, hg.1.1, hg.2.1.1]
    have g2 : mj_x X 121 [.inr (6, 0), .inl (nI j), .inl b] (S, f, g) = mj_g X 121 7 [some (.inr (6, 0)), some (.inl (nI j)), some (.inl b)] [.inl b] (S, f, g) := by
      simp (disch := omega) only [mj_x121, mj_g121_0, mj_g121_1, mj_g121_2, mj_g121_3, mj_g121_6, ↓reduceIte, Option.bind_some, Option.toList_some, Option.toList_none, List.cons_append, List.nil_append, mj_ixn, mj_add, mj_mul, mj_sub, mj_dv, mj_rmn, mj_ltT, mj_ltF, mj_leT, mj_leF, mj_eqT, mj_eqF, mj_z0T, mj_z0F, mj_bo0, mj_boc, mj_chk10, mj_chk11, and_self, not_true, not_false_eq_true, hJ]
    by_cases c2 : 0 ≤ b.toInt ∧ b.toInt < ((8 : Nat) : Int)
    · obtain ⟨k, hk, rfl⟩ := mj_nIx c2.1 c2.2
      have hk8 : k = 0 ∨ k = 1 ∨ k = 2 ∨ k = 3 ∨ k = 4 ∨ k = 5 ∨ k = 6 ∨ k = 7 := by omega
      rcases hk8 with rfl | rfl | rfl | rfl | rfl | rfl | rfl | rfl
      · have t1 : mj_tsw 0 7 [12, 17, 22, 26, 30, 34, 38, 42] 49 (nI 0) = 12 := rfl
        have t2 : mj_tsw 0 7 [8, 15, 22, 26, 30, 38, 42, 49] 61 (nI 0) = 8 := rfl
        refine mr_same (v := D (22 + j)) (F := f) (F2 := f) (g1.trans ?_) hc0 (g2.trans ?_) mr_fm_r hm
        · simp (disch := omega) only [mj_g69_11, mj_g69_12, mj_g69_13, mj_g69_14, mj_g69_15, mj_g69_16, ↓reduceIte, Option.bind_some, Option.toList_some, Option.toList_none, List.cons_append, List.nil_append, mj_ixn, mj_add, mj_mul, mj_sub, mj_dv, mj_rmn, mj_ltT, mj_ltF, mj_leT, mj_leF, mj_eqT, mj_eqF, mj_z0T, mj_z0F, mj_bo0, mj_boc, mj_chk10, mj_chk11, and_self, not_true, not_false_eq_true, t1, hgc.1, (x12 j hj).1]
        · simp (disch := omega) only [mj_g121_7, mj_g121_8, mj_g121_9, mj_g121_10, mj_g121_11, mj_g121_12, mj_g121_13, mj_g121_14, ↓reduceIte, Option.bind_some, Option.toList_some, Option.toList_none, List.cons_append, List.nil_append, mj_ixn, mj_add, mj_mul, mj_sub, mj_dv, mj_rmn, mj_ltT, mj_ltF, mj_leT, mj_leF, mj_eqT, mj_eqF, mj_z0T, mj_z0F, mj_bo0, mj_boc, mj_chk10, mj_chk11, and_self, not_true, not_false_eq_true, t2, hgm, hd]
      · have t1 : mj_tsw 0 7 [12, 17, 22, 26, 30, 34, 38, 42] 49 (nI 1) = 17 := rfl
        have t2 : mj_tsw 0 7 [8, 15, 22, 26, 30, 38, 42, 49] 61 (nI 1) = 15 := rfl
        refine mr_same (v := D (82 + j)) (F := f) (F2 := f) (g1.trans ?_) hc0 (g2.trans ?_) mr_fm_r hm
        · simp (disch := omega) only [mj_g69_11, mj_g69_17, mj_g69_18, mj_g69_19, mj_g69_20, mj_g69_21, ↓reduceIte, Option.bind_some, Option.toList_some, Option.toList_none, List.cons_append, List.nil_append, mj_ixn, mj_add, mj_mul, mj_sub, mj_dv, mj_rmn, mj_ltT, mj_ltF, mj_leT, mj_leF, mj_eqT, mj_eqF, mj_z0T, mj_z0F, mj_bo0, mj_boc, mj_chk10, mj_chk11, and_self, not_true, not_false_eq_true, t1, hgc.2.1, (x12 j hj).2]
        · simp (disch := omega) only [mj_g121_7, mj_g121_15, mj_g121_16, mj_g121_17, mj_g121_18, mj_g121_19, mj_g121_20, mj_g121_21, ↓reduceIte, Option.bind_some, Option.toList_some, Option.toList_none, List.cons_append, List.nil_append, mj_ixn, mj_add, mj_mul, mj_sub, mj_dv, mj_rmn, mj_ltT, mj_ltF, mj_leT, mj_leF, mj_eqT, mj_eqF, mj_z0T, mj_z0F, mj_bo0, mj_boc, mj_chk10, mj_chk11, and_self, not_true, not_false_eq_true, t2, hgm, hd]
      · have t1 : mj_tsw 0 7 [12, 17, 22, 26, 30, 34, 38, 42] 49 (nI 2) = 22 := rfl
        have t2 : mj_tsw 0 7 [8, 15, 22, 26, 30, 38, 42, 49] 61 (nI 2) = 22 := rfl
        refine mr_same (v := sp_T D j) (F := f) (F2 := f) (g1.trans ?_) hc0 (g2.trans ?_) mr_fm_r hm
        · simp (disch := omega) only [mj_g69_11, mj_g69_22, mj_g69_23, mj_g69_24, mj_g69_25, ↓reduceIte, Option.bind_some, Option.toList_some, Option.toList_none, List.cons_append, List.nil_append, mj_ixn, mj_add, mj_mul, mj_sub, mj_dv, mj_rmn, mj_ltT, mj_ltF, mj_leT, mj_leF, mj_eqT, mj_eqF, mj_z0T, mj_z0F, mj_bo0, mj_boc, mj_chk10, mj_chk11, and_self, not_true, not_false_eq_true, t1, mc_thickness hgc, mr_L_T hS.1 hj]
        · simp (disch := omega) only [mj_g121_7, mj_g121_22, mj_g121_23, mj_g121_24, mj_g121_25, ↓reduceIte, Option.bind_some, Option.toList_some, Option.toList_none, List.cons_append, List.nil_append, mj_ixn, mj_add, mj_mul, mj_sub, mj_dv, mj_rmn, mj_ltT, mj_ltF, mj_leT, mj_leF, mj_eqT, mj_eqF, mj_z0T, mj_z0F, mj_bo0, mj_boc, mj_chk10, mj_chk11, and_self, not_true, not_false_eq_true, t2, md_thick hgm, hdT]
      · have t1 : mj_tsw 0 7 [12, 17, 22, 26, 30, 34, 38, 42] 49 (nI 3) = 26 := rfl
        have t2 : mj_tsw 0 7 [8, 15, 22, 26, 30, 38, 42, 49] 61 (nI 3) = 26 := rfl
        have e1 := mc_shellTemperature (X := X) (S := S) hgc (show j < 60 by omega) (mr_L_T0 hS.1 hV hj)
        rw [mr_L_T hS.1 hj, mr_L_s hS.1 (by omega)] at e1
        have e2 := md_warmth (X := X) (S := S) hgm (show j < 60 by omega) (md_ok_T ok0 j hj)
        rw [hdT, hd] at e2
        refine mr_same (v := mc_tp (D 14) (sp_T D j)) (F := f) (F2 := f) (g1.trans ?_) hc0 (g2.trans ?_) mr_fm_r hm
        · simp (disch := omega) only [mj_g69_11, mj_g69_26, mj_g69_27, mj_g69_28, mj_g69_29, ↓reduceIte, Option.bind_some, Option.toList_some, Option.toList_none, List.cons_append, List.nil_append, mj_ixn, mj_add, mj_mul, mj_sub, mj_dv, mj_rmn, mj_ltT, mj_ltF, mj_leT, mj_leF, mj_eqT, mj_eqF, mj_z0T, mj_z0F, mj_bo0, mj_boc, mj_chk10, mj_chk11, and_self, not_true, not_false_eq_true, t1, e1]
        · simp (disch := omega) only [mj_g121_7, mj_g121_26, mj_g121_27, mj_g121_28, mj_g121_29, ↓reduceIte, Option.bind_some, Option.toList_some, Option.toList_none, List.cons_append, List.nil_append, mj_ixn, mj_add, mj_mul, mj_sub, mj_dv, mj_rmn, mj_ltT, mj_ltF, mj_leT, mj_leF, mj_eqT, mj_eqF, mj_z0T, mj_z0F, mj_bo0, mj_boc, mj_chk10, mj_chk11, and_self, not_true, not_false_eq_true, t2, e2]
      · have t1 : mj_tsw 0 7 [12, 17, 22, 26, 30, 34, 38, 42] 49 (nI 4) = 30 := rfl
        have t2 : mj_tsw 0 7 [8, 15, 22, 26, 30, 38, 42, 49] 61 (nI 4) = 30 := rfl
        have e1 := mc_standingOut (X := X) (S := S) hgc hG b2 b3 hj
        rw [mr_L_T hS.1 hj, mc_lb_congr hG hj (fun i hi => mr_L_T hS.1 hi)] at e1
        have M1 := mr_m_c hm (F := mc_kp f 0 n) (fun k i j hn => mc_kp_k (by omega))
        have C1 := mr_c_13 hc0 (F := mc_kp f 0 n) (fun k i j hn => mc_kp_k hn)
        have ok1 : sp_ok (mc_kp f 0 n 18 0) r s n H := by rw [M1.1]; exact hS.2.1
        have hJ2 := md_isSpot (X := X) (S := S) (v := nI j) hgm (md_O_ok ok1)
        rw [← mj_boT c1] at hJ2
        have hdT2 : md_T (mc_kp f 0 n) 0 = sp_T D := by rw [← M1.1]; rfl
        have lb := md_least (X := X) (S := S) hgm (md_O_ok ok1) hj
        rw [hdT2] at lb
        refine mr_same (v := sp_T D j - mc_lb (sp_T D) s n j) (F := mc_kp f 0 n) (F2 := mc_kp f 0 n) (g1.trans ?_) C1 ?_ mr_fm_r M1
        · simp (disch := omega) only [mj_g69_11, mj_g69_30, mj_g69_31, mj_g69_32, mj_g69_33, ↓reduceIte, Option.bind_some, Option.toList_some, Option.toList_none, List.cons_append, List.nil_append, mj_ixn, mj_add, mj_mul, mj_sub, mj_dv, mj_rmn, mj_ltT, mj_ltF, mj_leT, mj_leF, mj_eqT, mj_eqF, mj_z0T, mj_z0F, mj_bo0, mj_boc, mj_chk10, mj_chk11, and_self, not_true, not_false_eq_true, t1, e1]
        · simp (disch := omega) only [mj_x121, mj_g121_0, mj_g121_1, mj_g121_2, mj_g121_3, mj_g121_6, mj_g121_7, mj_g121_30, mj_g121_31, mj_g121_32, mj_g121_33, mj_g121_34, mj_g121_35, mj_g121_36, mj_g121_37, ↓reduceIte, Option.bind_some, Option.toList_some, Option.toList_none, List.cons_append, List.nil_append, mj_ixn, mj_add, mj_mul, mj_sub, mj_dv, mj_rmn, mj_ltT, mj_ltF, mj_leT, mj_leF, mj_eqT, mj_eqF, mj_z0T, mj_z0F, mj_bo0, mj_boc, mj_chk10, mj_chk11, and_self, not_true, not_false_eq_true, hJ2, t2, md_thick hgm, hdT2, lb]
      · have t1 : mj_tsw 0 7 [12, 17, 22, 26, 30, 34, 38, 42] 49 (nI 5) = 34 := rfl
        have t2 : mj_tsw 0 7 [8, 15, 22, 26, 30, 38, 42, 49] 61 (nI 5) = 38 := rfl
        refine mr_same (v := nI (mc_nn s n j)) (F := f) (F2 := f) (g1.trans ?_) hc0 (g2.trans ?_) mr_fm_r hm
        · simp (disch := omega) only [mj_g69_11, mj_g69_34, mj_g69_35, mj_g69_36, mj_g69_37, ↓reduceIte, Option.bind_some, Option.toList_some, Option.toList_none, List.cons_append, List.nil_append, mj_ixn, mj_add, mj_mul, mj_sub, mj_dv, mj_rmn, mj_ltT, mj_ltF, mj_leT, mj_leF, mj_eqT, mj_eqF, mj_z0T, mj_z0F, mj_bo0, mj_boc, mj_chk10, mj_chk11, and_self, not_true, not_false_eq_true, t1, mc_neighboursOf hG b2 b3 hj]
        · simp (disch := omega) only [mj_g121_7, mj_g121_38, mj_g121_39, mj_g121_40, mj_g121_41, ↓reduceIte, Option.bind_some, Option.toList_some, Option.toList_none, List.cons_append, List.nil_append, mj_ixn, mj_add, mj_mul, mj_sub, mj_dv, mj_rmn, mj_ltT, mj_ltF, mj_leT, mj_leF, mj_eqT, mj_eqF, mj_z0T, mj_z0F, mj_bo0, mj_boc, mj_chk10, mj_chk11, and_self, not_true, not_false_eq_true, t2, md_besides hgm hO hj]
      · have t1 : mj_tsw 0 7 [12, 17, 22, 26, 30, 34, 38, 42] 49 (nI 6) = 38 := rfl
        have t2 : mj_tsw 0 7 [8, 15, 22, 26, 30, 38, 42, 49] 61 (nI 6) = 42 := rfl
        refine mr_same (v := nI (j / s)) (F := f) (F2 := f) (g1.trans ?_) hc0 (g2.trans ?_) mr_fm_r hm
        · simp (disch := omega) only [mj_g69_11, mj_g69_38, mj_g69_39, mj_g69_40, mj_g69_41, ↓reduceIte, Option.bind_some, Option.toList_some, Option.toList_none, List.cons_append, List.nil_append, mj_ixn, mj_add, mj_mul, mj_sub, mj_dv, mj_rmn, mj_ltT, mj_ltF, mj_leT, mj_leF, mj_eqT, mj_eqF, mj_z0T, mj_z0F, mj_bo0, mj_boc, mj_chk10, mj_chk11, and_self, not_true, not_false_eq_true, t1, mc_ringOf b2]
        · simp (disch := omega) only [mj_g121_7, mj_g121_42, mj_g121_43, mj_g121_44, mj_g121_45, mj_g121_46, mj_g121_47, mj_g121_48, ↓reduceIte, Option.bind_some, Option.toList_some, Option.toList_none, List.cons_append, List.nil_append, mj_ixn, mj_add, mj_mul, mj_sub, mj_dv, mj_rmn, mj_ltT, mj_ltF, mj_leT, mj_leF, mj_eqT, mj_eqF, mj_z0T, mj_z0F, mj_bo0, mj_boc, mj_chk10, mj_chk11, and_self, not_true, not_false_eq_true, t2, hgm, hd, y2]
      · have t1 : mj_tsw 0 7 [12, 17, 22, 26, 30, 34, 38, 42] 49 (nI 7) = 42 := rfl
        have t2 : mj_tsw 0 7 [8, 15, 22, 26, 30, 38, 42, 49] 61 (nI 7) = 49 := rfl
        refine mr_same (v := D (6 + j / s)) (F := f) (F2 := f) (g1.trans ?_) hc0 (g2.trans ?_) mr_fm_r hm
        · simp (disch := omega) only [mj_g69_11, mj_g69_42, mj_g69_43, mj_g69_44, mj_g69_45, mj_g69_46, mj_g69_47, mj_g69_48, ↓reduceIte, Option.bind_some, Option.toList_some, Option.toList_none, List.cons_append, List.nil_append, mj_ixn, mj_add, mj_mul, mj_sub, mj_dv, mj_rmn, mj_ltT, mj_ltF, mj_leT, mj_leF, mj_eqT, mj_eqF, mj_z0T, mj_z0F, mj_bo0, mj_boc, mj_chk10, mj_chk11, and_self, not_true, not_false_eq_true, t1, hgc.2.2.1, mc_ringOf b2, x9 (j / s) (by omega)]
        · simp (disch := omega) only [mj_g121_7, mj_g121_49, mj_g121_50, mj_g121_51, mj_g121_52, mj_g121_53, mj_g121_54, mj_g121_55, mj_g121_56, mj_g121_57, mj_g121_58, mj_g121_59, mj_g121_60, ↓reduceIte, Option.bind_some, Option.toList_some, Option.toList_none, List.cons_append, List.nil_append, mj_ixn, mj_add, mj_mul, mj_sub, mj_dv, mj_rmn, mj_ltT, mj_ltF, mj_leT, mj_leF, mj_eqT, mj_eqF, mj_z0T, mj_z0F, mj_bo0, mj_boc, mj_chk10, mj_chk11, and_self, not_true, not_false_eq_true, t2, hgm, hd, y2]
    · have t1 : mj_tsw 0 7 [12, 17, 22, 26, 30, 34, 38, 42] 49 b = 49 := mj_tswo (by omega)
      have t2 : mj_tsw 0 7 [8, 15, 22, 26, 30, 38, 42, 49] 61 b = 61 := mj_tswo (by omega)
      refine mr_same (v := (-1000001)) (F := f) (F2 := f) (g1.trans ?_) hc0 (g2.trans ?_) mr_fm_r hm
      · simp (disch := omega) only [mj_g69_11, mj_g69_49, mj_g69_50, ↓reduceIte, Option.bind_some, Option.toList_some, Option.toList_none, List.cons_append, List.nil_append, mj_ixn, mj_add, mj_mul, mj_sub, mj_dv, mj_rmn, mj_ltT, mj_ltF, mj_leT, mj_leF, mj_eqT, mj_eqF, mj_z0T, mj_z0F, mj_bo0, mj_boc, mj_chk10, mj_chk11, and_self, not_true, not_false_eq_true, t1]
      · simp (disch := omega) only [mj_g121_7, mj_g121_61, mj_g121_62, ↓reduceIte, Option.bind_some, Option.toList_some, Option.toList_none, List.cons_append, List.nil_append, mj_ixn, mj_add, mj_mul, mj_sub, mj_dv, mj_rmn, mj_ltT, mj_ltF, mj_leT, mj_leF, mj_eqT, mj_eqF, mj_z0T, mj_z0F, mj_bo0, mj_boc, mj_chk10, mj_chk11, and_self, not_true, not_false_eq_true, t2]
  · rw [← mj_boF c1] at hI hJ
    refine mr_same (v := (-1000001)) (F := f) (F2 := f) ?_ hc0 ?_ mr_fm_r hm
    · simp (disch := omega) only [mj_x69, mj_g69_0, mj_g69_1, mj_g69_2, mj_g69_3, mj_g69_4, mj_g69_5, mj_g69_6, mj_g69_7, mj_g69_8, mj_g69_9, ↓reduceIte, Option.bind_some, Option.toList_some, Option.toList_none, List.cons_append, List.nil_append, mj_ixn, mj_add, mj_mul, mj_sub, mj_dv, mj_rmn, mj_ltT, mj_ltF, mj_leT, mj_leF, mj_eqT, mj_eqF, mj_z0T, mj_z0F, mj_bo0, mj_boc, mj_chk10, mj_chk11, and_self, not_true, not_false_eq_true, hI, hg.1.1, hg.2.1.1]
    · simp (disch := omega) only [mj_x121, mj_g121_0, mj_g121_1, mj_g121_2, mj_g121_3, mj_g121_4, mj_g121_5, ↓reduceIte, Option.bind_some, Option.toList_some, Option.toList_none, List.cons_append, List.nil_append, mj_ixn, mj_add, mj_mul, mj_sub, mj_dv, mj_rmn, mj_ltT, mj_ltF, mj_leT, mj_leF, mj_eqT, mj_eqF, mj_z0T, mj_z0F, mj_bo0, mj_boc, mj_chk10, mj_chk11, and_self, not_true, not_false_eq_true, hJ]
theorem mr_neighbour : mr_op X 70 122 [.inl a, .inl b] := by
  intro S f g r s n H D z Ds L t w hH hc hm
  have hc0 := hc
  obtain ⟨sc, hg, hS, -⟩ := hc
  have hG := hS.1.1.1
  have h60 := hG.n60
  have hsn := hG.sn
  have hs3 := hG.2.2.1
  have ok0 : sp_ok (f 18 0) r s n H := by rw [hm.1]; exact hS.2.1
  have hO := md_O_ok ok0
  have hgm := hg.2.2.2.2.2.2.1.1
  have hI := mc_hasSpot (X := X) (S := S) (g := g) (v := a) hS.1.2.1.2.2
  have hJ := md_isSpot (X := X) (S := S) (v := a) hgm hO
  by_cases c1 : nI 0 ≤ a ∧ a ≤ nI n - nI 1
  · rw [← mj_boT c1] at hI hJ
    obtain ⟨j, hj, rfl⟩ := mr_in (by omega) (by omega) c1
    by_cases c2 : 0 ≤ b
    · have c2' := Int32.le_iff_toInt_le.mp c2
      rw [Int32.toInt_zero] at c2'
      obtain ⟨x, hx, rfl⟩ := mj_nIx (w := b) (N := 2147483648) c2' (Int32.toInt_lt b)
      have nb := md_beside (X := X) (S := S) (x := x) hgm hO hj hx
      have h4 := mc_nn_le (s := s) (n := n) (j := j)
      by_cases c3 : x < mc_nn s n j
      · have e1 : md_nb s n j x = nI (mc_na s j x) := by unfold md_nb; rw [if_pos c3]
        rw [e1] at nb
        have hx2 := hG.na hj c3
        refine mr_same (v := nI (mc_na s j x)) (F := f) (F2 := f) ?_ hc0 ?_ mr_fm_r hm
        · simp (disch := omega) only [mj_x70, mj_g70_0, mj_g70_1, mj_g70_2, mj_g70_3, mj_g70_4, mj_g70_5, mj_g70_6, mj_g70_7, mj_g70_8, mj_g70_9, mj_g70_10, mj_g70_11, mj_g70_12, mj_g70_13, mj_g70_14, mj_g70_15, mj_g70_16, mj_g70_19, mj_g70_20, mj_g70_21, mj_g70_22, mj_g70_23, mj_g70_24, mj_g70_25, ↓reduceIte, Option.bind_some, Option.toList_some, Option.toList_none, List.cons_append, List.nil_append, mj_ixn, mj_add, mj_mul, mj_sub, mj_dv, mj_rmn, mj_ltT, mj_ltF, mj_leT, mj_leF, mj_eqT, mj_eqF, mj_z0T, mj_z0F, mj_bo0, mj_boc, mj_chk10, mj_chk11, and_self, not_true, not_false_eq_true, hI, hg.1.1, hg.2.1.1, mj_ge0, mc_neighboursOf hG hS.1.2.1.2.1 hS.1.2.1.2.2 hj, mc_neighbourAt hG hS.1.2.1.2.1 hj (show x < 4 by omega)]
        · simp (disch := omega) only [mj_x122, mj_g122_0, mj_g122_1, mj_g122_2, mj_g122_3, mj_g122_4, mj_g122_5, mj_g122_6, mj_g122_7, mj_g122_8, mj_g122_9, mj_g122_10, mj_g122_11, mj_g122_12, mj_g122_13, mj_g122_14, mj_g122_15, mj_g122_16, mj_g122_17, mj_g122_18, ↓reduceIte, Option.bind_some, Option.toList_some, Option.toList_none, List.cons_append, List.nil_append, mj_ixn, mj_add, mj_mul, mj_sub, mj_dv, mj_rmn, mj_ltT, mj_ltF, mj_leT, mj_leF, mj_eqT, mj_eqF, mj_z0T, mj_z0F, mj_bo0, mj_boc, mj_chk10, mj_chk11, and_self, not_true, not_false_eq_true, hJ, mj_ge0, nb]
      · have e1 : md_nb s n j x = (-1) := by unfold md_nb; rw [if_neg c3]
        rw [e1] at nb
        have m1 : ((0 : Int32) ≤ -1) = False := eq_false (by decide)
        refine mr_same (v := (-1000004)) (F := f) (F2 := f) ?_ hc0 ?_ mr_fm_r hm
        · simp (disch := omega) only [mj_x70, mj_g70_0, mj_g70_1, mj_g70_2, mj_g70_3, mj_g70_4, mj_g70_5, mj_g70_6, mj_g70_7, mj_g70_8, mj_g70_9, mj_g70_10, mj_g70_11, mj_g70_12, mj_g70_13, mj_g70_14, mj_g70_15, mj_g70_16, mj_g70_17, mj_g70_18, ↓reduceIte, Option.bind_some, Option.toList_some, Option.toList_none, List.cons_append, List.nil_append, mj_ixn, mj_add, mj_mul, mj_sub, mj_dv, mj_rmn, mj_ltT, mj_ltF, mj_leT, mj_leF, mj_eqT, mj_eqF, mj_z0T, mj_z0F, mj_bo0, mj_boc, mj_chk10, mj_chk11, and_self, not_true, not_false_eq_true, hI, hg.1.1, hg.2.1.1, mj_ge0, mc_neighboursOf hG hS.1.2.1.2.1 hS.1.2.1.2.2 hj]
        · simp (disch := omega) only [mj_x122, mj_g122_0, mj_g122_1, mj_g122_2, mj_g122_3, mj_g122_4, mj_g122_5, mj_g122_6, mj_g122_7, mj_g122_8, mj_g122_9, mj_g122_10, mj_g122_11, mj_g122_12, mj_g122_13, mj_g122_14, mj_g122_15, mj_g122_16, mj_g122_17, mj_g122_18, ↓reduceIte, Option.bind_some, Option.toList_some, Option.toList_none, List.cons_append, List.nil_append, mj_ixn, mj_add, mj_mul, mj_sub, mj_dv, mj_rmn, mj_ltT, mj_ltF, mj_leT, mj_leF, mj_eqT, mj_eqF, mj_z0T, mj_z0F, mj_bo0, mj_boc, mj_chk10, mj_chk11, and_self, not_true, not_false_eq_true, hJ, mj_ge0, nb, m1]
    · refine mr_same (v := (-1000001)) (F := f) (F2 := f) ?_ hc0 ?_ mr_fm_r hm
      · simp (disch := omega) only [mj_x70, mj_g70_0, mj_g70_1, mj_g70_2, mj_g70_3, mj_g70_4, mj_g70_5, mj_g70_6, mj_g70_7, mj_g70_8, mj_g70_9, ↓reduceIte, Option.bind_some, Option.toList_some, Option.toList_none, List.cons_append, List.nil_append, mj_ixn, mj_add, mj_mul, mj_sub, mj_dv, mj_rmn, mj_ltT, mj_ltF, mj_leT, mj_leF, mj_eqT, mj_eqF, mj_z0T, mj_z0F, mj_bo0, mj_boc, mj_chk10, mj_chk11, and_self, not_true, not_false_eq_true, hI, hg.1.1, hg.2.1.1, eq_false c2]
      · simp (disch := omega) only [mj_x122, mj_g122_0, mj_g122_1, mj_g122_2, mj_g122_3, mj_g122_4, mj_g122_5, mj_g122_6, mj_g122_7, ↓reduceIte, Option.bind_some, Option.toList_some, Option.toList_none, List.cons_append, List.nil_append, mj_ixn, mj_add, mj_mul, mj_sub, mj_dv, mj_rmn, mj_ltT, mj_ltF, mj_leT, mj_leF, mj_eqT, mj_eqF, mj_z0T, mj_z0F, mj_bo0, mj_boc, mj_chk10, mj_chk11, and_self, not_true, not_false_eq_true, hJ, eq_false c2]
  · rw [← mj_boF c1] at hI hJ
    refine mr_same (v := (-1000001)) (F := f) (F2 := f) ?_ hc0 ?_ mr_fm_r hm
    · simp (disch := omega) only [mj_x70, mj_g70_0, mj_g70_1, mj_g70_2, mj_g70_3, mj_g70_4, mj_g70_5, mj_g70_6, mj_g70_7, mj_g70_8, mj_g70_9, ↓reduceIte, Option.bind_some, Option.toList_some, Option.toList_none, List.cons_append, List.nil_append, mj_ixn, mj_add, mj_mul, mj_sub, mj_dv, mj_rmn, mj_ltT, mj_ltF, mj_leT, mj_leF, mj_eqT, mj_eqF, mj_z0T, mj_z0F, mj_bo0, mj_boc, mj_chk10, mj_chk11, and_self, not_true, not_false_eq_true, hI, hg.1.1, hg.2.1.1]
    · simp (disch := omega) only [mj_x122, mj_g122_0, mj_g122_1, mj_g122_2, mj_g122_3, mj_g122_4, mj_g122_5, mj_g122_6, mj_g122_7, ↓reduceIte, Option.bind_some, Option.toList_some, Option.toList_none, List.cons_append, List.nil_append, mj_ixn, mj_add, mj_mul, mj_sub, mj_dv, mj_rmn, mj_ltT, mj_ltF, mj_leT, mj_leF, mj_eqT, mj_eqF, mj_z0T, mj_z0F, mj_bo0, mj_boc, mj_chk10, mj_chk11, and_self, not_true, not_false_eq_true, hJ]
theorem md_accl (hg : g 6 0 0 = some (18, 0)) (hO : md_O f 0 r s n) : mj_g X 123 7 [some (.inr (6, 0)), some (.inl a), o2, o3] [] (S, f, g) = mj_g X 123 23 [some (.inr (6, 0)), some (.inl a), some (.inl (mc_sm (md_T f 0) n)), some (.inl (nI n))] [] (S, f, g) := by
  have h60 := hO.2.2.n60
  have hl := mj_loop (fun k => mj_g X 123 11 [some (.inr (6, 0)), some (.inl a), some (.inl (mc_sm (md_T f 0) k)), some (.inl (nI k))] [] (S, f, g)) n (fun k hk => by
    refine Eq.trans mj_g123_11 ?_
    simp (disch := omega) only [mj_g123_12, mj_g123_13, mj_g123_14, mj_g123_15, mj_g123_16, mj_g123_17, mj_g123_18, mj_g123_19, mj_g123_20, mj_g123_21, mj_g123_22, ↓reduceIte, Option.bind_some, Option.toList_some, Option.toList_none, List.cons_append, List.nil_append, mj_ixn, mj_add, mj_mul, mj_sub, mj_dv, mj_rmn, mj_ltT, mj_ltF, mj_leT, mj_leF, mj_eqT, mj_eqF, mj_z0T, mj_z0F, mj_bo0, mj_boc, mj_chk10, mj_chk11, and_self, not_true, not_false_eq_true, md_spots hg hO, md_thick hg, mc_sm])
  simp (disch := omega) only [mj_g123_7, mj_g123_8, mj_g123_9, mj_g123_10]
  refine Eq.trans ?_ (hl.trans ?_)
  · rfl
  · simp (disch := omega) only [mj_g123_11, mj_g123_12, mj_g123_13, mj_g123_14, ↓reduceIte, Option.bind_some, Option.toList_some, Option.toList_none, List.cons_append, List.nil_append, mj_ixn, mj_add, mj_mul, mj_sub, mj_dv, mj_rmn, mj_ltT, mj_ltF, mj_leT, mj_leF, mj_eqT, mj_eqF, mj_z0T, mj_z0F, mj_bo0, mj_boc, mj_chk10, mj_chk11, and_self, not_true, not_false_eq_true, md_spots hg hO]
theorem mr_account : mr_op X 71 123 [.inl a] := by
  intro S f g r s n H D z Ds L t w hH hc hm
  have hc0 := hc
  obtain ⟨sc, hg, hS, -⟩ := hc
  have hG := hS.1.1.1
  have h60 := hG.n60
  have ok0 : sp_ok (f 18 0) r s n H := by rw [hm.1]; exact hS.2.1
  have hO := md_O_ok ok0
  have hgm := hg.2.2.2.2.2.2.1.1
  have hgc := hg.2.1.2.2.1
  have hd : ∀ i, f 18 0 i = D i := fun i => by rw [hm.1]
  have hdT : md_T f 0 = sp_T D := by rw [← hm.1]; rfl
  have hl := md_accl (X := X) (S := S) (a := a) (o2 := none) (o3 := none) hgm hO
  rw [hdT] at hl
  by_cases c1 : nI 0 ≤ a ∧ a ≤ nI 4
  · obtain ⟨k, k1, k2, rfl⟩ := mr_rg (by omega) (by omega) c1
    by_cases c2 : k = 4
    · subst c2
      have sm := mc_sumOfThicknesses (X := X) (S := S) hgc hS.1.2.1.2.2 h60
      rw [mc_sm_congr (u := sp_T D) (fun i hi => mr_L_T hS.1 hi)] at sm
      refine mr_same (v := mc_sm (sp_T D) n) (F := f) (F2 := f) ?_ hc0 ?_ mr_fm_r hm
      · simp (disch := omega) only [mj_x71, mj_g71_0, mj_g71_1, mj_g71_2, mj_g71_3, mj_g71_4, mj_g71_5, mj_g71_6, mj_g71_7, ↓reduceIte, Option.bind_some, Option.toList_some, Option.toList_none, List.cons_append, List.nil_append, mj_ixn, mj_add, mj_mul, mj_sub, mj_dv, mj_rmn, mj_ltT, mj_ltF, mj_leT, mj_leF, mj_eqT, mj_eqF, mj_z0T, mj_z0F, mj_bo0, mj_boc, mj_chk10, mj_chk11, and_self, not_true, not_false_eq_true, hg.1.1, hg.2.1.1, sm]
      · simp (disch := omega) only [mj_x123, mj_g123_0, mj_g123_1, mj_g123_2, mj_g123_3, mj_g123_4, ↓reduceIte, Option.bind_some, Option.toList_some, Option.toList_none, List.cons_append, List.nil_append, mj_ixn, mj_add, mj_mul, mj_sub, mj_dv, mj_rmn, mj_ltT, mj_ltF, mj_leT, mj_leF, mj_eqT, mj_eqF, mj_z0T, mj_z0F, mj_bo0, mj_boc, mj_chk10, mj_chk11, and_self, not_true, not_false_eq_true, mc_in]
        refine Eq.trans hl ?_
        simp (disch := omega) only [mj_g123_23, mj_g123_24, mj_g123_25, mj_g123_33, mj_g123_34, ↓reduceIte, Option.bind_some, Option.toList_some, Option.toList_none, List.cons_append, List.nil_append, mj_ixn, mj_add, mj_mul, mj_sub, mj_dv, mj_rmn, mj_ltT, mj_ltF, mj_leT, mj_leF, mj_eqT, mj_eqF, mj_z0T, mj_z0F, mj_bo0, mj_boc, mj_chk10, mj_chk11, and_self, not_true, not_false_eq_true]
    · have hac : f 12 0 k = D (18 + k) := hS.1.2.2.2.2.2.1 k (by omega)
      refine mr_same (v := D (18 + k)) (F := f) (F2 := f) ?_ hc0 ?_ mr_fm_r hm
      · simp (disch := omega) only [mj_x71, mj_g71_0, mj_g71_1, mj_g71_2, mj_g71_8, mj_g71_9, mj_g71_10, mj_g71_11, mj_g71_12, mj_g71_13, mj_g71_14, mj_g71_15, mj_g71_16, mj_g71_17, mj_g71_18, mj_g71_19, mj_g71_21, ↓reduceIte, Option.bind_some, Option.toList_some, Option.toList_none, List.cons_append, List.nil_append, mj_ixn, mj_add, mj_mul, mj_sub, mj_dv, mj_rmn, mj_ltT, mj_ltF, mj_leT, mj_leF, mj_eqT, mj_eqF, mj_z0T, mj_z0F, mj_bo0, mj_boc, mj_chk10, mj_chk11, and_self, not_true, not_false_eq_true, hg.1.1, hg.2.1.1, mc_within, hgc.2.2.2.2.1, hac]
      · simp (disch := omega) only [mj_x123, mj_g123_0, mj_g123_1, mj_g123_2, mj_g123_3, mj_g123_4, ↓reduceIte, Option.bind_some, Option.toList_some, Option.toList_none, List.cons_append, List.nil_append, mj_ixn, mj_add, mj_mul, mj_sub, mj_dv, mj_rmn, mj_ltT, mj_ltF, mj_leT, mj_leF, mj_eqT, mj_eqF, mj_z0T, mj_z0F, mj_bo0, mj_boc, mj_chk10, mj_chk11, and_self, not_true, not_false_eq_true, mc_in]
        refine Eq.trans hl ?_
        simp (disch := omega) only [mj_g123_23, mj_g123_24, mj_g123_25, mj_g123_26, mj_g123_27, mj_g123_28, mj_g123_29, mj_g123_30, mj_g123_31, mj_g123_32, mj_g123_34, ↓reduceIte, Option.bind_some, Option.toList_some, Option.toList_none, List.cons_append, List.nil_append, mj_ixn, mj_add, mj_mul, mj_sub, mj_dv, mj_rmn, mj_ltT, mj_ltF, mj_leT, mj_leF, mj_eqT, mj_eqF, mj_z0T, mj_z0F, mj_bo0, mj_boc, mj_chk10, mj_chk11, and_self, not_true, not_false_eq_true, hgm, hd]
  · have n4 : ¬ a = nI 4 := fun q_ => c1 (by rw [q_]; exact ⟨(mj_le (by omega) (by omega)).mpr (by omega), (mj_le (by omega) (by omega)).mpr (by omega)⟩)
    have n3 : ¬ (nI 0 ≤ a ∧ a ≤ nI 3) := fun q_ => c1 ⟨q_.1, Int32.le_trans q_.2 ((mj_le (by omega) (by omega)).mpr (by omega))⟩
    refine mr_same (v := (-1000001)) (F := f) (F2 := f) ?_ hc0 ?_ mr_fm_r hm
    · simp (disch := omega) only [mj_x71, mj_g71_0, mj_g71_1, mj_g71_2, mj_g71_8, mj_g71_9, mj_g71_10, mj_g71_11, mj_g71_12, mj_g71_20, mj_g71_21, ↓reduceIte, Option.bind_some, Option.toList_some, Option.toList_none, List.cons_append, List.nil_append, mj_ixn, mj_add, mj_mul, mj_sub, mj_dv, mj_rmn, mj_ltT, mj_ltF, mj_leT, mj_leF, mj_eqT, mj_eqF, mj_z0T, mj_z0F, mj_bo0, mj_boc, mj_chk10, mj_chk11, and_self, not_true, not_false_eq_true, mc_within, n4, eq_false n3]
    · simp (disch := omega) only [mj_x123, mj_g123_0, mj_g123_1, mj_g123_2, mj_g123_3, mj_g123_4, mj_g123_5, mj_g123_6, ↓reduceIte, Option.bind_some, Option.toList_some, Option.toList_none, List.cons_append, List.nil_append, mj_ixn, mj_add, mj_mul, mj_sub, mj_dv, mj_rmn, mj_ltT, mj_ltF, mj_leT, mj_leF, mj_eqT, mj_eqF, mj_z0T, mj_z0F, mj_bo0, mj_boc, mj_chk10, mj_chk11, and_self, not_true, not_false_eq_true, mc_in, eq_false c1]
theorem mr_wear : mr_op X 79 137 [.inl a, .inl b, .inl e] := by
  intro S f g r s n H D z Ds L t w hH hc hm
  have hc0 := hc
  obtain ⟨sc, hg, hS, -⟩ := hc
  have hG := hS.1.1.1
  have h60 := hG.n60
  have hsn := hG.sn
  have hs3 := hG.2.2.1
  have hV := hS.2.1.2.2.2.1
  have ok0 : sp_ok (f 18 0) r s n H := by rw [hm.1]; exact hS.2.1
  have hO := md_O_ok ok0
  have hgm := hg.2.2.2.2.2.2.1.1
  have hgc := hg.2.1.2.2.1
  haveI : Decidable (mc_iH b e) := Classical.propDecidable _
  have hI := mc_hasSpot (X := X) (S := S) (g := g) (v := a) hS.1.2.1.2.2
  have hJ := md_isSpot (X := X) (S := S) (v := a) hgm hO
  have hA := mc_isHeat (X := X) (S := S) (f := f) (g := g) (t := b) (sl := e)
  have hB := md_isHeat (X := X) (S := S) (f := f) (g := g) (t := b) (sl := e)
  by_cases c1 : nI 0 ≤ a ∧ a ≤ nI n - nI 1
  · rw [← mj_boT c1] at hI hJ
    by_cases c2 : mc_iH b e
    · rw [← mj_boT c2] at hA hB
      obtain ⟨j, hj, rfl⟩ := mr_in (by omega) (by omega) c1
      obtain ⟨p, hp, ep, ep2⟩ := mr_fo c2
      have fo := mc_factorOf (X := X) (S := S) (f := f) (g := g) (t := b) (sl := e)
      rw [ep] at fo
      have wn := mc_wearNow (X := X) (S := S) (φ := nI p) hgc hG hS.1.2.1.2.1 hS.1.2.1.2.2 hj (mr_L_13 hS.1 hV)
      have ew : mc_wr (f 10 0 (j / s)) (nI p) (mc_T f 0 j - mc_lb (mc_T f 0) s n j) (f 11 0 1) = sp_W D s n (nI p) j := mr_L_W hS.1 hV hj hp
      rw [ew] at wn
      have M1 := mr_m_c hm (F := mc_kp f 0 n) (fun k i j hn => mc_kp_k (by omega))
      have C1 := mr_c_13 hc0 (F := mc_kp f 0 n) (fun k i j hn => mc_kp_k hn)
      have ok1 : sp_ok (mc_kp f 0 n 18 0) r s n H := by rw [M1.1]; exact hS.2.1
      have hJ2 := md_isSpot (X := X) (S := S) (v := nI j) hgm (md_O_ok ok1)
      rw [← mj_boT c1] at hJ2
      have hB2 := md_isHeat (X := X) (S := S) (f := mc_kp f 0 n) (g := g) (t := b) (sl := e)
      rw [← mj_boT c2] at hB2
      have wo := md_wearOf (X := X) (S := S) (t := b) (sl := e) hgm (md_O_ok ok1) hj (md_ok_13 ok1)
      have e3 : md_W (mc_kp f 0 n) 0 s n (md_fo b e) j = sp_W D s n (nI p) j := by rw [ep2, ← M1.1]; rfl
      rw [e3] at wo
      refine mr_same (v := sp_W D s n (nI p) j) (F := mc_kp f 0 n) (F2 := mc_kp f 0 n) ?_ C1 ?_ mr_fm_r M1
      · simp (disch := omega) only [mj_x79, mj_g79_0, mj_g79_1, mj_g79_2, mj_g79_3, mj_g79_4, mj_g79_5, mj_g79_6, mj_g79_7, mj_g79_8, mj_g79_9, mj_g79_12, mj_g79_13, mj_g79_14, mj_g79_15, mj_g79_16, mj_g79_17, mj_g79_18, mj_g79_19, mj_g79_20, ↓reduceIte, Option.bind_some, Option.toList_some, Option.toList_none, List.cons_append, List.nil_append, mj_ixn, mj_add, mj_mul, mj_sub, mj_dv, mj_rmn, mj_ltT, mj_ltF, mj_leT, mj_leF, mj_eqT, mj_eqF, mj_z0T, mj_z0F, mj_bo0, mj_boc, mj_chk10, mj_chk11, and_self, not_true, not_false_eq_true, hI, hA, hg.1.1, hg.2.1.1, fo, wn]
      · simp (disch := omega) only [mj_x137, mj_g137_0, mj_g137_1, mj_g137_2, mj_g137_3, mj_g137_4, mj_g137_5, mj_g137_6, mj_g137_7, mj_g137_8, mj_g137_9, mj_g137_10, mj_g137_11, mj_g137_12, mj_g137_13, mj_g137_15, ↓reduceIte, Option.bind_some, Option.toList_some, Option.toList_none, List.cons_append, List.nil_append, mj_ixn, mj_add, mj_mul, mj_sub, mj_dv, mj_rmn, mj_ltT, mj_ltF, mj_leT, mj_leF, mj_eqT, mj_eqF, mj_z0T, mj_z0F, mj_bo0, mj_boc, mj_chk10, mj_chk11, and_self, not_true, not_false_eq_true, hJ2, hB2, wo]
    · rw [← mj_boF c2] at hA hB
      refine mr_same (v := (-1000001)) (F := f) (F2 := f) ?_ hc0 ?_ mr_fm_r hm
      · simp (disch := omega) only [mj_x79, mj_g79_0, mj_g79_1, mj_g79_2, mj_g79_3, mj_g79_4, mj_g79_5, mj_g79_6, mj_g79_7, mj_g79_8, mj_g79_9, mj_g79_10, mj_g79_11, ↓reduceIte, Option.bind_some, Option.toList_some, Option.toList_none, List.cons_append, List.nil_append, mj_ixn, mj_add, mj_mul, mj_sub, mj_dv, mj_rmn, mj_ltT, mj_ltF, mj_leT, mj_leF, mj_eqT, mj_eqF, mj_z0T, mj_z0F, mj_bo0, mj_boc, mj_chk10, mj_chk11, and_self, not_true, not_false_eq_true, hI, hA, hg.1.1, hg.2.1.1]
      · simp (disch := omega) only [mj_x137, mj_g137_0, mj_g137_1, mj_g137_2, mj_g137_3, mj_g137_4, mj_g137_5, mj_g137_6, mj_g137_7, mj_g137_14, mj_g137_15, ↓reduceIte, Option.bind_some, Option.toList_some, Option.toList_none, List.cons_append, List.nil_append, mj_ixn, mj_add, mj_mul, mj_sub, mj_dv, mj_rmn, mj_ltT, mj_ltF, mj_leT, mj_leF, mj_eqT, mj_eqF, mj_z0T, mj_z0F, mj_bo0, mj_boc, mj_chk10, mj_chk11, and_self, not_true, not_false_eq_true, hJ, hB]
  · rw [← mj_boF c1] at hI hJ
    refine mr_same (v := (-1000001)) (F := f) (F2 := f) ?_ hc0 ?_ mr_fm_r hm
    · simp (disch := omega) only [mj_x79, mj_g79_0, mj_g79_1, mj_g79_2, mj_g79_3, mj_g79_4, mj_g79_5, mj_g79_6, mj_g79_7, mj_g79_8, mj_g79_9, mj_g79_10, mj_g79_11, ↓reduceIte, Option.bind_some, Option.toList_some, Option.toList_none, List.cons_append, List.nil_append, mj_ixn, mj_add, mj_mul, mj_sub, mj_dv, mj_rmn, mj_ltT, mj_ltF, mj_leT, mj_leF, mj_eqT, mj_eqF, mj_z0T, mj_z0F, mj_bo0, mj_boc, mj_chk10, mj_chk11, and_self, not_true, not_false_eq_true, hI, hg.1.1, hg.2.1.1]
    · simp (disch := omega) only [mj_x137, mj_g137_0, mj_g137_1, mj_g137_2, mj_g137_3, mj_g137_14, mj_g137_15, ↓reduceIte, Option.bind_some, Option.toList_some, Option.toList_none, List.cons_append, List.nil_append, mj_ixn, mj_add, mj_mul, mj_sub, mj_dv, mj_rmn, mj_ltT, mj_ltF, mj_leT, mj_leF, mj_eqT, mj_eqF, mj_z0T, mj_z0F, mj_bo0, mj_boc, mj_chk10, mj_chk11, and_self, not_true, not_false_eq_true, hJ]
theorem mr_reason : mr_op X 84 146 [] := by
  intro S f g r s n H D z Ds L t w hH hc hm
  have hc0 := hc
  obtain ⟨sc, hg, hS, h3, hX, hw⟩ := hc
  refine mr_same (v := w) (F := f) (F2 := f) ?_ hc0 ?_ mr_fm_r hm
  · simp (disch := omega) only [mj_x84, mj_g84_0, mj_g84_1, mj_g84_2, ↓reduceIte, Option.bind_some, Option.toList_some, Option.toList_none, List.cons_append, List.nil_append, mj_ixn, mj_add, mj_mul, mj_sub, mj_dv, mj_rmn, mj_ltT, mj_ltF, mj_leT, mj_leF, mj_eqT, mj_eqF, mj_z0T, mj_z0F, mj_bo0, mj_boc, mj_chk10, mj_chk11, and_self, not_true, not_false_eq_true, hw]
  · simp (disch := omega) only [mj_x146, mj_g146_0, mj_g146_1, mj_g146_2, ↓reduceIte, Option.bind_some, Option.toList_some, Option.toList_none, List.cons_append, List.nil_append, mj_ixn, mj_add, mj_mul, mj_sub, mj_dv, mj_rmn, mj_ltT, mj_ltF, mj_leT, mj_leF, mj_eqT, mj_eqF, mj_z0T, mj_z0F, mj_bo0, mj_boc, mj_chk10, mj_chk11, and_self, not_true, not_false_eq_true, hm.2.2.2.2.2]
theorem mr_clearText : mr_op X 81 139 [] := by
  intro S f g r s n H D z Ds L t w hH hc hm
  have hc0 := hc
  obtain ⟨sc, hg, hS, h3, hX, hw⟩ := hc
  have C2 : mr_c (mj_u f 2 0 1 (nI 0)) g r s n H D z Ds 0 t w := ⟨sc, hg, mr_S_k hS (fun k i j hn => mj_u_n (by omega)), mr_HC_k h3 (Nat.le_refl _) (fun k i j hn => mj_u_n (by omega)), ⟨by omega, mj_us, by rw [← hX.2.2.1]; exact funext (fun j => mj_u_n (by omega)), fun j hj => by omega⟩, by rw [mj_u_n (by omega)]; exact hw⟩
  have M1 := mr_m_c hm (F := mj_u f 2 0 1 (nI 0)) (mr_fc_u (by omega))
  have M2 : mr_m (mj_u (mj_u f 2 0 1 (nI 0)) 6 0 7 (nI 0)) D z Ds 0 t w := by
    obtain ⟨m1, m2, m3, m4, m5, m6⟩ := M1
    exact ⟨by rw [← m1]; exact funext (fun j => mj_u_n (by omega)), by rw [mj_u_n (by omega)]; exact m2, fun k hk j hj => by rw [mj_u_n (by omega)]; exact m3 k hk j hj, mj_us, by rw [← m5]; exact funext (fun j => mj_u_n (by omega)), by rw [mj_u_n (by omega)]; exact m6⟩
  refine mr_done (v := nI L) ?_ C2 (by omega) ?_ (mr_fm_u (by omega)) (fun _ _ => rfl) M2
  · simp (disch := omega) only [mj_x81, mj_g81_0, mj_g81_1, mj_g81_2, mj_g81_3, mj_g81_4, mj_g81_5, mj_g81_6, mj_g81_7, mj_g81_8, mj_g81_9, ↓reduceIte, Option.bind_some, Option.toList_some, Option.toList_none, List.cons_append, List.nil_append, mj_ixn, mj_add, mj_mul, mj_sub, mj_dv, mj_rmn, mj_ltT, mj_ltF, mj_leT, mj_leF, mj_eqT, mj_eqF, mj_z0T, mj_z0F, mj_bo0, mj_boc, mj_chk10, mj_chk11, and_self, not_true, not_false_eq_true, hg.1.2.2.2, hX.2.1]
  · simp (disch := omega) only [mj_x139, mj_g139_0, mj_g139_1, mj_g139_2, mj_g139_3, mj_g139_4, mj_g139_5, mj_g139_6, mj_g139_7, ↓reduceIte, Option.bind_some, Option.toList_some, Option.toList_none, List.cons_append, List.nil_append, mj_ixn, mj_add, mj_mul, mj_sub, mj_dv, mj_rmn, mj_ltT, mj_ltF, mj_leT, mj_leF, mj_eqT, mj_eqF, mj_z0T, mj_z0F, mj_bo0, mj_boc, mj_chk10, mj_chk11, and_self, not_true, not_false_eq_true, M1.2.2.2.1]
theorem mr_type : mr_op X 80 138 [.inl a] := by
  intro S f g r s n H D z Ds L t w hH hc hm
  have hc0 := hc
  obtain ⟨sc, hg, hS, h3, hX, hw⟩ := hc
  have hL := hX.1
  by_cases c1 : nI 32 ≤ a ∧ a ≤ nI 126
  · obtain ⟨k, k1, k2, rfl⟩ := mr_rg (by omega) (by omega) c1
    obtain ⟨e1, e2⟩ := mr_ch_chk k (by omega)
    by_cases c2 : L = 100
    · refine mr_same (v := (-1000003)) (F := f) (F2 := f) ?_ hc0 ?_ mr_fm_r hm
      · simp (disch := omega) only [mj_x80, mj_g80_0, mj_g80_1, mj_g80_2, mj_g80_3, mj_g80_4, mj_g80_7, mj_g80_8, mj_g80_9, mj_g80_10, mj_g80_11, mj_g80_12, mj_g80_13, ↓reduceIte, Option.bind_some, Option.toList_some, Option.toList_none, List.cons_append, List.nil_append, mj_ixn, mj_add, mj_mul, mj_sub, mj_dv, mj_rmn, mj_ltT, mj_ltF, mj_leT, mj_leF, mj_eqT, mj_eqF, mj_z0T, mj_z0F, mj_bo0, mj_boc, mj_chk10, mj_chk11, and_self, not_true, not_false_eq_true, mc_within, hg.1.2.2.2, hX.2.1]
      · simp (disch := omega) only [mj_x138, mj_g138_0, mj_g138_1, mj_g138_2, mj_g138_3, mj_g138_4, mj_g138_7, mj_g138_8, mj_g138_9, mj_g138_10, mj_g138_11, mj_g138_12, ↓reduceIte, Option.bind_some, Option.toList_some, Option.toList_none, List.cons_append, List.nil_append, mj_ixn, mj_add, mj_mul, mj_sub, mj_dv, mj_rmn, mj_ltT, mj_ltF, mj_leT, mj_leF, mj_eqT, mj_eqF, mj_z0T, mj_z0F, mj_bo0, mj_boc, mj_chk10, mj_chk11, and_self, not_true, not_false_eq_true, mc_in, hm.2.2.2.1]
    · have ap := mc_append (X := X) (S := S) (x := nI k) hg.2.2.2.2.2.1 hX.2.1 (by omega) e2
      have q1 : mj_u (mj_u f 14 0 L (nI k)) 2 0 1 (nI (L + 1)) 2 0 1 = nI (L + 1) := mj_us
      have C2 : mr_c (mj_u (mj_u f 14 0 L (nI k)) 2 0 1 (nI (L + 1))) g r s n H D z Ds (L + 1) (sp_u t L (nI k)) w := by
        refine ⟨sc, hg, mr_S_k hS (fun k i j hn => by rw [mj_u_n (by omega), mj_u_n (by omega)]), mr_HC_k h3 (Nat.le_refl _) (fun k i j hn => by rw [mj_u_n (by omega), mj_u_n (by omega)]), ⟨by omega, q1, ?_, fun j hj => ?_⟩, by rw [mj_u_n (by omega), mj_u_n (by omega)]; exact hw⟩
        · funext j
          rw [mj_uk (by decide), ← hX.2.2.1]
          by_cases c3 : j = L
          · subst c3; rw [mj_us, sp_u_s]
          · rw [mj_uj c3, sp_u_o c3]
        · by_cases c3 : j = L
          · subst c3; rw [sp_u_s]; exact e2
          · rw [sp_u_o c3]; exact hX.2.2.2 j (by omega)
      have M1 := mr_m_c hm (F := mj_u (mj_u f 14 0 L (nI k)) 2 0 1 (nI (L + 1))) (fun k i j hn => by rw [mj_u_n (by omega), mj_u_n (by omega)])
      generalize mj_u (mj_u f 14 0 L (nI k)) 2 0 1 (nI (L + 1)) = F1 at ap q1 C2 M1
      have M2 : mr_m (mj_u (mj_u F1 22 0 L (nI k)) 6 0 7 (nI (L + 1))) D z Ds (L + 1) (sp_u t L (nI k)) w := by
        obtain ⟨m1, m2, m3, m4, m5, m6⟩ := M1
        refine ⟨by rw [← m1]; exact funext (fun j => by rw [mj_u_n (by omega), mj_u_n (by omega)]), by rw [mj_u_n (by omega), mj_u_n (by omega)]; exact m2, fun k hk j hj => by rw [mj_u_n (by omega), mj_u_n (by omega)]; exact m3 k hk j hj, mj_us, ?_, by rw [mj_u_n (by omega), mj_u_n (by omega)]; exact m6⟩
        funext j
        rw [mj_uk (by decide), ← m5]
        by_cases c3 : j = L
        · subst c3; rw [mj_us, sp_u_s]
        · rw [mj_uj c3, sp_u_o c3]
      refine mr_done (v := nI (L + 1)) ?_ C2 (by omega) ?_ (mr_fm_t (mr_fm_u (k := 22) (i := 0) (j := L) (v := nI k) (by omega)) (mr_fm_u (by omega))) (fun _ _ => rfl) M2
      · simp (disch := omega) only [mj_x80, mj_g80_0, mj_g80_1, mj_g80_2, mj_g80_3, mj_g80_4, mj_g80_7, mj_g80_8, mj_g80_9, mj_g80_10, mj_g80_11, mj_g80_14, mj_g80_15, mj_g80_16, mj_g80_17, mj_g80_18, mj_g80_19, mj_g80_20, mj_g80_21, mj_g80_22, ↓reduceIte, Option.bind_some, Option.toList_some, Option.toList_none, List.cons_append, List.nil_append, mj_ixn, mj_add, mj_mul, mj_sub, mj_dv, mj_rmn, mj_ltT, mj_ltF, mj_leT, mj_leF, mj_eqT, mj_eqF, mj_z0T, mj_z0F, mj_bo0, mj_boc, mj_chk10, mj_chk11, and_self, not_true, not_false_eq_true, mc_within, hg.1.2.2.2, hX.2.1, e1, ap, q1]
      · simp (disch := omega) only [mj_x138, mj_g138_0, mj_g138_1, mj_g138_2, mj_g138_3, mj_g138_4, mj_g138_7, mj_g138_8, mj_g138_9, mj_g138_10, mj_g138_13, mj_g138_14, mj_g138_15, mj_g138_16, mj_g138_17, mj_g138_18, mj_g138_19, mj_g138_20, mj_g138_21, mj_g138_22, mj_g138_23, mj_g138_24, mj_g138_25, mj_g138_26, mj_g138_27, mj_g138_28, ↓reduceIte, Option.bind_some, Option.toList_some, Option.toList_none, List.cons_append, List.nil_append, mj_ixn, mj_add, mj_mul, mj_sub, mj_dv, mj_rmn, mj_ltT, mj_ltF, mj_leT, mj_leF, mj_eqT, mj_eqF, mj_z0T, mj_z0F, mj_bo0, mj_boc, mj_chk10, mj_chk11, and_self, not_true, not_false_eq_true, mc_in, hg.2.2.2.2.2.2.1.2.2.2.2, M1.2.2.2.1, e1, e2, mj_uk, mj_us]
  · refine mr_same (v := (-1000001)) (F := f) (F2 := f) ?_ hc0 ?_ mr_fm_r hm
    · simp (disch := omega) only [mj_x80, mj_g80_0, mj_g80_1, mj_g80_2, mj_g80_3, mj_g80_4, mj_g80_5, mj_g80_6, ↓reduceIte, Option.bind_some, Option.toList_some, Option.toList_none, List.cons_append, List.nil_append, mj_ixn, mj_add, mj_mul, mj_sub, mj_dv, mj_rmn, mj_ltT, mj_ltF, mj_leT, mj_leF, mj_eqT, mj_eqF, mj_z0T, mj_z0F, mj_bo0, mj_boc, mj_chk10, mj_chk11, and_self, not_true, not_false_eq_true, mc_within, eq_false c1]
    · simp (disch := omega) only [mj_x138, mj_g138_0, mj_g138_1, mj_g138_2, mj_g138_3, mj_g138_4, mj_g138_5, mj_g138_6, ↓reduceIte, Option.bind_some, Option.toList_some, Option.toList_none, List.cons_append, List.nil_append, mj_ixn, mj_add, mj_mul, mj_sub, mj_dv, mj_rmn, mj_ltT, mj_ltF, mj_leT, mj_leF, mj_eqT, mj_eqF, mj_z0T, mj_z0F, mj_bo0, mj_boc, mj_chk10, mj_chk11, and_self, not_true, not_false_eq_true, mc_in, eq_false c1]
theorem mr_fault : mr_op X 82 143 [] := by
  intro S f g r s n H D z Ds L t w hH hc hm
  have hc0 := hc
  obtain ⟨sc, hg, hS, h3, hX, hw⟩ := hc
  obtain ⟨f2, d1, d2⟩ := mc_firstFault (X := X) (S := S) (r := r) (n := n) hg.2.2.2.2.2.1 hX.2.1 hX.1 (fun j hj => by rw [hX.2.2.1]; exact hX.2.2.2 j hj) hS.1.2.1.1 hS.1.2.1.2.2
  rw [hX.2.2.1] at d1
  have C1 := mr_c_q hc0 d2
  have M1 := mr_m_c hm (mr_fc_Q d2)
  have ok1 : sp_ok (f2 18 0) r s n H := by rw [M1.1]; exact hS.2.1
  obtain ⟨f3, d3, d4⟩ := md_fault (X := X) (S := S) hg.2.2.2.2.2.2.1.1 hg.2.2.2.2.2.2.1.2.2.2.2 (md_O_ok ok1) M1.2.2.2.1 hX.1
  rw [M1.2.2.2.2.1] at d3
  have M2 : mr_m f3 D z Ds L t w := by
    obtain ⟨m1, m2, m3, m4, m5, m6⟩ := M1
    exact ⟨by rw [← m1]; exact funext (fun j => d4 _ _ _ (by omega)), by rw [d4 _ _ _ (by omega)]; exact m2, fun k hk j hj => by rw [d4 _ _ _ (by omega)]; exact m3 k hk j hj, by rw [d4 _ _ _ (by omega)]; exact m4, by rw [← m5]; exact funext (fun j => d4 _ _ _ (by omega)), by rw [d4 _ _ _ (by omega)]; exact m6⟩
  refine mr_same (v := mc_oi (mt_ff t L r n 100 0)) (F := f2) (F2 := f3) ?_ C1 d3 (mr_fm_Q d4) M2
  simp (disch := omega) only [mj_x82, mj_g82_0, mj_g82_1, mj_g82_2, mj_g82_3, mj_g82_4, mj_g82_5, mj_g82_6, ↓reduceIte, Option.bind_some, Option.toList_some, Option.toList_none, List.cons_append, List.nil_append, mj_ixn, mj_add, mj_mul, mj_sub, mj_dv, mj_rmn, mj_ltT, mj_ltF, mj_leT, mj_leF, mj_eqT, mj_eqF, mj_z0T, mj_z0F, mj_bo0, mj_boc, mj_chk10, mj_chk11, and_self, not_true, not_false_eq_true, hg.1.2.2.2, hg.1.1, hg.2.1.1, d1]
end O4
