/-! the law's 'heated', walked -/
theorem mq_fn_le {t l : Nat} (h1 : 1400 ≤ t) (h2 : t ≤ 1800) (h3 : l ≤ 100) : mq_fn t l ≤ 200 := (mq_fo h1 h2 h3).1
theorem mq_fn_l (t l : Nat) : mq_fn t l ≤ mq_fn t (l + 1) := by unfold mq_fn; omega
theorem mq_fn_t (t l : Nat) : mq_fn t l ≤ mq_fn (t + 1) l := by unfold mq_fn; omega
section QT
variable {X : mj_X} {S : List (Nat × Nat)} {f F : mj_F} {g G : mj_G} {r s n H z j k x t l w q : Nat} {D : Nat → Int32} {Ds : Nat → Nat → Int32} {a5 a6 a9 a10 a11 : Option mj_V} {v sm br : Int32}
/-- the sum -/
theorem mq_tA (hc : mq_c f g r s n H D z Ds) (hj : j < n) (t1 : 1400 ≤ t) (t2 : t ≤ 1800) (t3 : l ≤ 100) (hm : v + mp_x (D (22 + j)) (D (82 + j)) (sp_W D s n (nI (mq_fn t l)) j) = sm) : ∃ F o11, mj_g X 70 27 [some (.inr (5, 0)), some (.inl (nI t)), some (.inl (nI l)), some (.inl (nI n)), some (.inl v), a5, a6, some (.inl (nI 1)), some (.inl (nI j)), a9, a10, a11] [] (S, f, g) = mj_g X 70 70 [some (.inr (5, 0)), some (.inl (nI t)), some (.inl (nI l)), some (.inl (nI n)), some (.inl sm), a5, a6, some (.inl (nI 1)), some (.inl (nI j)), some (.inl (nI (mq_w D s n (mq_fn t l) j))), some (.inl (nI (mq_l D j))), o11] [] (S, F, g) ∧ mq_c F g r s n H D z Ds := by
  have hG := mq_c_ge hc
  have hV := mq_c_V hc
  have h60 := hG.n60
  have hp := mq_fn_le t1 t2 t3
  obtain ⟨ew, hw⟩ := mq_w_e hV hG hj hp
  have ex := mq_x hV hG hj hp
  obtain ⟨b1, b2, b3, b4, b5, b6⟩ := mq_bl hV hj
  obtain ⟨F, k1, k2⟩ := mq_wear (X := X) (S := S) hc hj t1 t2 t3
  rw [ew] at k1
  have s1 := mq_spt1 (X := X) (S := S) k2 hj
  have s0 := mq_spt0 (X := X) (S := S) k2 hj
  rw [ex] at hm
  by_cases c1 : mq_l D j < 2 * mq_w D s n (mq_fn t l) j
  · rw [if_pos c1] at hm
    refine ⟨F, some (.inl (nI (mq_w D s n (mq_fn t l) j - mq_l D j / 2))), ?_, k2⟩
    by_cases c2 : mq_b D j ≤ mq_w D s n (mq_fn t l) j - mq_l D j / 2
    · rw [Nat.min_eq_right c2] at hm
      simp (disch := omega) only [mj_g70_27, mj_g70_28, mj_g70_29, mj_g70_30, mj_g70_31, mj_g70_32, mj_g70_33, mj_g70_34, mj_g70_35, mj_g70_36, mj_g70_37, mj_g70_38, mj_g70_39, mj_g70_40, mj_g70_41, mj_g70_42, mj_g70_43, mj_g70_44, mj_g70_45, mj_g70_46, mj_g70_47, mj_g70_48, mj_g70_49, mj_g70_54, mj_g70_55, mj_g70_56, mj_g70_57, mj_g70_58, mj_g70_59, mj_g70_60, mj_g70_63, mj_g70_64, mj_g70_65, mj_g70_66, mj_g70_67, mj_g70_68, mj_g70_69, ↓reduceIte, Option.bind_some, Option.toList_some, Option.toList_none, List.cons_append, List.nil_append, mj_ixn, mj_add, mj_mul, mj_sub, mj_dv, mj_rmn, mj_ltT, mj_ltF, mj_leT, mj_leF, mj_eqT, mj_eqF, mj_z0T, mj_z0F, mj_bo0, mj_boc, mj_chk10, mj_chk11, and_self, not_true, not_false_eq_true, k1, s1, s0, hm]
    · rw [Nat.min_eq_left (by omega)] at hm
      simp (disch := omega) only [mj_g70_27, mj_g70_28, mj_g70_29, mj_g70_30, mj_g70_31, mj_g70_32, mj_g70_33, mj_g70_34, mj_g70_35, mj_g70_36, mj_g70_37, mj_g70_38, mj_g70_39, mj_g70_40, mj_g70_41, mj_g70_42, mj_g70_43, mj_g70_44, mj_g70_45, mj_g70_46, mj_g70_47, mj_g70_48, mj_g70_49, mj_g70_54, mj_g70_55, mj_g70_56, mj_g70_57, mj_g70_58, mj_g70_59, mj_g70_60, mj_g70_61, mj_g70_62, mj_g70_67, mj_g70_68, mj_g70_69, ↓reduceIte, Option.bind_some, Option.toList_some, Option.toList_none, List.cons_append, List.nil_append, mj_ixn, mj_add, mj_mul, mj_sub, mj_dv, mj_rmn, mj_ltT, mj_ltF, mj_leT, mj_leF, mj_eqT, mj_eqF, mj_z0T, mj_z0F, mj_bo0, mj_boc, mj_chk10, mj_chk11, and_self, not_true, not_false_eq_true, k1, s1, s0, hm]
  · rw [if_neg c1] at hm
    refine ⟨F, some (.inl (nI (mq_w D s n (mq_fn t l) j) - nI (mq_l D j / 2))), ?_, k2⟩
    simp (disch := omega) only [mj_g70_27, mj_g70_28, mj_g70_29, mj_g70_30, mj_g70_31, mj_g70_32, mj_g70_33, mj_g70_34, mj_g70_35, mj_g70_36, mj_g70_37, mj_g70_38, mj_g70_39, mj_g70_40, mj_g70_41, ↓reduceIte, Option.bind_some, Option.toList_some, Option.toList_none, List.cons_append, List.nil_append, mj_ixn, mj_add, mj_mul, mj_sub, mj_dv, mj_rmn, mj_ltT, mj_ltF, mj_leT, mj_leF, mj_eqT, mj_eqF, mj_z0T, mj_z0F, mj_bo0, mj_boc, mj_chk10, mj_chk11, and_self, not_true, not_false_eq_true, k1, s1]
    simp (disch := omega) only [mj_g70_42, mj_g70_43, mj_g70_44, mj_g70_45, mj_g70_46, mj_g70_47, mj_g70_48, mj_g70_49, mj_g70_50, mj_g70_51, mj_g70_52, mj_g70_53, mj_g70_68, mj_g70_69, ↓reduceIte, mj_mul, mj_ltF, hm]
/-- more slag -/
theorem mq_tB (hc : mq_c f g r s n H D z Ds) (hj : j < n) (t1 : 1400 ≤ t) (t2 : t ≤ 1800) (t3 : l ≤ 100) (a4 : Option mj_V) : ∃ F, mj_g X 70 70 [some (.inr (5, 0)), some (.inl (nI t)), some (.inl (nI l)), some (.inl (nI n)), a4, a5, a6, some (.inl (nI 1)), some (.inl (nI j)), some (.inl (nI (mq_w D s n (mq_fn t l) j))), a10, a11] [] (S, f, g) = mj_g X 70 84 [some (.inr (5, 0)), some (.inl (nI t)), some (.inl (nI l)), some (.inl (nI n)), a4, a5, a6, some (.inl (nI 1)), some (.inl (nI j)), some (.inl (nI (mq_w D s n (mq_fn t l) j))), a10, a11] [] (S, F, g) ∧ mq_c F g r s n H D z Ds := by
  have hG := mq_c_ge hc
  have hV := mq_c_V hc
  have h60 := hG.n60
  obtain ⟨ew, hw⟩ := mq_w_e hV hG hj (mq_fn_le t1 t2 t3)
  by_cases c1 : l = 100
  · refine ⟨f, ?_, hc⟩
    simp (disch := omega) only [mj_g70_70, mj_g70_71, mj_g70_72, mj_g70_73, mj_g70_74, ↓reduceIte, Option.bind_some, Option.toList_some, Option.toList_none, List.cons_append, List.nil_append, mj_ixn, mj_add, mj_mul, mj_sub, mj_dv, mj_rmn, mj_ltT, mj_ltF, mj_leT, mj_leF, mj_eqT, mj_eqF, mj_z0T, mj_z0F, mj_bo0, mj_boc, mj_chk10, mj_chk11, and_self, not_true, not_false_eq_true, mj_lt0]
  · have hp := mq_fn_le t1 t2 (show l + 1 ≤ 100 by omega)
    obtain ⟨ew2, hw2⟩ := mq_w_e hV hG hj hp
    have hm := mq_w_m hV hG hj (mq_fn_l t l) hp
    obtain ⟨F, k1, k2⟩ := mq_wear (X := X) (S := S) hc hj t1 t2 (show l + 1 ≤ 100 by omega)
    rw [ew2] at k1
    refine ⟨F, ?_, k2⟩
    simp (disch := omega) only [mj_g70_70, mj_g70_71, mj_g70_72, mj_g70_73, mj_g70_74, mj_g70_75, mj_g70_76, mj_g70_77, mj_g70_78, mj_g70_79, mj_g70_80, mj_g70_81, mj_g70_82, mj_g70_83, ↓reduceIte, Option.bind_some, Option.toList_some, Option.toList_none, List.cons_append, List.nil_append, mj_ixn, mj_add, mj_mul, mj_sub, mj_dv, mj_rmn, mj_ltT, mj_ltF, mj_leT, mj_leF, mj_eqT, mj_eqF, mj_z0T, mj_z0F, mj_bo0, mj_boc, mj_chk10, mj_chk11, and_self, not_true, not_false_eq_true, mj_lt0, k1]
/-- more heat -/
theorem mq_tC (hc : mq_c f g r s n H D z Ds) (hj : j < n) (t1 : 1400 ≤ t) (t2 : t ≤ 1800) (t3 : l ≤ 100) (a4 : Option mj_V) : ∃ F, mj_g X 70 84 [some (.inr (5, 0)), some (.inl (nI t)), some (.inl (nI l)), some (.inl (nI n)), a4, a5, a6, some (.inl (nI 1)), some (.inl (nI j)), some (.inl (nI (mq_w D s n (mq_fn t l) j))), a10, a11] [] (S, f, g) = mj_g X 70 22 [some (.inr (5, 0)), some (.inl (nI t)), some (.inl (nI l)), some (.inl (nI n)), a4, a5, a6, some (.inl (nI 1)), some (.inl (nI (j + 1))), some (.inl (nI (mq_w D s n (mq_fn t l) j))), a10, a11] [] (S, F, g) ∧ mq_c F g r s n H D z Ds := by
  have hG := mq_c_ge hc
  have hV := mq_c_V hc
  have h60 := hG.n60
  obtain ⟨ew, hw⟩ := mq_w_e hV hG hj (mq_fn_le t1 t2 t3)
  by_cases c1 : t = 1800
  · refine ⟨f, ?_, hc⟩
    simp (disch := omega) only [mj_g70_84, mj_g70_85, mj_g70_86, mj_g70_96, mj_g70_97, mj_g70_99, mj_g70_100, mj_g70_101, ↓reduceIte, Option.bind_some, Option.toList_some, Option.toList_none, List.cons_append, List.nil_append, mj_ixn, mj_add, mj_mul, mj_sub, mj_dv, mj_rmn, mj_ltT, mj_ltF, mj_leT, mj_leF, mj_eqT, mj_eqF, mj_z0T, mj_z0F, mj_bo0, mj_boc, mj_chk10, mj_chk11, and_self, not_true, not_false_eq_true]
  · have hp := mq_fn_le (show 1400 ≤ t + 1 by omega) (show t + 1 ≤ 1800 by omega) t3
    obtain ⟨ew2, hw2⟩ := mq_w_e hV hG hj hp
    have hm := mq_w_m hV hG hj (mq_fn_t t l) hp
    obtain ⟨F, k1, k2⟩ := mq_wear (X := X) (S := S) hc hj (show 1400 ≤ t + 1 by omega) (show t + 1 ≤ 1800 by omega) t3
    rw [ew2] at k1
    refine ⟨F, ?_, k2⟩
    simp (disch := omega) only [mj_g70_84, mj_g70_85, mj_g70_86, mj_g70_87, mj_g70_88, mj_g70_89, mj_g70_90, mj_g70_91, mj_g70_92, mj_g70_93, mj_g70_94, mj_g70_95, mj_g70_96, mj_g70_97, mj_g70_99, mj_g70_100, mj_g70_101, ↓reduceIte, Option.bind_some, Option.toList_some, Option.toList_none, List.cons_append, List.nil_append, mj_ixn, mj_add, mj_mul, mj_sub, mj_dv, mj_rmn, mj_ltT, mj_ltF, mj_leT, mj_leF, mj_eqT, mj_eqF, mj_z0T, mj_z0F, mj_bo0, mj_boc, mj_chk10, mj_chk11, and_self, not_true, not_false_eq_true, k1]
def mq_xs (D : Nat → Int32) (s n p : Nat) (j : Nat) : Int32 := mc_sm (fun j => mp_x (D (22 + j)) (D (82 + j)) (sp_W D s n (nI p) j)) j
theorem mq_tL (t1 : 1400 ≤ t) (t2 : t ≤ 1800) (t3 : l ≤ 100) : ∀ (q j : Nat) (f : mj_F) (o9 o10 o11 : Option mj_V), j + q = n → mq_c f g r s n H D z Ds → ∃ F p9 p10 p11, mj_g X 70 22 [some (.inr (5, 0)), some (.inl (nI t)), some (.inl (nI l)), some (.inl (nI n)), some (.inl (mq_xs D s n (mq_fn t l) j)), a5, a6, some (.inl (nI 1)), some (.inl (nI j)), o9, o10, o11] [] (S, f, g) = mj_g X 70 102 [some (.inr (5, 0)), some (.inl (nI t)), some (.inl (nI l)), some (.inl (nI n)), some (.inl (sp_x D s n (nI (mq_fn t l)))), a5, a6, some (.inl (nI 1)), some (.inl (nI n)), p9, p10, p11] [] (S, F, g) ∧ mq_c F g r s n H D z Ds := by
  intro q
  induction q with
  | zero =>
    intro j f o9 o10 o11 hj hc
    have hj2 : j = n := by omega
    subst hj2
    have h60 := (mq_c_ge hc).n60
    have ex : mq_xs D s j (mq_fn t l) j = sp_x D s j (nI (mq_fn t l)) := rfl
    refine ⟨f, o9, o10, o11, ?_, hc⟩
    rw [ex]
    refine Eq.trans mj_g70_22 ?_
    simp (disch := omega) only [mj_g70_23, mj_g70_24, ↓reduceIte, Option.bind_some, Option.toList_some, Option.toList_none, List.cons_append, List.nil_append, mj_ixn, mj_add, mj_mul, mj_sub, mj_dv, mj_rmn, mj_ltT, mj_ltF, mj_leT, mj_leF, mj_eqT, mj_eqF, mj_z0T, mj_z0F, mj_bo0, mj_boc, mj_chk10, mj_chk11, and_self, not_true, not_false_eq_true]
  | succ q ih =>
    intro j f o9 o10 o11 hj hc
    have hjn : j < n := by omega
    have h60 := (mq_c_ge hc).n60
    obtain ⟨F1, o, k1, k2⟩ := mq_tA (X := X) (S := S) (a5 := a5) (a6 := a6) (a9 := o9) (a10 := o10) (a11 := o11) (v := mq_xs D s n (mq_fn t l) j) (sm := mq_xs D s n (mq_fn t l) (j + 1)) hc hjn t1 t2 t3 rfl
    obtain ⟨F2, k3, k4⟩ := mq_tB (X := X) (S := S) (a5 := a5) (a6 := a6) (a10 := some (.inl (nI (mq_l D j)))) (a11 := o) k2 hjn t1 t2 t3 (some (.inl (mq_xs D s n (mq_fn t l) (j + 1))))
    obtain ⟨F3, k5, k6⟩ := mq_tC (X := X) (S := S) (a5 := a5) (a6 := a6) (a10 := some (.inl (nI (mq_l D j)))) (a11 := o) k4 hjn t1 t2 t3 (some (.inl (mq_xs D s n (mq_fn t l) (j + 1))))
    obtain ⟨F4, p9, p10, p11, k7, k8⟩ := ih (j + 1) F3 (some (.inl (nI (mq_w D s n (mq_fn t l) j)))) (some (.inl (nI (mq_l D j)))) o (by omega) k6
    refine ⟨F4, p9, p10, p11, ?_, k8⟩
    refine Eq.trans ?_ (k1.trans (k3.trans (k5.trans k7)))
    refine Eq.trans mj_g70_22 ?_
    simp (disch := omega) only [mj_g70_23, mj_g70_24, mj_g70_25, mj_g70_26, ↓reduceIte, Option.bind_some, Option.toList_some, Option.toList_none, List.cons_append, List.nil_append, mj_ixn, mj_add, mj_mul, mj_sub, mj_dv, mj_rmn, mj_ltT, mj_ltF, mj_leT, mj_leF, mj_eqT, mj_eqF, mj_z0T, mj_z0F, mj_bo0, mj_boc, mj_chk10, mj_chk11, and_self, not_true, not_false_eq_true]
theorem mq_ht_d : mc_sm (sp_T D) n - sp_x D s n (nI q) - (D 21 + mq_R D s n (nI q) - D 21) = mc_sm (sp_T D) n - sp_x D s n (nI q) - mq_R D s n (nI q) := by grind
theorem mq_ht_e (h : ¬ D 21 + mq_R D s n (nI q) = D 21) : mj_rem (D 3 + nI 1) (D 17) = 0 := by
  by_cases c1 : sp_rt D = true
  · exact of_decide_eq_true c1
  · exfalso
    apply h
    unfold mq_R
    rw [if_neg c1, nI_0, Int32.add_zero]
theorem mq_heated (hc : mq_c f g r s n H D z Ds) (hH : H < 900000) (hI : mq_I D n H) (t1 : 1400 ≤ t) (t2 : t ≤ 1800) (t3 : l ≤ 100) : ∃ F D2 z2 Ds2, mj_x X 70 [.inr (5, 0), .inl (nI t), .inl (nI l)] (S, f, g) = some (some (.inl (nI 1)), (S, F, g)) ∧ mq_c F g r s n (H + 1) D2 z2 Ds2 ∧ mq_I D2 n (H + 1) ∧ D2 142 = D 142 ∧ D2 12 = D 12 := by
  have hG := mq_c_ge hc
  have hV := mq_c_V hc
  have h60 := hG.n60
  have hsn := hG.sn
  have hs3 := hG.2.2.1
  have hn : r * s = n := hG.2.2.2.2.symm
  have hp := mq_fn_le t1 t2 t3
  have c0 := mq_cnt0 (X := X) (S := S) hc
  have c1 := mq_cnt1 (X := X) (S := S) hc
  have A3 : mj_x X 58 [.inr (5, 0), .inl (nI 3)] (S, f, g) = some (some (.inl (D 21)), (S, f, g)) := mq_acc hc (k := 3) (by omega)
  have A4 := mq_acc4 (X := X) (S := S) hc
  obtain ⟨F1, p9, p10, p11, k1, k2⟩ := mq_tL (X := X) (S := S) (g := g) (a5 := some (.inl (mc_sm (sp_T D) n))) (a6 := some (.inl (D 21))) t1 t2 t3 n 0 f none none none (Nat.zero_add n) hc
  have s1 : mj_x X 70 [.inr (5, 0), .inl (nI t), .inl (nI l)] (S, f, g) = mj_g X 70 22 [some (.inr (5, 0)), some (.inl (nI t)), some (.inl (nI l)), some (.inl (nI n)), some (.inl (mq_xs D s n (mq_fn t l) 0)), some (.inl (mc_sm (sp_T D) n)), some (.inl (D 21)), some (.inl (nI 1)), some (.inl (nI 0)), none, none, none] [] (S, f, g) := by
    simp (disch := omega) only [mj_x70, mj_g70_0, mj_g70_1, mj_g70_2, mj_g70_3, mj_g70_4, mj_g70_5, mj_g70_6, mj_g70_7, mj_g70_8, mj_g70_9, mj_g70_10, mj_g70_11, mj_g70_12, mj_g70_13, mj_g70_14, mj_g70_15, mj_g70_16, mj_g70_17, mj_g70_18, mj_g70_19, mj_g70_20, mj_g70_21, ↓reduceIte, Option.bind_some, Option.toList_some, Option.toList_none, List.cons_append, List.nil_append, mj_ixn, mj_add, mj_mul, mj_sub, mj_dv, mj_rmn, mj_ltT, mj_ltF, mj_leT, mj_leF, mj_eqT, mj_eqF, mj_z0T, mj_z0F, mj_bo0, mj_boc, mj_chk10, mj_chk11, and_self, not_true, not_false_eq_true, c0, c1, A3, A4, hn]
    rfl
  have B4 := mq_acc4 (X := X) (S := S) k2
  have c5 := mq_cnt5 (X := X) (S := S) k2
  rcases hV.1 with h5 | h5
  · obtain ⟨i1, a, b, i2, i3, i4, i5⟩ := hI
    have hI : mq_I D n H := ⟨i1, a, b, i2, i3, i4, i5⟩
    obtain ⟨F2, k3, k4⟩ := mq_heat (X := X) (S := S) k2 hH t1 t2 t3 h5
    have c2 := mq_cnt2 (X := X) (S := S) k2
    have e2 := mq_cnt2 (X := X) (S := S) k4
    have e3 := mq_cnt3 (X := X) (S := S) k4
    have e5 := mq_cnt5 (X := X) (S := S) k4
    have e10 := mq_cnt10 (X := X) (S := S) k4
    have e20 : mj_x X 55 [.inr (5, 0), .inl (nI 20)] (S, F2, g) = some (some (.inl (D 12)), (S, F2, g)) := by
      have h := mq_cnt_s (X := X) (S := S) k4 (k := 0) (by omega)
      rw [sp_ht_o (by omega)] at h
      exact h
    have e25 : mj_x X 55 [.inr (5, 0), .inl (nI 25)] (S, F2, g) = some (some (.inl (D 17)), (S, F2, g)) := by
      have h := mq_cnt_s (X := X) (S := S) k4 (k := 5) (by omega)
      rw [sp_ht_o (by omega)] at h
      exact h
    have E3 : mj_x X 58 [.inr (5, 0), .inl (nI 3)] (S, F2, g) = some (some (.inl (D 21 + mq_R D s n (nI (mq_fn t l)))), (S, F2, g)) := by
      have h := mq_acc (X := X) (S := S) k4 (k := 3) (by omega)
      rw [mq_ht_21] at h
      exact h
    have E4 := mq_acc4 (X := X) (S := S) k4
    rw [i2] at c2
    rw [sp_ht_2, i2] at e2
    rw [sp_ht_3] at e3
    rw [mq_ht_sm h60, ← mq_ht_d] at E4
    have h17 : ¬ D 17 = 0 := by
      obtain ⟨v, h1, h2, h3⟩ := hV.2.2.2.2.1
      rw [h3]
      exact of_eq_false (mj_z0F (by omega) (by omega))
    refine ⟨F2, sp_ht D s n (nI (mq_fn t l)), sp_rz z, sp_rd D z Ds, ?_, k4, mq_I_ht hI h60, sp_ht_o (by omega), sp_ht_o (by omega)⟩
    rw [h5] at c5
    rw [s1, k1]
    have s2 : ∀ p8, mj_g X 70 102 [some (.inr (5, 0)), some (.inl (nI t)), some (.inl (nI l)), some (.inl (nI n)), some (.inl (sp_x D s n (nI (mq_fn t l)))), some (.inl (mc_sm (sp_T D) n)), some (.inl (D 21)), some (.inl (nI 1)), p8, p9, p10, p11] [] (S, F1, g) = mj_g X 70 162 [some (.inr (5, 0)), some (.inl (nI t)), some (.inl (nI l)), some (.inl (nI n)), some (.inl (sp_x D s n (nI (mq_fn t l)))), some (.inl (mc_sm (sp_T D) n)), some (.inl (D 21)), some (.inl (nI 1)), some (.inl (nI a)), p9, p10, p11] [] (S, F2, g) := fun p8 => by
      simp (disch := omega) only [mj_g70_102, mj_g70_103, mj_g70_104, mj_g70_105, mj_g70_106, mj_g70_124, mj_g70_125, mj_g70_126, mj_g70_127, mj_g70_128, mj_g70_129, mj_g70_130, mj_g70_131, mj_g70_132, mj_g70_133, mj_g70_134, mj_g70_135, mj_g70_136, mj_g70_137, mj_g70_138, mj_g70_139, mj_g70_140, mj_g70_141, mj_g70_142, mj_g70_143, mj_g70_144, mj_g70_145, mj_g70_146, mj_g70_147, mj_g70_148, mj_g70_149, mj_g70_150, mj_g70_151, mj_g70_152, mj_g70_153, mj_g70_154, mj_g70_155, mj_g70_156, mj_g70_157, mj_g70_159, mj_g70_160, mj_g70_161, ↓reduceIte, Option.bind_some, Option.toList_some, Option.toList_none, List.cons_append, List.nil_append, mj_ixn, mj_add, mj_mul, mj_sub, mj_dv, mj_rmn, mj_ltT, mj_ltF, mj_leT, mj_leF, mj_eqT, mj_eqF, mj_z0T, mj_z0F, mj_bo0, mj_boc, mj_chk10, mj_chk11, and_self, not_true, not_false_eq_true, c5, c2, k3, e2, E3, E4, eq_self]
    rw [s2]
    have s3 : ∀ p8, mj_g X 70 162 [some (.inr (5, 0)), some (.inl (nI t)), some (.inl (nI l)), some (.inl (nI n)), some (.inl (sp_x D s n (nI (mq_fn t l)))), some (.inl (mc_sm (sp_T D) n)), some (.inl (D 21)), some (.inl (nI 1)), p8, p9, p10, p11] [] (S, F2, g) = mj_g X 70 175 [some (.inr (5, 0)), some (.inl (nI t)), some (.inl (nI l)), some (.inl (nI n)), some (.inl (sp_x D s n (nI (mq_fn t l)))), some (.inl (mc_sm (sp_T D) n)), some (.inl (D 21)), some (.inl (nI 1)), p8, p9, p10, p11] [] (S, F2, g) := fun p8 => by
      by_cases q1 : D 21 + mq_R D s n (nI (mq_fn t l)) = D 21
      · simp (disch := omega) only [mj_g70_162, mj_g70_163, mj_g70_164, mj_g70_165, mj_g70_166, ↓reduceIte, Option.bind_some, Option.toList_some, Option.toList_none, List.cons_append, List.nil_append, mj_ixn, mj_add, mj_mul, mj_sub, mj_dv, mj_rmn, mj_ltT, mj_ltF, mj_leT, mj_leF, mj_eqT, mj_eqF, mj_z0T, mj_z0F, mj_bo0, mj_boc, mj_chk10, mj_chk11, and_self, not_true, not_false_eq_true, E3, q1]
      · have q2 := mq_ht_e q1
        simp (disch := omega) only [mj_g70_162, mj_g70_163, mj_g70_164, mj_g70_165, mj_g70_166, mj_g70_167, mj_g70_168, mj_g70_169, mj_g70_170, mj_g70_171, mj_g70_172, mj_g70_173, mj_g70_174, ↓reduceIte, Option.bind_some, Option.toList_some, Option.toList_none, List.cons_append, List.nil_append, mj_ixn, mj_add, mj_mul, mj_sub, mj_dv, mj_rmn, mj_ltT, mj_ltF, mj_leT, mj_leF, mj_eqT, mj_eqF, mj_z0T, mj_z0F, mj_bo0, mj_boc, mj_chk10, mj_chk11, and_self, not_true, not_false_eq_true, E3, q1, e3, e25, h17, q2]
    rw [s3]
    rcases mq_ht_ov (φ := nI (mq_fn t l)) (s := s) h60 (by omega) h5 with ⟨o1, o2⟩ | ⟨o1, o2⟩
    · rw [o1] at e5
      simp (disch := omega) only [mj_g70_175, mj_g70_176, mj_g70_177, mj_g70_178, mj_g70_179, mj_g70_180, mj_g70_181, mj_g70_183, mj_g70_184, mj_g70_185, mj_g70_186, mj_g70_187, mj_g70_188, mj_g70_189, mj_g70_190, mj_g70_191, mj_g70_193, mj_g70_194, mj_g70_195, mj_g70_197, ↓reduceIte, Option.bind_some, Option.toList_some, Option.toList_none, List.cons_append, List.nil_append, mj_ixn, mj_add, mj_mul, mj_sub, mj_dv, mj_rmn, mj_ltT, mj_ltF, mj_leT, mj_leF, mj_eqT, mj_eqF, mj_z0T, mj_z0F, mj_bo0, mj_boc, mj_chk10, mj_chk11, and_self, not_true, not_false_eq_true, e5, e10, e20, eq_false (Int32.not_le.mpr o2)]
    · rw [o1] at e5
      simp (disch := omega) only [mj_g70_175, mj_g70_176, mj_g70_177, mj_g70_178, mj_g70_179, mj_g70_182, mj_g70_183, mj_g70_184, mj_g70_185, mj_g70_186, mj_g70_187, mj_g70_188, mj_g70_189, mj_g70_192, mj_g70_193, mj_g70_194, mj_g70_195, mj_g70_197, ↓reduceIte, Option.bind_some, Option.toList_some, Option.toList_none, List.cons_append, List.nil_append, mj_ixn, mj_add, mj_mul, mj_sub, mj_dv, mj_rmn, mj_ltT, mj_ltF, mj_leT, mj_leF, mj_eqT, mj_eqF, mj_z0T, mj_z0F, mj_bo0, mj_boc, mj_chk10, mj_chk11, and_self, not_true, not_false_eq_true, e5, e10, e20, eq_true (Int32.not_lt.mp o2)]
  · have hO := mq_heatO (X := X) (S := S) k2 t1 t2 t3 h5
    refine ⟨F1, D, z, Ds, ?_, mq_c_H k2 (by omega), ⟨hI.1, ?_⟩, rfl, rfl⟩
    · rw [h5] at c5
      rw [s1, k1]
      simp (disch := omega) only [mj_g70_102, mj_g70_103, mj_g70_104, mj_g70_105, mj_g70_106, mj_g70_107, mj_g70_108, mj_g70_109, mj_g70_110, mj_g70_111, mj_g70_112, mj_g70_113, mj_g70_114, mj_g70_115, mj_g70_116, mj_g70_117, mj_g70_118, mj_g70_119, mj_g70_120, mj_g70_121, mj_g70_123, ↓reduceIte, Option.bind_some, Option.toList_some, Option.toList_none, List.cons_append, List.nil_append, mj_ixn, mj_add, mj_mul, mj_sub, mj_dv, mj_rmn, mj_ltT, mj_ltF, mj_leT, mj_leF, mj_eqT, mj_eqF, mj_z0T, mj_z0F, mj_bo0, mj_boc, mj_chk10, mj_chk11, and_self, not_true, not_false_eq_true, c5, hO, B4, eq_self]
    · obtain ⟨-, a, b, i2, i3, i4, i5⟩ := hI
      exact ⟨a, b, i2, i3, i4, by omega⟩
end QT
