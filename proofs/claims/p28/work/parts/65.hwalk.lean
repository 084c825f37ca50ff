/-! the law's 'holds', walked: it answers 1 wherever the accounts agree -/
section QW
variable {X : mj_X} {S : List (Nat × Nat)} {f F : mj_F} {g G : mj_G} {r s n H z j k x : Nat} {D : Nat → Int32} {Ds : Nat → Nat → Int32} {a1 a2 a3 a4 a6 a7 a8 : Option mj_V}
/-- is s one of x's neighbours: the inmost loop -/
theorem mq_hi (hc : mq_c f g r s n H D z Ds) (hx : x < n) (hj : j < n) : ∃ o, mj_g X 69 134 [some (.inr (5, 0)), a1, a2, a3, a4, some (.inl (nI j)), a6, a7, a8, some (.inl (nI x)), some (.inl (nI 0)), some (.inl (nI 0))] [] (S, f, g) = mj_g X 69 154 [some (.inr (5, 0)), a1, a2, a3, a4, some (.inl (nI j)), a6, a7, a8, some (.inl (nI x)), some (.inl (nI (mq_bk s x j (mc_nn s n x)))), o] [] (S, f, g) := by
  have hG := mq_c_ge hc
  have h60 := hG.n60
  have h4 := mc_nn_le (s := s) (n := n) (j := x)
  have h5 := mq_spt5 (X := X) (S := S) hc hx
  have hl := mj_loop (fun i => mj_g X 69 134 [some (.inr (5, 0)), a1, a2, a3, a4, some (.inl (nI j)), a6, a7, a8, some (.inl (nI x)), some (.inl (nI (mq_bk s x j i))), some (.inl (nI i))] [] (S, f, g)) (mc_nn s n x) (fun i hi => by
    have hb := mq_nbr (X := X) (S := S) hc hx hi
    have hy := hG.na hx hi
    have eb := mq_bk_s s x j i
    refine Eq.trans mj_g69_134 ?_
    rcases mq_bk_c s x j i with c1 | c1
    · by_cases c2 : mc_na s x i = j
      · have e2 : mq_bk s x j (i + 1) = 1 := by rw [eb, if_neg (by omega), if_pos c2]
        simp (disch := omega) only [mj_g69_135, mj_g69_136, mj_g69_137, mj_g69_138, mj_g69_139, mj_g69_140, mj_g69_141, mj_g69_142, mj_g69_143, mj_g69_144, mj_g69_145, mj_g69_146, mj_g69_147, mj_g69_148, mj_g69_149, mj_g69_150, mj_g69_151, mj_g69_152, mj_g69_153, ↓reduceIte, Option.bind_some, Option.toList_some, Option.toList_none, List.cons_append, List.nil_append, mj_ixn, mj_add, mj_mul, mj_sub, mj_dv, mj_rmn, mj_ltT, mj_ltF, mj_leT, mj_leF, mj_eqT, mj_eqF, mj_z0T, mj_z0F, mj_bo0, mj_boc, mj_chk10, mj_chk11, and_self, not_true, not_false_eq_true, h5, c1, hb, e2]
      · have e2 : mq_bk s x j (i + 1) = 0 := by rw [eb, if_neg (by omega), if_neg c2]
        simp (disch := omega) only [mj_g69_135, mj_g69_136, mj_g69_137, mj_g69_138, mj_g69_139, mj_g69_140, mj_g69_141, mj_g69_142, mj_g69_143, mj_g69_144, mj_g69_145, mj_g69_146, mj_g69_147, mj_g69_148, mj_g69_149, mj_g69_150, mj_g69_151, mj_g69_152, mj_g69_153, ↓reduceIte, Option.bind_some, Option.toList_some, Option.toList_none, List.cons_append, List.nil_append, mj_ixn, mj_add, mj_mul, mj_sub, mj_dv, mj_rmn, mj_ltT, mj_ltF, mj_leT, mj_leF, mj_eqT, mj_eqF, mj_z0T, mj_z0F, mj_bo0, mj_boc, mj_chk10, mj_chk11, and_self, not_true, not_false_eq_true, h5, c1, hb, e2]
    · have e2 : mq_bk s x j (i + 1) = 1 := by rw [eb, if_pos c1]
      simp (disch := omega) only [mj_g69_135, mj_g69_136, mj_g69_137, mj_g69_138, mj_g69_139, mj_g69_140, mj_g69_141, mj_g69_142, mj_g69_143, mj_g69_144, mj_g69_145, mj_g69_146, mj_g69_147, mj_g69_148, mj_g69_149, mj_g69_150, mj_g69_151, mj_g69_152, mj_g69_153, ↓reduceIte, Option.bind_some, Option.toList_some, Option.toList_none, List.cons_append, List.nil_append, mj_ixn, mj_add, mj_mul, mj_sub, mj_dv, mj_rmn, mj_ltT, mj_ltF, mj_leT, mj_leF, mj_eqT, mj_eqF, mj_z0T, mj_z0F, mj_bo0, mj_boc, mj_chk10, mj_chk11, and_self, not_true, not_false_eq_true, h5, c1, e2])
  refine ⟨some (.inl (nI (mc_nn s n x))), ?_⟩
  refine Eq.trans ?_ (hl.trans ?_)
  · rfl
  · simp (disch := omega) only [mj_g69_134, mj_g69_135, mj_g69_136, mj_g69_137, mj_g69_138, mj_g69_139, ↓reduceIte, Option.bind_some, Option.toList_some, Option.toList_none, List.cons_append, List.nil_append, mj_ixn, mj_add, mj_mul, mj_sub, mj_dv, mj_rmn, mj_ltT, mj_ltF, mj_leT, mj_leF, mj_eqT, mj_eqF, mj_z0T, mj_z0F, mj_bo0, mj_boc, mj_chk10, mj_chk11, and_self, not_true, not_false_eq_true, h5]
/-- over the neighbours of a spot -/
theorem mq_hk (hc : mq_c f g r s n H D z Ds) (hj : j < n) : ∀ (q k : Nat) (o9 o10 o11 : Option mj_V), k + q = mc_nn s n j → ∃ p9 p10 p11 : Option mj_V, mj_g X 69 102 [some (.inr (5, 0)), a1, a2, a3, some (.inl (nI 1)), some (.inl (nI j)), some (.inl (nI (mq_T D j))), some (.inl (nI (mq_T D j) - nI (mq_mk (mq_T D) s j k))), some (.inl (nI k)), o9, o10, o11] [] (S, f, g) = mj_g X 69 167 [some (.inr (5, 0)), a1, a2, a3, some (.inl (nI 1)), some (.inl (nI j)), some (.inl (nI (mq_T D j))), some (.inl (nI (mq_T D j) - nI (mq_mk (mq_T D) s j (mc_nn s n j)))), some (.inl (nI (mc_nn s n j))), p9, p10, p11] [] (S, f, g) := by
  have hG := mq_c_ge hc
  have hV := mq_c_V hc
  have h60 := hG.n60
  have hs3 := hG.2.2.1
  have h4 := mc_nn_le (s := s) (n := n) (j := j)
  have h5 := mq_spt5 (X := X) (S := S) hc hj
  intro q
  induction q with
  | zero =>
    intro k o9 o10 o11 hk
    have hk2 : k = mc_nn s n j := by omega
    subst hk2
    refine ⟨o9, o10, o11, ?_⟩
    refine Eq.trans mj_g69_102 ?_
    simp (disch := omega) only [mj_g69_103, mj_g69_104, mj_g69_105, mj_g69_106, mj_g69_107, ↓reduceIte, Option.bind_some, Option.toList_some, Option.toList_none, List.cons_append, List.nil_append, mj_ixn, mj_add, mj_mul, mj_sub, mj_dv, mj_rmn, mj_ltT, mj_ltF, mj_leT, mj_leF, mj_eqT, mj_eqF, mj_z0T, mj_z0F, mj_bo0, mj_boc, mj_chk10, mj_chk11, and_self, not_true, not_false_eq_true, h5]
  | succ q ih =>
    intro k o9 o10 o11 hk
    have hkn : k < mc_nn s n j := by omega
    have hb := mq_nbr (X := X) (S := S) hc hj hkn
    have hx := hG.na hj hkn
    have hne := mc_na_ne hs3 hkn
    have h2 := mq_spt2 (X := X) (S := S) hc hx
    have tx := (mq_bl hV hx)
    have tj := (mq_bl hV hj)
    have hm := mq_mk_le (mq_T D) s j k
    have ebk := mq_bk_1 (s := s) (x := mc_na s j k) (j := j) (m := mc_nn s n (mc_na s j k)) (mq_both hG hj hkn)
    have dl := mq_dle (a := mq_T D j) (x := mq_T D (mc_na s j k)) (m := mq_mk (mq_T D) s j k) (by omega) (by omega) (by omega)
    have em : mq_mk (mq_T D) s j (k + 1) = min (mq_mk (mq_T D) s j k) (mq_T D (mc_na s j k)) := rfl
    obtain ⟨p9, p10, p11, e1⟩ := ih (k + 1) (some (.inl (nI (mc_na s j k)))) (some (.inl (nI 1))) (Classical.choose (mq_hi (X := X) (S := S) (a1 := a1) (a2 := a2) (a3 := a3) (a4 := some (.inl (nI 1))) (a6 := some (.inl (nI (mq_T D j)))) (a7 := some (.inl (nI (mq_T D j) - nI (mq_mk (mq_T D) s j (k + 1))))) (a8 := some (.inl (nI k))) hc hx hj)) (by omega)
    have hi := Classical.choose_spec (mq_hi (X := X) (S := S) (a1 := a1) (a2 := a2) (a3 := a3) (a4 := some (.inl (nI 1))) (a6 := some (.inl (nI (mq_T D j)))) (a7 := some (.inl (nI (mq_T D j) - nI (mq_mk (mq_T D) s j (k + 1))))) (a8 := some (.inl (nI k))) hc hx hj)
    generalize Classical.choose (mq_hi (X := X) (S := S) (a1 := a1) (a2 := a2) (a3 := a3) (a4 := some (.inl (nI 1))) (a6 := some (.inl (nI (mq_T D j)))) (a7 := some (.inl (nI (mq_T D j) - nI (mq_mk (mq_T D) s j (k + 1))))) (a8 := some (.inl (nI k))) hc hx hj) = oo at e1 hi
    rw [ebk] at hi
    refine ⟨p9, p10, p11, ?_⟩
    rw [← e1]
    refine Eq.trans mj_g69_102 ?_
    by_cases c1 : mq_mk (mq_T D) s j k ≤ mq_T D (mc_na s j k)
    · have e3 : mq_mk (mq_T D) s j (k + 1) = mq_mk (mq_T D) s j k := by rw [em]; omega
      rw [e3] at hi ⊢
      simp (disch := omega) only [mj_g69_103, mj_g69_104, mj_g69_105, mj_g69_106, mj_g69_107, mj_g69_108, mj_g69_109, mj_g69_110, mj_g69_111, mj_g69_112, mj_g69_113, mj_g69_114, mj_g69_115, mj_g69_116, mj_g69_117, mj_g69_118, mj_g69_119, mj_g69_120, mj_g69_128, mj_g69_129, mj_g69_130, mj_g69_131, mj_g69_132, mj_g69_133, ↓reduceIte, Option.bind_some, Option.toList_some, Option.toList_none, List.cons_append, List.nil_append, mj_ltF, mj_leT, mj_leF, h5, hb, h2, eq_true (dl.mpr c1)]
      refine hi.trans ?_
      simp (disch := omega) only [mj_g69_154, mj_g69_155, mj_g69_156, mj_g69_157, mj_g69_158, mj_g69_159, mj_g69_160, mj_g69_161, mj_g69_162, mj_g69_163, mj_g69_164, mj_g69_165, mj_g69_166, ↓reduceIte, Option.bind_some, Option.toList_some, Option.toList_none, List.cons_append, List.nil_append, mj_ixn, mj_add, mj_mul, mj_sub, mj_dv, mj_rmn, mj_ltT, mj_ltF, mj_leT, mj_leF, mj_eqT, mj_eqF, mj_z0T, mj_z0F, mj_bo0, mj_boc, mj_chk10, mj_chk11, and_self, not_true, not_false_eq_true]
    · have e3 : mq_mk (mq_T D) s j (k + 1) = mq_T D (mc_na s j k) := by rw [em]; omega
      rw [e3] at hi ⊢
      simp (disch := omega) only [mj_g69_103, mj_g69_104, mj_g69_105, mj_g69_106, mj_g69_107, mj_g69_108, mj_g69_109, mj_g69_110, mj_g69_111, mj_g69_112, mj_g69_113, mj_g69_114, mj_g69_115, mj_g69_116, mj_g69_117, mj_g69_118, mj_g69_119, mj_g69_120, mj_g69_121, mj_g69_122, mj_g69_123, mj_g69_124, mj_g69_125, mj_g69_126, mj_g69_127, mj_g69_129, mj_g69_130, mj_g69_131, mj_g69_132, mj_g69_133, ↓reduceIte, Option.bind_some, Option.toList_some, Option.toList_none, List.cons_append, List.nil_append, mj_ltF, mj_leT, mj_leF, h5, hb, h2, eq_false (fun q_ => c1 (dl.mp q_))]
      refine hi.trans ?_
      simp (disch := omega) only [mj_g69_154, mj_g69_155, mj_g69_156, mj_g69_157, mj_g69_158, mj_g69_159, mj_g69_160, mj_g69_161, mj_g69_162, mj_g69_163, mj_g69_164, mj_g69_165, mj_g69_166, ↓reduceIte, Option.bind_some, Option.toList_some, Option.toList_none, List.cons_append, List.nil_append, mj_ixn, mj_add, mj_mul, mj_sub, mj_dv, mj_rmn, mj_ltT, mj_ltF, mj_leT, mj_leF, mj_eqT, mj_eqF, mj_z0T, mj_z0F, mj_bo0, mj_boc, mj_chk10, mj_chk11, and_self, not_true, not_false_eq_true]
/-- over the spots -/
theorem mq_hs (hI : mq_I D n H) : ∀ (q j : Nat) (f : mj_F) (o6 o7 o8 o9 o10 o11 : Option mj_V), j + q = n → mq_c f g r s n H D z Ds → ∃ F, mj_g X 69 49 [some (.inr (5, 0)), some (.inl (nI n)), some (.inl (mc_sm (sp_T D) j)), some (.inl (nI (mq_L (mq_T D) j))), some (.inl (nI 1)), some (.inl (nI j)), o6, o7, o8, o9, o10, o11] [] (S, f, g) = some (some (.inl (nI 1)), (S, F, g)) ∧ mq_c F g r s n H D z Ds := by
  intro q
  induction q with
  | zero =>
    intro j f o6 o7 o8 o9 o10 o11 hj hc
    have hj2 : j = n := by omega
    subst hj2
    have hG := mq_c_ge hc
    have hV := mq_c_V hc
    have h60 := hG.n60
    have hsn := hG.sn
    have hs3 := hG.2.2.1
    have ha := mq_acc4 (X := X) (S := S) hc
    have hm := mq_cnt10 (X := X) (S := S) hc
    rw [mq_L_mn (fun i hi => ⟨(mq_bl hV hi).2.2.2.2.2, by have := mq_bl hV hi; omega⟩) (j - 1) (by omega), show j - 1 + 1 = j by omega] at hm
    refine ⟨f, ?_, hc⟩
    refine Eq.trans mj_g69_49 ?_
    simp (disch := omega) only [mj_g69_50, mj_g69_51, mj_g69_181, mj_g69_182, mj_g69_183, mj_g69_184, mj_g69_185, mj_g69_186, mj_g69_187, mj_g69_188, mj_g69_189, mj_g69_190, mj_g69_191, mj_g69_192, mj_g69_193, mj_g69_194, mj_g69_195, mj_g69_196, ↓reduceIte, Option.bind_some, Option.toList_some, Option.toList_none, List.cons_append, List.nil_append, mj_ixn, mj_add, mj_mul, mj_sub, mj_dv, mj_rmn, mj_ltT, mj_ltF, mj_leT, mj_leF, mj_eqT, mj_eqF, mj_z0T, mj_z0F, mj_bo0, mj_boc, mj_chk10, mj_chk11, and_self, not_true, not_false_eq_true, ha, hm, eq_self]
  | succ q ih =>
    intro j f o6 o7 o8 o9 o10 o11 hj hc
    have hjn : j < n := by omega
    have hG := mq_c_ge hc
    have hV := mq_c_V hc
    have h60 := hG.n60
    obtain ⟨b1, b2, b3, b4, b5, b6⟩ := mq_bl hV hjn
    have h0 := mq_spt0 (X := X) (S := S) hc hjn
    have h1 := mq_spt1 (X := X) (S := S) hc hjn
    have h2 := mq_spt2 (X := X) (S := S) hc hjn
    have hL := mq_L_le (mq_T D) j
    have eL : mq_L (mq_T D) (j + 1) = if mq_T D j < mq_L (mq_T D) j then mq_T D j else mq_L (mq_T D) j := rfl
    have es : mc_sm (sp_T D) j + nI (mq_T D j) = mc_sm (sp_T D) (j + 1) := by rw [← b6]; rfl
    have el := mq_lb hG hjn (fun i hi => ⟨(mq_bl hV hi).2.2.2.2.2, by have := mq_bl hV hi; omega⟩)
    obtain ⟨F1, k1, k2⟩ := mq_spt4 (X := X) (S := S) hc hjn
    rw [el, b6] at k1
    obtain ⟨p9, p10, p11, hk⟩ := mq_hk (X := X) (S := S) (a1 := some (.inl (nI n))) (a2 := some (.inl (mc_sm (sp_T D) (j + 1)))) (a3 := some (.inl (nI (mq_L (mq_T D) (j + 1))))) hc hjn (mc_nn s n j) 0 o9 o10 o11 (Nat.zero_add _)
    have e0 : nI (mq_T D j) - nI (mq_mk (mq_T D) s j 0) = -99999 := mq_d9 _
    rw [e0] at hk
    obtain ⟨F, i1, i2⟩ := ih (j + 1) F1 (some (.inl (nI (mq_T D j)))) (some (.inl (nI (mq_T D j) - nI (mq_mk (mq_T D) s j (mc_nn s n j))))) (some (.inl (nI (mc_nn s n j)))) p9 p10 p11 (by omega) k2
    refine ⟨F, ?_, i2⟩
    rw [← i1]
    have s1 : mj_g X 69 49 [some (.inr (5, 0)), some (.inl (nI n)), some (.inl (mc_sm (sp_T D) j)), some (.inl (nI (mq_L (mq_T D) j))), some (.inl (nI 1)), some (.inl (nI j)), o6, o7, o8, o9, o10, o11] [] (S, f, g) = mj_g X 69 102 [some (.inr (5, 0)), some (.inl (nI n)), some (.inl (mc_sm (sp_T D) (j + 1))), some (.inl (nI (mq_L (mq_T D) (j + 1)))), some (.inl (nI 1)), some (.inl (nI j)), some (.inl (nI (mq_T D j))), some (.inl (-99999)), some (.inl (nI 0)), o9, o10, o11] [] (S, f, g) := by
      refine Eq.trans mj_g69_49 ?_
      by_cases c1 : mq_T D j < mq_L (mq_T D) j
      · rw [if_pos c1] at eL
        rw [eL]
        simp (disch := omega) only [mj_g69_50, mj_g69_51, mj_g69_52, mj_g69_53, mj_g69_54, mj_g69_55, mj_g69_56, mj_g69_57, mj_g69_58, mj_g69_59, mj_g69_60, mj_g69_61, mj_g69_62, mj_g69_63, mj_g69_64, mj_g69_65, mj_g69_66, mj_g69_67, mj_g69_69, mj_g69_70, mj_g69_71, mj_g69_72, mj_g69_73, mj_g69_74, mj_g69_75, mj_g69_76, mj_g69_77, mj_g69_78, mj_g69_79, mj_g69_80, mj_g69_81, mj_g69_82, mj_g69_83, mj_g69_84, mj_g69_85, mj_g69_86, mj_g69_87, mj_g69_88, mj_g69_89, mj_g69_90, mj_g69_91, mj_g69_92, mj_g69_93, mj_g69_94, mj_g69_95, mj_g69_97, mj_g69_98, mj_g69_99, mj_g69_100, mj_g69_101, ↓reduceIte, Option.bind_some, Option.toList_some, Option.toList_none, List.cons_append, List.nil_append, mj_ixn, mj_add, mj_mul, mj_sub, mj_dv, mj_rmn, mj_ltT, mj_ltF, mj_leT, mj_leF, mj_eqT, mj_eqF, mj_z0T, mj_z0F, mj_bo0, mj_boc, mj_chk10, mj_chk11, and_self, not_true, not_false_eq_true, h0, h1, h2, es, mj_lt0]
      · rw [if_neg c1] at eL
        rw [eL]
        simp (disch := omega) only [mj_g69_50, mj_g69_51, mj_g69_52, mj_g69_53, mj_g69_54, mj_g69_55, mj_g69_56, mj_g69_57, mj_g69_58, mj_g69_59, mj_g69_60, mj_g69_61, mj_g69_62, mj_g69_63, mj_g69_64, mj_g69_65, mj_g69_68, mj_g69_69, mj_g69_70, mj_g69_71, mj_g69_72, mj_g69_73, mj_g69_74, mj_g69_75, mj_g69_76, mj_g69_77, mj_g69_78, mj_g69_79, mj_g69_80, mj_g69_81, mj_g69_82, mj_g69_83, mj_g69_84, mj_g69_85, mj_g69_86, mj_g69_87, mj_g69_88, mj_g69_89, mj_g69_90, mj_g69_91, mj_g69_92, mj_g69_93, mj_g69_94, mj_g69_95, mj_g69_97, mj_g69_98, mj_g69_99, mj_g69_100, mj_g69_101, ↓reduceIte, Option.bind_some, Option.toList_some, Option.toList_none, List.cons_append, List.nil_append, mj_ixn, mj_add, mj_mul, mj_sub, mj_dv, mj_rmn, mj_ltT, mj_ltF, mj_leT, mj_leF, mj_eqT, mj_eqF, mj_z0T, mj_z0F, mj_bo0, mj_boc, mj_chk10, mj_chk11, and_self, not_true, not_false_eq_true, h0, h1, h2, es, mj_lt0]
    refine s1.trans (hk.trans ?_)
    simp (disch := omega) only [mj_g69_167, mj_g69_168, mj_g69_169, mj_g69_170, mj_g69_171, mj_g69_172, mj_g69_173, mj_g69_174, mj_g69_175, mj_g69_176, mj_g69_178, mj_g69_179, mj_g69_180, ↓reduceIte, Option.bind_some, Option.toList_some, Option.toList_none, List.cons_append, List.nil_append, mj_ixn, mj_add, mj_mul, mj_sub, mj_dv, mj_rmn, mj_ltT, mj_ltF, mj_leT, mj_leF, mj_eqT, mj_eqF, mj_z0T, mj_z0F, mj_bo0, mj_boc, mj_chk10, mj_chk11, and_self, not_true, not_false_eq_true, k1, eq_self]
theorem mq_holds (hc : mq_c f g r s n H D z Ds) (hH : H < 900000) (hI : mq_I D n H) : ∃ F, mj_x X 69 [.inr (5, 0)] (S, f, g) = some (some (.inl (nI 1)), (S, F, g)) ∧ mq_c F g r s n H D z Ds := by
  obtain ⟨F, e1, e2⟩ := mq_hs (X := X) (S := S) (g := g) hI n 0 f none none none none none none (Nat.zero_add n) hc
  refine ⟨F, ?_, e2⟩
  rw [← e1]
  have hG := mq_c_ge hc
  have h60 := hG.n60
  have hn : r * s = n := hG.2.2.2.2.symm
  obtain ⟨i1, a, b, i2, i3, i4, i5⟩ := hI
  have c0 := mq_cnt0 (X := X) (S := S) hc
  have c1 := mq_cnt1 (X := X) (S := S) hc
  have c2 := mq_cnt2 (X := X) (S := S) hc
  have c3 := mq_cnt3 (X := X) (S := S) hc
  rw [i2] at c2
  rw [i3] at c3
  obtain ⟨q, hq, c6⟩ := mq_cnt6 (X := X) (S := S) hc
  have A0 : mj_x X 58 [.inr (5, 0), .inl (nI 0)] (S, f, g) = some (some (.inl (D 18)), (S, f, g)) := mq_acc hc (k := 0) (by omega)
  have A1 : mj_x X 58 [.inr (5, 0), .inl (nI 1)] (S, f, g) = some (some (.inl (D 19)), (S, f, g)) := mq_acc hc (k := 1) (by omega)
  have A2 : mj_x X 58 [.inr (5, 0), .inl (nI 2)] (S, f, g) = some (some (.inl (D 20)), (S, f, g)) := mq_acc hc (k := 2) (by omega)
  have A3 : mj_x X 58 [.inr (5, 0), .inl (nI 3)] (S, f, g) = some (some (.inl (D 21)), (S, f, g)) := mq_acc hc (k := 3) (by omega)
  have A4 := mq_acc4 (X := X) (S := S) hc
  simp (disch := omega) only [mj_x69, mj_g69_0, mj_g69_1, mj_g69_2, mj_g69_3, mj_g69_4, mj_g69_5, mj_g69_6, mj_g69_7, mj_g69_8, mj_g69_9, mj_g69_10, mj_g69_11, mj_g69_12, mj_g69_13, mj_g69_14, mj_g69_15, mj_g69_16, mj_g69_17, mj_g69_18, mj_g69_19, mj_g69_20, mj_g69_21, mj_g69_22, mj_g69_23, mj_g69_24, mj_g69_25, mj_g69_26, mj_g69_27, mj_g69_28, mj_g69_29, mj_g69_30, mj_g69_31, mj_g69_32, mj_g69_33, mj_g69_34, mj_g69_35, mj_g69_36, mj_g69_37, mj_g69_38, mj_g69_39, mj_g69_40, mj_g69_41, mj_g69_42, mj_g69_43, mj_g69_44, mj_g69_46, mj_g69_47, mj_g69_48, ↓reduceIte, Option.bind_some, Option.toList_some, Option.toList_none, List.cons_append, List.nil_append, mj_ixn, mj_add, mj_mul, mj_sub, mj_dv, mj_rmn, mj_ltT, mj_ltF, mj_leT, mj_leF, mj_eqT, mj_eqF, mj_z0T, mj_z0F, mj_bo0, mj_boc, mj_chk10, mj_chk11, and_self, not_true, not_false_eq_true, c0, c1, c2, c3, c6, A0, A1, A2, A3, A4, hn, i1, eq_self]
  rfl
end QW
