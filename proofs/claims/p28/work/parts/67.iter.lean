/-! the law: a cell of the script; a turn of its loop -/
theorem mq_and (x : Int32) : ∃ Y, Y < 2147483648 ∧ x &&& nI 2147483647 = nI Y := by
  have e1 : (x &&& nI 2147483647).toBitVec.msb = decide ((x &&& nI 2147483647).toInt < 0) := mr_msb
  have e2 : (x &&& nI 2147483647).toBitVec.msb = (x.toBitVec.msb && (nI 2147483647).toBitVec.msb) := BitVec.msb_and
  have e3 : (nI 2147483647).toBitVec.msb = false := by decide
  rw [e2, e3, Bool.and_false] at e1
  have e4 : ¬ (x &&& nI 2147483647).toInt < 0 := of_decide_eq_false e1.symm
  obtain ⟨j, h1, h2⟩ := nI_of (x := x &&& nI 2147483647) (fun q_ => by
    rw [Int32.lt_iff_toInt_lt, Int32.toInt_zero] at q_
    exact e4 q_)
  exact ⟨j, by omega, h2⟩
theorem mq_shr {Y k p : Nat} (hY : Y < 2147483648) (hk : ((nI k &&& 31).toBitVec.smod 32).toNat = k) (hp : 2 ^ k = p) : nI Y >>> (nI k &&& 31) = nI (Y / p) := by
  rw [pk_shrN (by omega) _ k hk, hp]
theorem mq_sy {D : Nat → Int32} {j m : Nat} (hm : m ≤ 500) : sp_sy D j (nI m) = nI (m * 4 / 5) ∨ sp_sy D j (nI m) = nI (m * 3 / 5) := by
  unfold sp_sy
  rw [mj_mul, mj_mul, mj_dv (by omega) (by omega) (by omega), mj_dv (by omega) (by omega) (by omega)]
  split
  · exact Or.inr rfl
  · exact Or.inl rfl
/-- what holds between the law's turns: H heats at most -/
def mq_J (f : mj_F) (g : mj_G) (H : Nat) : Prop := ∃ r s n D z Ds, mq_c f g r s n H D z Ds ∧ mq_I D n H ∧ D 142 = nI 0 ∧ ∃ m, m ≤ 2000 ∧ D 12 = nI m
section QL
variable {X : mj_X} {S : List (Nat × Nat)} {f F : mj_F} {g G : mj_G} {r s n H z j k m x t l w q i Y : Nat} {D : Nat → Int32} {Ds : Nat → Nat → Int32} {o3 o4 o5 o6 o7 o8 o9 o10 o11 o12 o13 o14 : Option mj_V}
theorem mq_cell (hX : X.1 ≤ 260) (hi : i < 100) : ∃ Y, Y < 2147483648 ∧ ∀ (f : mj_F) (g : mj_G), mj_x X 68 [.inr (23, 0), .inl (nI i)] (S, f, g) = some (some (.inl (nI Y)), (S, f, g)) := by
  have eL : Int32.ofNat X.1 = nI X.1 := rfl
  by_cases c1 : i < X.1
  · obtain ⟨Y, h1, h2⟩ := mq_and (X.2 i)
    refine ⟨Y, h1, fun f g => ?_⟩
    simp (disch := omega) only [mj_x68, mj_g68_0, mj_g68_1, mj_g68_2, mj_g68_3, mj_g68_4, mj_g68_5, mj_g68_6, mj_g68_7, mj_g68_13, mj_g68_14, mj_g68_15, ↓reduceIte, Option.bind_some, Option.toList_some, Option.toList_none, List.cons_append, List.nil_append, mj_ixn, mj_add, mj_mul, mj_sub, mj_dv, mj_rmn, mj_ltT, mj_ltF, mj_leT, mj_leF, mj_eqT, mj_eqF, mj_z0T, mj_z0F, mj_bo0, mj_boc, mj_chk10, mj_chk11, and_self, not_true, not_false_eq_true, eL, h2]
  · obtain ⟨Y, h1, h2⟩ := mq_and (nI (15485959 * i + 109))
    refine ⟨Y, h1, fun f g => ?_⟩
    simp (disch := omega) only [mj_x68, mj_g68_0, mj_g68_1, mj_g68_2, mj_g68_3, mj_g68_8, mj_g68_9, mj_g68_10, mj_g68_11, mj_g68_12, mj_g68_13, mj_g68_14, mj_g68_15, ↓reduceIte, Option.bind_some, Option.toList_some, Option.toList_none, List.cons_append, List.nil_append, mj_ixn, mj_add, mj_mul, mj_sub, mj_dv, mj_rmn, mj_ltT, mj_ltF, mj_leT, mj_leF, mj_eqT, mj_eqF, mj_z0T, mj_z0F, mj_bo0, mj_boc, mj_chk10, mj_chk11, and_self, not_true, not_false_eq_true, eL, h2]
/-- a turn's end -/
theorem mq_tl (hc : mq_c f g r s n H D z Ds) (hH : H < 900000) (hI : mq_I D n H) (hk : k < 30) : ∃ F, mj_g X 71 252 [some (.inr (23, 0)), some (.inr (5, 0)), some (.inl (nI 1)), some (.inl (nI k)), o4, o5, o6, o7, o8, o9, o10, o11, o12, o13, o14] [] (S, f, g) = mj_g X 71 45 [some (.inr (23, 0)), some (.inr (5, 0)), some (.inl (nI 1)), some (.inl (nI (k + 1))), o4, o5, o6, o7, o8, o9, o10, o11, o12, o13, o14] [] (S, F, g) ∧ mq_c F g r s n H D z Ds := by
  obtain ⟨F, e1, e2⟩ := mq_holds (X := X) (S := S) hc hH hI
  refine ⟨F, ?_, e2⟩
  simp (disch := omega) only [mj_g71_252, mj_g71_253, mj_g71_254, mj_g71_255, mj_g71_256, mj_g71_257, mj_g71_258, mj_g71_260, mj_g71_261, mj_g71_262, ↓reduceIte, Option.bind_some, Option.toList_some, Option.toList_none, List.cons_append, List.nil_append, mj_ixn, mj_add, mj_mul, mj_sub, mj_dv, mj_rmn, mj_ltT, mj_ltF, mj_leT, mj_leF, mj_eqT, mj_eqF, mj_z0T, mj_z0F, mj_bo0, mj_boc, mj_chk10, mj_chk11, and_self, not_true, not_false_eq_true, e1]
theorem mq_Tn (hV : mr_V D n) (hj : j < n) (h : sp_T D j = nI x) (hx : x < 2147483648) : mq_T D j = x := by
  unfold mq_T
  rw [h]
  exact nI_clamp (by omega)
/-- a turn that guns -/
theorem mq_t0 (hc : mq_c f g r s n H D z Ds) (hI : mq_I D n H) (hY : Y < 2147483648) (h142 : D 142 = nI 0) (h12 : m ≤ 2000 ∧ D 12 = nI m) : ∃ F p7 p8 p9 p10 p11 D2 z2 Ds2, mj_g X 71 72 [some (.inr (23, 0)), some (.inr (5, 0)), some (.inl (nI 1)), o3, some (.inl (nI Y)), some (.inl (nI n)), some (.inl (mc_sm (sp_T D) n)), o7, o8, o9, o10, o11, o12, o13, o14] [] (S, f, g) = mj_g X 71 252 [some (.inr (23, 0)), some (.inr (5, 0)), some (.inl (nI 1)), o3, some (.inl (nI Y)), some (.inl (nI n)), some (.inl (mc_sm (sp_T D) n)), p7, p8, p9, p10, p11, o12, o13, o14] [] (S, F, g) ∧ mq_c F g r s n H D2 z2 Ds2 ∧ mq_I D2 n H ∧ D2 142 = nI 0 ∧ ∃ m, m ≤ 2000 ∧ D2 12 = nI m := by
  have hG := mq_c_ge hc
  have hV := mq_c_V hc
  have h60 := hG.n60
  have hsn := hG.sn
  have hs3 := hG.2.2.1
  have e3 : nI Y >>> (nI 3 &&& 31) = nI (Y / 8) := mq_shr hY (by decide) rfl
  have e8 : nI Y >>> (nI 8 &&& 31) = nI (Y / 256) := mq_shr hY (by decide) rfl
  have hj : Y / 8 % n < n := Nat.mod_lt _ (by omega)
  have hm1 : 1 ≤ 1 + Y / 256 % 500 := by omega
  have hm5 : 1 + Y / 256 % 500 ≤ 500 := by omega
  generalize hjj : Y / 8 % n = j at hj
  generalize hmm : 1 + Y / 256 % 500 = a at hm1 hm5
  have c24 : mj_x X 55 [.inr (5, 0), .inl (nI 24)] (S, f, g) = some (some (.inl (D 16)), (S, f, g)) := mq_cnt_s hc (k := 4) (by omega)
  have s2 := mq_spt2 (X := X) (S := S) hc hj
  have A4 := mq_acc4 (X := X) (S := S) hc
  obtain ⟨b1, b2, b3, b4, b5, b6⟩ := mq_bl hV hj
  rcases mq_gun (X := X) (S := S) hc hj hm1 hm5 with ⟨g1, F, g2, g3⟩ | ⟨v, g1, g2⟩
  · have hV2 := mq_c_V g3
    obtain ⟨d1, d2, d3, d4, d5, d6⟩ := mq_bl hV2 hj
    have k24 : mj_x X 55 [.inr (5, 0), .inl (nI 24)] (S, F, g) = some (some (.inl (D 16 - nI a)), (S, F, g)) := by
      have h := mq_cnt_s (X := X) (S := S) g3 (k := 4) (by omega)
      have e16 : sp_po D j (nI a) (12 + 4) = D 16 - nI a := by unfold sp_po; rw [if_neg (by omega), if_neg (by omega), if_pos (by omega)]
      rw [e16] at h
      exact h
    have t2 := mq_spt2 (X := X) (S := S) g3 hj
    have B4 := mq_acc4 (X := X) (S := S) g3
    rw [mq_po_sm h60 hj] at B4
    have eT : sp_T (sp_po D j (nI a)) j = sp_T D j + sp_sy D j (nI a) := by
      unfold sp_T
      rw [sp_po_o (by omega), sp_po_9, Int32.add_assoc]
    have fin : ∀ y : Nat, y ≤ a * 4 / 5 → a * 3 / 5 ≤ y → sp_sy D j (nI a) = nI y → mj_g X 71 72 [some (.inr (23, 0)), some (.inr (5, 0)), some (.inl (nI 1)), o3, some (.inl (nI Y)), some (.inl (nI n)), some (.inl (mc_sm (sp_T D) n)), o7, o8, o9, o10, o11, o12, o13, o14] [] (S, f, g) = mj_g X 71 252 [some (.inr (23, 0)), some (.inr (5, 0)), some (.inl (nI 1)), o3, some (.inl (nI Y)), some (.inl (nI n)), some (.inl (mc_sm (sp_T D) n)), some (.inl (nI j)), some (.inl (D 16)), some (.inl (nI (mq_T D j))), some (.inl (nI a)), some (.inl (nI y)), o12, o13, o14] [] (S, F, g) := fun y y1 y2 ey => by
      rw [ey] at g2 B4 eT
      have eT2 : mq_T (sp_po D j (nI a)) j = mq_T D j + y := mq_Tn hV2 hj (by rw [eT, b6, mj_add]) (by omega)
      rw [eT2] at t2
      simp (disch := omega) only [mj_g71_72, mj_g71_73, mj_g71_74, mj_g71_75, mj_g71_76, mj_g71_77, mj_g71_78, mj_g71_79, mj_g71_80, mj_g71_81, mj_g71_82, mj_g71_83, mj_g71_84, mj_g71_85, mj_g71_86, mj_g71_87, mj_g71_88, mj_g71_89, mj_g71_90, mj_g71_91, mj_g71_92, mj_g71_93, mj_g71_94, mj_g71_95, mj_g71_96, mj_g71_97, mj_g71_98, mj_g71_99, mj_g71_100, mj_g71_101, mj_g71_102, mj_g71_103, mj_g71_104, mj_g71_105, mj_g71_106, mj_g71_107, mj_g71_108, mj_g71_109, mj_g71_110, mj_g71_111, mj_g71_112, mj_g71_113, mj_g71_114, mj_g71_115, mj_g71_116, mj_g71_117, mj_g71_118, mj_g71_119, mj_g71_120, mj_g71_121, mj_g71_122, mj_g71_123, mj_g71_124, mj_g71_125, mj_g71_126, mj_g71_127, mj_g71_128, mj_g71_129, mj_g71_130, mj_g71_131, mj_g71_132, mj_g71_133, mj_g71_134, mj_g71_135, mj_g71_136, mj_g71_137, mj_g71_138, mj_g71_139, mj_g71_155, mj_g71_156, ↓reduceIte, Option.bind_some, Option.toList_some, Option.toList_none, List.cons_append, List.nil_append, mj_ixn, mj_add, mj_mul, mj_sub, mj_dv, mj_rmn, mj_ltT, mj_ltF, mj_leT, mj_leF, mj_eqT, mj_eqF, mj_z0T, mj_z0F, mj_bo0, mj_boc, mj_chk10, mj_chk11, and_self, not_true, not_false_eq_true, e3, e8, hjj, hmm, c24, s2, g2, k24, B4, t2, mj_lt0, eq_self]
    have res : ∀ y : Nat, sp_sy D j (nI a) = nI y → y ≤ a * 4 / 5 → a * 3 / 5 ≤ y → ∃ F p7 p8 p9 p10 p11 D2 z2 Ds2, mj_g X 71 72 [some (.inr (23, 0)), some (.inr (5, 0)), some (.inl (nI 1)), o3, some (.inl (nI Y)), some (.inl (nI n)), some (.inl (mc_sm (sp_T D) n)), o7, o8, o9, o10, o11, o12, o13, o14] [] (S, f, g) = mj_g X 71 252 [some (.inr (23, 0)), some (.inr (5, 0)), some (.inl (nI 1)), o3, some (.inl (nI Y)), some (.inl (nI n)), some (.inl (mc_sm (sp_T D) n)), p7, p8, p9, p10, p11, o12, o13, o14] [] (S, F, g) ∧ mq_c F g r s n H D2 z2 Ds2 ∧ mq_I D2 n H ∧ D2 142 = nI 0 ∧ ∃ m, m ≤ 2000 ∧ D2 12 = nI m := fun y y1 y2 y3 =>
      ⟨F, _, _, _, _, _, sp_po D j (nI a), _, _, fin y y2 y3 y1, g3, mq_I_po hI h60 hj, by rw [sp_po_o (by omega)]; exact h142, m, h12.1, by rw [sp_po_o (by omega)]; exact h12.2⟩
    rcases mq_sy (D := D) (j := j) hm5 with e_ | e_
    · exact res _ e_ (by omega) (by omega)
    · exact res _ e_ (by omega) (by omega)
  · refine ⟨f, some (.inl (nI j)), some (.inl (D 16)), some (.inl (nI (mq_T D j))), some (.inl (nI a)), some (.inl v), D, z, Ds, ?_, hc, hI, h142, m, h12.1, h12.2⟩
    simp (disch := omega) only [mj_g71_72, mj_g71_73, mj_g71_74, mj_g71_75, mj_g71_76, mj_g71_77, mj_g71_78, mj_g71_79, mj_g71_80, mj_g71_81, mj_g71_82, mj_g71_83, mj_g71_84, mj_g71_85, mj_g71_86, mj_g71_87, mj_g71_88, mj_g71_89, mj_g71_90, mj_g71_91, mj_g71_92, mj_g71_93, mj_g71_94, mj_g71_95, mj_g71_96, mj_g71_97, mj_g71_98, mj_g71_99, mj_g71_100, mj_g71_101, mj_g71_142, mj_g71_143, mj_g71_144, mj_g71_145, mj_g71_146, mj_g71_147, mj_g71_148, mj_g71_149, mj_g71_150, mj_g71_151, mj_g71_152, mj_g71_153, mj_g71_155, mj_g71_156, ↓reduceIte, Option.bind_some, Option.toList_some, Option.toList_none, List.cons_append, List.nil_append, mj_ixn, mj_add, mj_mul, mj_sub, mj_dv, mj_rmn, mj_ltT, mj_ltF, mj_leT, mj_leF, mj_eqT, mj_eqF, mj_z0T, mj_z0F, mj_bo0, mj_boc, mj_chk10, mj_chk11, and_self, not_true, not_false_eq_true, e3, e8, hjj, hmm, c24, s2, g2, A4, eq_true g1, eq_self]
/-- a turn that relines -/
theorem mq_t1 (hc : mq_c f g r s n H D z Ds) (hI : mq_I D n H) (hY : Y < 2147483648) (h142 : D 142 = nI 0) (h12 : m ≤ 2000 ∧ D 12 = nI m) : ∃ F p12 p13 p14 D2 z2 Ds2, mj_g X 71 157 [some (.inr (23, 0)), some (.inr (5, 0)), some (.inl (nI 1)), o3, some (.inl (nI Y)), some (.inl (nI n)), some (.inl (mc_sm (sp_T D) n)), o7, o8, o9, o10, o11, o12, o13, o14] [] (S, f, g) = mj_g X 71 252 [some (.inr (23, 0)), some (.inr (5, 0)), some (.inl (nI 1)), o3, some (.inl (nI Y)), some (.inl (nI n)), some (.inl (mc_sm (sp_T D) n)), o7, o8, o9, o10, o11, p12, p13, p14] [] (S, F, g) ∧ mq_c F g r s n H D2 z2 Ds2 ∧ mq_I D2 n H ∧ D2 142 = nI 0 ∧ ∃ m, m ≤ 2000 ∧ D2 12 = nI m := by
  have hG := mq_c_ge hc
  have hV := mq_c_V hc
  have h60 := hG.n60
  have hsn := hG.sn
  have hr1 := hG.1
  have hr6 := hG.2.1
  have hs3 := hG.2.2.1
  have hs10 := hG.2.2.2.1
  have hnn := hG.2.2.2.2
  have e3 : nI Y >>> (nI 3 &&& 31) = nI (Y / 8) := mq_shr hY (by decide) rfl
  have hj : Y / 8 % r < r := Nat.mod_lt _ (by omega)
  generalize hjj : Y / 8 % r = j at hj
  have h7 := Nat.mul_le_mul_left s (show j + 1 ≤ r from hj)
  rw [Nat.mul_add, Nat.mul_one, Nat.mul_comm s r, ← hnn] at h7
  have c0 := mq_cnt0 (X := X) (S := S) hc
  have A3 : mj_x X 58 [.inr (5, 0), .inl (nI 3)] (S, f, g) = some (some (.inl (D 21)), (S, f, g)) := mq_acc hc (k := 3) (by omega)
  obtain ⟨F, g2, g3⟩ := mq_reline (X := X) (S := S) hc hj
  have hV2 := mq_c_V g3
  have B3 : mj_x X 58 [.inr (5, 0), .inl (nI 3)] (S, F, g) = some (some (.inl (D 21 + sp_lx D (s * j) s)), (S, F, g)) := by
    have h := mq_acc (X := X) (S := S) g3 (k := 3) (by omega)
    have e21 : sp_lr D (s * j) s (18 + 3) = D 21 + sp_lx D (s * j) s := by unfold sp_lr; rw [if_neg (by omega), if_pos (by omega)]
    rw [e21] at h
    exact h
  have B4 := mq_acc4 (X := X) (S := S) g3
  rw [mq_lr_sm (d := n - (s * j + s)) (by omega) h60] at B4
  have k1 := mq_cnt1 (X := X) (S := S) g3
  have t2 := mq_spt2 (X := X) (S := S) g3 (j := j * s) (by rw [Nat.mul_comm]; omega)
  have eT : mq_T (sp_lr D (s * j) s) (j * s) = 3000 := mq_Tn hV2 (by rw [Nat.mul_comm]; omega) (by
    unfold sp_T
    rw [Nat.mul_comm j s, sp_lr_8 (by omega) (by omega), sp_lr_9 (by omega) (by omega) (by omega), nI_0, Int32.add_zero]) (by omega)
  rw [eT] at t2
  refine ⟨F, some (.inl (nI j)), some (.inl (D 21)), some (.inl (sp_lx D (s * j) s)), sp_lr D (s * j) s, _, _, ?_, g3, mq_I_lr hI h7 h60, by rw [sp_lr_o (by omega)]; exact h142, m, h12.1, by rw [sp_lr_o (by omega)]; exact h12.2⟩
  simp (disch := omega) only [mj_g71_157, mj_g71_158, mj_g71_159, mj_g71_160, mj_g71_161, mj_g71_162, mj_g71_163, mj_g71_164, mj_g71_165, mj_g71_166, mj_g71_167, mj_g71_168, mj_g71_169, mj_g71_170, mj_g71_171, mj_g71_172, mj_g71_173, mj_g71_174, mj_g71_175, mj_g71_176, mj_g71_177, mj_g71_178, mj_g71_179, mj_g71_180, mj_g71_181, mj_g71_182, mj_g71_183, mj_g71_184, mj_g71_185, mj_g71_186, mj_g71_187, mj_g71_188, mj_g71_189, mj_g71_190, mj_g71_191, mj_g71_192, mj_g71_193, mj_g71_194, mj_g71_195, mj_g71_196, mj_g71_197, mj_g71_198, mj_g71_199, mj_g71_200, mj_g71_201, mj_g71_202, mj_g71_203, mj_g71_204, mj_g71_206, mj_g71_207, ↓reduceIte, Option.bind_some, Option.toList_some, Option.toList_none, List.cons_append, List.nil_append, mj_ixn, mj_add, mj_mul, mj_sub, mj_dv, mj_rmn, mj_ltT, mj_ltF, mj_leT, mj_leF, mj_eqT, mj_eqF, mj_z0T, mj_z0F, mj_bo0, mj_boc, mj_chk10, mj_chk11, and_self, not_true, not_false_eq_true, e3, hjj, c0, A3, g2, B3, B4, k1, t2, eq_self]
/-- a turn that sets a rate and the limit -/
theorem mq_t2 (hc : mq_c f g r s n H D z Ds) (hI : mq_I D n H) (hY : Y < 2147483648) (h142 : D 142 = nI 0) (h12 : m ≤ 2000 ∧ D 12 = nI m) : ∃ F D2 z2 Ds2, mj_g X 71 208 [some (.inr (23, 0)), some (.inr (5, 0)), some (.inl (nI 1)), o3, some (.inl (nI Y)), some (.inl (nI n)), some (.inl (mc_sm (sp_T D) n)), o7, o8, o9, o10, o11, o12, o13, o14] [] (S, f, g) = mj_g X 71 252 [some (.inr (23, 0)), some (.inr (5, 0)), some (.inl (nI 1)), o3, some (.inl (nI Y)), some (.inl (nI n)), some (.inl (mc_sm (sp_T D) n)), o7, o8, o9, o10, o11, o12, o13, o14] [] (S, F, g) ∧ mq_c F g r s n H D2 z2 Ds2 ∧ mq_I D2 n H ∧ D2 142 = nI 0 ∧ ∃ m, m ≤ 2000 ∧ D2 12 = nI m := by
  have hG := mq_c_ge hc
  have hV := mq_c_V hc
  have h60 := hG.n60
  have hr1 := hG.1
  have hr6 := hG.2.1
  have e3 : nI Y >>> (nI 3 &&& 31) = nI (Y / 8) := mq_shr hY (by decide) rfl
  have e6 : nI Y >>> (nI 6 &&& 31) = nI (Y / 64) := mq_shr hY (by decide) rfl
  have e9 : nI Y >>> (nI 9 &&& 31) = nI (Y / 512) := mq_shr hY (by decide) rfl
  have hj : Y / 8 % r < r := Nat.mod_lt _ (by omega)
  have hv : Y / 64 % 51 ≤ 50 := by omega
  have hw : Y / 512 % 2001 ≤ 2000 := by omega
  generalize hjj : Y / 8 % r = j at hj
  generalize hvv : Y / 64 % 51 = v at hv
  generalize hww : Y / 512 % 2001 = w at hw
  have c0 := mq_cnt0 (X := X) (S := S) hc
  obtain ⟨F1, g1, g2⟩ := mq_rate (X := X) (S := S) hc hj hv
  obtain ⟨u, u1, u2⟩ := hV.2.1 j (by omega)
  rw [u2] at g1
  obtain ⟨F2, g3, g4⟩ := mq_set (X := X) (S := S) g2 (k := 0) (v := nI w) (by omega) ⟨(mj_le (by omega) (by omega)).mpr (by omega), (mj_le (by omega) (by omega)).mpr hw⟩
  rw [sp_u_o (by omega), show 12 + 0 = 12 from rfl, h12.2] at g3
  have hm := h12.1
  refine ⟨F2, _, _, _, ?_, g4, mq_I_u (mq_I_u hI h60 (by omega) (by omega)) h60 (by omega) (by omega), by rw [sp_u_o (by omega), sp_u_o (by omega)]; exact h142, w, hw, by rw [show 12 + 0 = 12 from rfl, sp_u_s]⟩
  simp (disch := omega) only [mj_g71_208, mj_g71_209, mj_g71_210, mj_g71_211, mj_g71_212, mj_g71_213, mj_g71_214, mj_g71_215, mj_g71_216, mj_g71_217, mj_g71_218, mj_g71_219, mj_g71_220, mj_g71_221, mj_g71_222, mj_g71_223, mj_g71_224, mj_g71_225, mj_g71_226, mj_g71_227, mj_g71_228, mj_g71_229, mj_g71_230, mj_g71_231, mj_g71_232, mj_g71_233, mj_g71_235, mj_g71_236, ↓reduceIte, Option.bind_some, Option.toList_some, Option.toList_none, List.cons_append, List.nil_append, mj_ixn, mj_add, mj_mul, mj_sub, mj_dv, mj_rmn, mj_ltT, mj_ltF, mj_leT, mj_leF, mj_eqT, mj_eqF, mj_z0T, mj_z0F, mj_bo0, mj_boc, mj_chk10, mj_chk11, and_self, not_true, not_false_eq_true, e3, e6, e9, hjj, hvv, hww, c0, g1, g3, mj_lt0]
/-- a turn that heats -/
theorem mq_t3 (hc : mq_c f g r s n H D z Ds) (hH : H < 900000) (hI : mq_I D n H) (hY : Y < 2147483648) : ∃ F D2 z2 Ds2, mj_g X 71 237 [some (.inr (23, 0)), some (.inr (5, 0)), some (.inl (nI 1)), o3, some (.inl (nI Y)), some (.inl (nI n)), some (.inl (mc_sm (sp_T D) n)), o7, o8, o9, o10, o11, o12, o13, o14] [] (S, f, g) = mj_g X 71 252 [some (.inr (23, 0)), some (.inr (5, 0)), some (.inl (nI 1)), o3, some (.inl (nI Y)), some (.inl (nI n)), some (.inl (mc_sm (sp_T D) n)), o7, o8, o9, o10, o11, o12, o13, o14] [] (S, F, g) ∧ mq_c F g r s n (H + 1) D2 z2 Ds2 ∧ mq_I D2 n (H + 1) ∧ D2 142 = D 142 ∧ D2 12 = D 12 := by
  have e3 : nI Y >>> (nI 3 &&& 31) = nI (Y / 8) := mq_shr hY (by decide) rfl
  have e7 : nI Y >>> (nI 7 &&& 31) = nI (Y / 128) := mq_shr hY (by decide) rfl
  obtain ⟨F, D2, z2, Ds2, k1, k2, k3, k4, k5⟩ := mq_heated (X := X) (S := S) hc hH hI (t := 1400 + Y / 8 % 401) (l := Y / 128 % 101) (by omega) (by omega) (by omega)
  refine ⟨F, D2, z2, Ds2, ?_, k2, k3, k4, k5⟩
  simp (disch := omega) only [mj_g71_237, mj_g71_238, mj_g71_239, mj_g71_240, mj_g71_241, mj_g71_242, mj_g71_243, mj_g71_244, mj_g71_245, mj_g71_246, mj_g71_247, mj_g71_248, mj_g71_249, mj_g71_250, mj_g71_251, ↓reduceIte, Option.bind_some, Option.toList_some, Option.toList_none, List.cons_append, List.nil_append, mj_ixn, mj_add, mj_mul, mj_sub, mj_dv, mj_rmn, mj_ltT, mj_ltF, mj_leT, mj_leF, mj_eqT, mj_eqF, mj_z0T, mj_z0F, mj_bo0, mj_boc, mj_chk10, mj_chk11, and_self, not_true, not_false_eq_true, e3, e7, k1]
theorem mq_it (hX : X.1 ≤ 260) (hk : k < 30) (hH : H < 800000) (hJ : mq_J f g H) : ∃ F p4 p5 p6 p7 p8 p9 p10 p11 p12 p13 p14, mj_g X 71 45 [some (.inr (23, 0)), some (.inr (5, 0)), some (.inl (nI 1)), some (.inl (nI k)), o4, o5, o6, o7, o8, o9, o10, o11, o12, o13, o14] [] (S, f, g) = mj_g X 71 45 [some (.inr (23, 0)), some (.inr (5, 0)), some (.inl (nI 1)), some (.inl (nI (k + 1))), p4, p5, p6, p7, p8, p9, p10, p11, p12, p13, p14] [] (S, F, g) ∧ mq_J F g (H + 1) := by
  obtain ⟨r, s, n, D, z, Ds, hc, hI, h142, m, h12⟩ := hJ
  have hG := mq_c_ge hc
  have h60 := hG.n60
  have hn : r * s = n := hG.2.2.2.2.symm
  obtain ⟨Y, hY, ec⟩ := mq_cell (X := X) (S := S) hX (show 3 + k < 100 by omega)
  have c0 := mq_cnt0 (X := X) (S := S) hc
  have c1 := mq_cnt1 (X := X) (S := S) hc
  have A4 := mq_acc4 (X := X) (S := S) hc
  have s1 : mj_g X 71 45 [some (.inr (23, 0)), some (.inr (5, 0)), some (.inl (nI 1)), some (.inl (nI k)), o4, o5, o6, o7, o8, o9, o10, o11, o12, o13, o14] [] (S, f, g) = mj_g X 71 (mj_tsw 0 2 [72, 157, 208] 237 (nI (Y % 6))) [some (.inr (23, 0)), some (.inr (5, 0)), some (.inl (nI 1)), some (.inl (nI k)), some (.inl (nI Y)), some (.inl (nI n)), some (.inl (mc_sm (sp_T D) n)), o7, o8, o9, o10, o11, o12, o13, o14] [] (S, f, g) := by
    refine Eq.trans mj_g71_45 ?_
    simp (disch := omega) only [mj_g71_46, mj_g71_47, mj_g71_48, mj_g71_49, mj_g71_50, mj_g71_51, mj_g71_52, mj_g71_53, mj_g71_54, mj_g71_55, mj_g71_56, mj_g71_57, mj_g71_58, mj_g71_59, mj_g71_60, mj_g71_61, mj_g71_62, mj_g71_63, mj_g71_64, mj_g71_65, mj_g71_66, mj_g71_67, mj_g71_68, mj_g71_69, mj_g71_70, mj_g71_71, ↓reduceIte, Option.bind_some, Option.toList_some, Option.toList_none, List.cons_append, List.nil_append, mj_ixn, mj_add, mj_mul, mj_sub, mj_dv, mj_rmn, mj_ltT, mj_ltF, mj_leT, mj_leF, mj_eqT, mj_eqF, mj_z0T, mj_z0F, mj_bo0, mj_boc, mj_chk10, mj_chk11, and_self, not_true, not_false_eq_true, ec, c0, c1, A4, hn]
  rw [s1]
  have h6 : Y % 6 = 0 ∨ Y % 6 = 1 ∨ Y % 6 = 2 ∨ Y % 6 = 3 ∨ Y % 6 = 4 ∨ Y % 6 = 5 := by omega
  have up : ∀ {D2 : Nat → Int32} {n : Nat}, mq_I D2 n H → mq_I D2 n (H + 1) := fun h => by
    obtain ⟨h1, a, b, h2, h3, h4, h5⟩ := h
    exact ⟨h1, a, b, h2, h3, h4, by omega⟩
  have last : mj_tsw 0 2 [72, 157, 208] 237 (nI (Y % 6)) = 237 → ∃ F p4 p5 p6 p7 p8 p9 p10 p11 p12 p13 p14, mj_g X 71 (mj_tsw 0 2 [72, 157, 208] 237 (nI (Y % 6))) [some (.inr (23, 0)), some (.inr (5, 0)), some (.inl (nI 1)), some (.inl (nI k)), some (.inl (nI Y)), some (.inl (nI n)), some (.inl (mc_sm (sp_T D) n)), o7, o8, o9, o10, o11, o12, o13, o14] [] (S, f, g) = mj_g X 71 45 [some (.inr (23, 0)), some (.inr (5, 0)), some (.inl (nI 1)), some (.inl (nI (k + 1))), p4, p5, p6, p7, p8, p9, p10, p11, p12, p13, p14] [] (S, F, g) ∧ mq_J F g (H + 1) := fun e_ => by
    obtain ⟨F1, D2, z2, Ds2, k1, k2, k3, k4, k5⟩ := mq_t3 (X := X) (S := S) (o3 := some (.inl (nI k))) (o7 := o7) (o8 := o8) (o9 := o9) (o10 := o10) (o11 := o11) (o12 := o12) (o13 := o13) (o14 := o14) hc (by omega) hI hY
    obtain ⟨F2, k6, k7⟩ := mq_tl (X := X) (S := S) (o4 := some (.inl (nI Y))) (o5 := some (.inl (nI n))) (o6 := some (.inl (mc_sm (sp_T D) n))) (o7 := o7) (o8 := o8) (o9 := o9) (o10 := o10) (o11 := o11) (o12 := o12) (o13 := o13) (o14 := o14) k2 (by omega) k3 hk
    rw [e_]
    exact ⟨F2, _, _, _, _, _, _, _, _, _, _, _, k1.trans k6, r, s, n, D2, z2, Ds2, k7, k3, k4.trans h142, m, h12.1, k5.trans h12.2⟩
  rcases h6 with h6 | h6 | h6 | h6 | h6 | h6
  · have e_ : mj_tsw 0 2 [72, 157, 208] 237 (nI (Y % 6)) = 72 := by rw [h6]; rfl
    obtain ⟨F1, p7, p8, p9, p10, p11, D2, z2, Ds2, k1, k2, k3, k4, k5⟩ := mq_t0 (X := X) (S := S) (o3 := some (.inl (nI k))) (o7 := o7) (o8 := o8) (o9 := o9) (o10 := o10) (o11 := o11) (o12 := o12) (o13 := o13) (o14 := o14) hc hI hY h142 h12
    obtain ⟨F2, k6, k7⟩ := mq_tl (X := X) (S := S) (o4 := some (.inl (nI Y))) (o5 := some (.inl (nI n))) (o6 := some (.inl (mc_sm (sp_T D) n))) (o7 := p7) (o8 := p8) (o9 := p9) (o10 := p10) (o11 := p11) (o12 := o12) (o13 := o13) (o14 := o14) k2 (by omega) k3 hk
    rw [e_]
    exact ⟨F2, _, _, _, _, _, _, _, _, _, _, _, k1.trans k6, r, s, n, D2, z2, Ds2, mq_c_H k7 (by omega), up k3, k4, k5⟩
  · have e_ : mj_tsw 0 2 [72, 157, 208] 237 (nI (Y % 6)) = 157 := by rw [h6]; rfl
    obtain ⟨F1, p12, p13, p14, D2, z2, Ds2, k1, k2, k3, k4, k5⟩ := mq_t1 (X := X) (S := S) (o3 := some (.inl (nI k))) (o7 := o7) (o8 := o8) (o9 := o9) (o10 := o10) (o11 := o11) (o12 := o12) (o13 := o13) (o14 := o14) hc hI hY h142 h12
    obtain ⟨F2, k6, k7⟩ := mq_tl (X := X) (S := S) (o4 := some (.inl (nI Y))) (o5 := some (.inl (nI n))) (o6 := some (.inl (mc_sm (sp_T D) n))) (o7 := o7) (o8 := o8) (o9 := o9) (o10 := o10) (o11 := o11) (o12 := p12) (o13 := p13) (o14 := p14) k2 (by omega) k3 hk
    rw [e_]
    exact ⟨F2, _, _, _, _, _, _, _, _, _, _, _, k1.trans k6, r, s, n, D2, z2, Ds2, mq_c_H k7 (by omega), up k3, k4, k5⟩
  · have e_ : mj_tsw 0 2 [72, 157, 208] 237 (nI (Y % 6)) = 208 := by rw [h6]; rfl
    obtain ⟨F1, D2, z2, Ds2, k1, k2, k3, k4, k5⟩ := mq_t2 (X := X) (S := S) (o3 := some (.inl (nI k))) (o7 := o7) (o8 := o8) (o9 := o9) (o10 := o10) (o11 := o11) (o12 := o12) (o13 := o13) (o14 := o14) hc hI hY h142 h12
    obtain ⟨F2, k6, k7⟩ := mq_tl (X := X) (S := S) (o4 := some (.inl (nI Y))) (o5 := some (.inl (nI n))) (o6 := some (.inl (mc_sm (sp_T D) n))) (o7 := o7) (o8 := o8) (o9 := o9) (o10 := o10) (o11 := o11) (o12 := o12) (o13 := o13) (o14 := o14) k2 (by omega) k3 hk
    rw [e_]
    exact ⟨F2, _, _, _, _, _, _, _, _, _, _, _, k1.trans k6, r, s, n, D2, z2, Ds2, mq_c_H k7 (by omega), up k3, k4, k5⟩
  · exact last (by rw [h6]; rfl)
  · exact last (by rw [h6]; rfl)
  · exact last (by rw [h6]; rfl)
theorem mq_loop (hX : X.1 ≤ 260) : ∀ (q k : Nat) (f : mj_F) (o4 o5 o6 o7 o8 o9 o10 o11 o12 o13 o14 : Option mj_V), k + q = 30 → mq_J f g k → ∃ F p4 p5 p6 p7 p8 p9 p10 p11 p12 p13 p14, mj_g X 71 45 [some (.inr (23, 0)), some (.inr (5, 0)), some (.inl (nI 1)), some (.inl (nI k)), o4, o5, o6, o7, o8, o9, o10, o11, o12, o13, o14] [] (S, f, g) = mj_g X 71 263 [some (.inr (23, 0)), some (.inr (5, 0)), some (.inl (nI 1)), some (.inl (nI 30)), p4, p5, p6, p7, p8, p9, p10, p11, p12, p13, p14] [] (S, F, g) ∧ mq_J F g 30 := by
  intro q
  induction q with
  | zero =>
    intro k f o4 o5 o6 o7 o8 o9 o10 o11 o12 o13 o14 hk hJ
    have hk2 : k = 30 := by omega
    subst hk2
    refine ⟨f, o4, o5, o6, o7, o8, o9, o10, o11, o12, o13, o14, ?_, hJ⟩
    refine Eq.trans mj_g71_45 ?_
    simp (disch := omega) only [mj_g71_46, mj_g71_47, ↓reduceIte, Option.bind_some, Option.toList_some, Option.toList_none, List.cons_append, List.nil_append, mj_ixn, mj_add, mj_mul, mj_sub, mj_dv, mj_rmn, mj_ltT, mj_ltF, mj_leT, mj_leF, mj_eqT, mj_eqF, mj_z0T, mj_z0F, mj_bo0, mj_boc, mj_chk10, mj_chk11, and_self, not_true, not_false_eq_true]
  | succ q ih =>
    intro k f o4 o5 o6 o7 o8 o9 o10 o11 o12 o13 o14 hk hJ
    obtain ⟨F1, p4, p5, p6, p7, p8, p9, p10, p11, p12, p13, p14, k1, k2⟩ := mq_it (X := X) (S := S) (o4 := o4) (o5 := o5) (o6 := o6) (o7 := o7) (o8 := o8) (o9 := o9) (o10 := o10) (o11 := o11) (o12 := o12) (o13 := o13) (o14 := o14) hX (show k < 30 by omega) (by omega) hJ
    obtain ⟨F2, q4, q5, q6, q7, q8, q9, q10, q11, q12, q13, q14, k3, k4⟩ := ih (k + 1) F1 p4 p5 p6 p7 p8 p9 p10 p11 p12 p13 p14 (by omega) k2
    exact ⟨F2, q4, q5, q6, q7, q8, q9, q10, q11, q12, q13, q14, k1.trans k3, k4⟩
end QL
