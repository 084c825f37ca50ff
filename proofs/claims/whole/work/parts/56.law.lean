/-! the law: a call; the loop; the whole run -/
def mw_st (X : mj_X) (S : List (Nat × Nat)) (k p : Nat) (f : mj_F) (g : mj_G) (H : Nat) : Prop := ∃ f2 g2 r2 s2 n2 D2 z2 Ds2 L2 t2 w2, mj_g X 150 k [some (.inr (23, 0)), some (.inr (5, 0)), some (.inr (6, 0)), some (.inl (nI p))] [] (S, f, g) = mj_g X 150 537 [some (.inr (23, 0)), some (.inr (5, 0)), some (.inr (6, 0)), some (.inl (nI p))] [] (S, f2, g2) ∧ mr_c f2 g2 r2 s2 n2 (H + 100) D2 z2 Ds2 L2 t2 w2 ∧ mr_m f2 D2 z2 Ds2 L2 t2 w2
section LW
variable {X : mj_X} {S : List (Nat × Nat)} {f F : mj_F} {g G : mj_G} {r s n H z L p : Nat} {D : Nat → Int32} {Ds : Nat → Nat → Int32} {t : Nat → Int32} {w : Int32}
theorem mw_begin (hp : p + 3 < X.1) (hX : X.1 ≤ 2048) (hH : H < 900000) (hc : mr_c f g r s n H D z Ds L t w) (hm : mr_m f D z Ds L t w) : mw_st X S 22 p f g H := by
  obtain ⟨v, f1, g1, f2, r2, s2, n2, D2, z2, Ds2, L2, t2, w2, h1, h2, h3, h4⟩ := (show mr_op X 60 109 [.inl (X.2 (p + 1)), .inl (X.2 (p + 2))] from mr_begin) S f g r s n H D z Ds L t w hH hc hm
  refine ⟨f2, g1, r2, s2, n2, D2, z2, Ds2, L2, t2, w2, ?_, h3, h4⟩
  simp (disch := omega) only [mj_g150_22, mj_g150_23, mj_g150_24, mj_g150_25, mj_g150_26, mj_g150_27, mj_g150_28, mj_g150_29, mj_g150_30, mj_g150_31, mj_g150_32, mj_g150_33, mj_g150_34, mj_g150_35, mj_g150_36, mj_g150_37, mj_g150_38, mj_g150_39, mj_g150_40, mj_g150_41, mj_g150_42, mj_g150_43, mj_g150_44, mj_g150_45, mj_g150_46, ↓reduceIte, Option.bind_some, Option.toList_some, List.cons_append, List.nil_append, mj_ixn, mj_add, h1, h2, eq_self]
theorem mw_rate (hp : p + 3 < X.1) (hX : X.1 ≤ 2048) (hH : H < 900000) (hc : mr_c f g r s n H D z Ds L t w) (hm : mr_m f D z Ds L t w) : mw_st X S 49 p f g H := by
  obtain ⟨v, f1, g1, f2, r2, s2, n2, D2, z2, Ds2, L2, t2, w2, h1, h2, h3, h4⟩ := (show mr_op X 61 110 [.inl (X.2 (p + 1)), .inl (X.2 (p + 2))] from mr_rate) S f g r s n H D z Ds L t w hH hc hm
  refine ⟨f2, g1, r2, s2, n2, D2, z2, Ds2, L2, t2, w2, ?_, h3, h4⟩
  simp (disch := omega) only [mj_g150_49, mj_g150_50, mj_g150_51, mj_g150_52, mj_g150_53, mj_g150_54, mj_g150_55, mj_g150_56, mj_g150_57, mj_g150_58, mj_g150_59, mj_g150_60, mj_g150_61, mj_g150_62, mj_g150_63, mj_g150_64, mj_g150_65, mj_g150_66, mj_g150_67, mj_g150_68, mj_g150_69, mj_g150_70, mj_g150_71, mj_g150_72, mj_g150_73, ↓reduceIte, Option.bind_some, Option.toList_some, List.cons_append, List.nil_append, mj_ixn, mj_add, h1, h2, eq_self]
theorem mw_set (hp : p + 3 < X.1) (hX : X.1 ≤ 2048) (hH : H < 900000) (hc : mr_c f g r s n H D z Ds L t w) (hm : mr_m f D z Ds L t w) : mw_st X S 76 p f g H := by
  obtain ⟨v, f1, g1, f2, r2, s2, n2, D2, z2, Ds2, L2, t2, w2, h1, h2, h3, h4⟩ := (show mr_op X 62 112 [.inl (X.2 (p + 1)), .inl (X.2 (p + 2))] from mr_set) S f g r s n H D z Ds L t w hH hc hm
  refine ⟨f2, g1, r2, s2, n2, D2, z2, Ds2, L2, t2, w2, ?_, h3, h4⟩
  simp (disch := omega) only [mj_g150_76, mj_g150_77, mj_g150_78, mj_g150_79, mj_g150_80, mj_g150_81, mj_g150_82, mj_g150_83, mj_g150_84, mj_g150_85, mj_g150_86, mj_g150_87, mj_g150_88, mj_g150_89, mj_g150_90, mj_g150_91, mj_g150_92, mj_g150_93, mj_g150_94, mj_g150_95, mj_g150_96, mj_g150_97, mj_g150_98, mj_g150_99, mj_g150_100, ↓reduceIte, Option.bind_some, Option.toList_some, List.cons_append, List.nil_append, mj_ixn, mj_add, h1, h2, eq_self]
theorem mw_heat (hp : p + 3 < X.1) (hX : X.1 ≤ 2048) (hH : H < 900000) (hc : mr_c f g r s n H D z Ds L t w) (hm : mr_m f D z Ds L t w) : mw_st X S 103 p f g H := by
  obtain ⟨v, f1, g1, f2, r2, s2, n2, D2, z2, Ds2, L2, t2, w2, h1, h2, h3, h4⟩ := (show mr_op X 63 115 [.inl (X.2 (p + 1)), .inl (X.2 (p + 2))] from mr_heat) S f g r s n H D z Ds L t w hH hc hm
  refine ⟨f2, g1, r2, s2, n2, D2, z2, Ds2, L2, t2, w2, ?_, h3, h4⟩
  simp (disch := omega) only [mj_g150_103, mj_g150_104, mj_g150_105, mj_g150_106, mj_g150_107, mj_g150_108, mj_g150_109, mj_g150_110, mj_g150_111, mj_g150_112, mj_g150_113, mj_g150_114, mj_g150_115, mj_g150_116, mj_g150_117, mj_g150_118, mj_g150_119, mj_g150_120, mj_g150_121, mj_g150_122, mj_g150_123, mj_g150_124, mj_g150_125, mj_g150_126, mj_g150_127, ↓reduceIte, Option.bind_some, Option.toList_some, List.cons_append, List.nil_append, mj_ixn, mj_add, h1, h2, eq_self]
theorem mw_gun (hp : p + 3 < X.1) (hX : X.1 ≤ 2048) (hH : H < 900000) (hc : mr_c f g r s n H D z Ds L t w) (hm : mr_m f D z Ds L t w) : mw_st X S 130 p f g H := by
  obtain ⟨v, f1, g1, f2, r2, s2, n2, D2, z2, Ds2, L2, t2, w2, h1, h2, h3, h4⟩ := (show mr_op X 64 116 [.inl (X.2 (p + 1)), .inl (X.2 (p + 2))] from mr_gun) S f g r s n H D z Ds L t w hH hc hm
  refine ⟨f2, g1, r2, s2, n2, D2, z2, Ds2, L2, t2, w2, ?_, h3, h4⟩
  simp (disch := omega) only [mj_g150_130, mj_g150_131, mj_g150_132, mj_g150_133, mj_g150_134, mj_g150_135, mj_g150_136, mj_g150_137, mj_g150_138, mj_g150_139, mj_g150_140, mj_g150_141, mj_g150_142, mj_g150_143, mj_g150_144, mj_g150_145, mj_g150_146, mj_g150_147, mj_g150_148, mj_g150_149, mj_g150_150, mj_g150_151, mj_g150_152, mj_g150_153, mj_g150_154, ↓reduceIte, Option.bind_some, Option.toList_some, List.cons_append, List.nil_append, mj_ixn, mj_add, h1, h2, eq_self]
theorem mw_reline (hp : p + 3 < X.1) (hX : X.1 ≤ 2048) (hH : H < 900000) (hc : mr_c f g r s n H D z Ds L t w) (hm : mr_m f D z Ds L t w) : mw_st X S 157 p f g H := by
  obtain ⟨v, f1, g1, f2, r2, s2, n2, D2, z2, Ds2, L2, t2, w2, h1, h2, h3, h4⟩ := (show mr_op X 65 117 [.inl (X.2 (p + 1))] from mr_reline) S f g r s n H D z Ds L t w hH hc hm
  refine ⟨f2, g1, r2, s2, n2, D2, z2, Ds2, L2, t2, w2, ?_, h3, h4⟩
  simp (disch := omega) only [mj_g150_157, mj_g150_158, mj_g150_159, mj_g150_160, mj_g150_161, mj_g150_162, mj_g150_163, mj_g150_164, mj_g150_165, mj_g150_166, mj_g150_167, mj_g150_168, mj_g150_169, mj_g150_170, mj_g150_171, ↓reduceIte, Option.bind_some, Option.toList_some, List.cons_append, List.nil_append, mj_ixn, mj_add, h1, h2, eq_self]
theorem mw_scan (hp : p + 3 < X.1) (hX : X.1 ≤ 2048) (hH : H < 900000) (hc : mr_c f g r s n H D z Ds L t w) (hm : mr_m f D z Ds L t w) : mw_st X S 174 p f g H := by
  obtain ⟨v, f1, g1, f2, r2, s2, n2, D2, z2, Ds2, L2, t2, w2, h1, h2, h3, h4⟩ := (show mr_op X 66 118 [] from mr_scan) S f g r s n H D z Ds L t w hH hc hm
  refine ⟨f2, g1, r2, s2, n2, D2, z2, Ds2, L2, t2, w2, ?_, h3, h4⟩
  simp (disch := omega) only [mj_g150_174, mj_g150_175, mj_g150_176, mj_g150_177, mj_g150_178, ↓reduceIte, Option.bind_some, Option.toList_some, List.cons_append, List.nil_append, mj_ixn, mj_add, h1, h2, eq_self]
theorem mw_undo (hp : p + 3 < X.1) (hX : X.1 ≤ 2048) (hH : H < 900000) (hc : mr_c f g r s n H D z Ds L t w) (hm : mr_m f D z Ds L t w) : mw_st X S 181 p f g H := by
  obtain ⟨v, f1, g1, f2, r2, s2, n2, D2, z2, Ds2, L2, t2, w2, h1, h2, h3, h4⟩ := (show mr_op X 67 119 [] from mr_undo) S f g r s n H D z Ds L t w hH hc hm
  refine ⟨f2, g1, r2, s2, n2, D2, z2, Ds2, L2, t2, w2, ?_, h3, h4⟩
  simp (disch := omega) only [mj_g150_181, mj_g150_182, mj_g150_183, mj_g150_184, mj_g150_185, ↓reduceIte, Option.bind_some, Option.toList_some, List.cons_append, List.nil_append, mj_ixn, mj_add, h1, h2, eq_self]
theorem mw_count (hp : p + 3 < X.1) (hX : X.1 ≤ 2048) (hH : H < 900000) (hc : mr_c f g r s n H D z Ds L t w) (hm : mr_m f D z Ds L t w) : mw_st X S 188 p f g H := by
  obtain ⟨v, f1, g1, f2, r2, s2, n2, D2, z2, Ds2, L2, t2, w2, h1, h2, h3, h4⟩ := (show mr_op X 68 120 [.inl (X.2 (p + 1))] from mr_count) S f g r s n H D z Ds L t w hH hc hm
  refine ⟨f2, g1, r2, s2, n2, D2, z2, Ds2, L2, t2, w2, ?_, h3, h4⟩
  simp (disch := omega) only [mj_g150_188, mj_g150_189, mj_g150_190, mj_g150_191, mj_g150_192, mj_g150_193, mj_g150_194, mj_g150_195, mj_g150_196, mj_g150_197, mj_g150_198, mj_g150_199, mj_g150_200, mj_g150_201, mj_g150_202, ↓reduceIte, Option.bind_some, Option.toList_some, List.cons_append, List.nil_append, mj_ixn, mj_add, h1, h2, eq_self]
theorem mw_spot (hp : p + 3 < X.1) (hX : X.1 ≤ 2048) (hH : H < 900000) (hc : mr_c f g r s n H D z Ds L t w) (hm : mr_m f D z Ds L t w) : mw_st X S 205 p f g H := by
  obtain ⟨v, f1, g1, f2, r2, s2, n2, D2, z2, Ds2, L2, t2, w2, h1, h2, h3, h4⟩ := (show mr_op X 69 121 [.inl (X.2 (p + 1)), .inl (X.2 (p + 2))] from mr_spot) S f g r s n H D z Ds L t w hH hc hm
  refine ⟨f2, g1, r2, s2, n2, D2, z2, Ds2, L2, t2, w2, ?_, h3, h4⟩
  simp (disch := omega) only [mj_g150_205, mj_g150_206, mj_g150_207, mj_g150_208, mj_g150_209, mj_g150_210, mj_g150_211, mj_g150_212, mj_g150_213, mj_g150_214, mj_g150_215, mj_g150_216, mj_g150_217, mj_g150_218, mj_g150_219, mj_g150_220, mj_g150_221, mj_g150_222, mj_g150_223, mj_g150_224, mj_g150_225, mj_g150_226, mj_g150_227, mj_g150_228, mj_g150_229, ↓reduceIte, Option.bind_some, Option.toList_some, List.cons_append, List.nil_append, mj_ixn, mj_add, h1, h2, eq_self]
theorem mw_neighbour (hp : p + 3 < X.1) (hX : X.1 ≤ 2048) (hH : H < 900000) (hc : mr_c f g r s n H D z Ds L t w) (hm : mr_m f D z Ds L t w) : mw_st X S 232 p f g H := by
  obtain ⟨v, f1, g1, f2, r2, s2, n2, D2, z2, Ds2, L2, t2, w2, h1, h2, h3, h4⟩ := (show mr_op X 70 122 [.inl (X.2 (p + 1)), .inl (X.2 (p + 2))] from mr_neighbour) S f g r s n H D z Ds L t w hH hc hm
  refine ⟨f2, g1, r2, s2, n2, D2, z2, Ds2, L2, t2, w2, ?_, h3, h4⟩
  simp (disch := omega) only [mj_g150_232, mj_g150_233, mj_g150_234, mj_g150_235, mj_g150_236, mj_g150_237, mj_g150_238, mj_g150_239, mj_g150_240, mj_g150_241, mj_g150_242, mj_g150_243, mj_g150_244, mj_g150_245, mj_g150_246, mj_g150_247, mj_g150_248, mj_g150_249, mj_g150_250, mj_g150_251, mj_g150_252, mj_g150_253, mj_g150_254, mj_g150_255, mj_g150_256, ↓reduceIte, Option.bind_some, Option.toList_some, List.cons_append, List.nil_append, mj_ixn, mj_add, h1, h2, eq_self]
theorem mw_account (hp : p + 3 < X.1) (hX : X.1 ≤ 2048) (hH : H < 900000) (hc : mr_c f g r s n H D z Ds L t w) (hm : mr_m f D z Ds L t w) : mw_st X S 259 p f g H := by
  obtain ⟨v, f1, g1, f2, r2, s2, n2, D2, z2, Ds2, L2, t2, w2, h1, h2, h3, h4⟩ := (show mr_op X 71 123 [.inl (X.2 (p + 1))] from mr_account) S f g r s n H D z Ds L t w hH hc hm
  refine ⟨f2, g1, r2, s2, n2, D2, z2, Ds2, L2, t2, w2, ?_, h3, h4⟩
  simp (disch := omega) only [mj_g150_259, mj_g150_260, mj_g150_261, mj_g150_262, mj_g150_263, mj_g150_264, mj_g150_265, mj_g150_266, mj_g150_267, mj_g150_268, mj_g150_269, mj_g150_270, mj_g150_271, mj_g150_272, mj_g150_273, ↓reduceIte, Option.bind_some, Option.toList_some, List.cons_append, List.nil_append, mj_ixn, mj_add, h1, h2, eq_self]
theorem mw_scanned (hp : p + 3 < X.1) (hX : X.1 ≤ 2048) (hH : H < 900000) (hc : mr_c f g r s n H D z Ds L t w) (hm : mr_m f D z Ds L t w) : mw_st X S 276 p f g H := by
  obtain ⟨v, f1, g1, f2, r2, s2, n2, D2, z2, Ds2, L2, t2, w2, h1, h2, h3, h4⟩ := (show mr_op X 72 127 [.inl (X.2 (p + 1)), .inl (X.2 (p + 2)), .inl (X.2 (p + 3))] from mr_scanned) S f g r s n H D z Ds L t w hH hc hm
  refine ⟨f2, g1, r2, s2, n2, D2, z2, Ds2, L2, t2, w2, ?_, h3, h4⟩
  simp (disch := omega) only [mj_g150_276, mj_g150_277, mj_g150_278, mj_g150_279, mj_g150_280, mj_g150_281, mj_g150_282, mj_g150_283, mj_g150_284, mj_g150_285, mj_g150_286, mj_g150_287, mj_g150_288, mj_g150_289, mj_g150_290, mj_g150_291, mj_g150_292, mj_g150_293, mj_g150_294, mj_g150_295, mj_g150_296, mj_g150_297, mj_g150_298, mj_g150_299, mj_g150_300, mj_g150_301, mj_g150_302, mj_g150_303, mj_g150_304, mj_g150_305, mj_g150_306, mj_g150_307, mj_g150_308, mj_g150_309, mj_g150_310, ↓reduceIte, Option.bind_some, Option.toList_some, List.cons_append, List.nil_append, mj_ixn, mj_add, h1, h2, eq_self]
theorem mw_peaks (hp : p + 3 < X.1) (hX : X.1 ≤ 2048) (hH : H < 900000) (hc : mr_c f g r s n H D z Ds L t w) (hm : mr_m f D z Ds L t w) : mw_st X S 313 p f g H := by
  obtain ⟨v, f1, g1, f2, r2, s2, n2, D2, z2, Ds2, L2, t2, w2, h1, h2, h3, h4⟩ := (show mr_op X 73 128 [.inl (X.2 (p + 1))] from mr_peaks) S f g r s n H D z Ds L t w hH hc hm
  refine ⟨f2, g1, r2, s2, n2, D2, z2, Ds2, L2, t2, w2, ?_, h3, h4⟩
  simp (disch := omega) only [mj_g150_313, mj_g150_314, mj_g150_315, mj_g150_316, mj_g150_317, mj_g150_318, mj_g150_319, mj_g150_320, mj_g150_321, mj_g150_322, mj_g150_323, mj_g150_324, mj_g150_325, mj_g150_326, mj_g150_327, ↓reduceIte, Option.bind_some, Option.toList_some, List.cons_append, List.nil_append, mj_ixn, mj_add, h1, h2, eq_self]
theorem mw_trend (hp : p + 3 < X.1) (hX : X.1 ≤ 2048) (hH : H < 900000) (hc : mr_c f g r s n H D z Ds L t w) (hm : mr_m f D z Ds L t w) : mw_st X S 330 p f g H := by
  obtain ⟨v, f1, g1, f2, r2, s2, n2, D2, z2, Ds2, L2, t2, w2, h1, h2, h3, h4⟩ := (show mr_op X 74 129 [.inl (X.2 (p + 1))] from mr_trend) S f g r s n H D z Ds L t w hH hc hm
  refine ⟨f2, g1, r2, s2, n2, D2, z2, Ds2, L2, t2, w2, ?_, h3, h4⟩
  simp (disch := omega) only [mj_g150_330, mj_g150_331, mj_g150_332, mj_g150_333, mj_g150_334, mj_g150_335, mj_g150_336, mj_g150_337, mj_g150_338, mj_g150_339, mj_g150_340, mj_g150_341, mj_g150_342, mj_g150_343, mj_g150_344, ↓reduceIte, Option.bind_some, Option.toList_some, List.cons_append, List.nil_append, mj_ixn, mj_add, h1, h2, eq_self]
theorem mw_heatsByTrend (hp : p + 3 < X.1) (hX : X.1 ≤ 2048) (hH : H < 900000) (hc : mr_c f g r s n H D z Ds L t w) (hm : mr_m f D z Ds L t w) : mw_st X S 347 p f g H := by
  obtain ⟨v, f1, g1, f2, r2, s2, n2, D2, z2, Ds2, L2, t2, w2, h1, h2, h3, h4⟩ := (show mr_op X 75 130 [.inl (X.2 (p + 1))] from mr_heatsByTrend) S f g r s n H D z Ds L t w hH hc hm
  refine ⟨f2, g1, r2, s2, n2, D2, z2, Ds2, L2, t2, w2, ?_, h3, h4⟩
  simp (disch := omega) only [mj_g150_347, mj_g150_348, mj_g150_349, mj_g150_350, mj_g150_351, mj_g150_352, mj_g150_353, mj_g150_354, mj_g150_355, mj_g150_356, mj_g150_357, mj_g150_358, mj_g150_359, mj_g150_360, mj_g150_361, ↓reduceIte, Option.bind_some, Option.toList_some, List.cons_append, List.nil_append, mj_ixn, mj_add, h1, h2, eq_self]
theorem mw_heatsLeft (hp : p + 3 < X.1) (hX : X.1 ≤ 2048) (hH : H < 900000) (hc : mr_c f g r s n H D z Ds L t w) (hm : mr_m f D z Ds L t w) : mw_st X S 364 p f g H := by
  obtain ⟨v, f1, g1, f2, r2, s2, n2, D2, z2, Ds2, L2, t2, w2, h1, h2, h3, h4⟩ := (show mr_op X 76 134 [.inl (X.2 (p + 1)), .inl (X.2 (p + 2))] from mr_heatsLeft) S f g r s n H D z Ds L t w hH hc hm
  refine ⟨f2, g1, r2, s2, n2, D2, z2, Ds2, L2, t2, w2, ?_, h3, h4⟩
  simp (disch := omega) only [mj_g150_364, mj_g150_365, mj_g150_366, mj_g150_367, mj_g150_368, mj_g150_369, mj_g150_370, mj_g150_371, mj_g150_372, mj_g150_373, mj_g150_374, mj_g150_375, mj_g150_376, mj_g150_377, mj_g150_378, mj_g150_379, mj_g150_380, mj_g150_381, mj_g150_382, mj_g150_383, mj_g150_384, mj_g150_385, mj_g150_386, mj_g150_387, mj_g150_388, ↓reduceIte, Option.bind_some, Option.toList_some, List.cons_append, List.nil_append, mj_ixn, mj_add, h1, h2, eq_self]
theorem mw_firstThrough (hp : p + 3 < X.1) (hX : X.1 ≤ 2048) (hH : H < 900000) (hc : mr_c f g r s n H D z Ds L t w) (hm : mr_m f D z Ds L t w) : mw_st X S 391 p f g H := by
  obtain ⟨v, f1, g1, f2, r2, s2, n2, D2, z2, Ds2, L2, t2, w2, h1, h2, h3, h4⟩ := (show mr_op X 77 135 [.inl (X.2 (p + 1)), .inl (X.2 (p + 2))] from mr_firstThrough) S f g r s n H D z Ds L t w hH hc hm
  refine ⟨f2, g1, r2, s2, n2, D2, z2, Ds2, L2, t2, w2, ?_, h3, h4⟩
  simp (disch := omega) only [mj_g150_391, mj_g150_392, mj_g150_393, mj_g150_394, mj_g150_395, mj_g150_396, mj_g150_397, mj_g150_398, mj_g150_399, mj_g150_400, mj_g150_401, mj_g150_402, mj_g150_403, mj_g150_404, mj_g150_405, mj_g150_406, mj_g150_407, mj_g150_408, mj_g150_409, mj_g150_410, mj_g150_411, mj_g150_412, mj_g150_413, mj_g150_414, mj_g150_415, ↓reduceIte, Option.bind_some, Option.toList_some, List.cons_append, List.nil_append, mj_ixn, mj_add, h1, h2, eq_self]
theorem mw_bestSpot (hp : p + 3 < X.1) (hX : X.1 ≤ 2048) (hH : H < 900000) (hc : mr_c f g r s n H D z Ds L t w) (hm : mr_m f D z Ds L t w) : mw_st X S 418 p f g H := by
  obtain ⟨v, f1, g1, f2, r2, s2, n2, D2, z2, Ds2, L2, t2, w2, h1, h2, h3, h4⟩ := (show mr_op X 78 136 [.inl (X.2 (p + 1)), .inl (X.2 (p + 2)), .inl (X.2 (p + 3))] from mr_bestSpot) S f g r s n H D z Ds L t w hH hc hm
  refine ⟨f2, g1, r2, s2, n2, D2, z2, Ds2, L2, t2, w2, ?_, h3, h4⟩
  simp (disch := omega) only [mj_g150_418, mj_g150_419, mj_g150_420, mj_g150_421, mj_g150_422, mj_g150_423, mj_g150_424, mj_g150_425, mj_g150_426, mj_g150_427, mj_g150_428, mj_g150_429, mj_g150_430, mj_g150_431, mj_g150_432, mj_g150_433, mj_g150_434, mj_g150_435, mj_g150_436, mj_g150_437, mj_g150_438, mj_g150_439, mj_g150_440, mj_g150_441, mj_g150_442, mj_g150_443, mj_g150_444, mj_g150_445, mj_g150_446, mj_g150_447, mj_g150_448, mj_g150_449, mj_g150_450, mj_g150_451, mj_g150_452, ↓reduceIte, Option.bind_some, Option.toList_some, List.cons_append, List.nil_append, mj_ixn, mj_add, h1, h2, eq_self]
theorem mw_wear (hp : p + 3 < X.1) (hX : X.1 ≤ 2048) (hH : H < 900000) (hc : mr_c f g r s n H D z Ds L t w) (hm : mr_m f D z Ds L t w) : mw_st X S 455 p f g H := by
  obtain ⟨v, f1, g1, f2, r2, s2, n2, D2, z2, Ds2, L2, t2, w2, h1, h2, h3, h4⟩ := (show mr_op X 79 137 [.inl (X.2 (p + 1)), .inl (X.2 (p + 2)), .inl (X.2 (p + 3))] from mr_wear) S f g r s n H D z Ds L t w hH hc hm
  refine ⟨f2, g1, r2, s2, n2, D2, z2, Ds2, L2, t2, w2, ?_, h3, h4⟩
  simp (disch := omega) only [mj_g150_455, mj_g150_456, mj_g150_457, mj_g150_458, mj_g150_459, mj_g150_460, mj_g150_461, mj_g150_462, mj_g150_463, mj_g150_464, mj_g150_465, mj_g150_466, mj_g150_467, mj_g150_468, mj_g150_469, mj_g150_470, mj_g150_471, mj_g150_472, mj_g150_473, mj_g150_474, mj_g150_475, mj_g150_476, mj_g150_477, mj_g150_478, mj_g150_479, mj_g150_480, mj_g150_481, mj_g150_482, mj_g150_483, mj_g150_484, mj_g150_485, mj_g150_486, mj_g150_487, mj_g150_488, mj_g150_489, ↓reduceIte, Option.bind_some, Option.toList_some, List.cons_append, List.nil_append, mj_ixn, mj_add, h1, h2, eq_self]
theorem mw_type (hp : p + 3 < X.1) (hX : X.1 ≤ 2048) (hH : H < 900000) (hc : mr_c f g r s n H D z Ds L t w) (hm : mr_m f D z Ds L t w) : mw_st X S 492 p f g H := by
  obtain ⟨v, f1, g1, f2, r2, s2, n2, D2, z2, Ds2, L2, t2, w2, h1, h2, h3, h4⟩ := (show mr_op X 80 138 [.inl (X.2 (p + 1))] from mr_type) S f g r s n H D z Ds L t w hH hc hm
  refine ⟨f2, g1, r2, s2, n2, D2, z2, Ds2, L2, t2, w2, ?_, h3, h4⟩
  simp (disch := omega) only [mj_g150_492, mj_g150_493, mj_g150_494, mj_g150_495, mj_g150_496, mj_g150_497, mj_g150_498, mj_g150_499, mj_g150_500, mj_g150_501, mj_g150_502, mj_g150_503, mj_g150_504, mj_g150_505, mj_g150_506, ↓reduceIte, Option.bind_some, Option.toList_some, List.cons_append, List.nil_append, mj_ixn, mj_add, h1, h2, eq_self]
theorem mw_clearText (hp : p + 3 < X.1) (hX : X.1 ≤ 2048) (hH : H < 900000) (hc : mr_c f g r s n H D z Ds L t w) (hm : mr_m f D z Ds L t w) : mw_st X S 509 p f g H := by
  obtain ⟨v, f1, g1, f2, r2, s2, n2, D2, z2, Ds2, L2, t2, w2, h1, h2, h3, h4⟩ := (show mr_op X 81 139 [] from mr_clearText) S f g r s n H D z Ds L t w hH hc hm
  refine ⟨f2, g1, r2, s2, n2, D2, z2, Ds2, L2, t2, w2, ?_, h3, h4⟩
  simp (disch := omega) only [mj_g150_509, mj_g150_510, mj_g150_511, mj_g150_512, mj_g150_513, ↓reduceIte, Option.bind_some, Option.toList_some, List.cons_append, List.nil_append, mj_ixn, mj_add, h1, h2, eq_self]
theorem mw_fault (hp : p + 3 < X.1) (hX : X.1 ≤ 2048) (hH : H < 900000) (hc : mr_c f g r s n H D z Ds L t w) (hm : mr_m f D z Ds L t w) : mw_st X S 516 p f g H := by
  obtain ⟨v, f1, g1, f2, r2, s2, n2, D2, z2, Ds2, L2, t2, w2, h1, h2, h3, h4⟩ := (show mr_op X 82 143 [] from mr_fault) S f g r s n H D z Ds L t w hH hc hm
  refine ⟨f2, g1, r2, s2, n2, D2, z2, Ds2, L2, t2, w2, ?_, h3, h4⟩
  simp (disch := omega) only [mj_g150_516, mj_g150_517, mj_g150_518, mj_g150_519, mj_g150_520, ↓reduceIte, Option.bind_some, Option.toList_some, List.cons_append, List.nil_append, mj_ixn, mj_add, h1, h2, eq_self]
theorem mw_run (hp : p + 3 < X.1) (hX : X.1 ≤ 2048) (hH : H < 900000) (hc : mr_c f g r s n H D z Ds L t w) (hm : mr_m f D z Ds L t w) : mw_st X S 523 p f g H := by
  obtain ⟨v, f1, g1, f2, r2, s2, n2, D2, z2, Ds2, L2, t2, w2, h1, h2, h3, h4⟩ := (show mr_op X 83 145 [] from mr_run) S f g r s n H D z Ds L t w hH hc hm
  refine ⟨f2, g1, r2, s2, n2, D2, z2, Ds2, L2, t2, w2, ?_, h3, h4⟩
  simp (disch := omega) only [mj_g150_523, mj_g150_524, mj_g150_525, mj_g150_526, mj_g150_527, ↓reduceIte, Option.bind_some, Option.toList_some, List.cons_append, List.nil_append, mj_ixn, mj_add, h1, h2, eq_self]
theorem mw_reason (hp : p + 3 < X.1) (hX : X.1 ≤ 2048) (hH : H < 900000) (hc : mr_c f g r s n H D z Ds L t w) (hm : mr_m f D z Ds L t w) : mw_st X S 530 p f g H := by
  obtain ⟨v, f1, g1, f2, r2, s2, n2, D2, z2, Ds2, L2, t2, w2, h1, h2, h3, h4⟩ := (show mr_op X 84 146 [] from mr_reason) S f g r s n H D z Ds L t w hH hc hm
  refine ⟨f2, g1, r2, s2, n2, D2, z2, Ds2, L2, t2, w2, ?_, h3, h4⟩
  simp (disch := omega) only [mj_g150_530, mj_g150_531, mj_g150_532, mj_g150_533, mj_g150_534, ↓reduceIte, Option.bind_some, Option.toList_some, List.cons_append, List.nil_append, mj_ixn, mj_add, h1, h2, eq_self]
theorem mw_sw (hp : p + 3 < X.1) (hX : X.1 ≤ 2048) (hH : H < 900000) (hc : mr_c f g r s n H D z Ds L t w) (hm : mr_m f D z Ds L t w) (x : Int32) : mw_st X S (mj_tsw 0 24 [22, 49, 76, 103, 130, 157, 174, 181, 188, 205, 232, 259, 276, 313, 330, 347, 364, 391, 418, 455, 492, 509, 516, 523, 530] 537 x) p f g H := by
  by_cases c2 : 0 ≤ x.toInt ∧ x.toInt < ((25 : Nat) : Int)
  · obtain ⟨k, hk, rfl⟩ := mj_nIx c2.1 c2.2
    have hk25 : k = 0 ∨ k = 1 ∨ k = 2 ∨ k = 3 ∨ k = 4 ∨ k = 5 ∨ k = 6 ∨ k = 7 ∨ k = 8 ∨ k = 9 ∨ k = 10 ∨ k = 11 ∨ k = 12 ∨ k = 13 ∨ k = 14 ∨ k = 15 ∨ k = 16 ∨ k = 17 ∨ k = 18 ∨ k = 19 ∨ k = 20 ∨ k = 21 ∨ k = 22 ∨ k = 23 ∨ k = 24 := by omega
    rcases hk25 with rfl | rfl | rfl | rfl | rfl | rfl | rfl | rfl | rfl | rfl | rfl | rfl | rfl | rfl | rfl | rfl | rfl | rfl | rfl | rfl | rfl | rfl | rfl | rfl | rfl
    · exact (show mj_tsw 0 24 [22, 49, 76, 103, 130, 157, 174, 181, 188, 205, 232, 259, 276, 313, 330, 347, 364, 391, 418, 455, 492, 509, 516, 523, 530] 537 (nI 0) = 22 from rfl) ▸ mw_begin hp hX hH hc hm
    · exact (show mj_tsw 0 24 [22, 49, 76, 103, 130, 157, 174, 181, 188, 205, 232, 259, 276, 313, 330, 347, 364, 391, 418, 455, 492, 509, 516, 523, 530] 537 (nI 1) = 49 from rfl) ▸ mw_rate hp hX hH hc hm
    · exact (show mj_tsw 0 24 [22, 49, 76, 103, 130, 157, 174, 181, 188, 205, 232, 259, 276, 313, 330, 347, 364, 391, 418, 455, 492, 509, 516, 523, 530] 537 (nI 2) = 76 from rfl) ▸ mw_set hp hX hH hc hm
    · exact (show mj_tsw 0 24 [22, 49, 76, 103, 130, 157, 174, 181, 188, 205, 232, 259, 276, 313, 330, 347, 364, 391, 418, 455, 492, 509, 516, 523, 530] 537 (nI 3) = 103 from rfl) ▸ mw_heat hp hX hH hc hm
    · exact (show mj_tsw 0 24 [22, 49, 76, 103, 130, 157, 174, 181, 188, 205, 232, 259, 276, 313, 330, 347, 364, 391, 418, 455, 492, 509, 516, 523, 530] 537 (nI 4) = 130 from rfl) ▸ mw_gun hp hX hH hc hm
    · exact (show mj_tsw 0 24 [22, 49, 76, 103, 130, 157, 174, 181, 188, 205, 232, 259, 276, 313, 330, 347, 364, 391, 418, 455, 492, 509, 516, 523, 530] 537 (nI 5) = 157 from rfl) ▸ mw_reline hp hX hH hc hm
    · exact (show mj_tsw 0 24 [22, 49, 76, 103, 130, 157, 174, 181, 188, 205, 232, 259, 276, 313, 330, 347, 364, 391, 418, 455, 492, 509, 516, 523, 530] 537 (nI 6) = 174 from rfl) ▸ mw_scan hp hX hH hc hm
    · exact (show mj_tsw 0 24 [22, 49, 76, 103, 130, 157, 174, 181, 188, 205, 232, 259, 276, 313, 330, 347, 364, 391, 418, 455, 492, 509, 516, 523, 530] 537 (nI 7) = 181 from rfl) ▸ mw_undo hp hX hH hc hm
    · exact (show mj_tsw 0 24 [22, 49, 76, 103, 130, 157, 174, 181, 188, 205, 232, 259, 276, 313, 330, 347, 364, 391, 418, 455, 492, 509, 516, 523, 530] 537 (nI 8) = 188 from rfl) ▸ mw_count hp hX hH hc hm
    · exact (show mj_tsw 0 24 [22, 49, 76, 103, 130, 157, 174, 181, 188, 205, 232, 259, 276, 313, 330, 347, 364, 391, 418, 455, 492, 509, 516, 523, 530] 537 (nI 9) = 205 from rfl) ▸ mw_spot hp hX hH hc hm
    · exact (show mj_tsw 0 24 [22, 49, 76, 103, 130, 157, 174, 181, 188, 205, 232, 259, 276, 313, 330, 347, 364, 391, 418, 455, 492, 509, 516, 523, 530] 537 (nI 10) = 232 from rfl) ▸ mw_neighbour hp hX hH hc hm
    · exact (show mj_tsw 0 24 [22, 49, 76, 103, 130, 157, 174, 181, 188, 205, 232, 259, 276, 313, 330, 347, 364, 391, 418, 455, 492, 509, 516, 523, 530] 537 (nI 11) = 259 from rfl) ▸ mw_account hp hX hH hc hm
    · exact (show mj_tsw 0 24 [22, 49, 76, 103, 130, 157, 174, 181, 188, 205, 232, 259, 276, 313, 330, 347, 364, 391, 418, 455, 492, 509, 516, 523, 530] 537 (nI 12) = 276 from rfl) ▸ mw_scanned hp hX hH hc hm
    · exact (show mj_tsw 0 24 [22, 49, 76, 103, 130, 157, 174, 181, 188, 205, 232, 259, 276, 313, 330, 347, 364, 391, 418, 455, 492, 509, 516, 523, 530] 537 (nI 13) = 313 from rfl) ▸ mw_peaks hp hX hH hc hm
    · exact (show mj_tsw 0 24 [22, 49, 76, 103, 130, 157, 174, 181, 188, 205, 232, 259, 276, 313, 330, 347, 364, 391, 418, 455, 492, 509, 516, 523, 530] 537 (nI 14) = 330 from rfl) ▸ mw_trend hp hX hH hc hm
    · exact (show mj_tsw 0 24 [22, 49, 76, 103, 130, 157, 174, 181, 188, 205, 232, 259, 276, 313, 330, 347, 364, 391, 418, 455, 492, 509, 516, 523, 530] 537 (nI 15) = 347 from rfl) ▸ mw_heatsByTrend hp hX hH hc hm
    · exact (show mj_tsw 0 24 [22, 49, 76, 103, 130, 157, 174, 181, 188, 205, 232, 259, 276, 313, 330, 347, 364, 391, 418, 455, 492, 509, 516, 523, 530] 537 (nI 16) = 364 from rfl) ▸ mw_heatsLeft hp hX hH hc hm
    · exact (show mj_tsw 0 24 [22, 49, 76, 103, 130, 157, 174, 181, 188, 205, 232, 259, 276, 313, 330, 347, 364, 391, 418, 455, 492, 509, 516, 523, 530] 537 (nI 17) = 391 from rfl) ▸ mw_firstThrough hp hX hH hc hm
    · exact (show mj_tsw 0 24 [22, 49, 76, 103, 130, 157, 174, 181, 188, 205, 232, 259, 276, 313, 330, 347, 364, 391, 418, 455, 492, 509, 516, 523, 530] 537 (nI 18) = 418 from rfl) ▸ mw_bestSpot hp hX hH hc hm
    · exact (show mj_tsw 0 24 [22, 49, 76, 103, 130, 157, 174, 181, 188, 205, 232, 259, 276, 313, 330, 347, 364, 391, 418, 455, 492, 509, 516, 523, 530] 537 (nI 19) = 455 from rfl) ▸ mw_wear hp hX hH hc hm
    · exact (show mj_tsw 0 24 [22, 49, 76, 103, 130, 157, 174, 181, 188, 205, 232, 259, 276, 313, 330, 347, 364, 391, 418, 455, 492, 509, 516, 523, 530] 537 (nI 20) = 492 from rfl) ▸ mw_type hp hX hH hc hm
    · exact (show mj_tsw 0 24 [22, 49, 76, 103, 130, 157, 174, 181, 188, 205, 232, 259, 276, 313, 330, 347, 364, 391, 418, 455, 492, 509, 516, 523, 530] 537 (nI 21) = 509 from rfl) ▸ mw_clearText hp hX hH hc hm
    · exact (show mj_tsw 0 24 [22, 49, 76, 103, 130, 157, 174, 181, 188, 205, 232, 259, 276, 313, 330, 347, 364, 391, 418, 455, 492, 509, 516, 523, 530] 537 (nI 22) = 516 from rfl) ▸ mw_fault hp hX hH hc hm
    · exact (show mj_tsw 0 24 [22, 49, 76, 103, 130, 157, 174, 181, 188, 205, 232, 259, 276, 313, 330, 347, 364, 391, 418, 455, 492, 509, 516, 523, 530] 537 (nI 23) = 523 from rfl) ▸ mw_run hp hX hH hc hm
    · exact (show mj_tsw 0 24 [22, 49, 76, 103, 130, 157, 174, 181, 188, 205, 232, 259, 276, 313, 330, 347, 364, 391, 418, 455, 492, 509, 516, 523, 530] 537 (nI 24) = 530 from rfl) ▸ mw_reason hp hX hH hc hm
  · rw [show mj_tsw 0 24 [22, 49, 76, 103, 130, 157, 174, 181, 188, 205, 232, 259, 276, 313, 330, 347, 364, 391, 418, 455, 492, 509, 516, 523, 530] 537 x = 537 from mj_tswo (by omega)]
    exact ⟨f, g, r, s, n, D, z, Ds, L, t, w, rfl, mr_c_H hc (by omega), hm⟩
theorem mw_loop (hX : X.1 ≤ 2048) : ∀ (q k H : Nat) (f : mj_F) (g : mj_G) (r s n : Nat) (D : Nat → Int32) (z : Nat) (Ds : Nat → Nat → Int32) (L : Nat) (t : Nat → Int32) (w : Int32), X.1 ≤ 4 * (k + q) + 3 → k + q ≤ 600 → H ≤ 100 * k → mr_c f g r s n H D z Ds L t w → mr_m f D z Ds L t w → ∃ F G, mj_g X 150 10 [some (.inr (23, 0)), some (.inr (5, 0)), some (.inr (6, 0)), some (.inl (nI (4 * k)))] [] (S, f, g) = some (some (.inl (nI 1)), (S, F, G)) := by
  have eL : Int32.ofNat X.1 = nI X.1 := rfl
  intro q
  induction q with
  | zero =>
    intro k H f g r s n D z Ds L t w hk hk6 hH hc hm
    refine ⟨f, g, ?_⟩
    have c1 : (nI X.1 - nI 4 < nI (4 * k)) = True := by
      by_cases c0 : X.1 < 4
      · exact mj_sublt c0 (by omega) (by omega)
      · rw [mj_sub (by omega)]; exact mj_ltT (by omega) (by omega)
    refine Eq.trans mj_g150_10 ?_
    simp (disch := omega) only [mj_g150_11, mj_g150_12, mj_g150_13, mj_g150_14, mj_g150_15, mj_g150_539, mj_g150_540, ↓reduceIte, Option.bind_some, eL, c1, mj_chk11]
  | succ q ih =>
    intro k H f g r s n D z Ds L t w hk hk6 hH hc hm
    by_cases c0 : X.1 < 4 * k + 4
    · refine ⟨f, g, ?_⟩
      have c1 : (nI X.1 - nI 4 < nI (4 * k)) = True := by
        by_cases c0 : X.1 < 4
        · exact mj_sublt c0 (by omega) (by omega)
        · rw [mj_sub (by omega)]; exact mj_ltT (by omega) (by omega)
      refine Eq.trans mj_g150_10 ?_
      simp (disch := omega) only [mj_g150_11, mj_g150_12, mj_g150_13, mj_g150_14, mj_g150_15, mj_g150_539, mj_g150_540, ↓reduceIte, Option.bind_some, eL, c1, mj_chk11]
    · obtain ⟨f2, g2, r2, s2, n2, D2, z2, Ds2, L2, t2, w2, h1, h2, h3⟩ := mw_sw (X := X) (S := S) (p := 4 * k) (by omega) hX (by omega) hc hm (X.2 (4 * k) &&& nI 31)
      obtain ⟨F, G, e1⟩ := ih (k + 1) (H + 100) f2 g2 r2 s2 n2 D2 z2 Ds2 L2 t2 w2 (by omega) (by omega) (by omega) h2 h3
      refine ⟨F, G, ?_⟩
      rw [← e1]
      have c1 : (nI X.1 - nI 4 < nI (4 * k)) = False := by rw [mj_sub (by omega)]; exact mj_ltF (by omega) (by omega)
      have e4 : 4 * (k + 1) = 4 * k + 4 := by omega
      rw [e4]
      refine Eq.trans mj_g150_10 ?_
      simp (disch := omega) only [mj_g150_11, mj_g150_12, mj_g150_13, mj_g150_14, mj_g150_15, mj_g150_16, mj_g150_17, mj_g150_18, mj_g150_19, mj_g150_20, mj_g150_21, ↓reduceIte, Option.bind_some, eL, c1, mj_ixn]
      refine h1.trans ?_
      simp (disch := omega) only [mj_g150_537, mj_g150_538, mj_add]
theorem mi_K_e {F : mj_F} {G : mj_G} (hK : mi_K f g) (ff : ∀ k i j, k ≠ 6 → k < 18 → F k i j = f k i j) (gk : ∀ k i j, k ≠ 6 → k < 18 → G k i j = g k i j) : mi_K F G := by
  obtain ⟨⟨q1, q2, q3, q4⟩, q5, q6, ⟨q7, q8⟩, q9, q10, q11, q12, q13, q14, q15, q16, q17⟩ := hK
  refine ⟨⟨?_, ?_, ?_, ?_⟩, ?_, ?_, ⟨?_, fun k hk => ?_⟩, fun k hk => ?_, ?_, ?_, ?_, ?_, ?_, ?_, ?_, ?_⟩
  · rw [gk _ _ _ (by omega) (by omega)]; exact q1
  · rw [gk _ _ _ (by omega) (by omega)]; exact q2
  · rw [gk _ _ _ (by omega) (by omega)]; exact q3
  · rw [gk _ _ _ (by omega) (by omega)]; exact q4
  · exact mi_TG_e q5 (fun k i j hh => gk _ _ _ (by omega) (by omega))
  · exact mi_LG_e q6 (fun j => gk _ _ _ (by omega) (by omega))
  · rw [gk _ _ _ (by omega) (by omega)]; exact q7
  · rw [gk _ _ _ (by omega) (by omega)]; exact q8 k hk
  · exact mi_TG_e (q9 k hk) (fun k i j hh => gk _ _ _ (by omega) (by omega))
  · rw [gk _ _ _ (by omega) (by omega)]; exact q10
  · exact mr_L_e q11 (fun k j hk => ff _ _ _ (by omega) (by omega))
  · rw [ff _ _ _ (by omega) (by omega)]; exact q12
  · rw [ff _ _ _ (by omega) (by omega)]; exact q13
  · rw [ff _ _ _ (by omega) (by omega)]; exact q14
  · rw [ff _ _ _ (by omega) (by omega)]; exact q15
  · rw [← q16]; funext j; exact ff _ _ _ (by omega) (by omega)
  · rw [ff _ _ _ (by omega) (by omega)]; exact q17
theorem mw_law (hX : X.1 ≤ 2048) (f : mj_F) (g : mj_G) : ∃ S2 F G, mj_x X 150 [.inr (23, 0)] ([], f, g) = some (some (.inl (nI 1)), (S2, F, G)) ∧ mi_bd [] S2 123 7801 := by
  have u : ∀ (C : Nat → Nat) (k j : Nat), j ≠ k → mi_up C k j = C j := fun C k j hj => by unfold mi_up; rw [if_neg hj]
  have hC0 : mj_ct [] (fun _ => 0) := ⟨fun k i hi => absurd hi List.not_mem_nil, fun _ => rfl⟩
  obtain ⟨a1, a2, a3⟩ := mj_nw (k := 5) (a := 0) hC0 rfl
  rw [List.nil_append] at a3
  obtain ⟨S1, F1, G1, C1, e1, e2, e2b, e3, e4⟩ := mi_log (X := X) (f := mj_z f 5 0) (g := mj_n g 5 0) a3 (fun k hk h5 h6 => by rw [u _ _ _ h5])
  obtain ⟨b1, b2, b3⟩ := mj_nw (k := 6) (a := 0) e2 (by rw [e3 6 (by omega), u _ _ _ (by omega)])
  have K1 : mi_K (mj_z F1 6 0) (mj_n G1 6 0) := mi_K_e e4 (fun k i j h1 h2 => mj_z_n (by omega)) (fun k i j h1 h2 => mj_n_n (by omega))
  obtain ⟨S2, F2, G2, x1, x2, x3, x4, x5, x6, x7⟩ := mi_model (X := X) b3 (fun k k1 k2 => by rw [u _ _ _ (by omega), e3 k (by omega), u _ _ _ (by omega)]) K1
  obtain ⟨q1, q5, q6, q7, q9, q10, q11, q12, q13, q14, q15, q16, q17⟩ := x3
  have hG : mc_Ge 3 6 18 := ⟨by omega, by omega, by omega, by omega, rfl⟩
  have e142 : sp_bg 3 6 18 142 = nI 0 := rfl
  have hc : mr_c F2 G2 3 6 18 0 (F2 18 0) 0 (fun _ _ => nI 0) 0 (fun _ => nI 0) (nI 0) := mr_c_D ⟨fun j => 0 + j, ⟨q1, q5, q6, q7, q9, q10, x4, fun k hk => by show 0 ≤ 0 + k ∧ 0 + k < 0 + 4; omega, fun k q hk hq e => by have e0 : 0 + k = 0 + q := e; omega⟩, ⟨q11, sp_ok_bg hG, 0, by omega, e142, q12, fun k hk => by omega⟩, ⟨0, by omega, by omega, q13, q14, fun k hk => by omega⟩, ⟨by omega, q15, q16, fun j hj => by omega⟩, q17⟩ x5
  have hm : mr_m F2 (F2 18 0) 0 (fun _ _ => nI 0) 0 (fun _ => nI 0) (nI 0) := ⟨rfl, by rw [x6]; exact mj_z_s, fun k hk => by omega, by rw [x6]; exact mj_z_s, x7, by rw [x6]; exact mj_z_s⟩
  obtain ⟨F, G, l1⟩ := mw_loop (X := X) (S := S2) hX 600 0 0 F2 G2 3 6 18 (F2 18 0) 0 (fun _ _ => nI 0) 0 (fun _ => nI 0) (nI 0) (by omega) (by omega) (by omega) hc hm
  refine ⟨S2, F, G, ?_, mi_bd_t (mi_bd_t (mi_bd_t (show mi_bd [] [(5, 0)] 1 5 from mi_bd_a (S := []) (k := 5) rfl) e2b rfl rfl) (mi_bd_a (k := 6) (M := 12) rfl) rfl rfl) x2 rfl rfl⟩
  rw [Nat.mul_zero] at l1
  rw [← l1]
  simp only [mj_x150, mj_g150_0, mj_g150_1, mj_g150_2, mj_g150_3, mj_g150_4, mj_g150_5, mj_g150_6, mj_g150_7, mj_g150_8, mj_g150_9, a1, a2, e1, b1, b2, x1, ↓reduceIte, Option.bind_some, Option.toList_none, List.nil_append]
end LW
