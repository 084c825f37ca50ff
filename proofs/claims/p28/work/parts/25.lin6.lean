/-! Lining: laying, copies; scans -/
theorem mj_cpk {f : mj_F} {k0 i0 k1 i1 n k2 i2 j2 : Nat} (h : k2 ≠ k1) : mj_cp f k0 i0 k1 i1 n k2 i2 j2 = f k2 i2 j2 := by
  unfold mj_cp
  rw [if_neg (fun q_ => h q_.1)]
theorem mj_cpi {f : mj_F} {k0 i0 k1 i1 n k2 i2 j2 : Nat} (h : i2 ≠ i1) : mj_cp f k0 i0 k1 i1 n k2 i2 j2 = f k2 i2 j2 := by
  unfold mj_cp
  rw [if_neg (fun q_ => h q_.2.1)]
theorem mj_cpj {f : mj_F} {k0 i0 k1 i1 n j2 : Nat} (h : j2 < n) : mj_cp f k0 i0 k1 i1 n k1 i1 j2 = f k0 i0 j2 := by
  unfold mj_cp
  rw [if_pos ⟨rfl, rfl, h⟩]
def mc_fl (f : mj_F) (k a : Nat) (v : Nat → Int32) : Nat → mj_F
  | 0 => f
  | n + 1 => mj_u (mc_fl f k a v n) k a n (v n)
theorem mc_fl_o {f : mj_F} {k a n k2 i2 j2 : Nat} {v : Nat → Int32} (h : ¬ (k2 = k ∧ i2 = a ∧ j2 < n)) : mc_fl f k a v n k2 i2 j2 = f k2 i2 j2 := by
  induction n with
  | zero => rfl
  | succ n ih =>
    show (if _ then _ else _) = _
    rw [if_neg (fun q_ => h ⟨q_.1, q_.2.1, by omega⟩), ih (fun q_ => h ⟨q_.1, q_.2.1, by omega⟩)]
theorem mc_fl_j {f : mj_F} {k a n j2 : Nat} {v : Nat → Int32} (h : j2 < n) : mc_fl f k a v n k a j2 = v j2 := by
  induction n with
  | zero => omega
  | succ n ih =>
    show mj_u _ _ _ _ _ _ _ _ = _
    by_cases e_ : j2 = n
    · subst e_; exact mj_us
    · rw [mj_uj e_]; exact ih (by omega)
def mc_l1 (f : mj_F) (a r s : Nat) : mj_F := mj_u (mj_u (mj_u f 1 a 0 (nI r)) 1 a 1 (nI s)) 1 a 2 (nI (r * s))
def mc_l2 (f : mj_F) (a n : Nat) : mj_F := mc_fl (mc_fl (mc_ly f a 0 n) 10 a (fun _ => nI 10) 6) 11 a (mj_tb 0) 6
def mc_l3 (f : mj_F) (a n : Nat) : mj_F :=
  mj_u (mj_u (mj_u (mj_u (mj_u (mj_u (mj_u (mj_u f 12 a 0 (nI (n * 3000))) 12 a 1 (nI 0)) 12 a 2 (nI 0)) 12 a 3 (nI 0)) 1 a 8 (nI 0)) 1 a 9 (nI 0)) 1 a 10 (nI 1)) 1 a 11 (nI 0)
def mc_lay (f : mj_F) (a r s : Nat) : mj_F := mc_l3 (mc_l2 (mc_l1 f a r s) a (r * s)) a (r * s)
def mc_c1 (f : mj_F) (a b : Nat) : mj_F := mj_u (mj_u (mj_u f 1 a 0 (f 1 b 0)) 1 a 1 (f 1 b 1)) 1 a 2 (f 1 b 2)
def mc_c2 (f : mj_F) (a b : Nat) : mj_F := mj_cp (mj_cp (mj_cp (mj_cp (mj_cp f 8 b 8 a 60) 9 b 9 a 60) 10 b 10 a 6) 11 b 11 a 6) 12 b 12 a 4
def mc_c3 (f : mj_F) (a b : Nat) : mj_F := mj_u (mj_u (mj_u (mj_u f 1 a 8 (f 1 b 8)) 1 a 9 (f 1 b 9)) 1 a 10 (f 1 b 10)) 1 a 11 (f 1 b 11)
def mc_cf (f : mj_F) (a b : Nat) : mj_F := mc_c3 (mc_c2 (mc_c1 f a b) a b) a b
section LM
variable {X : mj_X} {S : List (Nat × Nat)} {f : mj_F} {g : mj_G} {a b r s n j q : Nat} {φ : Int32}
theorem mc_l2_1 {i2 j2 : Nat} : mc_l2 f a n 1 i2 j2 = f 1 i2 j2 := by
  unfold mc_l2
  rw [mc_fl_o (by omega), mc_fl_o (by omega), mc_ly_o (by omega)]
theorem mc_lay_a {l1 l2 l3 : Option mj_V} (hg : mc_LG g a) (hn : f 1 a 2 = nI n) (h60 : n ≤ 60) : mj_g X 4 11 [some (.inr (1, a)), l1, l2, l3] [] (S, f, g) = mj_g X 4 55 [some (.inr (1, a)), l1, l2, some (.inl (nI 6))] [] (S, mc_l2 f a n, g) := by
  have hl1 := mj_loop (fun k => mj_g X 4 13 [some (.inr (1, a)), l1, l2, some (.inl (nI (0 + k)))] [] (S, mc_ly f a 0 k, g)) n (fun k hk => by
    have e1 : mc_ly f a 0 k 1 a 2 = nI n := by rw [mc_ly_o (by omega)]; exact hn
    refine Eq.trans mj_g4_13 ?_
    simp (disch := omega) only [mj_g4_14, mj_g4_15, mj_g4_16, mj_g4_17, mj_g4_18, mj_g4_19, mj_g4_20, mj_g4_21, mj_g4_22, mj_g4_23, mj_g4_24, mj_g4_25, mj_g4_26, mj_g4_27, mj_g4_28, ↓reduceIte, Option.bind_some, Option.toList_some, Option.toList_none, List.cons_append, List.nil_append, mj_ixn, mj_add, mj_mul, mj_sub, mj_dv, mj_rmn, mj_ltT, mj_ltF, mj_leT, mj_leF, mj_eqT, mj_eqF, mj_z0T, mj_z0F, mj_bo0, mj_boc, mj_chk10, mj_chk11, hg.1, hg.2.1, e1]
    rfl)
  have hl2 := mj_loop (fun k => mj_g X 4 31 [some (.inr (1, a)), l1, l2, some (.inl (nI k))] [] (S, mc_fl (mc_ly f a 0 n) 10 a (fun _ => nI 10) k, g)) 6 (fun k hk => by
    refine Eq.trans mj_g4_31 ?_
    simp (disch := omega) only [mj_g4_32, mj_g4_33, mj_g4_34, mj_g4_35, mj_g4_36, mj_g4_37, mj_g4_38, mj_g4_39, mj_g4_40, ↓reduceIte, Option.bind_some, Option.toList_some, Option.toList_none, List.cons_append, List.nil_append, mj_ixn, mj_add, mj_mul, mj_sub, mj_dv, mj_rmn, mj_ltT, mj_ltF, mj_leT, mj_leF, mj_eqT, mj_eqF, mj_z0T, mj_z0F, mj_bo0, mj_boc, mj_chk10, mj_chk11, hg.2.2.1]
    rfl)
  have hl3 := mj_loop (fun k => mj_g X 4 43 [some (.inr (1, a)), l1, l2, some (.inl (nI k))] [] (S, mc_fl (mc_fl (mc_ly f a 0 n) 10 a (fun _ => nI 10) 6) 11 a (mj_tb 0) k, g)) 6 (fun k hk => by
    refine Eq.trans mj_g4_43 ?_
    simp (disch := omega) only [mj_g4_44, mj_g4_45, mj_g4_46, mj_g4_47, mj_g4_48, mj_g4_49, mj_g4_50, mj_g4_51, mj_g4_52, mj_g4_53, mj_g4_54, ↓reduceIte, Option.bind_some, Option.toList_some, Option.toList_none, List.cons_append, List.nil_append, mj_ixn, mj_add, mj_mul, mj_sub, mj_dv, mj_rmn, mj_ltT, mj_ltF, mj_leT, mj_leF, mj_eqT, mj_eqF, mj_z0T, mj_z0F, mj_bo0, mj_boc, mj_chk10, mj_chk11, hg.2.2.2.1]
    rfl)
  have e1 : mc_ly f a 0 n 1 a 2 = nI n := by rw [mc_ly_o (by omega)]; exact hn
  simp (disch := omega) only [mj_g4_11, mj_g4_12]
  refine Eq.trans ?_ (hl1.trans ?_)
  · rfl
  simp (disch := omega) only [mj_g4_13, mj_g4_14, mj_g4_15, mj_g4_16, mj_g4_29, mj_g4_30, ↓reduceIte, Option.bind_some, Option.toList_some, Option.toList_none, List.cons_append, List.nil_append, mj_ixn, mj_add, mj_mul, mj_sub, mj_dv, mj_rmn, mj_ltT, mj_ltF, mj_leT, mj_leF, mj_eqT, mj_eqF, mj_z0T, mj_z0F, mj_bo0, mj_boc, mj_chk10, mj_chk11, e1]
  refine Eq.trans ?_ (hl2.trans ?_)
  · rfl
  simp (disch := omega) only [mj_g4_31, mj_g4_32, mj_g4_33, mj_g4_41, mj_g4_42, ↓reduceIte, Option.bind_some, Option.toList_some, Option.toList_none, List.cons_append, List.nil_append, mj_ixn, mj_add, mj_mul, mj_sub, mj_dv, mj_rmn, mj_ltT, mj_ltF, mj_leT, mj_leF, mj_eqT, mj_eqF, mj_z0T, mj_z0F, mj_bo0, mj_boc, mj_chk10, mj_chk11]
  refine Eq.trans ?_ (hl3.trans ?_)
  · rfl
  simp (disch := omega) only [mj_g4_43, mj_g4_44, mj_g4_45, ↓reduceIte, Option.bind_some, Option.toList_some, Option.toList_none, List.cons_append, List.nil_append, mj_ixn, mj_add, mj_mul, mj_sub, mj_dv, mj_rmn, mj_ltT, mj_ltF, mj_leT, mj_leF, mj_eqT, mj_eqF, mj_z0T, mj_z0F, mj_bo0, mj_boc, mj_chk10, mj_chk11]
  rfl
theorem mc_layNew (hg : mc_LG g a) (hG : mc_Ge r s n) : mj_x X 4 [.inr (1, a), .inl (nI r), .inl (nI s)] (S, f, g) = some (none, (S, mc_lay f a r s, g)) := by
  have h60 := hG.n60
  obtain ⟨h1, h2, h3, h4, h5⟩ := hG
  rw [h5] at h60
  have e1 : mc_l1 f a r s 1 a 2 = nI (r * s) := by unfold mc_l1; rw [mj_us]
  have e2 : mc_l2 (mc_l1 f a r s) a (r * s) 1 a 2 = nI (r * s) := by rw [mc_l2_1]; exact e1
  simp (disch := omega) only [mj_x4, mj_g4_0, mj_g4_1, mj_g4_2, mj_g4_3, mj_g4_4, mj_g4_5, mj_g4_6, mj_g4_7, mj_g4_8, mj_g4_9, mj_g4_10, mj_mul]
  refine Eq.trans (mc_lay_a (f := mc_l1 f a r s) hg e1 h60) ?_
  unfold mc_lay
  generalize mc_l2 (mc_l1 f a r s) a (r * s) = F at e2 ⊢
  simp (disch := omega) only [mj_g4_55, mj_g4_56, mj_g4_57, mj_g4_58, mj_g4_59, mj_g4_60, mj_g4_61, mj_g4_62, mj_g4_63, mj_g4_64, mj_g4_65, mj_g4_66, mj_g4_67, mj_g4_68, mj_g4_69, mj_g4_70, mj_g4_71, mj_g4_72, mj_g4_73, mj_g4_74, mj_g4_75, mj_g4_76, mj_g4_77, mj_g4_78, mj_g4_79, mj_g4_80, mj_g4_81, mj_g4_82, mj_g4_83, mj_g4_84, mj_g4_85, mj_g4_86, mj_g4_87, mj_g4_88, mj_g4_89, mj_g4_90, ↓reduceIte, Option.bind_some, Option.toList_some, Option.toList_none, List.cons_append, List.nil_append, mj_ixn, mj_add, mj_mul, mj_sub, mj_dv, mj_rmn, mj_ltT, mj_ltF, mj_leT, mj_leF, mj_eqT, mj_eqF, mj_z0T, mj_z0F, mj_bo0, mj_boc, mj_chk10, mj_chk11, hg.2.2.2.2.1, e2]
  rfl
theorem mc_copyLining (hg : mc_LG g a) (hb : mc_LG g b) (hab : b ≠ a) (hov : mj_chk 1 (f 1 b 11) = true) : mj_x X 5 [.inr (1, a), .inr (1, b)] (S, f, g) = some (none, (S, mc_cf f a b, g)) := by
  obtain ⟨g3, g4, g5, g6, g7, g8⟩ := hg
  obtain ⟨k3, k4, k5, k6, k7, k8⟩ := hb
  simp (disch := omega) only [mj_x5, mj_g5_0, mj_g5_1, mj_g5_2, mj_g5_3, mj_g5_4, mj_g5_5, mj_g5_6, mj_g5_7, mj_g5_8, mj_g5_9, mj_g5_10, mj_g5_11, mj_g5_12, mj_g5_13, mj_g5_14, mj_g5_15, mj_g5_16, mj_g5_17, mj_g5_18, mj_g5_19, mj_g5_20, mj_g5_21, mj_g5_22, mj_g5_23, mj_g5_24, mj_g5_25, mj_g5_26, mj_g5_27, mj_g5_28, mj_g5_29, mj_g5_30, mj_g5_31, mj_g5_32, mj_g5_33, mj_g5_34, mj_g5_35, mj_g5_36, mj_g5_37, mj_g5_38, mj_g5_39, mj_g5_40, mj_g5_41, mj_g5_42, mj_g5_43, mj_g5_44, mj_g5_45, mj_g5_46, mj_g5_47, mj_g5_48, mj_g5_49, mj_g5_50, mj_g5_51, mj_g5_52, mj_g5_53, mj_g5_54, mj_g5_55, mj_g5_56, mj_g5_57, mj_g5_58, mj_g5_59, mj_g5_60, mj_g5_61, mj_g5_62, mj_g5_63, mj_g5_64, mj_g5_65, mj_g5_66, mj_g5_67, mj_g5_68, ↓reduceIte, Option.bind_some, Option.toList_some, Option.toList_none, List.cons_append, List.nil_append, mj_ixn, mj_add, mj_mul, mj_sub, mj_dv, mj_rmn, mj_ltT, mj_ltF, mj_leT, mj_leF, mj_eqT, mj_eqF, mj_z0T, mj_z0F, mj_bo0, mj_boc, mj_chk10, mj_chk11, g3, g4, g5, g6, g7, k3, k4, k5, k6, k7, mj_ui, mj_cpk, hov]
  unfold mc_cf mc_c3 mc_c2 mc_c1
  simp (disch := omega) only [mj_ui, mj_cpk]
end LM
