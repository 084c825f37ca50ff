/-! the reference: a heat -/
theorem md_T_e {f F : mj_F} {m : Nat} (h : F 18 m = f 18 m) : md_T F m = md_T f m := by
  unfold md_T
  rw [h]
theorem md_W_e {f F : mj_F} {m s n : Nat} {φ : Int32} (h : F 18 m = f 18 m) : md_W F m s n φ = md_W f m s n φ := by
  have h2 := md_T_e h
  funext j
  unfold md_W md_W0
  rw [h2, h]
theorem mc_fl_e {f : mj_F} {k a n k2 : Nat} {v : Nat → Int32} (h : k2 ≠ k) : mc_fl f k a v n k2 = f k2 := by
  funext i2 j2
  exact mc_fl_o (fun q_ => h q_.1)
theorem md_wr_o {f : mj_F} {m j k2 i2 j2 : Nat} {w : Int32} (h : ¬ (k2 = 18 ∧ i2 = m ∧ (j2 = 22 + j ∨ j2 = 82 + j))) : md_wr f m j w k2 i2 j2 = f k2 i2 j2 := by
  unfold md_wr mj_u
  split
  · show (if _ then _ else (if _ then _ else _)) = _
    rw [if_neg (fun q_ => h ⟨q_.1, q_.2.1, .inl q_.2.2⟩), if_neg (fun q_ => h ⟨q_.1, q_.2.1, .inr q_.2.2⟩)]
  · show (if _ then _ else _) = _
    rw [if_neg (fun q_ => h ⟨q_.1, q_.2.1, .inr q_.2.2⟩)]
theorem md_wr_8 {f : mj_F} {m j : Nat} {w : Int32} : md_wr f m j w 18 m (22 + j) = mp_b (f 18 m (22 + j)) (f 18 m (82 + j)) w := by
  unfold md_wr mp_b
  split
  · exact mj_us
  · exact mj_uj (by omega)
theorem md_wr_9 {f : mj_F} {m j : Nat} {w : Int32} : md_wr f m j w 18 m (82 + j) = mp_l (f 18 m (82 + j)) w := by
  unfold md_wr mp_l
  split
  · rw [mj_uj (by omega)]; exact mj_us
  · exact mj_us
def md_ws (f : mj_F) (m : Nat) (W : Nat → Int32) : Nat → mj_F
  | 0 => f
  | n + 1 => md_wr (md_ws f m W n) m n (W n)
theorem md_ws_o {f : mj_F} {m n k2 i2 j2 : Nat} {W : Nat → Int32} (h : ¬ (k2 = 18 ∧ i2 = m ∧ ((22 ≤ j2 ∧ j2 < 22 + n) ∨ (82 ≤ j2 ∧ j2 < 82 + n)))) : md_ws f m W n k2 i2 j2 = f k2 i2 j2 := by
  induction n with
  | zero => rfl
  | succ n ih =>
    show md_wr _ _ _ _ _ _ _ = _
    rw [md_wr_o (fun q_ => h ⟨q_.1, q_.2.1, by omega⟩), ih (fun q_ => h ⟨q_.1, q_.2.1, by omega⟩)]
theorem md_ws_8 {f : mj_F} {m n j : Nat} {W : Nat → Int32} (h : j < n) (hn : n ≤ 60) : md_ws f m W n 18 m (22 + j) = mp_b (f 18 m (22 + j)) (f 18 m (82 + j)) (W j) := by
  induction n with
  | zero => omega
  | succ n ih =>
    show md_wr _ _ _ _ _ _ _ = _
    by_cases e_ : j = n
    · subst e_
      rw [md_wr_8, md_ws_o (by omega), md_ws_o (by omega)]
    · rw [md_wr_o (by omega), ih (by omega) (by omega)]
theorem md_ws_9 {f : mj_F} {m n j : Nat} {W : Nat → Int32} (h : j < n) (hn : n ≤ 60) : md_ws f m W n 18 m (82 + j) = mp_l (f 18 m (82 + j)) (W j) := by
  induction n with
  | zero => omega
  | succ n ih =>
    show md_wr _ _ _ _ _ _ _ = _
    by_cases e_ : j = n
    · subst e_
      rw [md_wr_9, md_ws_o (by omega)]
    · rw [md_wr_o (by omega), ih (by omega) (by omega)]
def md_rs (f : mj_F) (m : Nat) : Nat → mj_F
  | 0 => f
  | n + 1 => mj_u (mj_u (md_rs f m n) 18 m 21 (md_rs f m n 18 m 21 + md_rs f m n 18 m (82 + n) / nI 2)) 18 m (82 + n) (md_rs f m n 18 m (82 + n) - md_rs f m n 18 m (82 + n) / nI 2)
theorem md_rs_o {f : mj_F} {m n k2 i2 j2 : Nat} (h : ¬ (k2 = 18 ∧ i2 = m ∧ (j2 = 21 ∨ (82 ≤ j2 ∧ j2 < 82 + n)))) : md_rs f m n k2 i2 j2 = f k2 i2 j2 := by
  induction n with
  | zero => rfl
  | succ n ih =>
    show (if _ then _ else (if _ then _ else _)) = _
    rw [if_neg (fun q_ => h ⟨q_.1, q_.2.1, by omega⟩), if_neg (fun q_ => h ⟨q_.1, q_.2.1, by omega⟩), ih (fun q_ => h ⟨q_.1, q_.2.1, by omega⟩)]
theorem md_rs_9 {f : mj_F} {m n j : Nat} (h : j < n) : md_rs f m n 18 m (82 + j) = f 18 m (82 + j) - f 18 m (82 + j) / nI 2 := by
  induction n with
  | zero => omega
  | succ n ih =>
    show mj_u _ _ _ _ _ _ _ _ = _
    by_cases e_ : j = n
    · subst e_
      rw [mj_us, md_rs_o (by omega)]
    · rw [mj_uj (by omega), mj_uj (by omega), ih (by omega)]
theorem md_rs_21 {f : mj_F} {m n : Nat} : md_rs f m n 18 m 21 = f 18 m 21 + mc_sm (fun j => f 18 m (82 + j) / nI 2) n := by
  induction n with
  | zero =>
    show _ = _ + nI 0
    rw [nI_0, Int32.add_zero]
    rfl
  | succ n ih =>
    show mj_u _ _ _ _ _ _ _ _ = _
    rw [mj_uj (by omega), mj_us, ih, md_rs_o (by omega), Int32.add_assoc]
    rfl
def md_ov (f : mj_F) (m : Nat) : Nat → mj_F
  | 0 => f
  | n + 1 => mj_u (md_ov f m n) 18 m 5 (if md_T f m n < f 18 m 12 then nI 1 else md_ov f m n 18 m 5)
theorem md_ov_o {f : mj_F} {m n k2 i2 j2 : Nat} (h : ¬ (k2 = 18 ∧ i2 = m ∧ j2 = 5)) : md_ov f m n k2 i2 j2 = f k2 i2 j2 := by
  induction n with
  | zero => rfl
  | succ n ih =>
    show (if _ then _ else _) = _
    rw [if_neg h, ih]
def md_h1 (f : mj_F) (m s n : Nat) (φ : Int32) : mj_F := md_ws (mc_fl f 21 m (md_W f m s n φ) n) m (md_W f m s n φ) n
def md_hx (f : mj_F) (m s n : Nat) (φ : Int32) : Int32 := mc_sm (fun j => mp_x (f 18 m (22 + j)) (f 18 m (82 + j)) (md_W f m s n φ j)) n
def md_h2 (f : mj_F) (m : Nat) (x : Int32) : mj_F := mj_u (mj_u (mj_u f 18 m 20 (f 18 m 20 + x)) 18 m 2 (f 18 m 2 + nI 1)) 18 m 3 (f 18 m 3 + nI 1)
def md_h3 (f : mj_F) (m n : Nat) : mj_F := if mj_rem (f 18 m 3) (f 18 m 17) = 0 then md_rs f m n else f
def md_ht (f : mj_F) (m s n : Nat) (φ : Int32) : mj_F := md_ov (md_h3 (md_h2 (md_h1 f m s n φ) m (md_hx f m s n φ)) m n) m n
section MH
variable {X : mj_X} {S : List (Nat × Nat)} {f : mj_F} {g : mj_G} {m r s n j : Nat} {x y q w t sl φ : Int32} {l1 l2 l4 : Option mj_V}
theorem md_ht_c (hg : g 6 m 0 = some (18, m)) (hO : md_O f m r s n) : mj_g X 103 111 [some (.inr (6, m)), l1, l2, some (.inl x), l4] [] (S, f, g) = some (some (.inl x), (S, md_ov f m n, g)) := by
  have h60 := hO.2.2.n60
  have hO2 : ∀ k, md_O (md_ov f m k) m r s n := fun k => ⟨by rw [md_ov_o (by omega)]; exact hO.1, by rw [md_ov_o (by omega)]; exact hO.2.1, hO.2.2⟩
  have hl := mj_loop (fun k => mj_g X 103 113 [some (.inr (6, m)), l1, l2, some (.inl x), some (.inl (nI k))] [] (S, md_ov f m k, g)) n (fun k hk => by
    have e1 : md_T (md_ov f m k) m k = md_T f m k := by
      unfold md_T
      rw [md_ov_o (by omega), md_ov_o (by omega)]
    have e2 : md_ov f m k 18 m 12 = f 18 m 12 := md_ov_o (by omega)
    refine Eq.trans mj_g103_113 ?_
    show _ = mj_g X 103 113 _ _ (S, mj_u (md_ov f m k) 18 m 5 (if md_T f m k < f 18 m 12 then nI 1 else md_ov f m k 18 m 5), g)
    by_cases c1 : md_T f m k < f 18 m 12
    · simp (disch := omega) only [mj_g103_114, mj_g103_115, mj_g103_116, mj_g103_117, mj_g103_118, mj_g103_119, mj_g103_120, mj_g103_121, mj_g103_122, mj_g103_123, mj_g103_124, mj_g103_125, mj_g103_126, mj_g103_127, mj_g103_128, mj_g103_129, mj_g103_130, mj_g103_131, mj_g103_132, mj_g103_133, mj_g103_134, mj_g103_135, mj_g103_136, ↓reduceIte, Option.bind_some, Option.toList_some, Option.toList_none, List.cons_append, List.nil_append, mj_ixn, mj_add, mj_mul, mj_sub, mj_dv, mj_rmn, mj_ltT, mj_ltF, mj_leT, mj_leF, mj_eqT, mj_eqF, mj_z0T, mj_z0F, mj_bo0, mj_boc, mj_chk10, mj_chk11, hg, md_spots hg (hO2 k), md_thick hg, e1, e2, c1, eq_false (Int32.not_le.mpr c1)]
    · simp (disch := omega) only [mj_g103_114, mj_g103_115, mj_g103_116, mj_g103_117, mj_g103_118, mj_g103_119, mj_g103_120, mj_g103_121, mj_g103_122, mj_g103_123, mj_g103_124, mj_g103_125, mj_g103_126, mj_g103_127, mj_g103_128, mj_g103_129, mj_g103_130, mj_g103_131, mj_g103_132, mj_g103_133, mj_g103_134, mj_g103_135, mj_g103_136, ↓reduceIte, Option.bind_some, Option.toList_some, Option.toList_none, List.cons_append, List.nil_append, mj_ixn, mj_add, mj_mul, mj_sub, mj_dv, mj_rmn, mj_ltT, mj_ltF, mj_leT, mj_leF, mj_eqT, mj_eqF, mj_z0T, mj_z0F, mj_bo0, mj_boc, mj_chk10, mj_chk11, hg, md_spots hg (hO2 k), md_thick hg, e1, e2, c1, eq_true (Int32.not_lt.mp c1)])
  simp (disch := omega) only [mj_g103_111, mj_g103_112]
  refine Eq.trans ?_ (hl.trans ?_)
  · rfl
  · simp (disch := omega) only [mj_g103_113, mj_g103_114, mj_g103_115, mj_g103_116, mj_g103_137, mj_g103_138, ↓reduceIte, Option.bind_some, Option.toList_some, Option.toList_none, List.cons_append, List.nil_append, mj_ixn, mj_add, mj_mul, mj_sub, mj_dv, mj_rmn, mj_ltT, mj_ltF, mj_leT, mj_leF, mj_eqT, mj_eqF, mj_z0T, mj_z0F, mj_bo0, mj_boc, mj_chk10, mj_chk11, md_spots hg (hO2 n)]
theorem md_ht_b (hg : g 6 m 0 = some (18, m)) (hO : md_O f m r s n) (h17 : ¬ f 18 m 17 = 0) : mj_g X 103 61 [some (.inr (6, m)), l1, l2, some (.inl x), l4] [] (S, f, g) = some (some (.inl x), (S, md_ov (md_h3 f m n) m n, g)) := by
  have h60 := hO.2.2.n60
  have h2z : (nI 2 = 0) = False := eq_false (by decide)
  have h3n := hO.2.2.sn
  have h3s := hO.2.2.2.2.1
  by_cases c0 : mj_rem (f 18 m 3) (f 18 m 17) = 0
  · have e0 : md_h3 f m n = md_rs f m n := by unfold md_h3; rw [if_pos c0]
    rw [e0]
    have hO2 : ∀ k, md_O (md_rs f m k) m r s n := fun k => ⟨by rw [md_rs_o (by omega)]; exact hO.1, by rw [md_rs_o (by omega)]; exact hO.2.1, hO.2.2⟩
    have hl := mj_loop (fun k => mj_g X 103 63 [some (.inr (6, m)), l1, l2, some (.inl x), some (.inl (nI k))] [] (S, md_rs f m k, g)) n (fun k hk => by
      have e1 : md_rs f m k 18 m 3 = f 18 m 3 := md_rs_o (by omega)
      have e2 : md_rs f m k 18 m 17 = f 18 m 17 := md_rs_o (by omega)
      refine Eq.trans mj_g103_63 ?_
      simp (disch := omega) only [mj_g103_64, mj_g103_65, mj_g103_66, mj_g103_67, mj_g103_68, mj_g103_69, mj_g103_70, mj_g103_71, mj_g103_72, mj_g103_73, mj_g103_74, mj_g103_75, mj_g103_76, mj_g103_77, mj_g103_78, mj_g103_79, mj_g103_80, mj_g103_81, mj_g103_82, mj_g103_83, mj_g103_84, mj_g103_85, mj_g103_86, mj_g103_87, mj_g103_88, mj_g103_89, mj_g103_90, mj_g103_91, mj_g103_92, mj_g103_93, mj_g103_94, mj_g103_95, mj_g103_96, mj_g103_97, mj_g103_98, mj_g103_99, mj_g103_100, mj_g103_101, mj_g103_102, mj_g103_103, mj_g103_104, mj_g103_105, mj_g103_106, mj_g103_107, mj_g103_108, mj_g103_109, mj_g103_110, ↓reduceIte, Option.bind_some, Option.toList_some, Option.toList_none, List.cons_append, List.nil_append, mj_ixn, mj_add, mj_mul, mj_sub, mj_dv, mj_rmn, mj_ltT, mj_ltF, mj_leT, mj_leF, mj_eqT, mj_eqF, mj_z0T, mj_z0F, mj_bo0, mj_boc, mj_chk10, mj_chk11, hg, md_spots hg (hO2 k), e1, e2, h17, c0, mj_uj]
      rfl)
    simp (disch := omega) only [mj_g103_61, mj_g103_62]
    refine Eq.trans ?_ (hl.trans ?_)
    · rfl
    · have z1 := md_ht_c (X := X) (S := S) (l1 := l1) (l2 := l2) (x := x) (l4 := some (.inl (nI n))) hg (hO2 n)
      simp (disch := omega) only [mj_g103_63, mj_g103_64, mj_g103_65, mj_g103_66, ↓reduceIte, Option.bind_some, Option.toList_some, Option.toList_none, List.cons_append, List.nil_append, mj_ixn, mj_add, mj_mul, mj_sub, mj_dv, mj_rmn, mj_ltT, mj_ltF, mj_leT, mj_leF, mj_eqT, mj_eqF, mj_z0T, mj_z0F, mj_bo0, mj_boc, mj_chk10, mj_chk11, md_spots hg (hO2 n)]
      exact z1
  · have e0 : md_h3 f m n = f := by unfold md_h3; rw [if_neg c0]
    rw [e0]
    have z1 := md_ht_c (X := X) (S := S) (l1 := l1) (l2 := l2) (x := x) (l4 := some (.inl (nI 0))) hg hO
    simp (disch := omega) only [mj_g103_61, mj_g103_62, mj_g103_63, mj_g103_64, mj_g103_65, mj_g103_66, mj_g103_67, mj_g103_68, mj_g103_69, mj_g103_70, mj_g103_71, mj_g103_72, mj_g103_73, mj_g103_74, mj_g103_75, mj_g103_76, ↓reduceIte, Option.bind_some, Option.toList_some, Option.toList_none, List.cons_append, List.nil_append, mj_ixn, mj_add, mj_mul, mj_sub, mj_dv, mj_rmn, mj_ltT, mj_ltF, mj_leT, mj_leF, mj_eqT, mj_eqF, mj_z0T, mj_z0F, mj_bo0, mj_boc, mj_chk10, mj_chk11, hg, md_spots hg hO, h17, c0]
    exact z1
theorem md_heats (hg : g 6 m 0 = some (18, m)) (hg5 : g 6 m 5 = some (21, m)) (hO : md_O f m r s n) (h13 : ¬ f 18 m 13 = 0) (h17 : ¬ f 18 m 17 = 0) : mj_x X 103 [.inr (6, m), .inl t, .inl sl] (S, f, g) = some (some (.inl (md_hx f m s n (md_fo t sl))), (S, md_ht f m s n (md_fo t sl), g)) := by
  have h60 := hO.2.2.n60
  have E1 : ∀ k, mc_fl f 21 m (md_W f m s n (md_fo t sl)) k 18 = f 18 := fun k => mc_fl_e (by decide)
  have O1 : ∀ k, md_O (mc_fl f 21 m (md_W f m s n (md_fo t sl)) k) m r s n := fun k => ⟨by rw [E1]; exact hO.1, by rw [E1]; exact hO.2.1, hO.2.2⟩
  have hl1 := mj_loop (fun k => mj_g X 103 2 [some (.inr (6, m)), some (.inl t), some (.inl sl), some (.inl (nI k)), none] [] (S, mc_fl f 21 m (md_W f m s n (md_fo t sl)) k, g)) n (fun k hk => by
    have w1 := md_wearOf (X := X) (S := S) (t := t) (sl := sl) hg (O1 k) hk (by rw [E1]; exact h13)
    rw [md_W_e (F := mc_fl f 21 m (md_W f m s n (md_fo t sl)) k) (f := f) (by rw [E1])] at w1
    refine Eq.trans mj_g103_2 ?_
    simp (disch := omega) only [mj_g103_3, mj_g103_4, mj_g103_5, mj_g103_6, mj_g103_7, mj_g103_8, mj_g103_9, mj_g103_10, mj_g103_11, mj_g103_12, mj_g103_13, mj_g103_14, mj_g103_15, mj_g103_16, ↓reduceIte, Option.bind_some, Option.toList_some, Option.toList_none, List.cons_append, List.nil_append, mj_ixn, mj_add, mj_mul, mj_sub, mj_dv, mj_rmn, mj_ltT, mj_ltF, mj_leT, mj_leF, mj_eqT, mj_eqF, mj_z0T, mj_z0F, mj_bo0, mj_boc, mj_chk10, mj_chk11, hg5, md_spots hg (O1 k), w1]
    rfl)
  have O2 : ∀ k, k ≤ n → md_O (md_ws (mc_fl f 21 m (md_W f m s n (md_fo t sl)) n) m (md_W f m s n (md_fo t sl)) k) m r s n := fun k hk => ⟨by rw [md_ws_o (by omega)]; exact (O1 n).1, by rw [md_ws_o (by omega)]; exact (O1 n).2.1, hO.2.2⟩
  have hl2 := mj_loop (fun k => mj_g X 103 21 [some (.inr (6, m)), some (.inl t), some (.inl sl), some (.inl (mc_sm (fun j => mp_x (f 18 m (22 + j)) (f 18 m (82 + j)) (md_W f m s n (md_fo t sl) j)) k)), some (.inl (nI k))] [] (S, md_ws (mc_fl f 21 m (md_W f m s n (md_fo t sl)) n) m (md_W f m s n (md_fo t sl)) k, g)) n (fun k hk => by
    have e1 : md_ws (mc_fl f 21 m (md_W f m s n (md_fo t sl)) n) m (md_W f m s n (md_fo t sl)) k 21 m k = md_W f m s n (md_fo t sl) k := by rw [md_ws_o (by omega), mc_fl_j hk]
    have e2 : md_ws (mc_fl f 21 m (md_W f m s n (md_fo t sl)) n) m (md_W f m s n (md_fo t sl)) k 18 m (22 + k) = f 18 m (22 + k) := by rw [md_ws_o (by omega), E1]
    have e3 : md_ws (mc_fl f 21 m (md_W f m s n (md_fo t sl)) n) m (md_W f m s n (md_fo t sl)) k 18 m (82 + k) = f 18 m (82 + k) := by rw [md_ws_o (by omega), E1]
    have w1 := md_wears (X := X) (S := S) (f := md_ws (mc_fl f 21 m (md_W f m s n (md_fo t sl)) n) m (md_W f m s n (md_fo t sl)) k) (w := md_W f m s n (md_fo t sl) k) (j := k) hg (by omega)
    rw [e2, e3] at w1
    refine Eq.trans mj_g103_21 ?_
    simp (disch := omega) only [mj_g103_22, mj_g103_23, mj_g103_24, mj_g103_25, mj_g103_26, mj_g103_27, mj_g103_28, mj_g103_29, mj_g103_30, mj_g103_31, mj_g103_32, mj_g103_33, mj_g103_34, mj_g103_35, mj_g103_36, ↓reduceIte, Option.bind_some, Option.toList_some, Option.toList_none, List.cons_append, List.nil_append, mj_ixn, mj_add, mj_mul, mj_sub, mj_dv, mj_rmn, mj_ltT, mj_ltF, mj_leT, mj_leF, mj_eqT, mj_eqF, mj_z0T, mj_z0F, mj_bo0, mj_boc, mj_chk10, mj_chk11, hg5, md_spots hg (O2 k (by omega)), e1, w1]
    rfl)
  simp (disch := omega) only [mj_x103, mj_g103_0, mj_g103_1]
  refine Eq.trans ?_ (hl1.trans ?_)
  · rfl
  simp (disch := omega) only [mj_g103_2, mj_g103_3, mj_g103_4, mj_g103_5, mj_g103_17, mj_g103_18, mj_g103_19, mj_g103_20, ↓reduceIte, Option.bind_some, Option.toList_some, Option.toList_none, List.cons_append, List.nil_append, mj_ixn, mj_add, mj_mul, mj_sub, mj_dv, mj_rmn, mj_ltT, mj_ltF, mj_leT, mj_leF, mj_eqT, mj_eqF, mj_z0T, mj_z0F, mj_bo0, mj_boc, mj_chk10, mj_chk11, md_spots hg (O1 n)]
  refine Eq.trans ?_ (hl2.trans ?_)
  · rfl
  have O3 := O2 n (Nat.le_refl n)
  have z17 : ¬ md_ws (mc_fl f 21 m (md_W f m s n (md_fo t sl)) n) m (md_W f m s n (md_fo t sl)) n 18 m 17 = 0 := by rw [md_ws_o (by omega), E1]; exact h17
  simp (disch := omega) only [mj_g103_21, mj_g103_22, mj_g103_23, mj_g103_24, ↓reduceIte, Option.bind_some, Option.toList_some, Option.toList_none, List.cons_append, List.nil_append, mj_ixn, mj_add, mj_mul, mj_sub, mj_dv, mj_rmn, mj_ltT, mj_ltF, mj_leT, mj_leF, mj_eqT, mj_eqF, mj_z0T, mj_z0F, mj_bo0, mj_boc, mj_chk10, mj_chk11, md_spots hg O3]
  show _ = some (some (Sum.inl (md_hx f m s n (md_fo t sl))), (S, md_ov (md_h3 (md_h2 (md_ws (mc_fl f 21 m (md_W f m s n (md_fo t sl)) n) m (md_W f m s n (md_fo t sl)) n) m (md_hx f m s n (md_fo t sl))) m n) m n, g))
  show mj_g X 103 37 [_, _, _, some (Sum.inl (md_hx f m s n (md_fo t sl))), _] [] _ = _
  generalize md_ws (mc_fl f 21 m (md_W f m s n (md_fo t sl)) n) m (md_W f m s n (md_fo t sl)) n = F at O3 z17 ⊢
  have z1 := md_ht_b (X := X) (S := S) (f := md_h2 F m (md_hx f m s n (md_fo t sl))) (l1 := some (.inl t)) (l2 := some (.inl sl)) (x := md_hx f m s n (md_fo t sl)) (l4 := some (.inl (nI n))) hg ⟨by unfold md_h2; rw [mj_uj (by decide), mj_uj (by decide), mj_uj (by decide)]; exact O3.1, by unfold md_h2; rw [mj_uj (by decide), mj_uj (by decide), mj_uj (by decide)]; exact O3.2.1, O3.2.2⟩ (by unfold md_h2; rw [mj_uj (by decide), mj_uj (by decide), mj_uj (by decide)]; exact z17)
  rw [← z1]
  unfold md_h2
  simp (disch := omega) only [mj_g103_37, mj_g103_38, mj_g103_39, mj_g103_40, mj_g103_41, mj_g103_42, mj_g103_43, mj_g103_44, mj_g103_45, mj_g103_46, mj_g103_47, mj_g103_48, mj_g103_49, mj_g103_50, mj_g103_51, mj_g103_52, mj_g103_53, mj_g103_54, mj_g103_55, mj_g103_56, mj_g103_57, mj_g103_58, mj_g103_59, mj_g103_60, ↓reduceIte, Option.bind_some, Option.toList_some, Option.toList_none, List.cons_append, List.nil_append, mj_ixn, mj_add, mj_mul, mj_sub, mj_dv, mj_rmn, mj_ltT, mj_ltF, mj_leT, mj_leF, mj_eqT, mj_eqF, mj_z0T, mj_z0F, mj_bo0, mj_boc, mj_chk10, mj_chk11, hg, mj_uj]
end MH
