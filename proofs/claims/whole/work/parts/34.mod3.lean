/-! the reference: relining, questions, plans -/
def md_ly (f : mj_F) (m b : Nat) : Nat → mj_F
  | 0 => f
  | n + 1 => mj_u (mj_u (mj_u (md_ly f m b n) 18 m (22 + (b + n)) (nI 3000)) 18 m (82 + (b + n)) (nI 0)) 18 m 18 (md_ly f m b n 18 m 18 + nI 3000)
theorem md_ly_o {f : mj_F} {m b n k2 i2 j2 : Nat} (h : ¬ (k2 = 18 ∧ i2 = m ∧ (j2 = 18 ∨ (22 + b ≤ j2 ∧ j2 < 22 + b + n) ∨ (82 + b ≤ j2 ∧ j2 < 82 + b + n)))) : md_ly f m b n k2 i2 j2 = f k2 i2 j2 := by
  induction n with
  | zero => rfl
  | succ n ih =>
    show (if _ then _ else (if _ then _ else (if _ then _ else _))) = _
    rw [if_neg (fun q_ => h ⟨q_.1, q_.2.1, by omega⟩), if_neg (fun q_ => h ⟨q_.1, q_.2.1, by omega⟩), if_neg (fun q_ => h ⟨q_.1, q_.2.1, by omega⟩), ih (fun q_ => h ⟨q_.1, q_.2.1, by omega⟩)]
def md_lx (f : mj_F) (m b c : Nat) : Int32 := mc_sm (fun q => md_T f m (b + q)) c
def md_lr (f : mj_F) (m b c : Nat) : mj_F := mj_u (md_ly f m b c) 18 m 21 (f 18 m 21 + md_lx f m b c)
def md_us (f : mj_F) (m s n : Nat) (φ : Int32) : Nat → mj_F × Nat
  | 0 => (f, if f 18 m 5 = 0 then 1 else 0)
  | q + 1 => if f 18 m 5 = 0 then ((md_us (md_ht f m s n φ) m s n φ q).1, (md_us (md_ht f m s n φ) m s n φ q).2 + 1) else (f, 0)
theorem md_ht_o {f : mj_F} {m s n k2 i2 j2 : Nat} {φ : Int32} (h : ¬ (k2 = 21 ∧ i2 = m ∧ j2 < n)) (h2 : ¬ (k2 = 18 ∧ i2 = m ∧ (j2 = 2 ∨ j2 = 3 ∨ j2 = 5 ∨ j2 = 20 ∨ j2 = 21 ∨ (22 ≤ j2 ∧ j2 < 22 + n) ∨ (82 ≤ j2 ∧ j2 < 82 + n)))) : md_ht f m s n φ k2 i2 j2 = f k2 i2 j2 := by
  unfold md_ht
  rw [md_ov_o (fun q_ => h2 ⟨q_.1, q_.2.1, by omega⟩)]
  have e1 : md_h3 (md_h2 (md_h1 f m s n φ) m (md_hx f m s n φ)) m n k2 i2 j2 = md_h2 (md_h1 f m s n φ) m (md_hx f m s n φ) k2 i2 j2 := by
    unfold md_h3
    split
    · exact md_rs_o (fun q_ => h2 ⟨q_.1, q_.2.1, by omega⟩)
    · rfl
  rw [e1]
  unfold md_h2
  show (if _ then _ else (if _ then _ else (if _ then _ else _))) = _
  rw [if_neg (fun q_ => h2 ⟨q_.1, q_.2.1, by omega⟩), if_neg (fun q_ => h2 ⟨q_.1, q_.2.1, by omega⟩), if_neg (fun q_ => h2 ⟨q_.1, q_.2.1, by omega⟩)]
  unfold md_h1
  rw [md_ws_o (fun q_ => h2 ⟨q_.1, q_.2.1, by omega⟩), mc_fl_o h]
section MQ
variable {X : mj_X} {S : List (Nat × Nat)} {f : mj_F} {g : mj_G} {m r s n j b c k : Nat} {x y q w t sl φ v : Int32}
theorem md_relines (hg : g 6 m 0 = some (18, m)) (hb : b + c ≤ 60) : mj_x X 107 [.inr (6, m), .inl (nI b), .inl (nI (b + c))] (S, f, g) = some (some (.inl (md_lx f m b c)), (S, md_lr f m b c, g)) := by
  have hl := mj_loop (fun k => mj_g X 107 4 [some (.inr (6, m)), some (.inl (nI b)), some (.inl (nI (b + c))), some (.inl (mc_sm (fun q => md_T f m (b + q)) k)), some (.inl (nI (b + k)))] [] (S, md_ly f m b k, g)) c (fun k hk => by
    have w1 : md_T (md_ly f m b k) m (b + k) = md_T f m (b + k) := by
      unfold md_T
      rw [md_ly_o (by omega), md_ly_o (by omega)]
    refine Eq.trans mj_g107_4 ?_
    simp (disch := omega) only [mj_g107_5, mj_g107_6, mj_g107_7, mj_g107_8, mj_g107_9, mj_g107_10, mj_g107_11, mj_g107_12, mj_g107_13, mj_g107_14, mj_g107_15, mj_g107_16, mj_g107_17, mj_g107_18, mj_g107_19, mj_g107_20, mj_g107_21, mj_g107_22, mj_g107_23, mj_g107_24, mj_g107_25, mj_g107_26, mj_g107_27, mj_g107_28, mj_g107_29, mj_g107_30, mj_g107_31, mj_g107_32, mj_g107_33, mj_g107_34, mj_g107_35, mj_g107_36, ↓reduceIte, Option.bind_some, Option.toList_some, Option.toList_none, List.cons_append, List.nil_append, mj_ixn, mj_add, mj_mul, mj_sub, mj_dv, mj_rmn, mj_ltT, mj_ltF, mj_leT, mj_leF, mj_eqT, mj_eqF, mj_z0T, mj_z0F, mj_bo0, mj_boc, mj_chk10, mj_chk11, md_thick hg, hg, w1, mj_uj]
    rfl)
  simp (disch := omega) only [mj_x107, mj_g107_0, mj_g107_1, mj_g107_2, mj_g107_3]
  refine Eq.trans ?_ (hl.trans ?_)
  · rfl
  · have e1 : md_ly f m b c 18 m 21 = f 18 m 21 := md_ly_o (by omega)
    simp (disch := omega) only [mj_g107_4, mj_g107_5, mj_g107_6, mj_g107_37, mj_g107_38, mj_g107_39, mj_g107_40, mj_g107_41, mj_g107_42, mj_g107_43, mj_g107_44, mj_g107_45, mj_g107_46, ↓reduceIte, Option.bind_some, Option.toList_some, Option.toList_none, List.cons_append, List.nil_append, mj_ixn, mj_add, mj_mul, mj_sub, mj_dv, mj_rmn, mj_ltT, mj_ltF, mj_leT, mj_leF, mj_eqT, mj_eqF, mj_z0T, mj_z0F, mj_bo0, mj_boc, mj_chk10, mj_chk11, hg, e1]
    rfl
theorem md_isSpot (hg : g 6 m 0 = some (18, m)) (hO : md_O f m r s n) : mj_x X 114 [.inr (6, m), .inl v] (S, f, g) = some (some (.inl (mj_bo (nI 0 ≤ v ∧ v ≤ nI n - nI 1))), (S, f, g)) := by
  simp (disch := omega) only [mj_x114, mj_g114_0, mj_g114_1, mj_g114_2, mj_g114_3, mj_g114_4, mj_g114_5, mj_g114_6, mj_g114_7, md_spots hg hO, ↓reduceIte, Option.bind_some, Option.toList_some, List.cons_append, List.nil_append, mc_in, mj_boc]
theorem md_isScan (hg : g 6 m 0 = some (18, m)) : mj_x X 126 [.inr (6, m), .inl v] (S, f, g) = some (some (.inl (mj_bo (nI 0 ≤ v ∧ v ≤ f 18 m 142 - nI 1))), (S, f, g)) := by
  simp (disch := omega) only [mj_x126, mj_g126_0, mj_g126_1, mj_g126_2, mj_g126_3, mj_g126_4, mj_g126_5, mj_g126_6, mj_g126_7, mj_g126_8, mj_g126_9, hg, ↓reduceIte, Option.bind_some, Option.toList_some, List.cons_append, List.nil_append, mj_ixn, mc_in, mj_boc]
theorem md_isHeat [Decidable (mc_iH t sl)] : mj_x X 113 [.inl t, .inl sl] (S, f, g) = some (some (.inl (mj_bo (mc_iH t sl))), (S, f, g)) := by
  by_cases c1 : nI 1400 ≤ t ∧ t ≤ nI 1800
  · by_cases c2 : nI 0 ≤ sl ∧ sl ≤ nI 100
    · rw [← mj_boT (P := mc_iH t sl) ⟨c1, c2⟩]
      simp (disch := omega) only [mj_x113, mj_g113_0, mj_g113_1, mj_g113_2, mj_g113_3, mj_g113_4, mj_g113_5, mj_g113_6, mj_g113_7, mj_g113_8, mj_g113_9, mj_g113_10, mj_g113_11, mj_g113_12, mj_g113_13, mc_in, ↓reduceIte, Option.bind_some, Option.toList_some, Option.toList_none, List.cons_append, List.nil_append, mj_ixn, mj_add, mj_mul, mj_sub, mj_dv, mj_rmn, mj_ltT, mj_ltF, mj_leT, mj_leF, mj_eqT, mj_eqF, mj_z0T, mj_z0F, mj_bo0, mj_boc, mj_chk10, mj_chk11, c1, c2, and_self, not_true]
    · rw [← mj_boF (P := mc_iH t sl) (fun q_ => c2 q_.2)]
      simp (disch := omega) only [mj_x113, mj_g113_0, mj_g113_1, mj_g113_2, mj_g113_3, mj_g113_4, mj_g113_5, mj_g113_6, mj_g113_7, mj_g113_8, mj_g113_9, mj_g113_10, mj_g113_11, mj_g113_12, mj_g113_13, mc_in, ↓reduceIte, Option.bind_some, Option.toList_some, Option.toList_none, List.cons_append, List.nil_append, mj_ixn, mj_add, mj_mul, mj_sub, mj_dv, mj_rmn, mj_ltT, mj_ltF, mj_leT, mj_leF, mj_eqT, mj_eqF, mj_z0T, mj_z0F, mj_bo0, mj_boc, mj_chk10, mj_chk11, c1, c2, and_self, not_true, not_false_eq_true]
  · rw [← mj_boF (P := mc_iH t sl) (fun q_ => c1 q_.1)]
    simp (disch := omega) only [mj_x113, mj_g113_0, mj_g113_1, mj_g113_2, mj_g113_3, mj_g113_4, mj_g113_5, mj_g113_6, mj_g113_7, mj_g113_8, mj_g113_9, mj_g113_10, mj_g113_11, mj_g113_12, mj_g113_13, mc_in, ↓reduceIte, Option.bind_some, Option.toList_some, Option.toList_none, List.cons_append, List.nil_append, mj_ixn, mj_add, mj_mul, mj_sub, mj_dv, mj_rmn, mj_ltT, mj_ltF, mj_leT, mj_leF, mj_eqT, mj_eqF, mj_z0T, mj_z0F, mj_bo0, mj_boc, mj_chk10, mj_chk11, c1, not_false_eq_true]
theorem md_isHot (hg : g 6 m 0 = some (18, m)) (hk : k < 4) (hj : j < 60) : mj_x X 124 [.inr (6, m), .inl (nI k), .inl (nI j)] (S, f, g) = some (some (.inl (mj_bo (¬ f 18 m (147 + 60 * k + j) < f 18 m 15))), (S, f, g)) := by
  unfold mj_bo
  by_cases c1 : f 18 m (147 + 60 * k + j) < f 18 m 15 <;> simp (disch := omega) only [mj_x124, mj_g124_0, mj_g124_1, mj_g124_2, mj_g124_3, mj_g124_4, mj_g124_5, mj_g124_6, mj_g124_7, mj_g124_8, mj_g124_9, mj_g124_10, mj_g124_11, mj_g124_12, mj_g124_13, mj_g124_14, mj_g124_15, mj_g124_16, mj_g124_17, mj_g124_18, ↓reduceIte, Option.bind_some, Option.toList_some, Option.toList_none, List.cons_append, List.nil_append, mj_ixn, mj_add, mj_mul, mj_sub, mj_dv, mj_rmn, mj_ltT, mj_ltF, mj_leT, mj_leF, mj_eqT, mj_eqF, mj_z0T, mj_z0F, mj_bo0, mj_boc, mj_chk10, mj_chk11, hg, c1, not_true, not_false_eq_true]
theorem md_keeps (hg : g 6 m 0 = some (18, m)) (hg4 : g 6 m 4 = some (20, m)) : mj_x X 132 [.inr (6, m)] (S, f, g) = some (none, (S, mc_fl f 20 m (f 18 m) 627, g)) := by
  have hl := mj_loop (fun k => mj_g X 132 2 [some (.inr (6, m)), some (.inl (nI k))] [] (S, mc_fl f 20 m (f 18 m) k, g)) 627 (fun k hk => by
    have w1 : mc_fl f 20 m (f 18 m) k 18 m k = f 18 m k := mc_fl_o (by omega)
    refine Eq.trans mj_g132_2 ?_
    simp (disch := omega) only [mj_g132_3, mj_g132_4, mj_g132_5, mj_g132_6, mj_g132_7, mj_g132_8, mj_g132_9, mj_g132_10, mj_g132_11, mj_g132_12, mj_g132_13, mj_g132_14, ↓reduceIte, Option.bind_some, Option.toList_some, Option.toList_none, List.cons_append, List.nil_append, mj_ixn, mj_add, mj_mul, mj_sub, mj_dv, mj_rmn, mj_ltT, mj_ltF, mj_leT, mj_leF, mj_eqT, mj_eqF, mj_z0T, mj_z0F, mj_bo0, mj_boc, mj_chk10, mj_chk11, hg, hg4, w1]
    rfl)
  simp (disch := omega) only [mj_x132, mj_g132_0, mj_g132_1]
  refine Eq.trans ?_ (hl.trans ?_)
  · rfl
  · simp (disch := omega) only [mj_g132_2, mj_g132_3, mj_g132_4, mj_g132_15, ↓reduceIte, Option.bind_some, Option.toList_some, Option.toList_none, List.cons_append, List.nil_append, mj_ixn, mj_add, mj_mul, mj_sub, mj_dv, mj_rmn, mj_ltT, mj_ltF, mj_leT, mj_leF, mj_eqT, mj_eqF, mj_z0T, mj_z0F, mj_bo0, mj_boc, mj_chk10, mj_chk11]
theorem md_restores (hg : g 6 m 0 = some (18, m)) (hg4 : g 6 m 4 = some (20, m)) : mj_x X 133 [.inr (6, m)] (S, f, g) = some (none, (S, mc_fl f 18 m (f 20 m) 627, g)) := by
  have hl := mj_loop (fun k => mj_g X 133 2 [some (.inr (6, m)), some (.inl (nI k))] [] (S, mc_fl f 18 m (f 20 m) k, g)) 627 (fun k hk => by
    have w1 : mc_fl f 18 m (f 20 m) k 20 m k = f 20 m k := mc_fl_o (by omega)
    refine Eq.trans mj_g133_2 ?_
    simp (disch := omega) only [mj_g133_3, mj_g133_4, mj_g133_5, mj_g133_6, mj_g133_7, mj_g133_8, mj_g133_9, mj_g133_10, mj_g133_11, mj_g133_12, mj_g133_13, mj_g133_14, ↓reduceIte, Option.bind_some, Option.toList_some, Option.toList_none, List.cons_append, List.nil_append, mj_ixn, mj_add, mj_mul, mj_sub, mj_dv, mj_rmn, mj_ltT, mj_ltF, mj_leT, mj_leF, mj_eqT, mj_eqF, mj_z0T, mj_z0F, mj_bo0, mj_boc, mj_chk10, mj_chk11, hg, hg4, w1]
    rfl)
  simp (disch := omega) only [mj_x133, mj_g133_0, mj_g133_1]
  refine Eq.trans ?_ (hl.trans ?_)
  · rfl
  · simp (disch := omega) only [mj_g133_2, mj_g133_3, mj_g133_4, mj_g133_15, ↓reduceIte, Option.bind_some, Option.toList_some, Option.toList_none, List.cons_append, List.nil_append, mj_ixn, mj_add, mj_mul, mj_sub, mj_dv, mj_rmn, mj_ltT, mj_ltF, mj_leT, mj_leF, mj_eqT, mj_eqF, mj_z0T, mj_z0F, mj_bo0, mj_boc, mj_chk10, mj_chk11]
theorem md_lal (hg : g 6 m 0 = some (18, m)) (hg5 : g 6 m 5 = some (21, m)) : ∀ (q k : Nat) (f : mj_F), k + q = 300 → md_O f m r s n → ¬ f 18 m 13 = 0 → ¬ f 18 m 17 = 0 → mj_g X 131 2 [some (.inr (6, m)), some (.inl t), some (.inl sl), some (.inl (nI k))] [] (S, f, g) = some (some (.inl (nI (k + (md_us f m s n (md_fo t sl) q).2))), (S, (md_us f m s n (md_fo t sl) q).1, g)) := by
  intro q
  induction q with
  | zero =>
    intro k f hk hO h13 h17
    have hk2 : k = 300 := by omega
    subst hk2
    refine Eq.trans mj_g131_2 ?_
    unfold md_us
    by_cases c1 : f 18 m 5 = 0
    · simp (disch := omega) only [mj_g131_3, mj_g131_4, mj_g131_5, mj_g131_6, mj_g131_7, mj_g131_8, mj_g131_9, mj_g131_10, mj_g131_11, mj_g131_12, mj_g131_13, mj_g131_20, mj_g131_21, ↓reduceIte, Option.bind_some, Option.toList_some, Option.toList_none, List.cons_append, List.nil_append, mj_ixn, mj_add, mj_mul, mj_sub, mj_dv, mj_rmn, mj_ltT, mj_ltF, mj_leT, mj_leF, mj_eqT, mj_eqF, mj_z0T, mj_z0F, mj_bo0, mj_boc, mj_chk10, mj_chk11, hg, c1, not_true]
      refine Eq.trans mj_g131_2 ?_
      simp (disch := omega) only [mj_g131_3, mj_g131_4, mj_g131_20, mj_g131_21, ↓reduceIte, Option.bind_some, Option.toList_some, Option.toList_none, List.cons_append, List.nil_append, mj_ixn, mj_add, mj_mul, mj_sub, mj_dv, mj_rmn, mj_ltT, mj_ltF, mj_leT, mj_leF, mj_eqT, mj_eqF, mj_z0T, mj_z0F, mj_bo0, mj_boc, mj_chk10, mj_chk11]
    · simp (disch := omega) only [mj_g131_3, mj_g131_4, mj_g131_5, mj_g131_6, mj_g131_7, mj_g131_8, mj_g131_9, mj_g131_20, mj_g131_21, ↓reduceIte, Option.bind_some, Option.toList_some, Option.toList_none, List.cons_append, List.nil_append, mj_ixn, mj_add, mj_mul, mj_sub, mj_dv, mj_rmn, mj_ltT, mj_ltF, mj_leT, mj_leF, mj_eqT, mj_eqF, mj_z0T, mj_z0F, mj_bo0, mj_boc, mj_chk10, mj_chk11, hg, c1, not_false_eq_true]
  | succ q ih =>
    intro k f hk hO h13 h17
    have h60 := hO.2.2.n60
    have ih2 := ih (k + 1) (md_ht f m s n (md_fo t sl)) (by omega) ⟨by rw [md_ht_o (by omega) (by omega)]; exact hO.1, by rw [md_ht_o (by omega) (by omega)]; exact hO.2.1, hO.2.2⟩ (by rw [md_ht_o (by omega) (by omega)]; exact h13) (by rw [md_ht_o (by omega) (by omega)]; exact h17)
    refine Eq.trans mj_g131_2 ?_
    unfold md_us
    by_cases c1 : f 18 m 5 = 0
    · simp (disch := omega) only [mj_g131_3, mj_g131_4, mj_g131_5, mj_g131_6, mj_g131_7, mj_g131_8, mj_g131_9, mj_g131_10, mj_g131_11, mj_g131_12, mj_g131_13, mj_g131_14, mj_g131_15, mj_g131_16, mj_g131_17, mj_g131_18, mj_g131_19, ↓reduceIte, Option.bind_some, Option.toList_some, Option.toList_none, List.cons_append, List.nil_append, mj_ixn, mj_add, mj_mul, mj_sub, mj_dv, mj_rmn, mj_ltT, mj_ltF, mj_leT, mj_leF, mj_eqT, mj_eqF, mj_z0T, mj_z0F, mj_bo0, mj_boc, mj_chk10, mj_chk11, hg, c1, not_true, md_heats hg hg5 hO h13 h17, ih2]
      rw [show k + 1 + (md_us (md_ht f m s n (md_fo t sl)) m s n (md_fo t sl) q).2 = k + ((md_us (md_ht f m s n (md_fo t sl)) m s n (md_fo t sl) q).2 + 1) by omega]
    · simp (disch := omega) only [mj_g131_3, mj_g131_4, mj_g131_5, mj_g131_6, mj_g131_7, mj_g131_8, mj_g131_9, mj_g131_20, mj_g131_21, ↓reduceIte, Option.bind_some, Option.toList_some, Option.toList_none, List.cons_append, List.nil_append, mj_ixn, mj_add, mj_mul, mj_sub, mj_dv, mj_rmn, mj_ltT, mj_ltF, mj_leT, mj_leF, mj_eqT, mj_eqF, mj_z0T, mj_z0F, mj_bo0, mj_boc, mj_chk10, mj_chk11, hg, c1, not_false_eq_true]
      rfl
theorem md_lasts (hg : g 6 m 0 = some (18, m)) (hg5 : g 6 m 5 = some (21, m)) (hO : md_O f m r s n) (h13 : ¬ f 18 m 13 = 0) (h17 : ¬ f 18 m 17 = 0) : mj_x X 131 [.inr (6, m), .inl t, .inl sl] (S, f, g) = some (some (.inl (nI (md_us f m s n (md_fo t sl) 300).2)), (S, (md_us f m s n (md_fo t sl) 300).1, g)) := by
  simp only [mj_x131, mj_g131_0, mj_g131_1]
  have h := md_lal (X := X) (S := S) (t := t) (sl := sl) hg hg5 300 0 f rfl hO h13 h17
  rw [Nat.zero_add] at h
  exact h
end MQ
