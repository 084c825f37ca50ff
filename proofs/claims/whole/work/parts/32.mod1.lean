/-! the reference: places, wear, gunning -/
def md_T (f : mj_F) (m : Nat) : Nat → Int32 := fun j => f 18 m (22 + j) + f 18 m (82 + j)
def md_O (f : mj_F) (m r s n : Nat) : Prop := f 18 m 0 = nI r ∧ f 18 m 1 = nI s ∧ mc_Ge r s n
def md_dn (x y : Int32) : Int32 := if x / y * y ≤ x then x / y else x / y - nI 1
def md_fo (t sl : Int32) : Int32 := nI 100 + md_dn (t - nI 1600) (nI 4) + sl / nI 2
def md_W0 (f : mj_F) (m s n : Nat) (φ : Int32) (j : Nat) : Int32 := f 18 m (6 + j / s) * φ / nI 100 + (if md_T f m j - mc_lb (md_T f m) s n j < f 18 m 13 then nI 0 else (md_T f m j - mc_lb (md_T f m) s n j) / f 18 m 13)
def md_W (f : mj_F) (m s n : Nat) (φ : Int32) (j : Nat) : Int32 := if 0 ≤ md_W0 f m s n φ j then md_W0 f m s n φ j else nI 0
def md_wr (f : mj_F) (m j : Nat) (w : Int32) : mj_F :=
  if f 18 m (82 + j) < nI 2 * w then mj_u (mj_u f 18 m (82 + j) (nI 0)) 18 m (22 + j) (f 18 m (22 + j) - mj_mi (w - f 18 m (82 + j) / nI 2) (f 18 m (22 + j))) else mj_u f 18 m (82 + j) (f 18 m (82 + j) - nI 2 * w)
def md_sy (f : mj_F) (m j : Nat) (q : Int32) : Int32 := if mc_tp (f 18 m 14) (md_T f m j) < f 18 m 15 then q * nI 3 / nI 5 else q * nI 4 / nI 5
def md_gr (f : mj_F) (m j : Nat) (q : Int32) : Int32 :=
  if f 18 m 5 = nI 1 then nI 1 else (if md_T f m j + md_sy f m j q ≤ nI 3500 then (if q ≤ f 18 m 16 then nI 0 else nI 3) else nI 2)
def md_po (f : mj_F) (m j : Nat) (q : Int32) : mj_F :=
  mj_u (mj_u (mj_u f 18 m (82 + j) (f 18 m (82 + j) + md_sy f m j q)) 18 m 19 (f 18 m 19 + md_sy f m j q)) 18 m 16 (f 18 m 16 - q)
section MO
variable {X : mj_X} {S : List (Nat × Nat)} {f : mj_F} {g : mj_G} {m r s n j : Nat} {x y q w t sl : Int32}
theorem md_down (hy : ¬ y = 0) : mj_x X 92 [.inl x, .inl y] (S, f, g) = some (some (.inl (md_dn x y)), (S, f, g)) := by
  unfold md_dn
  by_cases c1 : x / y * y ≤ x <;> simp (disch := omega) only [mj_x92, mj_g92_0, mj_g92_1, mj_g92_2, mj_g92_3, mj_g92_4, mj_g92_5, mj_g92_6, mj_g92_7, mj_g92_8, mj_g92_9, mj_g92_10, mj_g92_11, mj_g92_12, mj_g92_13, mj_g92_14, ↓reduceIte, hy, c1]
theorem md_spots (hg : g 6 m 0 = some (18, m)) (hO : md_O f m r s n) : mj_x X 93 [.inr (6, m)] (S, f, g) = some (some (.inl (nI n)), (S, f, g)) := by
  obtain ⟨h1, h2, hG⟩ := hO
  have h5 := hG.2.2.2.2
  simp (disch := omega) only [mj_x93, mj_g93_0, mj_g93_1, mj_g93_2, mj_g93_3, mj_g93_4, mj_g93_5, mj_g93_6, mj_g93_7, mj_g93_8, mj_g93_9, ↓reduceIte, Option.bind_some, Option.toList_some, Option.toList_none, List.cons_append, List.nil_append, mj_ixn, mj_add, mj_mul, mj_sub, mj_dv, mj_rmn, mj_ltT, mj_ltF, mj_leT, mj_leF, mj_eqT, mj_eqF, mj_z0T, mj_z0F, mj_bo0, mj_boc, mj_chk10, mj_chk11, hg, mj_ixn (show 0 < 627 by omega) (by omega), mj_ixn (show 1 < 627 by omega) (by omega), h1, h2, ← h5]
theorem md_thick (hg : g 6 m 0 = some (18, m)) (hj : j < 60) : mj_x X 96 [.inr (6, m), .inl (nI j)] (S, f, g) = some (some (.inl (md_T f m j)), (S, f, g)) := by
  unfold md_T
  simp (disch := omega) only [mj_x96, mj_g96_0, mj_g96_1, mj_g96_2, mj_g96_3, mj_g96_4, mj_g96_5, mj_g96_6, mj_g96_7, mj_g96_8, mj_g96_9, mj_g96_10, mj_g96_11, mj_g96_12, mj_g96_13, ↓reduceIte, Option.bind_some, Option.toList_some, Option.toList_none, List.cons_append, List.nil_append, mj_ixn, mj_add, mj_mul, mj_sub, mj_dv, mj_rmn, mj_ltT, mj_ltF, mj_leT, mj_leF, mj_eqT, mj_eqF, mj_z0T, mj_z0F, mj_bo0, mj_boc, mj_chk10, mj_chk11, hg]
theorem md_besides (hg : g 6 m 0 = some (18, m)) (hO : md_O f m r s n) (hj : j < n) : mj_x X 98 [.inr (6, m), .inl (nI j)] (S, f, g) = some (some (.inl (nI (mc_nn s n j))), (S, f, g)) := by
  obtain ⟨h1, h2, hG⟩ := hO
  have h60 := hG.n60
  obtain ⟨q1, q2, q3, q4⟩ := hG.q hj
  have a1 : j < s ↔ j / s = 0 := by
    constructor
    · intro h; exact Nat.div_eq_of_lt h
    · intro h; rw [h] at q2; omega
  have a2 : n ≤ j + s ↔ r ≤ j / s + 1 := by
    obtain ⟨b1, b2, b3, b4, b5⟩ := hG
    have e2 : s * r = n := by rw [b5, Nat.mul_comm]
    constructor
    · intro h
      by_cases h0 : r ≤ j / s + 1
      · exact h0
      · exfalso
        have := Nat.mul_le_mul_left s (show j / s + 2 ≤ r by omega)
        rw [Nat.mul_add] at this
        omega
    · intro h
      have := Nat.mul_le_mul_left s h
      rw [Nat.mul_add] at this
      omega
  obtain ⟨b1, b2, b3, b4, b5⟩ := hG
  unfold mc_nn
  by_cases c1 : j < s <;> by_cases c2 : n ≤ j + s
  · have d1 := a1.mp c1
    have d2 := a2.mp c2
    simp (disch := omega) only [mj_x98, mj_g98_0, mj_g98_1, mj_g98_2, mj_g98_3, mj_g98_4, mj_g98_5, mj_g98_6, mj_g98_7, mj_g98_8, mj_g98_9, mj_g98_10, mj_g98_11, mj_g98_12, mj_g98_13, mj_g98_14, mj_g98_15, mj_g98_16, mj_g98_17, mj_g98_18, mj_g98_19, mj_g98_20, mj_g98_21, mj_g98_22, mj_g98_23, mj_g98_24, mj_g98_25, mj_g98_26, ↓reduceIte, Option.bind_some, Option.toList_some, Option.toList_none, List.cons_append, List.nil_append, mj_ixn, mj_add, mj_mul, mj_sub, mj_dv, mj_rmn, mj_ltT, mj_ltF, mj_leT, mj_leF, mj_eqT, mj_eqF, mj_z0T, mj_z0F, mj_bo0, mj_boc, mj_chk10, mj_chk11, hg, h1, h2, mj_le0, d1, c1, c2]
  · have d1 := a1.mp c1
    have d2 : ¬ r ≤ j / s + 1 := fun h => c2 (a2.mpr h)
    simp (disch := omega) only [mj_x98, mj_g98_0, mj_g98_1, mj_g98_2, mj_g98_3, mj_g98_4, mj_g98_5, mj_g98_6, mj_g98_7, mj_g98_8, mj_g98_9, mj_g98_10, mj_g98_11, mj_g98_12, mj_g98_13, mj_g98_14, mj_g98_15, mj_g98_16, mj_g98_17, mj_g98_18, mj_g98_19, mj_g98_20, mj_g98_21, mj_g98_22, mj_g98_23, mj_g98_24, mj_g98_25, mj_g98_26, ↓reduceIte, Option.bind_some, Option.toList_some, Option.toList_none, List.cons_append, List.nil_append, mj_ixn, mj_add, mj_mul, mj_sub, mj_dv, mj_rmn, mj_ltT, mj_ltF, mj_leT, mj_leF, mj_eqT, mj_eqF, mj_z0T, mj_z0F, mj_bo0, mj_boc, mj_chk10, mj_chk11, hg, h1, h2, mj_le0, d1, c1, c2]
  · have d1 : ¬ j / s = 0 := fun h => c1 (a1.mpr h)
    have d2 := a2.mp c2
    simp (disch := omega) only [mj_x98, mj_g98_0, mj_g98_1, mj_g98_2, mj_g98_3, mj_g98_4, mj_g98_5, mj_g98_6, mj_g98_7, mj_g98_8, mj_g98_9, mj_g98_10, mj_g98_11, mj_g98_12, mj_g98_13, mj_g98_14, mj_g98_15, mj_g98_16, mj_g98_17, mj_g98_18, mj_g98_19, mj_g98_20, mj_g98_21, mj_g98_22, mj_g98_23, mj_g98_24, mj_g98_25, mj_g98_26, ↓reduceIte, Option.bind_some, Option.toList_some, Option.toList_none, List.cons_append, List.nil_append, mj_ixn, mj_add, mj_mul, mj_sub, mj_dv, mj_rmn, mj_ltT, mj_ltF, mj_leT, mj_leF, mj_eqT, mj_eqF, mj_z0T, mj_z0F, mj_bo0, mj_boc, mj_chk10, mj_chk11, hg, h1, h2, mj_le0, d1, c1, c2]
  · have d1 : ¬ j / s = 0 := fun h => c1 (a1.mpr h)
    have d2 : ¬ r ≤ j / s + 1 := fun h => c2 (a2.mpr h)
    simp (disch := omega) only [mj_x98, mj_g98_0, mj_g98_1, mj_g98_2, mj_g98_3, mj_g98_4, mj_g98_5, mj_g98_6, mj_g98_7, mj_g98_8, mj_g98_9, mj_g98_10, mj_g98_11, mj_g98_12, mj_g98_13, mj_g98_14, mj_g98_15, mj_g98_16, mj_g98_17, mj_g98_18, mj_g98_19, mj_g98_20, mj_g98_21, mj_g98_22, mj_g98_23, mj_g98_24, mj_g98_25, mj_g98_26, ↓reduceIte, Option.bind_some, Option.toList_some, Option.toList_none, List.cons_append, List.nil_append, mj_ixn, mj_add, mj_mul, mj_sub, mj_dv, mj_rmn, mj_ltT, mj_ltF, mj_leT, mj_leF, mj_eqT, mj_eqF, mj_z0T, mj_z0F, mj_bo0, mj_boc, mj_chk10, mj_chk11, hg, h1, h2, mj_le0, d1, c1, c2]
theorem mj_mi2 : (if x < y then x else y) = mj_mi x y := by
  unfold mj_mi
  by_cases c1 : x < y
  · rw [if_pos c1, if_neg (fun h => Int32.lt_asymm c1 h)]
  · rw [if_neg c1]
    by_cases c2 : y < x
    · rw [if_pos c2]
    · rw [if_neg c2]
      exact Int32.le_antisymm (Int32.not_lt.mp c1) (Int32.not_lt.mp c2)
theorem md_least (hg : g 6 m 0 = some (18, m)) (hO : md_O f m r s n) (hj : j < n) : mj_x X 99 [.inr (6, m), .inl (nI j)] (S, f, g) = some (some (.inl (mc_lb (md_T f m) s n j)), (S, f, g)) := by
  have hO2 := hO
  obtain ⟨h1, h2, hG⟩ := hO
  have h60 := hG.n60
  have p1 := hG.pb hj
  have p2 := hG.pf hj
  have p0 := hG.pf0 hj
  obtain ⟨q1, q2, q3, q4⟩ := hG.q hj
  obtain ⟨b1, b2, b3, b4, b5⟩ := hG
  have e1 : j - j % s + (j - (j - j % s) + s - 1) % s = mc_pb s j := by
    rw [show j - (j - j % s) = j % s by omega]
    unfold mc_pb
    by_cases c1 : j % s = 0
    · rw [if_pos c1, c1, show 0 + s - 1 = s - 1 by omega, Nat.mod_eq_of_lt (show s - 1 < s by omega)]
      omega
    · rw [if_neg c1, show j % s + s - 1 = s + (j % s - 1) by omega, Nat.add_mod_left, Nat.mod_eq_of_lt (show j % s - 1 < s by omega)]
      omega
  have e2 : j - j % s + (j - (j - j % s) + 1) % s = mc_pf s j := by
    rw [show j - (j - j % s) = j % s by omega]
    unfold mc_pf
    by_cases c1 : j % s + 1 = s
    · rw [if_pos (p0.mpr c1), c1, Nat.mod_self]
      omega
    · rw [if_neg (fun h => c1 (p0.mp h)), Nat.mod_eq_of_lt (show j % s + 1 < s by omega)]
      omega
  have g1 : mj_x X 99 [.inr (6, m), .inl (nI j)] (S, f, g) = mj_g X 99 51 [some (.inr (6, m)), some (.inl (nI j)), some (.inl (nI (j - j % s))), some (.inl (md_T f m (mc_pb s j))), some (.inl (md_T f m (mc_pf s j))), some (.inl (mj_mi (md_T f m (mc_pb s j)) (md_T f m (mc_pf s j))))] [] (S, f, g) := by
    simp (disch := omega) only [mj_x99, mj_g99_0, mj_g99_1, mj_g99_2, mj_g99_3, mj_g99_4, mj_g99_5, mj_g99_6, mj_g99_7, mj_g99_8, mj_g99_9, mj_g99_10, mj_g99_11, mj_g99_12, mj_g99_13, mj_g99_14, mj_g99_15, mj_g99_16, mj_g99_17, mj_g99_18, mj_g99_19, mj_g99_20, mj_g99_21, mj_g99_22, mj_g99_23, mj_g99_24, mj_g99_25, mj_g99_26, mj_g99_27, mj_g99_28, mj_g99_29, mj_g99_30, mj_g99_31, mj_g99_32, mj_g99_33, mj_g99_34, mj_g99_35, mj_g99_36, mj_g99_37, mj_g99_38, mj_g99_39, mj_g99_40, mj_g99_41, mj_g99_42, mj_g99_43, mj_g99_44, mj_g99_45, mj_g99_46, mj_g99_47, mj_g99_48, mj_g99_49, mj_g99_50, ↓reduceIte, Option.bind_some, Option.toList_some, Option.toList_none, List.cons_append, List.nil_append, mj_ixn, mj_add, mj_mul, mj_sub, mj_dv, mj_rmn, mj_ltT, mj_ltF, mj_leT, mj_leF, mj_eqT, mj_eqF, mj_z0T, mj_z0F, mj_bo0, mj_boc, mj_chk10, mj_chk11, hg, h2, e1, e2, md_thick hg]
    rw [← mj_mi2]
    by_cases c1 : md_T f m (mc_pb s j) < md_T f m (mc_pf s j)
    · rw [if_neg (Int32.not_le.mpr c1), if_pos c1]
    · rw [if_pos (Int32.not_lt.mp c1), if_neg c1]
  rw [g1]
  have g2 : ∀ (lo : Int32) (l2 l3 l4 : Option mj_V), mj_g X 99 51 [some (.inr (6, m)), some (.inl (nI j)), l2, l3, l4, some (.inl lo)] [] (S, f, g) = mj_g X 99 78 [some (.inr (6, m)), some (.inl (nI j)), l2, l3, l4, some (.inl (if j < s then lo else mj_mi lo (md_T f m (j - s))))] [] (S, f, g) := by
    intro lo l2 l3 l4
    by_cases c1 : j < s
    · rw [if_pos c1]
      simp (disch := omega) only [mj_g99_51, mj_g99_52, mj_g99_53, mj_g99_54, mj_g99_55, mj_g99_56, ↓reduceIte, Option.bind_some, Option.toList_some, Option.toList_none, List.cons_append, List.nil_append, mj_ixn, mj_add, mj_mul, mj_sub, mj_dv, mj_rmn, mj_ltT, mj_ltF, mj_leT, mj_leF, mj_eqT, mj_eqF, mj_z0T, mj_z0F, mj_bo0, mj_boc, mj_chk10, mj_chk11, hg, h2]
    · rw [if_neg c1]
      unfold mj_mi
      by_cases c2 : md_T f m (j - s) < lo
      · rw [if_pos c2]
        simp (disch := omega) only [mj_g99_51, mj_g99_52, mj_g99_53, mj_g99_54, mj_g99_55, mj_g99_56, mj_g99_57, mj_g99_58, mj_g99_59, mj_g99_60, mj_g99_61, mj_g99_62, mj_g99_63, mj_g99_64, mj_g99_65, mj_g99_66, mj_g99_67, mj_g99_68, mj_g99_69, mj_g99_70, mj_g99_71, mj_g99_72, mj_g99_73, mj_g99_74, mj_g99_75, mj_g99_76, mj_g99_77, ↓reduceIte, Option.bind_some, Option.toList_some, Option.toList_none, List.cons_append, List.nil_append, mj_ixn, mj_add, mj_mul, mj_sub, mj_dv, mj_rmn, mj_ltT, mj_ltF, mj_leT, mj_leF, mj_eqT, mj_eqF, mj_z0T, mj_z0F, mj_bo0, mj_boc, mj_chk10, mj_chk11, hg, h2, md_thick hg, eq_false (Int32.not_le.mpr c2)]
      · rw [if_neg c2]
        simp (disch := omega) only [mj_g99_51, mj_g99_52, mj_g99_53, mj_g99_54, mj_g99_55, mj_g99_56, mj_g99_57, mj_g99_58, mj_g99_59, mj_g99_60, mj_g99_61, mj_g99_62, mj_g99_63, mj_g99_64, mj_g99_65, mj_g99_66, mj_g99_67, mj_g99_68, mj_g99_69, mj_g99_70, mj_g99_71, mj_g99_72, mj_g99_73, mj_g99_74, mj_g99_75, mj_g99_76, mj_g99_77, ↓reduceIte, Option.bind_some, Option.toList_some, Option.toList_none, List.cons_append, List.nil_append, mj_ixn, mj_add, mj_mul, mj_sub, mj_dv, mj_rmn, mj_ltT, mj_ltF, mj_leT, mj_leF, mj_eqT, mj_eqF, mj_z0T, mj_z0F, mj_bo0, mj_boc, mj_chk10, mj_chk11, hg, h2, md_thick hg, eq_true (Int32.not_lt.mp c2)]
  have g3 : ∀ (lo : Int32) (l2 l3 l4 : Option mj_V), mj_g X 99 78 [some (.inr (6, m)), some (.inl (nI j)), l2, l3, l4, some (.inl lo)] [] (S, f, g) = some (some (.inl (if n ≤ j + s then lo else mj_mi lo (md_T f m (j + s)))), (S, f, g)) := by
    intro lo l2 l3 l4
    by_cases c1 : n ≤ j + s
    · rw [if_pos c1]
      simp (disch := omega) only [mj_g99_78, mj_g99_79, mj_g99_80, mj_g99_81, mj_g99_82, mj_g99_83, mj_g99_84, mj_g99_85, mj_g99_86, mj_g99_108, mj_g99_109, ↓reduceIte, Option.bind_some, Option.toList_some, Option.toList_none, List.cons_append, List.nil_append, mj_ixn, mj_add, mj_mul, mj_sub, mj_dv, mj_rmn, mj_ltT, mj_ltF, mj_leT, mj_leF, mj_eqT, mj_eqF, mj_z0T, mj_z0F, mj_bo0, mj_boc, mj_chk10, mj_chk11, hg, h2, md_spots hg hO2]
    · rw [if_neg c1]
      unfold mj_mi
      by_cases c2 : md_T f m (j + s) < lo
      · rw [if_pos c2]
        simp (disch := omega) only [mj_g99_78, mj_g99_79, mj_g99_80, mj_g99_81, mj_g99_82, mj_g99_83, mj_g99_84, mj_g99_85, mj_g99_86, mj_g99_87, mj_g99_88, mj_g99_89, mj_g99_90, mj_g99_91, mj_g99_92, mj_g99_93, mj_g99_94, mj_g99_95, mj_g99_96, mj_g99_97, mj_g99_98, mj_g99_99, mj_g99_100, mj_g99_101, mj_g99_102, mj_g99_103, mj_g99_104, mj_g99_105, mj_g99_106, mj_g99_107, mj_g99_108, mj_g99_109, ↓reduceIte, Option.bind_some, Option.toList_some, Option.toList_none, List.cons_append, List.nil_append, mj_ixn, mj_add, mj_mul, mj_sub, mj_dv, mj_rmn, mj_ltT, mj_ltF, mj_leT, mj_leF, mj_eqT, mj_eqF, mj_z0T, mj_z0F, mj_bo0, mj_boc, mj_chk10, mj_chk11, hg, h2, md_thick hg, md_spots hg hO2, eq_false (Int32.not_le.mpr c2)]
      · rw [if_neg c2]
        simp (disch := omega) only [mj_g99_78, mj_g99_79, mj_g99_80, mj_g99_81, mj_g99_82, mj_g99_83, mj_g99_84, mj_g99_85, mj_g99_86, mj_g99_87, mj_g99_88, mj_g99_89, mj_g99_90, mj_g99_91, mj_g99_92, mj_g99_93, mj_g99_94, mj_g99_95, mj_g99_96, mj_g99_97, mj_g99_98, mj_g99_99, mj_g99_100, mj_g99_101, mj_g99_102, mj_g99_103, mj_g99_104, mj_g99_105, mj_g99_106, mj_g99_107, mj_g99_108, mj_g99_109, ↓reduceIte, Option.bind_some, Option.toList_some, Option.toList_none, List.cons_append, List.nil_append, mj_ixn, mj_add, mj_mul, mj_sub, mj_dv, mj_rmn, mj_ltT, mj_ltF, mj_leT, mj_leF, mj_eqT, mj_eqF, mj_z0T, mj_z0F, mj_bo0, mj_boc, mj_chk10, mj_chk11, hg, h2, md_thick hg, md_spots hg hO2, eq_true (Int32.not_lt.mp c2)]
  rw [g2, g3]
  unfold mc_lb
  by_cases c1 : j < s <;> by_cases c2 : n ≤ j + s <;> simp only [c1, c2, ↓reduceIte]
theorem md_warmth (hg : g 6 m 0 = some (18, m)) (hj : j < 60) (ht : ¬ md_T f m j + nI 100 = 0) : mj_x X 100 [.inr (6, m), .inl (nI j)] (S, f, g) = some (some (.inl (mc_tp (f 18 m 14) (md_T f m j))), (S, f, g)) := by
  unfold mc_tp
  simp (disch := omega) only [mj_x100, mj_g100_0, mj_g100_1, mj_g100_2, mj_g100_3, mj_g100_4, mj_g100_5, mj_g100_6, mj_g100_7, mj_g100_8, mj_g100_9, mj_g100_10, mj_g100_11, mj_g100_12, ↓reduceIte, Option.bind_some, Option.toList_some, Option.toList_none, List.cons_append, List.nil_append, mj_ixn, mj_add, mj_mul, mj_sub, mj_dv, mj_rmn, mj_ltT, mj_ltF, mj_leT, mj_leF, mj_eqT, mj_eqF, mj_z0T, mj_z0F, mj_bo0, mj_boc, mj_chk10, mj_chk11, hg, md_thick hg, ht]
theorem md_wears (hg : g 6 m 0 = some (18, m)) (hj : j < 60) : mj_x X 102 [.inr (6, m), .inl (nI j), .inl w] (S, f, g) = some (some (.inl (mp_x (f 18 m (22 + j)) (f 18 m (82 + j)) w)), (S, md_wr f m j w, g)) := by
  unfold md_wr mp_x mj_mi
  by_cases c1 : f 18 m (82 + j) < nI 2 * w
  · by_cases c2 : f 18 m (22 + j) < w - f 18 m (82 + j) / nI 2
    · simp (disch := omega) only [mj_x102, mj_g102_0, mj_g102_1, mj_g102_2, mj_g102_3, mj_g102_4, mj_g102_5, mj_g102_6, mj_g102_7, mj_g102_8, mj_g102_9, mj_g102_10, mj_g102_11, mj_g102_12, mj_g102_13, mj_g102_14, mj_g102_15, mj_g102_16, mj_g102_17, mj_g102_18, mj_g102_19, mj_g102_20, mj_g102_21, mj_g102_22, mj_g102_23, mj_g102_24, mj_g102_25, mj_g102_26, mj_g102_27, mj_g102_28, mj_g102_29, mj_g102_30, mj_g102_31, mj_g102_32, mj_g102_33, mj_g102_34, mj_g102_35, mj_g102_36, mj_g102_37, mj_g102_38, mj_g102_39, mj_g102_40, mj_g102_41, mj_g102_42, mj_g102_43, mj_g102_44, mj_g102_45, mj_g102_46, mj_g102_47, mj_g102_48, mj_g102_49, mj_g102_50, mj_g102_51, mj_g102_52, mj_g102_53, mj_g102_54, mj_g102_55, mj_g102_56, mj_g102_57, mj_g102_58, mj_g102_59, mj_g102_60, mj_g102_61, mj_g102_62, mj_g102_63, mj_g102_64, mj_g102_65, mj_g102_66, mj_g102_67, mj_g102_68, mj_g102_69, mj_g102_70, mj_g102_71, ↓reduceIte, Option.bind_some, Option.toList_some, Option.toList_none, List.cons_append, List.nil_append, mj_ixn, mj_add, mj_mul, mj_sub, mj_dv, mj_rmn, mj_ltT, mj_ltF, mj_leT, mj_leF, mj_eqT, mj_eqF, mj_z0T, mj_z0F, mj_bo0, mj_boc, mj_chk10, mj_chk11, hg, c1, c2, eq_false (Int32.not_le.mpr c2), mj_uj]
    · simp (disch := omega) only [mj_x102, mj_g102_0, mj_g102_1, mj_g102_2, mj_g102_3, mj_g102_4, mj_g102_5, mj_g102_6, mj_g102_7, mj_g102_8, mj_g102_9, mj_g102_10, mj_g102_11, mj_g102_12, mj_g102_13, mj_g102_14, mj_g102_15, mj_g102_16, mj_g102_17, mj_g102_18, mj_g102_19, mj_g102_20, mj_g102_21, mj_g102_22, mj_g102_23, mj_g102_24, mj_g102_25, mj_g102_26, mj_g102_27, mj_g102_28, mj_g102_29, mj_g102_30, mj_g102_31, mj_g102_32, mj_g102_33, mj_g102_34, mj_g102_35, mj_g102_36, mj_g102_37, mj_g102_38, mj_g102_39, mj_g102_40, mj_g102_41, mj_g102_42, mj_g102_43, mj_g102_44, mj_g102_45, mj_g102_46, mj_g102_47, mj_g102_48, mj_g102_49, mj_g102_50, mj_g102_51, mj_g102_52, mj_g102_53, mj_g102_54, mj_g102_55, mj_g102_56, mj_g102_57, mj_g102_58, mj_g102_59, mj_g102_60, mj_g102_61, mj_g102_62, mj_g102_63, mj_g102_64, mj_g102_65, mj_g102_66, mj_g102_67, mj_g102_68, mj_g102_69, mj_g102_70, mj_g102_71, ↓reduceIte, Option.bind_some, Option.toList_some, Option.toList_none, List.cons_append, List.nil_append, mj_ixn, mj_add, mj_mul, mj_sub, mj_dv, mj_rmn, mj_ltT, mj_ltF, mj_leT, mj_leF, mj_eqT, mj_eqF, mj_z0T, mj_z0F, mj_bo0, mj_boc, mj_chk10, mj_chk11, hg, c1, c2, eq_true (Int32.not_lt.mp c2), mj_uj]
  · simp (disch := omega) only [mj_x102, mj_g102_0, mj_g102_1, mj_g102_2, mj_g102_3, mj_g102_4, mj_g102_5, mj_g102_6, mj_g102_7, mj_g102_8, mj_g102_9, mj_g102_10, mj_g102_11, mj_g102_12, mj_g102_13, mj_g102_14, mj_g102_15, mj_g102_16, mj_g102_17, mj_g102_18, mj_g102_19, mj_g102_20, mj_g102_21, mj_g102_22, mj_g102_23, mj_g102_24, mj_g102_25, mj_g102_26, mj_g102_27, mj_g102_28, mj_g102_29, mj_g102_30, mj_g102_31, mj_g102_32, mj_g102_33, mj_g102_34, mj_g102_35, mj_g102_36, mj_g102_37, mj_g102_38, mj_g102_39, mj_g102_40, mj_g102_41, mj_g102_42, mj_g102_43, mj_g102_44, mj_g102_45, mj_g102_46, mj_g102_47, mj_g102_48, mj_g102_49, mj_g102_50, mj_g102_51, mj_g102_52, mj_g102_53, mj_g102_54, mj_g102_55, mj_g102_56, mj_g102_57, mj_g102_58, mj_g102_59, mj_g102_60, mj_g102_61, mj_g102_62, mj_g102_63, mj_g102_64, mj_g102_65, mj_g102_66, mj_g102_67, mj_g102_68, mj_g102_69, mj_g102_70, mj_g102_71, ↓reduceIte, Option.bind_some, Option.toList_some, Option.toList_none, List.cons_append, List.nil_append, mj_ixn, mj_add, mj_mul, mj_sub, mj_dv, mj_rmn, mj_ltT, mj_ltF, mj_leT, mj_leF, mj_eqT, mj_eqF, mj_z0T, mj_z0F, mj_bo0, mj_boc, mj_chk10, mj_chk11, hg, c1]
theorem md_wearOf (hg : g 6 m 0 = some (18, m)) (hO : md_O f m r s n) (hj : j < n) (hc : ¬ f 18 m 13 = 0) : mj_x X 101 [.inr (6, m), .inl (nI j), .inl t, .inl sl] (S, f, g) = some (some (.inl (md_W f m s n (md_fo t sl) j)), (S, f, g)) := by
  have hO2 := hO
  obtain ⟨h1, h2, hG⟩ := hO
  have h60 := hG.n60
  obtain ⟨q1, q2, q3, q4⟩ := hG.q hj
  obtain ⟨b1, b2, b3, b4, b5⟩ := hG
  have e4 : ¬ nI 4 = 0 := by decide
  have e100 : (nI 100 = 0) = False := eq_false (by decide)
  have eg : mj_x X 101 [.inr (6, m), .inl (nI j), .inl t, .inl sl] (S, f, g) = mj_g X 101 50 [some (.inr (6, m)), some (.inl (nI j)), some (.inl t), some (.inl sl), some (.inl (md_fo t sl)), some (.inl (md_T f m j - mc_lb (md_T f m) s n j)), none] [.inl (md_W0 f m s n (md_fo t sl) j)] (S, f, g) := by
    unfold md_W0
    by_cases c1 : md_T f m j - mc_lb (md_T f m) s n j < f 18 m 13 <;> simp (disch := omega) only [mj_x101, mj_g101_0, mj_g101_1, mj_g101_2, mj_g101_3, mj_g101_4, mj_g101_5, mj_g101_6, mj_g101_7, mj_g101_8, mj_g101_9, mj_g101_10, mj_g101_11, mj_g101_12, mj_g101_13, mj_g101_14, mj_g101_15, mj_g101_16, mj_g101_17, mj_g101_18, mj_g101_19, mj_g101_20, mj_g101_21, mj_g101_22, mj_g101_23, mj_g101_24, mj_g101_25, mj_g101_26, mj_g101_27, mj_g101_28, mj_g101_29, mj_g101_30, mj_g101_31, mj_g101_32, mj_g101_33, mj_g101_34, mj_g101_35, mj_g101_36, mj_g101_37, mj_g101_38, mj_g101_39, mj_g101_40, mj_g101_41, mj_g101_42, mj_g101_43, mj_g101_44, mj_g101_45, mj_g101_46, mj_g101_47, mj_g101_48, mj_g101_49, ↓reduceIte, Option.bind_some, Option.toList_some, List.cons_append, List.nil_append, mj_ixn, mj_z0F, hg, h2, md_down e4, md_thick hg, md_least hg hO2 hj, mj_dv, mj_add, e100, hc, c1, md_fo]
  rw [eg]
  unfold md_W
  by_cases c2 : 0 ≤ md_W0 f m s n (md_fo t sl) j <;> simp only [mj_g101_50, mj_g101_51, mj_g101_52, mj_g101_53, mj_g101_54, mj_g101_55, mj_g101_56, ↓reduceIte, c2]
theorem md_stays (hg : g 6 m 0 = some (18, m)) (hj : j < 60) (ht : ¬ md_T f m j + nI 100 = 0) : mj_x X 104 [.inr (6, m), .inl (nI j), .inl q] (S, f, g) = some (some (.inl (md_sy f m j q)), (S, f, g)) := by
  unfold md_sy
  by_cases c1 : mc_tp (f 18 m 14) (md_T f m j) < f 18 m 15 <;> simp (disch := omega) only [mj_x104, mj_g104_0, mj_g104_1, mj_g104_2, mj_g104_3, mj_g104_4, mj_g104_5, mj_g104_6, mj_g104_7, mj_g104_8, mj_g104_9, mj_g104_10, mj_g104_11, mj_g104_12, mj_g104_13, mj_g104_14, mj_g104_15, ↓reduceIte, Option.bind_some, Option.toList_some, Option.toList_none, List.cons_append, List.nil_append, mj_ixn, mj_add, mj_mul, mj_sub, mj_dv, mj_rmn, mj_ltT, mj_ltF, mj_leT, mj_leF, mj_eqT, mj_eqF, mj_z0T, mj_z0F, mj_bo0, mj_boc, mj_chk10, mj_chk11, hg, md_warmth hg hj ht, c1]
theorem md_refusal (hg : g 6 m 0 = some (18, m)) (hj : j < 60) (ht : ¬ md_T f m j + nI 100 = 0) : mj_x X 105 [.inr (6, m), .inl (nI j), .inl q] (S, f, g) = some (some (.inl (md_gr f m j q)), (S, f, g)) := by
  unfold md_gr
  by_cases c1 : f 18 m 5 = nI 1
  · simp (disch := omega) only [mj_x105, mj_g105_0, mj_g105_1, mj_g105_2, mj_g105_3, mj_g105_4, mj_g105_5, mj_g105_6, mj_g105_7, mj_g105_8, mj_g105_9, mj_g105_10, mj_g105_11, mj_g105_12, mj_g105_13, mj_g105_14, mj_g105_15, mj_g105_16, mj_g105_17, mj_g105_18, mj_g105_19, mj_g105_20, mj_g105_21, mj_g105_22, mj_g105_23, mj_g105_24, mj_g105_25, mj_g105_26, mj_g105_27, mj_g105_28, mj_g105_29, ↓reduceIte, Option.bind_some, Option.toList_some, Option.toList_none, List.cons_append, List.nil_append, mj_ixn, mj_add, mj_mul, mj_sub, mj_dv, mj_rmn, mj_ltT, mj_ltF, mj_leT, mj_leF, mj_eqT, mj_eqF, mj_z0T, mj_z0F, mj_bo0, mj_boc, mj_chk10, mj_chk11, hg, c1, not_true]
  · by_cases c2 : md_T f m j + md_sy f m j q ≤ nI 3500
    · by_cases c3 : q ≤ f 18 m 16 <;> simp (disch := omega) only [mj_x105, mj_g105_0, mj_g105_1, mj_g105_2, mj_g105_3, mj_g105_4, mj_g105_5, mj_g105_6, mj_g105_7, mj_g105_8, mj_g105_9, mj_g105_10, mj_g105_11, mj_g105_12, mj_g105_13, mj_g105_14, mj_g105_15, mj_g105_16, mj_g105_17, mj_g105_18, mj_g105_19, mj_g105_20, mj_g105_21, mj_g105_22, mj_g105_23, mj_g105_24, mj_g105_25, mj_g105_26, mj_g105_27, mj_g105_28, mj_g105_29, ↓reduceIte, Option.bind_some, Option.toList_some, Option.toList_none, List.cons_append, List.nil_append, mj_ixn, mj_add, mj_mul, mj_sub, mj_dv, mj_rmn, mj_ltT, mj_ltF, mj_leT, mj_leF, mj_eqT, mj_eqF, mj_z0T, mj_z0F, mj_bo0, mj_boc, mj_chk10, mj_chk11, hg, md_thick hg, md_stays hg hj ht, c1, c2, c3, not_false_eq_true]
    · simp (disch := omega) only [mj_x105, mj_g105_0, mj_g105_1, mj_g105_2, mj_g105_3, mj_g105_4, mj_g105_5, mj_g105_6, mj_g105_7, mj_g105_8, mj_g105_9, mj_g105_10, mj_g105_11, mj_g105_12, mj_g105_13, mj_g105_14, mj_g105_15, mj_g105_16, mj_g105_17, mj_g105_18, mj_g105_19, mj_g105_20, mj_g105_21, mj_g105_22, mj_g105_23, mj_g105_24, mj_g105_25, mj_g105_26, mj_g105_27, mj_g105_28, mj_g105_29, ↓reduceIte, Option.bind_some, Option.toList_some, Option.toList_none, List.cons_append, List.nil_append, mj_ixn, mj_add, mj_mul, mj_sub, mj_dv, mj_rmn, mj_ltT, mj_ltF, mj_leT, mj_leF, mj_eqT, mj_eqF, mj_z0T, mj_z0F, mj_bo0, mj_boc, mj_chk10, mj_chk11, hg, md_thick hg, md_stays hg hj ht, c1, c2, not_false_eq_true]
theorem md_guns (hg : g 6 m 0 = some (18, m)) (hj : j < 60) (ht : ¬ md_T f m j + nI 100 = 0) : mj_x X 106 [.inr (6, m), .inl (nI j), .inl q] (S, f, g) = some (some (.inl (md_sy f m j q)), (S, md_po f m j q, g)) := by
  unfold md_po
  simp (disch := omega) only [mj_x106, mj_g106_0, mj_g106_1, mj_g106_2, mj_g106_3, mj_g106_4, mj_g106_5, mj_g106_6, mj_g106_7, mj_g106_8, mj_g106_9, mj_g106_10, mj_g106_11, mj_g106_12, mj_g106_13, mj_g106_14, mj_g106_15, mj_g106_16, mj_g106_17, mj_g106_18, mj_g106_19, mj_g106_20, mj_g106_21, mj_g106_22, mj_g106_23, mj_g106_24, mj_g106_25, mj_g106_26, mj_g106_27, mj_g106_28, mj_g106_29, mj_g106_30, mj_g106_31, mj_g106_32, ↓reduceIte, Option.bind_some, Option.toList_some, Option.toList_none, List.cons_append, List.nil_append, mj_ixn, mj_add, mj_mul, mj_sub, mj_dv, mj_rmn, mj_ltT, mj_ltF, mj_leT, mj_leF, mj_eqT, mj_eqF, mj_z0T, mj_z0F, mj_bo0, mj_boc, mj_chk10, mj_chk11, hg, md_stays hg hj ht, mj_uj]
end MO
