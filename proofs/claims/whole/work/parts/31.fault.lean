/-! LogText: ranges; the first fault -/
section TN
variable {X : mj_X} {S : List (Nat × Nat)} {f F : mj_F} {g : mj_G} {i L p e a r n b : Nat} {c x v : Int32}
theorem mj_boi {P Q : Prop} [Decidable P] [Decidable Q] (h : P ↔ Q) : mj_bo P = mj_bo Q := by
  unfold mj_bo
  by_cases y_ : P
  · rw [if_pos y_, if_pos (h.mp y_)]
  · rw [if_neg y_, if_neg (fun q_ => y_ (h.mpr q_))]
theorem mc_isInRange [Decidable (mt_in (f 2 i 2) (f 2 i 3) (f 2 i 4) r n)] (hr : f 1 a 0 = nI r) (hn : f 1 a 2 = nI n) : mj_x X 42 [.inr (2, i), .inr (1, a)] (S, f, g) = some (some (.inl (mj_bo (mt_in (f 2 i 2) (f 2 i 3) (f 2 i 4) r n))), (S, f, g)) := by
  by_cases c3 : f 2 i 2 = nI 103
  · by_cases c4 : nI 0 ≤ f 2 i 3 ∧ f 2 i 3 ≤ nI n - nI 1
    · have e1 : mt_in (f 2 i 2) (f 2 i 3) (f 2 i 4) r n ↔ (nI 1 ≤ f 2 i 4 ∧ f 2 i 4 ≤ nI 500) := by
        refine ⟨fun h => (h.2.1 c3).2, fun h => ⟨fun q_ => ?_, fun _ => ⟨c4, h⟩, fun q_ => ?_⟩⟩
        · rw [c3] at q_; exact absurd q_ (by decide)
        · rw [c3] at q_; exact absurd q_ (by decide)
      rw [mj_boi e1]
      by_cases c5 : nI 1 ≤ f 2 i 4 ∧ f 2 i 4 ≤ nI 500
      · rw [← mj_boT c5]
        simp only [mj_x42, mj_g42_0, mj_g42_1, mj_g42_2, mj_g42_9, mj_g42_10, mj_g42_11, mj_g42_12, mj_g42_13, mj_g42_14, mj_g42_15, mj_g42_16, mj_g42_17, mj_g42_18, mj_g42_19, mj_g42_20, mj_g42_21, mj_ti3, mj_ti4, mj_ti14, c3, ↓reduceIte, mc_hasSpot hn, mc_isAmount, Option.bind_some, Option.toList_some, List.cons_append, List.nil_append, mj_bo0, mj_boc, not_true, c4, c5, and_self, mj_chk11]
      · rw [← mj_boF c5]
        simp only [mj_x42, mj_g42_0, mj_g42_1, mj_g42_2, mj_g42_9, mj_g42_10, mj_g42_11, mj_g42_12, mj_g42_13, mj_g42_14, mj_g42_15, mj_g42_16, mj_g42_17, mj_g42_18, mj_g42_19, mj_g42_20, mj_g42_21, mj_ti3, mj_ti4, mj_ti14, c3, ↓reduceIte, mc_hasSpot hn, mc_isAmount, Option.bind_some, Option.toList_some, List.cons_append, List.nil_append, mj_bo0, mj_boc, not_true, not_false_eq_true, c4, c5, and_self, mj_chk10]
    · have e1 : ¬ mt_in (f 2 i 2) (f 2 i 3) (f 2 i 4) r n := fun h => c4 (h.2.1 c3).1
      rw [← mj_boF e1]
      simp only [mj_x42, mj_g42_0, mj_g42_1, mj_g42_2, mj_g42_9, mj_g42_10, mj_g42_11, mj_g42_12, mj_g42_13, mj_g42_14, mj_g42_15, mj_g42_16, mj_g42_17, mj_g42_18, mj_g42_19, mj_g42_20, mj_g42_21, mj_ti3, mj_ti4, mj_ti14, c3, ↓reduceIte, mc_hasSpot hn, Option.bind_some, Option.toList_some, List.cons_append, List.nil_append, mj_bo0, mj_boc, not_false_eq_true, c4, mj_chk10]
  · by_cases c4 : f 2 i 2 = nI 104
    · haveI : Decidable (mc_iH (f 2 i 3) (f 2 i 4)) := Classical.propDecidable _
      have e1 : mt_in (f 2 i 2) (f 2 i 3) (f 2 i 4) r n ↔ mc_iH (f 2 i 3) (f 2 i 4) := by
        refine ⟨fun h => h.1 c4, fun h => ⟨fun _ => h, fun q_ => absurd q_ c3, fun q_ => ?_⟩⟩
        rw [c4] at q_; exact absurd q_ (by decide)
      rw [mj_boi e1]
      simp only [mj_x42, mj_g42_0, mj_g42_1, mj_g42_2, mj_g42_3, mj_g42_4, mj_g42_5, mj_g42_6, mj_g42_7, mj_g42_8, mj_ti3, mj_ti4, mj_ti14, c4, mj_kd4, ↓reduceIte, mc_isHeat, Option.bind_some, Option.toList_some, List.cons_append, List.nil_append, mj_boc]
    · by_cases c5 : f 2 i 2 = nI 114
      · have e1 : mt_in (f 2 i 2) (f 2 i 3) (f 2 i 4) r n ↔ (nI 0 ≤ f 2 i 3 ∧ f 2 i 3 ≤ nI r - nI 1) := ⟨fun h => h.2.2 c5, fun h => ⟨fun q_ => absurd q_ c4, fun q_ => absurd q_ c3, fun _ => h⟩⟩
        rw [mj_boi e1]
        simp only [mj_x42, mj_g42_0, mj_g42_1, mj_g42_2, mj_g42_22, mj_g42_23, mj_g42_24, mj_g42_25, mj_g42_26, mj_ti3, mj_ti4, mj_ti14, c5, mj_kd5, mj_kd6, ↓reduceIte, mc_hasRing hr, Option.bind_some, Option.toList_some, List.cons_append, List.nil_append, mj_boc]
      · have e1 : mt_in (f 2 i 2) (f 2 i 3) (f 2 i 4) r n := ⟨fun q_ => absurd q_ c4, fun q_ => absurd q_ c3, fun q_ => absurd q_ c5⟩
        rw [← mj_boT e1]
        simp only [mj_x42, mj_g42_0, mj_g42_1, mj_g42_2, mj_g42_27, mj_g42_28, mj_ti3, mj_ti4, mj_ti14, c3, c4, c5, ↓reduceIte, mj_chk11]
theorem mt_in_l {t : Nat → Int32} {f2 : mj_F} (hk : f2 2 i 2 = t b) (h3 : (t b = nI 103 ∨ t b = nI 104 ∨ t b = nI 114) → f2 2 i 3 = (mt_n t L (b + 1)).2) (h4 : (t b = nI 103 ∨ t b = nI 104) → f2 2 i 4 = (mt_m2 t L (b + 1)).2) : mt_in (f2 2 i 2) (f2 2 i 3) (f2 2 i 4) r n ↔ mt_in (t b) (mt_n t L (b + 1)).2 (mt_m2 t L (b + 1)).2 r n := by
  rw [hk]
  unfold mt_in
  constructor
  · intro ⟨p1, p2, p3⟩
    refine ⟨fun q_ => ?_, fun q_ => ?_, fun q_ => ?_⟩
    · rw [← h3 (Or.inr (Or.inl q_)), ← h4 (Or.inr q_)]; exact p1 q_
    · rw [← h3 (Or.inl q_), ← h4 (Or.inl q_)]; exact p2 q_
    · rw [← h3 (Or.inr (Or.inr q_))]; exact p3 q_
  · intro ⟨p1, p2, p3⟩
    refine ⟨fun q_ => ?_, fun q_ => ?_, fun q_ => ?_⟩
    · rw [h3 (Or.inr (Or.inl q_)), h4 (Or.inr q_)]; exact p1 q_
    · rw [h3 (Or.inl q_), h4 (Or.inl q_)]; exact p2 q_
    · rw [h3 (Or.inr (Or.inr q_))]; exact p3 q_
theorem mt_ff_s {t : Nat → Int32} {q : Nat} : mt_ff t L r n (q + 1) b = if b < L then (@ite _ (mt_P t L r n b) (Classical.propDecidable _) (mt_ff t L r n q (mt_nx t L b)) (some b)) else none := rfl
theorem mc_ffl (hg : g 2 i 0 = some (14, i)) (hL : f 2 i 1 = nI L) (h100 : L ≤ 100) (hc : ∀ j, j < L → mj_chk 2 (f 14 i j) = true) (hr : f 1 a 0 = nI r) (hn : f 1 a 2 = nI n) : ∀ (q k b : Nat) (F : mj_F), k + q = 100 → k ≤ b → b ≤ 1000 → mt_Q i f F → ∃ f2, mj_g X 36 4 [some (.inr (2, i)), some (.inr (1, a)), some (.inl (nI b)), some (.inl (nI k))] [] (S, F, g) = some (some (.inl (mc_oi (mt_ff (f 14 i) L r n q b))), (S, f2, g)) ∧ mt_Q i f f2 := by
  intro q
  induction q with
  | zero =>
    intro k b F hk hkb hb hQ
    refine ⟨F, ?_, hQ⟩
    refine Eq.trans mj_g36_4 ?_
    have hk2 : k = 100 := by omega
    subst hk2
    simp (disch := omega) only [mj_g36_5, mj_g36_6, mj_g36_26, mj_g36_27, ↓reduceIte, Option.bind_some, Option.toList_some, Option.toList_none, List.cons_append, List.nil_append, mj_ixn, mj_add, mj_mul, mj_sub, mj_dv, mj_rmn, mj_ltT, mj_ltF, mj_leT, mj_leF, mj_eqT, mj_eqF, mj_z0T, mj_z0F, mj_bo0, mj_boc, mj_chk10, mj_chk11]
    rfl
  | succ q ih =>
    intro k b F hk hkb hb hQ
    have hL2 : F 2 i 1 = nI L := (mt_Q_1 hQ).trans hL
    have e14 := mt_Q_14 hQ
    rw [mt_ff_s]
    by_cases c1 : b < L
    · obtain ⟨f2, a1, a2, a3, a4⟩ := mc_readLine (X := X) (S := S) (f := F) hg hL2 h100 c1 (by rw [e14]; exact hc b c1)
      rw [e14] at a1 a3 a4
      have Q2 : mt_Q i f f2 := fun k i2 j h => (a2 k i2 j h).trans (hQ k i2 j h)
      rw [if_pos c1]
      by_cases c2 : mt_ok (f 14 i) L b
      · obtain ⟨b1, b2, b3⟩ := a4 c2
        have e2 := mt_in_l (i := i) (L := L) (b := b) (r := r) (n := n) (f2 := f2) a3 b2 b3
        haveI : Decidable (mt_in (f2 2 i 2) (f2 2 i 3) (f2 2 i 4) r n) := Classical.propDecidable _
        have r2 := mc_isInRange (X := X) (S := S) (f := f2) (g := g) (i := i) (a := a) (r := r) (n := n) ((Q2 1 a 0 (by omega)).trans hr) ((Q2 1 a 2 (by omega)).trans hn)
        by_cases c3 : mt_in (f2 2 i 2) (f2 2 i 3) (f2 2 i 4) r n
        · have hP : mt_P (f 14 i) L r n b := ⟨c2, e2.mp c3⟩
          have hx := mt_nx_b (t := f 14 i) (L := L) (b := b)
          have hx2 : mt_nx (f 14 i) L b ≤ 1000 := by
            have h1 := mt_n_b (f 14 i) L (b + 1)
            have h2 := mt_n_b (f 14 i) L ((mt_n (f 14 i) L (b + 1)).1 + 1)
            have h3 : (mt_m2 (f 14 i) L (b + 1)).1 ≤ (mt_n (f 14 i) L (b + 1)).1 + 1 + 4 := h2.2.1
            unfold mt_nx
            split
            · omega
            · split <;> omega
          obtain ⟨f3, d1, d2⟩ := ih (k + 1) (mt_nx (f 14 i) L b) f2 (by omega) (by omega) hx2 Q2
          refine ⟨f3, ?_, d2⟩
          rw [if_pos hP, ← d1]
          refine Eq.trans mj_g36_4 ?_
          simp (disch := omega) only [mj_g36_5, mj_g36_6, mj_g36_7, mj_g36_8, mj_g36_9, mj_g36_10, mj_g36_11, mj_g36_12, mj_g36_13, mj_g36_14, mj_g36_15, mj_g36_16, mj_g36_17, mj_g36_18, mj_g36_21, mj_g36_22, mj_g36_23, mj_g36_24, mj_g36_25, ↓reduceIte, Option.bind_some, Option.toList_some, Option.toList_none, List.cons_append, List.nil_append, mj_ixn, mj_add, mj_mul, mj_sub, mj_dv, mj_rmn, mj_ltT, mj_ltF, mj_leT, mj_leF, mj_eqT, mj_eqF, mj_z0T, mj_z0F, mj_bo0, mj_boc, mj_chk10, mj_chk11, hL2, a1, r2, eq_true c2, eq_true c3, not_true, b1]
        · have hP : ¬ mt_P (f 14 i) L r n b := fun q_ => c3 (e2.mpr q_.2)
          refine ⟨f2, ?_, Q2⟩
          rw [if_neg hP]
          refine Eq.trans mj_g36_4 ?_
          simp (disch := omega) only [mj_g36_5, mj_g36_6, mj_g36_7, mj_g36_8, mj_g36_9, mj_g36_10, mj_g36_11, mj_g36_12, mj_g36_13, mj_g36_14, mj_g36_15, mj_g36_16, mj_g36_17, mj_g36_18, mj_g36_19, mj_g36_20, ↓reduceIte, Option.bind_some, Option.toList_some, Option.toList_none, List.cons_append, List.nil_append, mj_ixn, mj_add, mj_mul, mj_sub, mj_dv, mj_rmn, mj_ltT, mj_ltF, mj_leT, mj_leF, mj_eqT, mj_eqF, mj_z0T, mj_z0F, mj_bo0, mj_boc, mj_chk10, mj_chk11, hL2, a1, r2, eq_true c2, eq_false c3, not_true, not_false_eq_true]
          rfl
      · have hP : ¬ mt_P (f 14 i) L r n b := fun q_ => c2 q_.1
        refine ⟨f2, ?_, Q2⟩
        rw [if_neg hP]
        refine Eq.trans mj_g36_4 ?_
        simp (disch := omega) only [mj_g36_5, mj_g36_6, mj_g36_7, mj_g36_8, mj_g36_9, mj_g36_10, mj_g36_11, mj_g36_12, mj_g36_13, mj_g36_14, mj_g36_19, mj_g36_20, ↓reduceIte, Option.bind_some, Option.toList_some, Option.toList_none, List.cons_append, List.nil_append, mj_ixn, mj_add, mj_mul, mj_sub, mj_dv, mj_rmn, mj_ltT, mj_ltF, mj_leT, mj_leF, mj_eqT, mj_eqF, mj_z0T, mj_z0F, mj_bo0, mj_boc, mj_chk10, mj_chk11, hL2, a1, eq_false c2, not_false_eq_true]
        rfl
    · refine ⟨F, ?_, hQ⟩
      rw [if_neg c1]
      refine Eq.trans mj_g36_4 ?_
      simp (disch := omega) only [mj_g36_5, mj_g36_6, mj_g36_7, mj_g36_8, mj_g36_9, mj_g36_10, mj_g36_26, mj_g36_27, ↓reduceIte, Option.bind_some, Option.toList_some, Option.toList_none, List.cons_append, List.nil_append, mj_ixn, mj_add, mj_mul, mj_sub, mj_dv, mj_rmn, mj_ltT, mj_ltF, mj_leT, mj_leF, mj_eqT, mj_eqF, mj_z0T, mj_z0F, mj_bo0, mj_boc, mj_chk10, mj_chk11, hL2]
      rfl
theorem mc_firstFault (hg : g 2 i 0 = some (14, i)) (hL : f 2 i 1 = nI L) (h100 : L ≤ 100) (hc : ∀ j, j < L → mj_chk 2 (f 14 i j) = true) (hr : f 1 a 0 = nI r) (hn : f 1 a 2 = nI n) : ∃ f2, mj_x X 36 [.inr (2, i), .inr (1, a)] (S, f, g) = some (some (.inl (mc_oi (mt_ff (f 14 i) L r n 100 0))), (S, f2, g)) ∧ mt_Q i f f2 := by
  obtain ⟨f2, d1, d2⟩ := mc_ffl (X := X) (S := S) hg hL h100 hc hr hn 100 0 0 f rfl (Nat.le_refl _) (by omega) (fun _ _ _ _ => rfl)
  refine ⟨f2, ?_, d2⟩
  rw [← d1]
  simp only [mj_x36, mj_g36_0, mj_g36_1, mj_g36_2, mj_g36_3]
end TN
