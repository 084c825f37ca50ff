/-! LogText: a line; the first fault -/
def mt_Q (i : Nat) (f F : mj_F) : Prop := ∀ k i2 j, ¬ (k = 2 ∧ i2 = i ∧ 2 ≤ j) → F k i2 j = f k i2 j
theorem mt_Q_u {i : Nat} {f F : mj_F} (h : mt_Q i f F) {j : Nat} {x : Int32} (hj : 2 ≤ j) : mt_Q i f (mj_u F 2 i j x) := fun k i2 j2 hn => by
  unfold mj_u
  rw [if_neg (fun q_ => hn ⟨q_.1, q_.2.1, by omega⟩)]
  exact h k i2 j2 hn
theorem mt_Q_14 {i : Nat} {f F : mj_F} (h : mt_Q i f F) : F 14 i = f 14 i := funext (fun j => h 14 i j (by omega))
theorem mt_Q_1 {i : Nat} {f F : mj_F} (h : mt_Q i f F) : F 2 i 1 = f 2 i 1 := h 2 i 1 (by omega)
abbrev mt_m2 (t : Nat → Int32) (L p : Nat) : Nat × Int32 := mt_n t L ((mt_n t L p).1 + 1)
abbrev mt_hg (t : Nat → Int32) (L p : Nat) : Prop := p < (mt_n t L p).1 ∧ mt_a t L (mt_n t L p).1 (nI 44) ∧ (mt_n t L p).1 + 1 < (mt_m2 t L p).1 ∧ mt_a t L (mt_m2 t L p).1 (nI 59)
abbrev mt_rr (t : Nat → Int32) (L p : Nat) : Prop := p < (mt_n t L p).1 ∧ mt_a t L (mt_n t L p).1 (nI 59)
abbrev mt_ok (t : Nat → Int32) (L b : Nat) : Prop := ((t b = nI 103 ∨ t b = nI 104) ∧ mt_hg t L (b + 1)) ∨ (t b = nI 114 ∧ mt_rr t L (b + 1)) ∨ (t b = nI 115 ∧ mt_a t L (b + 1) (nI 59))
def mt_nx (t : Nat → Int32) (L b : Nat) : Nat := if t b = nI 114 then (mt_n t L (b + 1)).1 + 1 else if t b = nI 115 then b + 2 else (mt_m2 t L (b + 1)).1 + 1
section TL
variable {X : mj_X} {S : List (Nat × Nat)} {f F : mj_F} {g : mj_G} {i L p e a n b : Nat} {c x v : Int32}
theorem mc_rl_no {l1 : Option mj_V} : mj_g X 37 38 [some (.inr (2, i)), l1, some (.inl (nI 0))] [] (S, F, g) = some (some (.inl (nI 0)), (S, F, g)) := by
  simp (disch := omega) only [mj_g37_38, mj_g37_39, mj_g37_46, mj_g37_47, ↓reduceIte, Option.bind_some, Option.toList_some, Option.toList_none, List.cons_append, List.nil_append, mj_ixn, mj_add, mj_mul, mj_sub, mj_dv, mj_rmn, mj_ltT, mj_ltF, mj_leT, mj_leF, mj_eqT, mj_eqF, mj_z0T, mj_z0F, mj_bo0, mj_boc, mj_chk10, mj_chk11]
theorem mc_rl_T {l1 : Option mj_V} (hg : g 2 i 0 = some (14, i)) (hL : F 2 i 1 = nI L) (h100 : L ≤ 100) (hp : F 2 i 5 = nI p) (hp1 : p < 900) (hc : mt_a (F 14 i) L p (nI 59)) : mj_g X 37 38 [some (.inr (2, i)), l1, some (.inl (nI 1))] [] (S, F, g) = some (some (.inl (nI 1)), (S, mj_u F 2 i 5 (nI (p + 1)), g)) := by
  have z1 := mc_readSignT (X := X) (S := S) hg hL h100 hp (by omega) hc
  simp (disch := omega) only [mj_g37_38, mj_g37_39, mj_g37_40, mj_g37_41, mj_g37_42, mj_g37_43, mj_g37_44, mj_g37_45, mj_g37_46, mj_g37_47, ↓reduceIte, Option.bind_some, Option.toList_some, Option.toList_none, List.cons_append, List.nil_append, mj_ixn, mj_add, mj_mul, mj_sub, mj_dv, mj_rmn, mj_ltT, mj_ltF, mj_leT, mj_leF, mj_eqT, mj_eqF, mj_z0T, mj_z0F, mj_bo0, mj_boc, mj_chk10, mj_chk11, z1]
theorem mc_rl_F {l1 : Option mj_V} (hg : g 2 i 0 = some (14, i)) (hL : F 2 i 1 = nI L) (h100 : L ≤ 100) (hp : F 2 i 5 = nI p) (hp1 : p < 900) (hc : ¬ mt_a (F 14 i) L p (nI 59)) : mj_g X 37 38 [some (.inr (2, i)), l1, some (.inl (nI 1))] [] (S, F, g) = some (some (.inl (nI 0)), (S, F, g)) := by
  have z1 := mc_readSignF (X := X) (S := S) hg hL h100 hp (by omega) hc
  simp (disch := omega) only [mj_g37_38, mj_g37_39, mj_g37_40, mj_g37_41, mj_g37_42, mj_g37_43, mj_g37_44, mj_g37_45, mj_g37_46, mj_g37_47, ↓reduceIte, Option.bind_some, Option.toList_some, Option.toList_none, List.cons_append, List.nil_append, mj_ixn, mj_add, mj_mul, mj_sub, mj_dv, mj_rmn, mj_ltT, mj_ltF, mj_leT, mj_leF, mj_eqT, mj_eqF, mj_z0T, mj_z0F, mj_bo0, mj_boc, mj_chk10, mj_chk11, z1]
theorem mc_rl_hg {l1 l2 : Option mj_V} (hg : g 2 i 0 = some (14, i)) (hL : f 2 i 1 = nI L) (h100 : L ≤ 100) (hQ : mt_Q i f F) (hp : F 2 i 5 = nI p) (hp1 : p < 200) : ∃ f2, mj_g X 37 14 [some (.inr (2, i)), l1, l2] [] (S, F, g) = some (some (.inl (mj_bo (mt_hg (f 14 i) L p))), (S, f2, g)) ∧ mt_Q i f f2 ∧ f2 2 i 2 = F 2 i 2 ∧ (mt_hg (f 14 i) L p → f2 2 i 5 = nI ((mt_m2 (f 14 i) L p).1 + 1) ∧ f2 2 i 3 = (mt_n (f 14 i) L p).2 ∧ f2 2 i 4 = (mt_m2 (f 14 i) L p).2) := by
  have hL2 : F 2 i 1 = nI L := (mt_Q_1 hQ).trans hL
  have r1 := mc_readFirst (X := X) (S := S) hg hL2 h100 hp (by omega)
  rw [mt_Q_14 hQ] at r1
  have hb := mt_n_b (f 14 i) L p
  have hb2 := mt_n_b (f 14 i) L ((mt_n (f 14 i) L p).1 + 1)
  have hb3 : (mt_m2 (f 14 i) L p).1 ≤ (mt_n (f 14 i) L p).1 + 1 + 4 := hb2.2.1
  by_cases c1 : p < (mt_n (f 14 i) L p).1
  · have Q2 : mt_Q i f (mj_u (mj_u F 2 i 5 (nI (mt_n (f 14 i) L p).1)) 2 i 3 (mt_n (f 14 i) L p).2) := mt_Q_u (mt_Q_u hQ (by omega)) (by omega)
    have p2 : mj_u (mj_u F 2 i 5 (nI (mt_n (f 14 i) L p).1)) 2 i 3 (mt_n (f 14 i) L p).2 2 i 5 = nI (mt_n (f 14 i) L p).1 := by rw [mj_uj (by decide), mj_us]
    have k2 : mj_u (mj_u F 2 i 5 (nI (mt_n (f 14 i) L p).1)) 2 i 3 (mt_n (f 14 i) L p).2 2 i 2 = F 2 i 2 := by rw [mj_uj (by decide), mj_uj (by decide)]
    have v2 : mj_u (mj_u F 2 i 5 (nI (mt_n (f 14 i) L p).1)) 2 i 3 (mt_n (f 14 i) L p).2 2 i 3 = (mt_n (f 14 i) L p).2 := mj_us
    generalize mj_u (mj_u F 2 i 5 (nI (mt_n (f 14 i) L p).1)) 2 i 3 (mt_n (f 14 i) L p).2 = F2 at r1 Q2 p2 k2 v2
    by_cases c2 : mt_a (f 14 i) L (mt_n (f 14 i) L p).1 (nI 44)
    · have s1 := mc_readSignT (X := X) (S := S) (f := F2) (c := nI 44) hg ((mt_Q_1 Q2).trans hL) h100 p2 (by omega) (by rw [mt_Q_14 Q2]; exact c2)
      have Q3 : mt_Q i f (mj_u F2 2 i 5 (nI ((mt_n (f 14 i) L p).1 + 1))) := mt_Q_u Q2 (by omega)
      have r2 := mc_readSecond (X := X) (S := S) (f := mj_u F2 2 i 5 (nI ((mt_n (f 14 i) L p).1 + 1))) hg ((mt_Q_1 Q3).trans hL) h100 mj_us (by omega)
      rw [mt_Q_14 Q3] at r2
      have Q4 : mt_Q i f (mj_u (mj_u (mj_u F2 2 i 5 (nI ((mt_n (f 14 i) L p).1 + 1))) 2 i 5 (nI (mt_m2 (f 14 i) L p).1)) 2 i 4 (mt_m2 (f 14 i) L p).2) := mt_Q_u (mt_Q_u Q3 (by omega)) (by omega)
      have p4 : mj_u (mj_u (mj_u F2 2 i 5 (nI ((mt_n (f 14 i) L p).1 + 1))) 2 i 5 (nI (mt_m2 (f 14 i) L p).1)) 2 i 4 (mt_m2 (f 14 i) L p).2 2 i 5 = nI (mt_m2 (f 14 i) L p).1 := by rw [mj_uj (by decide), mj_us]
      have k4 : mj_u (mj_u (mj_u F2 2 i 5 (nI ((mt_n (f 14 i) L p).1 + 1))) 2 i 5 (nI (mt_m2 (f 14 i) L p).1)) 2 i 4 (mt_m2 (f 14 i) L p).2 2 i 2 = F 2 i 2 := by rw [mj_uj (by decide), mj_uj (by decide), mj_uj (by decide), k2]
      have v4 : mj_u (mj_u (mj_u F2 2 i 5 (nI ((mt_n (f 14 i) L p).1 + 1))) 2 i 5 (nI (mt_m2 (f 14 i) L p).1)) 2 i 4 (mt_m2 (f 14 i) L p).2 2 i 3 = (mt_n (f 14 i) L p).2 := by rw [mj_uj (by decide), mj_uj (by decide), mj_uj (by decide), v2]
      have w4 : mj_u (mj_u (mj_u F2 2 i 5 (nI ((mt_n (f 14 i) L p).1 + 1))) 2 i 5 (nI (mt_m2 (f 14 i) L p).1)) 2 i 4 (mt_m2 (f 14 i) L p).2 2 i 4 = (mt_m2 (f 14 i) L p).2 := mj_us
      generalize mj_u (mj_u (mj_u F2 2 i 5 (nI ((mt_n (f 14 i) L p).1 + 1))) 2 i 5 (nI (mt_m2 (f 14 i) L p).1)) 2 i 4 (mt_m2 (f 14 i) L p).2 = F4 at r2 Q4 p4 k4 v4 w4
      by_cases c3 : (mt_n (f 14 i) L p).1 + 1 < (mt_m2 (f 14 i) L p).1
      · by_cases c4 : mt_a (f 14 i) L (mt_m2 (f 14 i) L p).1 (nI 59)
        · have e1 := mc_rl_T (X := X) (S := S) (l1 := l1) hg ((mt_Q_1 Q4).trans hL) h100 p4 (by omega) (by rw [mt_Q_14 Q4]; exact c4)
          refine ⟨mj_u F4 2 i 5 (nI ((mt_m2 (f 14 i) L p).1 + 1)), ?_, mt_Q_u Q4 (by omega), ?_, fun _ => ⟨mj_us, ?_, ?_⟩⟩
          · rw [← mj_boT (P := mt_hg (f 14 i) L p) ⟨c1, c2, c3, c4⟩, ← e1]
            simp (disch := omega) only [mj_g37_14, mj_g37_15, mj_g37_16, mj_g37_17, mj_g37_18, mj_g37_19, mj_g37_20, mj_g37_21, mj_g37_22, mj_g37_23, mj_g37_24, mj_g37_25, mj_g37_26, mj_g37_27, mj_g37_28, ↓reduceIte, Option.bind_some, Option.toList_some, Option.toList_none, List.cons_append, List.nil_append, mj_ixn, mj_add, mj_mul, mj_sub, mj_dv, mj_rmn, mj_ltT, mj_ltF, mj_leT, mj_leF, mj_eqT, mj_eqF, mj_z0T, mj_z0F, mj_bo0, mj_boc, mj_chk10, mj_chk11, r1, s1, r2, c1, c3, not_true]
          · rw [mj_uj (by decide), k4]
          · rw [mj_uj (by decide), v4]
          · rw [mj_uj (by decide), w4]
        · have e1 := mc_rl_F (X := X) (S := S) (l1 := l1) hg ((mt_Q_1 Q4).trans hL) h100 p4 (by omega) (by rw [mt_Q_14 Q4]; exact c4)
          refine ⟨F4, ?_, Q4, k4, fun q_ => absurd q_.2.2.2 c4⟩
          rw [← mj_boF (P := mt_hg (f 14 i) L p) (fun q_ => c4 q_.2.2.2), ← e1]
          simp (disch := omega) only [mj_g37_14, mj_g37_15, mj_g37_16, mj_g37_17, mj_g37_18, mj_g37_19, mj_g37_20, mj_g37_21, mj_g37_22, mj_g37_23, mj_g37_24, mj_g37_25, mj_g37_26, mj_g37_27, mj_g37_28, ↓reduceIte, Option.bind_some, Option.toList_some, Option.toList_none, List.cons_append, List.nil_append, mj_ixn, mj_add, mj_mul, mj_sub, mj_dv, mj_rmn, mj_ltT, mj_ltF, mj_leT, mj_leF, mj_eqT, mj_eqF, mj_z0T, mj_z0F, mj_bo0, mj_boc, mj_chk10, mj_chk11, r1, s1, r2, c1, c3, not_true]
      · have e1 := mc_rl_no (X := X) (S := S) (F := F4) (g := g) (i := i) (l1 := l1)
        refine ⟨F4, ?_, Q4, k4, fun q_ => absurd q_.2.2.1 c3⟩
        rw [← mj_boF (P := mt_hg (f 14 i) L p) (fun q_ => c3 q_.2.2.1), ← e1]
        simp (disch := omega) only [mj_g37_14, mj_g37_15, mj_g37_16, mj_g37_17, mj_g37_18, mj_g37_19, mj_g37_20, mj_g37_21, mj_g37_22, mj_g37_23, mj_g37_24, mj_g37_25, mj_g37_26, mj_g37_27, mj_g37_28, ↓reduceIte, Option.bind_some, Option.toList_some, Option.toList_none, List.cons_append, List.nil_append, mj_ixn, mj_add, mj_mul, mj_sub, mj_dv, mj_rmn, mj_ltT, mj_ltF, mj_leT, mj_leF, mj_eqT, mj_eqF, mj_z0T, mj_z0F, mj_bo0, mj_boc, mj_chk10, mj_chk11, r1, s1, r2, c1, c3, not_true, not_false_eq_true]
    · have s1 := mc_readSignF (X := X) (S := S) (f := F2) (c := nI 44) hg ((mt_Q_1 Q2).trans hL) h100 p2 (by omega) (by rw [mt_Q_14 Q2]; exact c2)
      have e1 := mc_rl_no (X := X) (S := S) (F := F2) (g := g) (i := i) (l1 := l1)
      refine ⟨F2, ?_, Q2, k2, fun q_ => absurd q_.2.1 c2⟩
      rw [← mj_boF (P := mt_hg (f 14 i) L p) (fun q_ => c2 q_.2.1), ← e1]
      simp (disch := omega) only [mj_g37_14, mj_g37_15, mj_g37_16, mj_g37_17, mj_g37_18, mj_g37_19, mj_g37_20, mj_g37_21, mj_g37_22, mj_g37_23, mj_g37_24, mj_g37_25, mj_g37_26, mj_g37_27, mj_g37_28, ↓reduceIte, Option.bind_some, Option.toList_some, Option.toList_none, List.cons_append, List.nil_append, mj_ixn, mj_add, mj_mul, mj_sub, mj_dv, mj_rmn, mj_ltT, mj_ltF, mj_leT, mj_leF, mj_eqT, mj_eqF, mj_z0T, mj_z0F, mj_bo0, mj_boc, mj_chk10, mj_chk11, r1, s1, c1, not_true]
  · have e1 := mc_rl_no (X := X) (S := S) (F := mj_u (mj_u F 2 i 5 (nI (mt_n (f 14 i) L p).1)) 2 i 3 (mt_n (f 14 i) L p).2) (g := g) (i := i) (l1 := l1)
    refine ⟨_, ?_, mt_Q_u (mt_Q_u hQ (j := 5) (x := nI (mt_n (f 14 i) L p).1) (by omega)) (j := 3) (x := (mt_n (f 14 i) L p).2) (by omega), by rw [mj_uj (by decide), mj_uj (by decide)], fun q_ => absurd q_.1 c1⟩
    rw [← mj_boF (P := mt_hg (f 14 i) L p) (fun q_ => c1 q_.1), ← e1]
    simp (disch := omega) only [mj_g37_14, mj_g37_15, mj_g37_16, mj_g37_17, mj_g37_18, mj_g37_19, mj_g37_20, mj_g37_21, mj_g37_22, mj_g37_23, mj_g37_24, mj_g37_25, mj_g37_26, mj_g37_27, mj_g37_28, ↓reduceIte, Option.bind_some, Option.toList_some, Option.toList_none, List.cons_append, List.nil_append, mj_ixn, mj_add, mj_mul, mj_sub, mj_dv, mj_rmn, mj_ltT, mj_ltF, mj_leT, mj_leF, mj_eqT, mj_eqF, mj_z0T, mj_z0F, mj_bo0, mj_boc, mj_chk10, mj_chk11, r1, c1, not_false_eq_true]
theorem mc_rl_r {l1 l2 : Option mj_V} (hg : g 2 i 0 = some (14, i)) (hL : f 2 i 1 = nI L) (h100 : L ≤ 100) (hQ : mt_Q i f F) (hp : F 2 i 5 = nI p) (hp1 : p < 200) : ∃ f2, mj_g X 37 29 [some (.inr (2, i)), l1, l2] [] (S, F, g) = some (some (.inl (mj_bo (mt_rr (f 14 i) L p))), (S, f2, g)) ∧ mt_Q i f f2 ∧ f2 2 i 2 = F 2 i 2 ∧ (mt_rr (f 14 i) L p → f2 2 i 5 = nI ((mt_n (f 14 i) L p).1 + 1) ∧ f2 2 i 3 = (mt_n (f 14 i) L p).2) := by
  have hL2 : F 2 i 1 = nI L := (mt_Q_1 hQ).trans hL
  have r1 := mc_readFirst (X := X) (S := S) hg hL2 h100 hp (by omega)
  rw [mt_Q_14 hQ] at r1
  have hb := mt_n_b (f 14 i) L p
  have Q2 : mt_Q i f (mj_u (mj_u F 2 i 5 (nI (mt_n (f 14 i) L p).1)) 2 i 3 (mt_n (f 14 i) L p).2) := mt_Q_u (mt_Q_u hQ (by omega)) (by omega)
  have p2 : mj_u (mj_u F 2 i 5 (nI (mt_n (f 14 i) L p).1)) 2 i 3 (mt_n (f 14 i) L p).2 2 i 5 = nI (mt_n (f 14 i) L p).1 := by rw [mj_uj (by decide), mj_us]
  have k2 : mj_u (mj_u F 2 i 5 (nI (mt_n (f 14 i) L p).1)) 2 i 3 (mt_n (f 14 i) L p).2 2 i 2 = F 2 i 2 := by rw [mj_uj (by decide), mj_uj (by decide)]
  have v2 : mj_u (mj_u F 2 i 5 (nI (mt_n (f 14 i) L p).1)) 2 i 3 (mt_n (f 14 i) L p).2 2 i 3 = (mt_n (f 14 i) L p).2 := mj_us
  generalize mj_u (mj_u F 2 i 5 (nI (mt_n (f 14 i) L p).1)) 2 i 3 (mt_n (f 14 i) L p).2 = F2 at r1 Q2 p2 k2 v2
  by_cases c1 : p < (mt_n (f 14 i) L p).1
  · have b1 : mj_bo (p < (mt_n (f 14 i) L p).1) = nI 1 := (mj_boT c1).symm
    rw [b1] at r1
    by_cases c4 : mt_a (f 14 i) L (mt_n (f 14 i) L p).1 (nI 59)
    · have e1 := mc_rl_T (X := X) (S := S) (l1 := l1) hg ((mt_Q_1 Q2).trans hL) h100 p2 (by omega) (by rw [mt_Q_14 Q2]; exact c4)
      refine ⟨mj_u F2 2 i 5 (nI ((mt_n (f 14 i) L p).1 + 1)), ?_, mt_Q_u Q2 (by omega), ?_, fun _ => ⟨mj_us, ?_⟩⟩
      · rw [← mj_boT (P := mt_rr (f 14 i) L p) ⟨c1, c4⟩, ← e1]
        simp (disch := omega) only [mj_g37_29, mj_g37_30, mj_g37_31, mj_g37_32, ↓reduceIte, Option.bind_some, Option.toList_some, Option.toList_none, List.cons_append, List.nil_append, mj_ixn, mj_add, mj_mul, mj_sub, mj_dv, mj_rmn, mj_ltT, mj_ltF, mj_leT, mj_leF, mj_eqT, mj_eqF, mj_z0T, mj_z0F, mj_bo0, mj_boc, mj_chk10, mj_chk11, r1]
      · rw [mj_uj (by decide), k2]
      · rw [mj_uj (by decide), v2]
    · have e1 := mc_rl_F (X := X) (S := S) (l1 := l1) hg ((mt_Q_1 Q2).trans hL) h100 p2 (by omega) (by rw [mt_Q_14 Q2]; exact c4)
      refine ⟨F2, ?_, Q2, k2, fun q_ => absurd q_.2 c4⟩
      rw [← mj_boF (P := mt_rr (f 14 i) L p) (fun q_ => c4 q_.2), ← e1]
      simp (disch := omega) only [mj_g37_29, mj_g37_30, mj_g37_31, mj_g37_32, ↓reduceIte, Option.bind_some, Option.toList_some, Option.toList_none, List.cons_append, List.nil_append, mj_ixn, mj_add, mj_mul, mj_sub, mj_dv, mj_rmn, mj_ltT, mj_ltF, mj_leT, mj_leF, mj_eqT, mj_eqF, mj_z0T, mj_z0F, mj_bo0, mj_boc, mj_chk10, mj_chk11, r1]
  · have b1 : mj_bo (p < (mt_n (f 14 i) L p).1) = nI 0 := (mj_boF c1).symm
    rw [b1] at r1
    have e1 := mc_rl_no (X := X) (S := S) (F := F2) (g := g) (i := i) (l1 := l1)
    refine ⟨F2, ?_, Q2, k2, fun q_ => absurd q_.1 c1⟩
    rw [← mj_boF (P := mt_rr (f 14 i) L p) (fun q_ => c1 q_.1), ← e1]
    simp (disch := omega) only [mj_g37_29, mj_g37_30, mj_g37_31, mj_g37_32, ↓reduceIte, Option.bind_some, Option.toList_some, Option.toList_none, List.cons_append, List.nil_append, mj_ixn, mj_add, mj_mul, mj_sub, mj_dv, mj_rmn, mj_ltT, mj_ltF, mj_leT, mj_leF, mj_eqT, mj_eqF, mj_z0T, mj_z0F, mj_bo0, mj_boc, mj_chk10, mj_chk11, r1]
end TL
