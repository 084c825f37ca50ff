/-! LogText: a line as a whole; the first fault -/
def mt_in (k v w : Int32) (r n : Nat) : Prop := (k = nI 104 → mc_iH v w) ∧ (k = nI 103 → (nI 0 ≤ v ∧ v ≤ nI n - nI 1) ∧ (nI 1 ≤ w ∧ w ≤ nI 500)) ∧ (k = nI 114 → (nI 0 ≤ v ∧ v ≤ nI r - nI 1))
def mt_P (t : Nat → Int32) (L r n b : Nat) : Prop := mt_ok t L b ∧ mt_in (t b) (mt_n t L (b + 1)).2 (mt_m2 t L (b + 1)).2 r n
/-- the first line that does not hold, from b on, of so many -/
noncomputable def mt_ff (t : Nat → Int32) (L r n : Nat) : Nat → Nat → Option Nat
  | 0, _ => none
  | q + 1, b => if b < L then (@ite _ (mt_P t L r n b) (Classical.propDecidable _) (mt_ff t L r n q (mt_nx t L b)) (some b)) else none
theorem mt_nx_b {t : Nat → Int32} {L b : Nat} : b < mt_nx t L b := by
  have h1 := mt_n_b t L (b + 1)
  have h2 := mt_n_b t L ((mt_n t L (b + 1)).1 + 1)
  have h3 : (mt_n t L (b + 1)).1 + 1 ≤ (mt_m2 t L (b + 1)).1 := h2.1
  unfold mt_nx
  split
  · omega
  · split <;> omega
section TM
variable {X : mj_X} {S : List (Nat × Nat)} {f F : mj_F} {g : mj_G} {i L p e a r n b : Nat} {c x v : Int32}
theorem mj_kd3 : (nI 103 = nI 104) = False := eq_false (by decide)
theorem mj_kd4 : (nI 104 = nI 103) = False := eq_false (by decide)
theorem mj_kd5 : (nI 114 = nI 103) = False := eq_false (by decide)
theorem mj_kd6 : (nI 114 = nI 104) = False := eq_false (by decide)
theorem mj_kd7 : (nI 115 = nI 103) = False := eq_false (by decide)
theorem mj_kd8 : (nI 115 = nI 104) = False := eq_false (by decide)
theorem mj_kd9 : (nI 115 = nI 114) = False := eq_false (by decide)
theorem mj_kd10 : (nI 103 = nI 114) = False := eq_false (by decide)
theorem mj_kd11 : (nI 104 = nI 114) = False := eq_false (by decide)
theorem mj_kd12 : (nI 103 = nI 115) = False := eq_false (by decide)
theorem mj_kd13 : (nI 104 = nI 115) = False := eq_false (by decide)
theorem mj_kd14 : (nI 114 = nI 115) = False := eq_false (by decide)
theorem mc_readLine (hg : g 2 i 0 = some (14, i)) (hL : f 2 i 1 = nI L) (h100 : L ≤ 100) (hb : b < L) (hc : mj_chk 2 (f 14 i b) = true) : ∃ f2, mj_x X 37 [.inr (2, i), .inl (nI b)] (S, f, g) = some (some (.inl (mj_bo (mt_ok (f 14 i) L b))), (S, f2, g)) ∧ mt_Q i f f2 ∧ f2 2 i 2 = f 14 i b ∧ (mt_ok (f 14 i) L b → f2 2 i 5 = nI (mt_nx (f 14 i) L b) ∧ ((f 14 i b = nI 103 ∨ f 14 i b = nI 104 ∨ f 14 i b = nI 114) → f2 2 i 3 = (mt_n (f 14 i) L (b + 1)).2) ∧ ((f 14 i b = nI 103 ∨ f 14 i b = nI 104) → f2 2 i 4 = (mt_m2 (f 14 i) L (b + 1)).2)) := by
  have hQ : mt_Q i f (mj_u (mj_u f 2 i 2 (f 14 i b)) 2 i 5 (nI (b + 1))) := mt_Q_u (mt_Q_u (fun _ _ _ _ => rfl) (by omega)) (by omega)
  have hp : mj_u (mj_u f 2 i 2 (f 14 i b)) 2 i 5 (nI (b + 1)) 2 i 5 = nI (b + 1) := mj_us
  have hk : mj_u (mj_u f 2 i 2 (f 14 i b)) 2 i 5 (nI (b + 1)) 2 i 2 = f 14 i b := by rw [mj_uj (by decide), mj_us]
  have st1 : mj_x X 37 [.inr (2, i), .inl (nI b)] (S, f, g) = mj_g X 37 13 [some (.inr (2, i)), some (.inl (nI b)), none] [.inl (f 14 i b)] (S, mj_u (mj_u f 2 i 2 (f 14 i b)) 2 i 5 (nI (b + 1)), g) := by
    simp (disch := omega) only [mj_x37, mj_g37_0, mj_g37_1, mj_g37_2, mj_g37_3, mj_g37_4, mj_g37_5, mj_g37_6, mj_g37_7, mj_g37_8, mj_g37_9, mj_g37_10, mj_g37_11, mj_g37_12, ↓reduceIte, Option.bind_some, Option.toList_some, Option.toList_none, List.cons_append, List.nil_append, mj_ixn, mj_add, mj_mul, mj_sub, mj_dv, mj_rmn, mj_ltT, mj_ltF, mj_leT, mj_leF, mj_eqT, mj_eqF, mj_z0T, mj_z0F, mj_bo0, mj_boc, mj_chk10, mj_chk11, hg, hc, hk]
  generalize mj_u (mj_u f 2 i 2 (f 14 i b)) 2 i 5 (nI (b + 1)) = F at hQ hp hk st1
  have Lx : mj_x X 37 [.inr (2, i), .inl (nI b)] (S, f, g) = if f 14 i b = nI 103 then mj_g X 37 14 [some (.inr (2, i)), some (.inl (nI b)), none] [] (S, F, g) else if f 14 i b = nI 104 then mj_g X 37 14 [some (.inr (2, i)), some (.inl (nI b)), none] [] (S, F, g) else if f 14 i b = nI 114 then mj_g X 37 29 [some (.inr (2, i)), some (.inl (nI b)), none] [] (S, F, g) else if f 14 i b = nI 115 then mj_g X 37 33 [some (.inr (2, i)), some (.inl (nI b)), none] [] (S, F, g) else mj_g X 37 36 [some (.inr (2, i)), some (.inl (nI b)), none] [] (S, F, g) := by
    rw [st1]
    simp only [mj_g37_13, mj_ti3, mj_ti4, mj_ti14, mj_ti15]
  by_cases c1 : f 14 i b = nI 103 ∨ f 14 i b = nI 104
  · obtain ⟨f2, a1, a2, a3, a4⟩ := mc_rl_hg (X := X) (S := S) (l1 := some (.inl (nI b))) (l2 := none) hg hL h100 hQ hp (by omega)
    have n14 : ¬ f 14 i b = nI 114 := fun q_ => c1.elim (fun y_ => by rw [y_] at q_; exact absurd q_ (by decide)) (fun y_ => by rw [y_] at q_; exact absurd q_ (by decide))
    have n15 : ¬ f 14 i b = nI 115 := fun q_ => c1.elim (fun y_ => by rw [y_] at q_; exact absurd q_ (by decide)) (fun y_ => by rw [y_] at q_; exact absurd q_ (by decide))
    have e1 : mt_ok (f 14 i) L b ↔ mt_hg (f 14 i) L (b + 1) := ⟨fun h => h.elim (fun y_ => y_.2) (fun y_ => y_.elim (fun z_ => absurd z_.1 n14) (fun z_ => absurd z_.1 n15)), fun h => Or.inl ⟨c1, h⟩⟩
    have e2 : mj_bo (mt_ok (f 14 i) L b) = mj_bo (mt_hg (f 14 i) L (b + 1)) := by
      unfold mj_bo
      by_cases y_ : mt_hg (f 14 i) L (b + 1)
      · rw [if_pos y_, if_pos (e1.mpr y_)]
      · rw [if_neg y_, if_neg (fun q_ => y_ (e1.mp q_))]
    refine ⟨f2, ?_, a2, a3.trans hk, fun ho => ?_⟩
    · rw [Lx, e2, ← a1]
      rcases c1 with c1 | c1
      · rw [if_pos c1]
      · rw [if_neg (by rw [c1]; decide), if_pos c1]
    · obtain ⟨b1, b2, b3⟩ := a4 (e1.mp ho)
      refine ⟨?_, fun _ => b2, fun _ => b3⟩
      rw [b1]
      unfold mt_nx
      rw [if_neg n14, if_neg n15]
  · have n3 : ¬ f 14 i b = nI 103 := fun q_ => c1 (Or.inl q_)
    have n4 : ¬ f 14 i b = nI 104 := fun q_ => c1 (Or.inr q_)
    rw [if_neg n3, if_neg n4] at Lx
    by_cases c2 : f 14 i b = nI 114
    · obtain ⟨f2, a1, a2, a3, a4⟩ := mc_rl_r (X := X) (S := S) (l1 := some (.inl (nI b))) (l2 := none) hg hL h100 hQ hp (by omega)
      have n15 : ¬ f 14 i b = nI 115 := fun q_ => by rw [c2] at q_; exact absurd q_ (by decide)
      have e1 : mt_ok (f 14 i) L b ↔ mt_rr (f 14 i) L (b + 1) := ⟨fun h => h.elim (fun y_ => absurd y_.1 c1) (fun y_ => y_.elim (fun z_ => z_.2) (fun z_ => absurd z_.1 n15)), fun h => Or.inr (Or.inl ⟨c2, h⟩)⟩
      have e2 : mj_bo (mt_ok (f 14 i) L b) = mj_bo (mt_rr (f 14 i) L (b + 1)) := by
        unfold mj_bo
        by_cases y_ : mt_rr (f 14 i) L (b + 1)
        · rw [if_pos y_, if_pos (e1.mpr y_)]
        · rw [if_neg y_, if_neg (fun q_ => y_ (e1.mp q_))]
      refine ⟨f2, ?_, a2, a3.trans hk, fun ho => ?_⟩
      · rw [Lx, e2, ← a1, if_pos c2]
      · obtain ⟨b1, b2⟩ := a4 (e1.mp ho)
        refine ⟨?_, fun _ => b2, fun q_ => absurd q_ c1⟩
        rw [b1]
        unfold mt_nx
        rw [if_pos c2]
    · rw [if_neg c2] at Lx
      by_cases c3 : f 14 i b = nI 115
      · rw [if_pos c3] at Lx
        have e1 : mt_ok (f 14 i) L b ↔ mt_a (f 14 i) L (b + 1) (nI 59) := ⟨fun h => h.elim (fun y_ => absurd y_.1 c1) (fun y_ => y_.elim (fun z_ => absurd z_.1 c2) (fun z_ => z_.2)), fun h => Or.inr (Or.inr ⟨c3, h⟩)⟩
        have n14 : ¬ (f 14 i b = nI 103 ∨ f 14 i b = nI 104 ∨ f 14 i b = nI 114) := fun q_ => q_.elim n3 (fun y_ => y_.elim n4 c2)
        by_cases c4 : mt_a (f 14 i) L (b + 1) (nI 59)
        · have z1 := mc_rl_T (X := X) (S := S) (l1 := some (.inl (nI b))) hg ((mt_Q_1 hQ).trans hL) h100 hp (by omega) (by rw [mt_Q_14 hQ]; exact c4)
          refine ⟨mj_u F 2 i 5 (nI (b + 2)), ?_, mt_Q_u hQ (by omega), ?_, fun _ => ⟨?_, fun q_ => absurd q_ n14, fun q_ => absurd q_ c1⟩⟩
          · rw [Lx, ← mj_boT (P := mt_ok (f 14 i) L b) (e1.mpr c4), ← z1]
            simp (disch := omega) only [mj_g37_33, mj_g37_34, mj_g37_35, ↓reduceIte, Option.bind_some, Option.toList_some, Option.toList_none, List.cons_append, List.nil_append, mj_ixn, mj_add, mj_mul, mj_sub, mj_dv, mj_rmn, mj_ltT, mj_ltF, mj_leT, mj_leF, mj_eqT, mj_eqF, mj_z0T, mj_z0F, mj_bo0, mj_boc, mj_chk10, mj_chk11]
          · rw [mj_uj (by decide), hk]
          · rw [mj_us]
            unfold mt_nx
            rw [if_neg c2, if_pos c3]
        · have z1 := mc_rl_F (X := X) (S := S) (l1 := some (.inl (nI b))) hg ((mt_Q_1 hQ).trans hL) h100 hp (by omega) (by rw [mt_Q_14 hQ]; exact c4)
          refine ⟨F, ?_, hQ, hk, fun q_ => absurd (e1.mp q_) c4⟩
          rw [Lx, ← mj_boF (P := mt_ok (f 14 i) L b) (fun q_ => c4 (e1.mp q_)), ← z1]
          simp (disch := omega) only [mj_g37_33, mj_g37_34, mj_g37_35, ↓reduceIte, Option.bind_some, Option.toList_some, Option.toList_none, List.cons_append, List.nil_append, mj_ixn, mj_add, mj_mul, mj_sub, mj_dv, mj_rmn, mj_ltT, mj_ltF, mj_leT, mj_leF, mj_eqT, mj_eqF, mj_z0T, mj_z0F, mj_bo0, mj_boc, mj_chk10, mj_chk11]
      · rw [if_neg c3] at Lx
        have no : ¬ mt_ok (f 14 i) L b := fun h => h.elim (fun y_ => c1 y_.1) (fun y_ => y_.elim (fun z_ => c2 z_.1) (fun z_ => c3 z_.1))
        have z1 := mc_rl_no (X := X) (S := S) (F := F) (g := g) (i := i) (l1 := some (.inl (nI b)))
        refine ⟨F, ?_, hQ, hk, fun q_ => absurd q_ no⟩
        rw [Lx, ← mj_boF (P := mt_ok (f 14 i) L b) no, ← z1]
        simp (disch := omega) only [mj_g37_36, mj_g37_37, ↓reduceIte, Option.bind_some, Option.toList_some, Option.toList_none, List.cons_append, List.nil_append, mj_ixn, mj_add, mj_mul, mj_sub, mj_dv, mj_rmn, mj_ltT, mj_ltF, mj_leT, mj_leF, mj_eqT, mj_eqF, mj_z0T, mj_z0F, mj_bo0, mj_boc, mj_chk10, mj_chk11]
end TM
