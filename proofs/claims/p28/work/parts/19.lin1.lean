/-! Lining: what is asked of it -/
def mc_LG (g : mj_G) (a : Nat) : Prop := g 1 a 3 = some (8, a) ∧ g 1 a 4 = some (9, a) ∧ g 1 a 5 = some (10, a) ∧ g 1 a 6 = some (11, a) ∧ g 1 a 7 = some (12, a) ∧ g 1 a 12 = some (13, a)
def mc_T (f : mj_F) (a : Nat) : Nat → Int32 := fun j => f 8 a j + f 9 a j
def mc_mn (t : Nat → Int32) : Nat → Int32
  | 0 => t 0
  | n + 1 => mj_mi (mc_mn t n) (t (n + 1))
def mc_sm (t : Nat → Int32) : Nat → Int32
  | 0 => nI 0
  | n + 1 => mc_sm t n + t n
def mc_cn (p : Nat → Bool) : Nat → Nat
  | 0 => 0
  | n + 1 => mc_cn p n + (if p n = true then 1 else 0)
/-- the first one from b on, among n -/
def mc_fi (p : Nat → Bool) : Nat → Nat → Option Nat
  | _, 0 => none
  | b, n + 1 => if p b = true then some b else mc_fi p (b + 1) n
theorem mc_fi_s (p : Nat → Bool) (b n : Nat) : mc_fi p b (n + 1) = if p b = true then some b else mc_fi p (b + 1) n := rfl
def mc_oi (o : Option Nat) : Int32 := match o with
  | some j => nI j
  | none => (-1000004)
theorem mc_cn_le (p : Nat → Bool) (n : Nat) : mc_cn p n ≤ n := by
  induction n with
  | zero => exact Nat.le_refl _
  | succ n ih =>
    show mc_cn p n + _ ≤ n + 1
    split <;> omega
section LI
variable {X : mj_X} {S : List (Nat × Nat)} {f : mj_F} {g : mj_G} {a N : Nat}
theorem mc_thickness {j : Nat} (hg : mc_LG g a) (hj : j < 60) : mj_x X 13 [.inr (1, a), .inl (nI j)] (S, f, g) = some (some (.inl (mc_T f a j)), (S, f, g)) := by
  obtain ⟨h3, h4, h5, h6, h7, h8⟩ := hg
  simp (disch := omega) only [mj_x13, mj_g13_0, mj_g13_1, mj_g13_2, mj_g13_3, mj_g13_4, mj_g13_5, mj_g13_6, mj_g13_7, mj_g13_8, mj_g13_9, h3, h4, Option.bind_some, mj_ixn, mc_T]
theorem mc_leastThickness (hg : mc_LG g a) (hN : f 1 a 2 = nI N) (h0 : 0 < N) (h60 : N ≤ 60) : mj_x X 14 [.inr (1, a)] (S, f, g) = some (some (.inl (mc_mn (mc_T f a) (N - 1))), (S, f, g)) := by
  have hl := mj_loop (fun n => mj_g X 14 6 [some (.inr (1, a)), some (.inl (mc_mn (mc_T f a) n)), some (.inl (nI (n + 1)))] [] (S, f, g)) (N - 1) (fun n hn => by
    refine Eq.trans mj_g14_6 ?_
    simp (disch := omega) only [mj_g14_7, mj_g14_8, mj_g14_9, mj_g14_10, mj_g14_11, mj_g14_12, mj_g14_13, mj_g14_14, mj_g14_15, mj_g14_16, mj_g14_17, hN, ↓reduceIte, Option.bind_some, Option.toList_some, Option.toList_none, List.cons_append, List.nil_append, mj_ixn, mj_add, mj_mul, mj_sub, mj_dv, mj_rmn, mj_ltT, mj_ltF, mj_leT, mj_leF, mj_eqT, mj_eqF, mj_z0T, mj_z0F, mj_bo0, mj_boc, mj_chk10, mj_chk11, mc_thickness hg, mc_min, mc_mn])
  simp (disch := omega) only [mj_x14, mj_g14_0, mj_g14_1, mj_g14_2, mj_g14_3, mj_g14_4, mj_g14_5, mc_thickness hg, Option.bind_some, Option.toList_some, List.cons_append, List.nil_append]
  refine Eq.trans ?_ (hl.trans ?_)
  · rfl
  · simp (disch := omega) only [mj_g14_6, mj_g14_7, mj_g14_8, mj_g14_9, mj_g14_18, mj_g14_19, hN, mj_le]
    rw [if_pos (by omega)]
theorem mc_sumOfThicknesses (hg : mc_LG g a) (hN : f 1 a 2 = nI N) (h60 : N ≤ 60) : mj_x X 15 [.inr (1, a)] (S, f, g) = some (some (.inl (mc_sm (mc_T f a) N)), (S, f, g)) := by
  have hl := mj_loop (fun n => mj_g X 15 4 [some (.inr (1, a)), some (.inl (mc_sm (mc_T f a) n)), some (.inl (nI n))] [] (S, f, g)) N (fun n hn => by
    refine Eq.trans mj_g15_4 ?_
    simp (disch := omega) only [mj_g15_5, mj_g15_6, mj_g15_7, mj_g15_8, mj_g15_9, mj_g15_10, mj_g15_11, mj_g15_12, mj_g15_13, mj_g15_14, mj_g15_15, hN, ↓reduceIte, Option.bind_some, Option.toList_some, Option.toList_none, List.cons_append, List.nil_append, mj_ixn, mj_add, mj_mul, mj_sub, mj_dv, mj_rmn, mj_ltT, mj_ltF, mj_leT, mj_leF, mj_eqT, mj_eqF, mj_z0T, mj_z0F, mj_bo0, mj_boc, mj_chk10, mj_chk11, mc_thickness hg, mc_sm])
  simp only [mj_x15, mj_g15_0, mj_g15_1, mj_g15_2, mj_g15_3]
  refine Eq.trans ?_ (hl.trans ?_)
  · rfl
  · simp (disch := omega) only [mj_g15_4, mj_g15_5, mj_g15_6, mj_g15_7, mj_g15_16, mj_g15_17, hN, mj_le]
    rw [if_pos (by omega)]
theorem mc_fbl (hg : mc_LG g a) (hN : f 1 a 2 = nI N) (h60 : N ≤ 60) : ∀ (r b : Nat), b + r = N → mj_g X 17 2 [some (.inr (1, a)), some (.inl (nI b))] [] (S, f, g) = some (some (.inl (mc_oi (mc_fi (fun j => decide (mc_T f a j < f 11 a 0)) b r))), (S, f, g)) := by
  intro r
  induction r with
  | zero =>
    intro b hb
    simp (disch := omega) only [mj_g17_2, mj_g17_3, mj_g17_4, mj_g17_5, mj_g17_18, mj_g17_19, hN, mj_le]
    rw [if_pos (by omega)]
    rfl
  | succ r ih =>
    intro b hb
    have ih2 := ih (b + 1) (by omega)
    simp (disch := omega) only [mj_g17_2, mj_g17_3, mj_g17_4, mj_g17_5, mj_g17_6, mj_g17_7, mj_g17_8, mj_g17_9, mj_g17_10, mj_g17_11, mj_g17_12, mj_g17_13, mj_g17_14, mj_g17_15, mj_g17_16, mj_g17_17, hN, Option.bind_some, mj_le, mc_thickness hg, hg.2.2.2.1, mj_ixn, Option.toList_some, List.cons_append, List.nil_append, mj_add, ih2]
    rw [if_neg (by omega)]
    rw [mc_fi_s]
    simp only [decide_eq_true_eq]
    by_cases hp : mc_T f a b < f 11 a 0
    · rw [if_pos hp, if_neg (Int32.not_le.mpr hp)]
      rfl
    · rw [if_neg hp, if_pos (Int32.not_lt.mp hp)]
theorem mc_firstBelowLimit (hg : mc_LG g a) (hN : f 1 a 2 = nI N) (h60 : N ≤ 60) : mj_x X 17 [.inr (1, a)] (S, f, g) = some (some (.inl (mc_oi (mc_fi (fun j => decide (mc_T f a j < f 11 a 0)) 0 N))), (S, f, g)) := by
  simp only [mj_x17, mj_g17_0, mj_g17_1]
  exact mc_fbl hg hN h60 N 0 (Nat.zero_add N)
end LI
