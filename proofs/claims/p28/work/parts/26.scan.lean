/-! Scan -/
def mc_SG (g : mj_G) (q : Nat) : Prop := g 3 q 0 = some (15, q) ∧ g 3 q 1 = some (16, q)
def mc_tk (f : mj_F) (q a : Nat) : Nat → mj_F
  | 0 => f
  | n + 1 => mj_u (mj_u (mc_tk f q a n) 15 q n (mc_tp (f 11 a 2) (mc_T f a n))) 16 q n (mc_T f a n)
theorem mc_tk_o {f : mj_F} {q a n k2 i2 j2 : Nat} (h : ¬ ((k2 = 15 ∨ k2 = 16) ∧ i2 = q ∧ j2 < n)) : mc_tk f q a n k2 i2 j2 = f k2 i2 j2 := by
  induction n with
  | zero => rfl
  | succ n ih =>
    show (if _ then _ else (if _ then _ else _)) = _
    rw [if_neg (fun q_ => h ⟨.inr q_.1, q_.2.1, by omega⟩), if_neg (fun q_ => h ⟨.inl q_.1, q_.2.1, by omega⟩), ih (fun q_ => h ⟨q_.1, q_.2.1, by omega⟩)]
theorem mc_tk_15 {f : mj_F} {q a n j : Nat} (h : j < n) : mc_tk f q a n 15 q j = mc_tp (f 11 a 2) (mc_T f a j) := by
  induction n with
  | zero => omega
  | succ n ih =>
    show mj_u _ _ _ _ _ _ _ _ = _
    rw [mj_uk (by decide)]
    by_cases e_ : j = n
    · subst e_; exact mj_us
    · rw [mj_uj e_]; exact ih (by omega)
theorem mc_tk_16 {f : mj_F} {q a n j : Nat} (h : j < n) : mc_tk f q a n 16 q j = mc_T f a j := by
  induction n with
  | zero => omega
  | succ n ih =>
    show mj_u _ _ _ _ _ _ _ _ = _
    by_cases e_ : j = n
    · subst e_; exact mj_us
    · rw [mj_uj e_, mj_uk (by decide)]; exact ih (by omega)
def mc_tke (f : mj_F) (q a n : Nat) : mj_F := mj_u (mc_tk f q a n) 3 q 2 (f 1 a 8)
def mc_cs (f : mj_F) (q p : Nat) : mj_F := mj_u (mj_cp (mj_cp f 15 p 15 q 60) 16 p 16 q 60) 3 q 2 (f 3 p 2)
theorem mc_Ge.na {r s n j x : Nat} (h : mc_Ge r s n) (hj : j < n) (hx : x < mc_nn s n j) : mc_na s j x < n := by
  have h1 := h.pb hj
  have h2 := h.pf hj
  unfold mc_nn at hx
  unfold mc_na
  by_cases c1 : j < s
  · rw [if_pos c1] at hx ⊢
    by_cases c2 : n ≤ j + s
    · rw [if_pos c2] at hx
      split
      · omega
      · split <;> omega
    · rw [if_neg c2] at hx
      split
      · omega
      · split <;> omega
  · rw [if_neg c1] at hx ⊢
    by_cases c2 : n ≤ j + s
    · rw [if_pos c2] at hx
      split
      · omega
      · split
        · omega
        · split <;> omega
    · rw [if_neg c2] at hx
      split
      · omega
      · split
        · omega
        · split <;> omega
theorem mc_nn_le {s n j : Nat} : mc_nn s n j ≤ 4 := by
  unfold mc_nn
  split <;> split <;> omega
section SC
variable {X : mj_X} {S : List (Nat × Nat)} {f : mj_F} {g : mj_G} {a r s n j q p : Nat}
theorem mc_scanTake (hq : mc_SG g q) (hg : mc_LG g a) (hn : f 1 a 2 = nI n) (h60 : n ≤ 60) (ht : ∀ j, j < n → ¬ mc_T f a j + nI 100 = 0) : mj_x X 34 [.inr (3, q), .inr (1, a)] (S, f, g) = some (none, (S, mc_tke f q a n, g)) := by
  have hl := mj_loop (fun k => mj_g X 34 2 [some (.inr (3, q)), some (.inr (1, a)), some (.inl (nI k))] [] (S, mc_tk f q a k, g)) n (fun k hk => by
    have e1 : mc_tk f q a k 1 a 2 = nI n := by rw [mc_tk_o (by omega)]; exact hn
    have e2 : mc_T (mc_tk f q a k) a k = mc_T f a k := by
      unfold mc_T
      rw [mc_tk_o (by omega), mc_tk_o (by omega)]
    have e3 : mc_tk f q a k 11 a 2 = f 11 a 2 := mc_tk_o (by omega)
    have e4 := ht k hk
    rw [← e2] at e4
    have e5 : mc_T (mj_u (mc_tk f q a k) 15 q k (mc_tp (f 11 a 2) (mc_T f a k))) a k = mc_T f a k := by
      rw [← e2]
      unfold mc_T
      rw [mj_uk (by decide), mj_uk (by decide)]
    refine Eq.trans mj_g34_2 ?_
    simp (disch := omega) only [mj_g34_3, mj_g34_4, mj_g34_5, mj_g34_6, mj_g34_7, mj_g34_8, mj_g34_9, mj_g34_10, mj_g34_11, mj_g34_12, mj_g34_13, mj_g34_14, mj_g34_15, mj_g34_16, mj_g34_17, mj_g34_18, mj_g34_19, mj_g34_20, mj_g34_21, ↓reduceIte, Option.bind_some, Option.toList_some, Option.toList_none, List.cons_append, List.nil_append, mj_ixn, mj_add, mj_mul, mj_sub, mj_dv, mj_rmn, mj_ltT, mj_ltF, mj_leT, mj_leF, mj_eqT, mj_eqF, mj_z0T, mj_z0F, mj_bo0, mj_boc, mj_chk10, mj_chk11, hq.1, hq.2, e1, mc_shellTemperature hg (show k < 60 by omega) e4, mc_thickness hg, e2, e3, e5]
    rfl)
  simp only [mj_x34, mj_g34_0, mj_g34_1]
  refine Eq.trans ?_ (hl.trans ?_)
  · rfl
  · have e1 : mc_tk f q a n 1 a 2 = nI n := by rw [mc_tk_o (by omega)]; exact hn
    have e2 : mc_tk f q a n 1 a 8 = f 1 a 8 := by rw [mc_tk_o (by omega)]
    simp (disch := omega) only [mj_g34_2, mj_g34_3, mj_g34_4, mj_g34_5, mj_g34_22, mj_g34_23, mj_g34_24, mj_g34_25, mj_g34_26, ↓reduceIte, Option.bind_some, Option.toList_some, Option.toList_none, List.cons_append, List.nil_append, mj_ixn, mj_add, mj_mul, mj_sub, mj_dv, mj_rmn, mj_ltT, mj_ltF, mj_leT, mj_leF, mj_eqT, mj_eqF, mj_z0T, mj_z0F, mj_bo0, mj_boc, mj_chk10, mj_chk11, e1, e2]
    rfl
theorem mc_copyScan (hq : mc_SG g q) (hp : mc_SG g p) (h : p ≠ q) : mj_x X 35 [.inr (3, q), .inr (3, p)] (S, f, g) = some (none, (S, mc_cs f q p, g)) := by
  unfold mc_cs
  simp (disch := omega) only [mj_x35, mj_g35_0, mj_g35_1, mj_g35_2, mj_g35_3, mj_g35_4, mj_g35_5, mj_g35_6, mj_g35_7, mj_g35_8, mj_g35_9, mj_g35_10, mj_g35_11, mj_g35_12, mj_g35_13, mj_g35_14, mj_g35_15, mj_g35_16, mj_g35_17, mj_g35_18, mj_g35_19, mj_g35_20, ↓reduceIte, Option.bind_some, Option.toList_some, Option.toList_none, List.cons_append, List.nil_append, mj_ixn, mj_add, mj_mul, mj_sub, mj_dv, mj_rmn, mj_ltT, mj_ltF, mj_leT, mj_leF, mj_eqT, mj_eqF, mj_z0T, mj_z0F, mj_bo0, mj_boc, mj_chk10, mj_chk11, hq.1, hq.2, hp.1, hp.2, mj_cpk]
theorem mc_isHot (hq : mc_SG g q) (hg : mc_LG g a) (hj : j < 60) : mj_x X 36 [.inr (3, q), .inl (nI j), .inr (1, a)] (S, f, g) = some (some (.inl (mj_bo (¬ f 15 q j < f 11 a 3))), (S, f, g)) := by
  unfold mj_bo
  by_cases c1 : f 15 q j < f 11 a 3 <;> simp (disch := omega) only [mj_x36, mj_g36_0, mj_g36_1, mj_g36_2, mj_g36_3, mj_g36_4, mj_g36_5, mj_g36_6, mj_g36_7, mj_g36_8, mj_g36_9, mj_g36_10, mj_g36_11, mj_g36_12, ↓reduceIte, Option.bind_some, Option.toList_some, Option.toList_none, List.cons_append, List.nil_append, mj_ixn, mj_add, mj_mul, mj_sub, mj_dv, mj_rmn, mj_ltT, mj_ltF, mj_leT, mj_leF, mj_eqT, mj_eqF, mj_z0T, mj_z0F, mj_bo0, mj_boc, mj_chk10, mj_chk11, hq.1, hg.2.2.2.1, c1, not_true, not_false_eq_true]
theorem mc_hotSpots (hq : mc_SG g q) (hg : mc_LG g a) (hn : f 1 a 2 = nI n) (h60 : n ≤ 60) : mj_x X 37 [.inr (3, q), .inr (1, a)] (S, f, g) = some (some (.inl (nI (mc_cn (fun j => decide (¬ f 15 q j < f 11 a 3)) n))), (S, f, g)) := by
  have hl := mj_loop (fun k => mj_g X 37 4 [some (.inr (3, q)), some (.inr (1, a)), some (.inl (nI (mc_cn (fun j => decide (¬ f 15 q j < f 11 a 3)) k))), some (.inl (nI k))] [] (S, f, g)) n (fun k hk => by
    refine Eq.trans mj_g37_4 ?_
    simp (disch := omega) only [mj_g37_5, mj_g37_6, mj_g37_7, mj_g37_8, mj_g37_9, mj_g37_10, mj_g37_11, mj_g37_12, mj_g37_13, mj_g37_14, mj_g37_15, hn, ↓reduceIte, Option.bind_some, Option.toList_some, Option.toList_none, List.cons_append, List.nil_append, mj_ixn, mj_add, mj_mul, mj_sub, mj_dv, mj_rmn, mj_ltT, mj_ltF, mj_leT, mj_leF, mj_eqT, mj_eqF, mj_z0T, mj_z0F, mj_bo0, mj_boc, mj_chk10, mj_chk11, mc_isHot hq hg (show k < 60 by omega), mc_cn, decide_eq_true_eq]
    by_cases c1 : f 15 q k < f 11 a 3
    · simp only [c1, not_true, not_false_eq_true, ↓reduceIte]
      rfl
    · simp only [c1, not_true, not_false_eq_true, ↓reduceIte])
  simp only [mj_x37, mj_g37_0, mj_g37_1, mj_g37_2, mj_g37_3]
  refine Eq.trans ?_ (hl.trans ?_)
  · rfl
  · simp (disch := omega) only [mj_g37_4, mj_g37_5, mj_g37_6, mj_g37_7, mj_g37_16, mj_g37_17, hn, ↓reduceIte, Option.bind_some, Option.toList_some, Option.toList_none, List.cons_append, List.nil_append, mj_ixn, mj_add, mj_mul, mj_sub, mj_dv, mj_rmn, mj_ltT, mj_ltF, mj_leT, mj_leF, mj_eqT, mj_eqF, mj_z0T, mj_z0F, mj_bo0, mj_boc, mj_chk10, mj_chk11]
end SC
