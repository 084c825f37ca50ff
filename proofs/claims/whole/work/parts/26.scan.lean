/-! Scan -/
def mc_SG (g : mj_G) (q : Nat) : Prop := g 3 q 0 = some (15, q) ∧ g 3 q 1 = some (16, q)
def mc_tk (f : mj_F) (q a : Nat) : Nat → mj_F
  | 0 => f
  | n + 1 => mj_u (mj_u (mc_tk f q a n) 15 q n (mc_tp (f 11 a 2) (mc_T f a n))) 16 q n (mc_T f a n)
theorem mc_tk_o {f : mj_F} {q a n k2 i2 j2 : Nat} (h : ¬ ((k2 = 15 ∨ k2 = 16) ∧ i2 = q ∧ j2 < n)) : mc_tk f q a n k2 i2 j2 = f k2 i2 j2 := by
  induction n with
  | zero => rfl
  | succ n ih =>
    show (if _ then _ else (if _ then _ else _)) = _
    rw [if_neg (fun q_ => h ⟨.inr q_.1, q_.2.1, by omega⟩), if_neg (fun q_ => h ⟨.inl q_.1, q_.2.1, by omega⟩), ih (fun q_ => h ⟨q_.1, q_.2.1, by omega⟩)]
theorem mc_tk_15 {f : mj_F} {q a n j : Nat} (h : j < n) : mc_tk f q a n 15 q j = mc_tp (f 11 a 2) (mc_T f a j) := by
  induction n with
  | zero => omega
  | succ n ih =>
    show mj_u _ _ _ _ _ _ _ _ = _
    rw [mj_uk (by decide)]
    by_cases e_ : j = n
    · subst e_; exact mj_us
    · rw [mj_uj e_]; exact ih (by omega)
theorem mc_tk_16 {f : mj_F} {q a n j : Nat} (h : j < n) : mc_tk f q a n 16 q j = mc_T f a j := by
  induction n with
  | zero => omega
  | succ n ih =>
    show mj_u _ _ _ _ _ _ _ _ = _
    by_cases e_ : j = n
    · subst e_; exact mj_us
    · rw [mj_uj e_, mj_uk (by decide)]; exact ih (by omega)
def mc_tke (f : mj_F) (q a n : Nat) : mj_F := mj_u (mc_tk f q a n) 3 q 2 (f 1 a 8)
def mc_cs (f : mj_F) (q p : Nat) : mj_F := mj_u (mj_cp (mj_cp f 15 p 15 q 60) 16 p 16 q 60) 3 q 2 (f 3 p 2)
/-- a neighbour that beats it -/
def mc_bt (t : Nat → Int32) (j o : Nat) : Bool := decide (0 < t o - t j ∨ (t o - t j = 0 ∧ o < j))
def mc_pk (t : Nat → Int32) (h : Int32) (s n j : Nat) : Bool := decide (¬ t j < h) && (mc_fi (fun x => mc_bt t j (mc_na s j x)) 0 (mc_nn s n j)).isNone
theorem mc_Ge.na {r s n j x : Nat} (h : mc_Ge r s n) (hj : j < n) (hx : x < mc_nn s n j) : mc_na s j x < n := by
  have h1 := h.pb hj
  have h2 := h.pf hj
  unfold mc_nn at hx
  unfold mc_na
  by_cases c1 : j < s
  · rw [if_pos c1] at hx ⊢
    by_cases c2 : n ≤ j + s
    · rw [if_pos c2] at hx
      split
      · omega
      · split <;> omega
    · rw [if_neg c2] at hx
      split
      · omega
      · split <;> omega
  · rw [if_neg c1] at hx ⊢
    by_cases c2 : n ≤ j + s
    · rw [if_pos c2] at hx
      split
      · omega
      · split
        · omega
        · split <;> omega
    · rw [if_neg c2] at hx
      split
      · omega
      · split
        · omega
        · split <;> omega
theorem mc_nn_le {s n j : Nat} : mc_nn s n j ≤ 4 := by
  unfold mc_nn
  split <;> split <;> omega
section SC
variable {X : mj_X} {S : List (Nat × Nat)} {f : mj_F} {g : mj_G} {a r s n j q p : Nat}
theorem mc_scanTake (hq : mc_SG g q) (hg : mc_LG g a) (hn : f 1 a 2 = nI n) (h60 : n ≤ 60) (ht : ∀ j, j < n → ¬ mc_T f a j + nI 100 = 0) : mj_x X 44 [.inr (3, q), .inr (1, a)] (S, f, g) = some (none, (S, mc_tke f q a n, g)) := by
  have hl := mj_loop (fun k => mj_g X 44 2 [some (.inr (3, q)), some (.inr (1, a)), some (.inl (nI k))] [] (S, mc_tk f q a k, g)) n (fun k hk => by
    have e1 : mc_tk f q a k 1 a 2 = nI n := by rw [mc_tk_o (by omega)]; exact hn
    have e2 : mc_T (mc_tk f q a k) a k = mc_T f a k := by
      unfold mc_T
      rw [mc_tk_o (by omega), mc_tk_o (by omega)]
    have e3 : mc_tk f q a k 11 a 2 = f 11 a 2 := mc_tk_o (by omega)
    have e4 := ht k hk
    rw [← e2] at e4
    have e5 : mc_T (mj_u (mc_tk f q a k) 15 q k (mc_tp (f 11 a 2) (mc_T f a k))) a k = mc_T f a k := by
      rw [← e2]
      unfold mc_T
      rw [mj_uk (by decide), mj_uk (by decide)]
    refine Eq.trans mj_g44_2 ?_
    simp (disch := omega) only [mj_g44_3, mj_g44_4, mj_g44_5, mj_g44_6, mj_g44_7, mj_g44_8, mj_g44_9, mj_g44_10, mj_g44_11, mj_g44_12, mj_g44_13, mj_g44_14, mj_g44_15, mj_g44_16, mj_g44_17, mj_g44_18, mj_g44_19, mj_g44_20, mj_g44_21, ↓reduceIte, Option.bind_some, Option.toList_some, Option.toList_none, List.cons_append, List.nil_append, mj_ixn, mj_add, mj_mul, mj_sub, mj_dv, mj_rmn, mj_ltT, mj_ltF, mj_leT, mj_leF, mj_eqT, mj_eqF, mj_z0T, mj_z0F, mj_bo0, mj_boc, mj_chk10, mj_chk11, hq.1, hq.2, e1, mc_shellTemperature hg (show k < 60 by omega) e4, mc_thickness hg, e2, e3, e5]
    rfl)
  simp only [mj_x44, mj_g44_0, mj_g44_1]
  refine Eq.trans ?_ (hl.trans ?_)
  · rfl
  · have e1 : mc_tk f q a n 1 a 2 = nI n := by rw [mc_tk_o (by omega)]; exact hn
    have e2 : mc_tk f q a n 1 a 8 = f 1 a 8 := by rw [mc_tk_o (by omega)]
    simp (disch := omega) only [mj_g44_2, mj_g44_3, mj_g44_4, mj_g44_5, mj_g44_22, mj_g44_23, mj_g44_24, mj_g44_25, mj_g44_26, ↓reduceIte, Option.bind_some, Option.toList_some, Option.toList_none, List.cons_append, List.nil_append, mj_ixn, mj_add, mj_mul, mj_sub, mj_dv, mj_rmn, mj_ltT, mj_ltF, mj_leT, mj_leF, mj_eqT, mj_eqF, mj_z0T, mj_z0F, mj_bo0, mj_boc, mj_chk10, mj_chk11, e1, e2]
    rfl
theorem mc_copyScan (hq : mc_SG g q) (hp : mc_SG g p) (h : p ≠ q) : mj_x X 45 [.inr (3, q), .inr (3, p)] (S, f, g) = some (none, (S, mc_cs f q p, g)) := by
  unfold mc_cs
  simp (disch := omega) only [mj_x45, mj_g45_0, mj_g45_1, mj_g45_2, mj_g45_3, mj_g45_4, mj_g45_5, mj_g45_6, mj_g45_7, mj_g45_8, mj_g45_9, mj_g45_10, mj_g45_11, mj_g45_12, mj_g45_13, mj_g45_14, mj_g45_15, mj_g45_16, mj_g45_17, mj_g45_18, mj_g45_19, mj_g45_20, ↓reduceIte, Option.bind_some, Option.toList_some, Option.toList_none, List.cons_append, List.nil_append, mj_ixn, mj_add, mj_mul, mj_sub, mj_dv, mj_rmn, mj_ltT, mj_ltF, mj_leT, mj_leF, mj_eqT, mj_eqF, mj_z0T, mj_z0F, mj_bo0, mj_boc, mj_chk10, mj_chk11, hq.1, hq.2, hp.1, hp.2, mj_cpk]
theorem mc_isHot (hq : mc_SG g q) (hg : mc_LG g a) (hj : j < 60) : mj_x X 46 [.inr (3, q), .inl (nI j), .inr (1, a)] (S, f, g) = some (some (.inl (mj_bo (¬ f 15 q j < f 11 a 3))), (S, f, g)) := by
  unfold mj_bo
  by_cases c1 : f 15 q j < f 11 a 3 <;> simp (disch := omega) only [mj_x46, mj_g46_0, mj_g46_1, mj_g46_2, mj_g46_3, mj_g46_4, mj_g46_5, mj_g46_6, mj_g46_7, mj_g46_8, mj_g46_9, mj_g46_10, mj_g46_11, mj_g46_12, ↓reduceIte, Option.bind_some, Option.toList_some, Option.toList_none, List.cons_append, List.nil_append, mj_ixn, mj_add, mj_mul, mj_sub, mj_dv, mj_rmn, mj_ltT, mj_ltF, mj_leT, mj_leF, mj_eqT, mj_eqF, mj_z0T, mj_z0F, mj_bo0, mj_boc, mj_chk10, mj_chk11, hq.1, hg.2.2.2.1, c1, not_true, not_false_eq_true]
theorem mc_pkl (hq : mc_SG g q) (hG : mc_Ge r s n) (hs : f 1 a 1 = nI s) (hj : j < n) : ∀ (m b : Nat) (o1 o2 : Option mj_V), b + m = mc_nn s n j → mj_g X 47 13 [some (.inr (3, q)), some (.inl (nI j)), some (.inr (1, a)), some (.inl (nI (mc_nn s n j))), some (.inl (nI b)), o1, o2] [] (S, f, g) = some (some (.inl (mj_bo ((mc_fi (fun x => mc_bt (fun i => f 15 q i) j (mc_na s j x)) b m).isNone = true))), (S, f, g)) := by
  have h60 := hG.n60
  have h4 := mc_nn_le (s := s) (n := n) (j := j)
  intro m
  induction m with
  | zero =>
    intro b o1 o2 hb
    refine Eq.trans mj_g47_13 ?_
    simp (disch := omega) only [mj_g47_14, mj_g47_15, mj_g47_42, mj_g47_43, ↓reduceIte, Option.bind_some, Option.toList_some, Option.toList_none, List.cons_append, List.nil_append, mj_ixn, mj_add, mj_mul, mj_sub, mj_dv, mj_rmn, mj_ltT, mj_ltF, mj_leT, mj_leF, mj_eqT, mj_eqF, mj_z0T, mj_z0F, mj_bo0, mj_boc, mj_chk10, mj_chk11]
    rfl
  | succ m ih =>
    intro b o1 o2 hb
    have hx := hG.na hj (x := b) (by omega)
    have ih2 := ih (b + 1) (some (.inl (nI (mc_na s j b)))) (some (.inl (f 15 q (mc_na s j b) - f 15 q j))) (by omega)
    refine Eq.trans mj_g47_13 ?_
    rw [mc_fi_s]
    by_cases c1 : 0 < f 15 q (mc_na s j b) - f 15 q j
    · have z1 : mc_bt (fun i => f 15 q i) j (mc_na s j b) = true := decide_eq_true (Or.inl c1)
      rw [if_pos z1]
      simp (disch := omega) only [mj_g47_14, mj_g47_15, mj_g47_16, mj_g47_17, mj_g47_18, mj_g47_19, mj_g47_20, mj_g47_21, mj_g47_22, mj_g47_23, mj_g47_24, mj_g47_25, mj_g47_26, mj_g47_27, mj_g47_28, mj_g47_29, mj_g47_30, mj_g47_31, mj_g47_32, mj_g47_33, mj_g47_34, mj_g47_35, mj_g47_36, mj_g47_37, mj_g47_38, mj_g47_39, ↓reduceIte, Option.bind_some, Option.toList_some, Option.toList_none, List.cons_append, List.nil_append, mj_ixn, mj_add, mj_mul, mj_sub, mj_dv, mj_rmn, mj_ltT, mj_ltF, mj_leT, mj_leF, mj_eqT, mj_eqF, mj_z0T, mj_z0F, mj_bo0, mj_boc, mj_chk10, mj_chk11, mc_neighbourAt hG hs hj (show b < 4 by omega), hq.1, c1]
      rfl
    · by_cases c2 : f 15 q (mc_na s j b) - f 15 q j = 0
      · by_cases c3 : mc_na s j b < j
        · have z1 : mc_bt (fun i => f 15 q i) j (mc_na s j b) = true := decide_eq_true (Or.inr ⟨c2, c3⟩)
          rw [if_pos z1]
          have c4 : ¬ (0 : Int32) < 0 := by decide
          simp (disch := omega) only [mj_g47_14, mj_g47_15, mj_g47_16, mj_g47_17, mj_g47_18, mj_g47_19, mj_g47_20, mj_g47_21, mj_g47_22, mj_g47_23, mj_g47_24, mj_g47_25, mj_g47_26, mj_g47_27, mj_g47_28, mj_g47_29, mj_g47_30, mj_g47_31, mj_g47_32, mj_g47_33, mj_g47_34, mj_g47_35, mj_g47_36, mj_g47_37, mj_g47_38, mj_g47_39, ↓reduceIte, Option.bind_some, Option.toList_some, Option.toList_none, List.cons_append, List.nil_append, mj_ixn, mj_add, mj_mul, mj_sub, mj_dv, mj_rmn, mj_ltT, mj_ltF, mj_leT, mj_leF, mj_eqT, mj_eqF, mj_z0T, mj_z0F, mj_bo0, mj_boc, mj_chk10, mj_chk11, mc_neighbourAt hG hs hj (show b < 4 by omega), hq.1, c2, c4]
          rfl
        · have z1 : ¬ mc_bt (fun i => f 15 q i) j (mc_na s j b) = true := fun q_ => (of_decide_eq_true q_).elim c1 (fun y_ => c3 y_.2)
          rw [if_neg z1]
          rw [c2] at ih2
          have c4 : ¬ (0 : Int32) < 0 := by decide
          simp (disch := omega) only [mj_g47_14, mj_g47_15, mj_g47_16, mj_g47_17, mj_g47_18, mj_g47_19, mj_g47_20, mj_g47_21, mj_g47_22, mj_g47_23, mj_g47_24, mj_g47_25, mj_g47_26, mj_g47_27, mj_g47_28, mj_g47_29, mj_g47_30, mj_g47_31, mj_g47_32, mj_g47_33, mj_g47_34, mj_g47_35, mj_g47_36, mj_g47_37, mj_g47_40, mj_g47_41, ↓reduceIte, Option.bind_some, Option.toList_some, Option.toList_none, List.cons_append, List.nil_append, mj_ixn, mj_add, mj_mul, mj_sub, mj_dv, mj_rmn, mj_ltT, mj_ltF, mj_leT, mj_leF, mj_eqT, mj_eqF, mj_z0T, mj_z0F, mj_bo0, mj_boc, mj_chk10, mj_chk11, mc_neighbourAt hG hs hj (show b < 4 by omega), hq.1, c2, c4, ih2]
      · have z1 : ¬ mc_bt (fun i => f 15 q i) j (mc_na s j b) = true := fun q_ => (of_decide_eq_true q_).elim c1 (fun y_ => c2 y_.1)
        rw [if_neg z1]
        simp (disch := omega) only [mj_g47_14, mj_g47_15, mj_g47_16, mj_g47_17, mj_g47_18, mj_g47_19, mj_g47_20, mj_g47_21, mj_g47_22, mj_g47_23, mj_g47_24, mj_g47_25, mj_g47_26, mj_g47_27, mj_g47_28, mj_g47_29, mj_g47_30, mj_g47_31, mj_g47_32, mj_g47_33, mj_g47_34, mj_g47_40, mj_g47_41, ↓reduceIte, Option.bind_some, Option.toList_some, Option.toList_none, List.cons_append, List.nil_append, mj_ixn, mj_add, mj_mul, mj_sub, mj_dv, mj_rmn, mj_ltT, mj_ltF, mj_leT, mj_leF, mj_eqT, mj_eqF, mj_z0T, mj_z0F, mj_bo0, mj_boc, mj_chk10, mj_chk11, mc_neighbourAt hG hs hj (show b < 4 by omega), hq.1, c1, c2, ih2]
theorem mc_isPeak (hq : mc_SG g q) (hg : mc_LG g a) (hG : mc_Ge r s n) (hs : f 1 a 1 = nI s) (hn : f 1 a 2 = nI n) (hj : j < n) : mj_x X 47 [.inr (3, q), .inl (nI j), .inr (1, a)] (S, f, g) = some (some (.inl (mj_bo (mc_pk (fun i => f 15 q i) (f 11 a 3) s n j = true))), (S, f, g)) := by
  have h60 := hG.n60
  have hz := mc_pkl (X := X) (S := S) hq hG hs hj (mc_nn s n j) 0 none none (Nat.zero_add _)
  unfold mc_pk
  by_cases c1 : f 15 q j < f 11 a 3
  · rw [← mj_boF (fun q_ => by rw [Bool.and_eq_true] at q_; exact of_decide_eq_true q_.1 c1)]
    simp (disch := omega) only [mj_x47, mj_g47_0, mj_g47_1, mj_g47_2, mj_g47_3, mj_g47_4, mj_g47_5, mj_g47_6, ↓reduceIte, Option.bind_some, Option.toList_some, Option.toList_none, List.cons_append, List.nil_append, mj_ixn, mj_add, mj_mul, mj_sub, mj_dv, mj_rmn, mj_ltT, mj_ltF, mj_leT, mj_leF, mj_eqT, mj_eqF, mj_z0T, mj_z0F, mj_bo0, mj_boc, mj_chk10, mj_chk11, mc_isHot hq hg (show j < 60 by omega), c1, not_true, not_false_eq_true]
  · have e1 : mj_bo ((decide (¬ f 15 q j < f 11 a 3) && (mc_fi (fun x => mc_bt (fun i => f 15 q i) j (mc_na s j x)) 0 (mc_nn s n j)).isNone) = true) = mj_bo ((mc_fi (fun x => mc_bt (fun i => f 15 q i) j (mc_na s j x)) 0 (mc_nn s n j)).isNone = true) := by
      rw [decide_eq_true c1, Bool.true_and]
    rw [e1]
    simp (disch := omega) only [mj_x47, mj_g47_0, mj_g47_1, mj_g47_2, mj_g47_3, mj_g47_4, mj_g47_7, mj_g47_8, mj_g47_9, mj_g47_10, mj_g47_11, mj_g47_12, ↓reduceIte, Option.bind_some, Option.toList_some, Option.toList_none, List.cons_append, List.nil_append, mj_ixn, mj_add, mj_mul, mj_sub, mj_dv, mj_rmn, mj_ltT, mj_ltF, mj_leT, mj_leF, mj_eqT, mj_eqF, mj_z0T, mj_z0F, mj_bo0, mj_boc, mj_chk10, mj_chk11, mc_isHot hq hg (show j < 60 by omega), c1, not_true, not_false_eq_true, mc_neighboursOf hG hs hn hj]
    exact hz
theorem mc_hotSpots (hq : mc_SG g q) (hg : mc_LG g a) (hn : f 1 a 2 = nI n) (h60 : n ≤ 60) : mj_x X 48 [.inr (3, q), .inr (1, a)] (S, f, g) = some (some (.inl (nI (mc_cn (fun j => decide (¬ f 15 q j < f 11 a 3)) n))), (S, f, g)) := by
  have hl := mj_loop (fun k => mj_g X 48 4 [some (.inr (3, q)), some (.inr (1, a)), some (.inl (nI (mc_cn (fun j => decide (¬ f 15 q j < f 11 a 3)) k))), some (.inl (nI k))] [] (S, f, g)) n (fun k hk => by
    refine Eq.trans mj_g48_4 ?_
    simp (disch := omega) only [mj_g48_5, mj_g48_6, mj_g48_7, mj_g48_8, mj_g48_9, mj_g48_10, mj_g48_11, mj_g48_12, mj_g48_13, mj_g48_14, mj_g48_15, hn, ↓reduceIte, Option.bind_some, Option.toList_some, Option.toList_none, List.cons_append, List.nil_append, mj_ixn, mj_add, mj_mul, mj_sub, mj_dv, mj_rmn, mj_ltT, mj_ltF, mj_leT, mj_leF, mj_eqT, mj_eqF, mj_z0T, mj_z0F, mj_bo0, mj_boc, mj_chk10, mj_chk11, mc_isHot hq hg (show k < 60 by omega), mc_cn, decide_eq_true_eq]
    by_cases c1 : f 15 q k < f 11 a 3
    · simp only [c1, not_true, not_false_eq_true, ↓reduceIte]
      rfl
    · simp only [c1, not_true, not_false_eq_true, ↓reduceIte])
  simp only [mj_x48, mj_g48_0, mj_g48_1, mj_g48_2, mj_g48_3]
  refine Eq.trans ?_ (hl.trans ?_)
  · rfl
  · simp (disch := omega) only [mj_g48_4, mj_g48_5, mj_g48_6, mj_g48_7, mj_g48_16, mj_g48_17, hn, ↓reduceIte, Option.bind_some, Option.toList_some, Option.toList_none, List.cons_append, List.nil_append, mj_ixn, mj_add, mj_mul, mj_sub, mj_dv, mj_rmn, mj_ltT, mj_ltF, mj_leT, mj_leF, mj_eqT, mj_eqF, mj_z0T, mj_z0F, mj_bo0, mj_boc, mj_chk10, mj_chk11]
theorem mc_peakSpots (hq : mc_SG g q) (hg : mc_LG g a) (hG : mc_Ge r s n) (hs : f 1 a 1 = nI s) (hn : f 1 a 2 = nI n) : mj_x X 49 [.inr (3, q), .inr (1, a)] (S, f, g) = some (some (.inl (nI (mc_cn (mc_pk (fun i => f 15 q i) (f 11 a 3) s n) n))), (S, f, g)) := by
  have h60 := hG.n60
  have hl := mj_loop (fun k => mj_g X 49 4 [some (.inr (3, q)), some (.inr (1, a)), some (.inl (nI (mc_cn (mc_pk (fun i => f 15 q i) (f 11 a 3) s n) k))), some (.inl (nI k))] [] (S, f, g)) n (fun k hk => by
    refine Eq.trans mj_g49_4 ?_
    simp (disch := omega) only [mj_g49_5, mj_g49_6, mj_g49_7, mj_g49_8, mj_g49_9, mj_g49_10, mj_g49_11, mj_g49_12, mj_g49_13, mj_g49_14, mj_g49_15, hn, ↓reduceIte, Option.bind_some, Option.toList_some, Option.toList_none, List.cons_append, List.nil_append, mj_ixn, mj_add, mj_mul, mj_sub, mj_dv, mj_rmn, mj_ltT, mj_ltF, mj_leT, mj_leF, mj_eqT, mj_eqF, mj_z0T, mj_z0F, mj_bo0, mj_boc, mj_chk10, mj_chk11, mc_isPeak hq hg hG hs hn hk, mc_cn]
    by_cases c1 : mc_pk (fun i => f 15 q i) (f 11 a 3) s n k = true
    · simp only [c1, not_true, not_false_eq_true, ↓reduceIte]
    · simp only [c1, not_true, not_false_eq_true, ↓reduceIte]
      rfl)
  simp only [mj_x49, mj_g49_0, mj_g49_1, mj_g49_2, mj_g49_3]
  refine Eq.trans ?_ (hl.trans ?_)
  · rfl
  · simp (disch := omega) only [mj_g49_4, mj_g49_5, mj_g49_6, mj_g49_7, mj_g49_16, mj_g49_17, hn, ↓reduceIte, Option.bind_some, Option.toList_some, Option.toList_none, List.cons_append, List.nil_append, mj_ixn, mj_add, mj_mul, mj_sub, mj_dv, mj_rmn, mj_ltT, mj_ltF, mj_leT, mj_leF, mj_eqT, mj_eqF, mj_z0T, mj_z0F, mj_bo0, mj_boc, mj_chk10, mj_chk11]
end SC
