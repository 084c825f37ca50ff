/-! places: before, behind; the least of the neighbours -/
def mc_pb (s j : Nat) : Nat := if j % s = 0 then j + s - 1 else j - 1
def mc_pf (s j : Nat) : Nat := if (j + 1) % s = 0 then j + 1 - s else j + 1
def mc_Ge (r s n : Nat) : Prop := 1 ≤ r ∧ r ≤ 6 ∧ 3 ≤ s ∧ s ≤ 10 ∧ n = r * s
theorem mc_Ge.n60 {r s n : Nat} (h : mc_Ge r s n) : n ≤ 60 := by
  obtain ⟨h1, h2, h3, h4, rfl⟩ := h
  exact Nat.mul_le_mul h2 h4
theorem mc_Ge.sn {r s n : Nat} (h : mc_Ge r s n) : s ≤ n := by
  obtain ⟨h1, h2, h3, h4, rfl⟩ := h
  exact Nat.le_mul_of_pos_left s h1
theorem mc_Ge.q {r s n j : Nat} (h : mc_Ge r s n) (hj : j < n) : j / s < r ∧ s * (j / s) + j % s = j ∧ j % s < s ∧ s * (j / s) + s ≤ n := by
  obtain ⟨h1, h2, h3, h4, rfl⟩ := h
  have a1 : j / s < r := Nat.div_lt_of_lt_mul (by rw [Nat.mul_comm]; exact hj)
  refine ⟨a1, Nat.div_add_mod j s, Nat.mod_lt _ (by omega), ?_⟩
  have a2 := Nat.mul_le_mul_left s (show j / s + 1 ≤ r from a1)
  rw [Nat.mul_add, Nat.mul_one] at a2
  rw [Nat.mul_comm r s]
  exact a2
theorem mc_Ge.pb {r s n j : Nat} (h : mc_Ge r s n) (hj : j < n) : mc_pb s j < n := by
  obtain ⟨q1, q2, q3, q4⟩ := h.q hj
  obtain ⟨h1, h2, h3, h4, h5⟩ := h
  unfold mc_pb
  split <;> omega
theorem mc_Ge.pf {r s n j : Nat} (h : mc_Ge r s n) (hj : j < n) : mc_pf s j < n := by
  obtain ⟨q1, q2, q3, q4⟩ := h.q hj
  obtain ⟨h1, h2, h3, h4, h5⟩ := h
  unfold mc_pf
  split
  · omega
  · rename_i hne
    by_cases hl : j % s + 1 = s
    · exfalso
      apply hne
      have e1 : j + 1 = s * (j / s + 1) := by rw [Nat.mul_add]; omega
      rw [e1]
      exact Nat.mul_mod_right s _
    · omega
/-- where behind is the ring's first place -/
theorem mc_Ge.pf0 {r s n j : Nat} (h : mc_Ge r s n) (hj : j < n) : (j + 1) % s = 0 ↔ j % s + 1 = s := by
  obtain ⟨q1, q2, q3, q4⟩ := h.q hj
  obtain ⟨h1, h2, h3, h4, h5⟩ := h
  constructor
  · intro hz
    have := Nat.add_mod j 1 s
    rw [hz, Nat.mod_eq_of_lt (show 1 < s by omega)] at this
    by_cases hl : j % s + 1 < s
    · rw [Nat.mod_eq_of_lt hl] at this; omega
    · omega
  · intro hz
    have e1 : j + 1 = s * (j / s + 1) := by rw [Nat.mul_add]; omega
    rw [e1]
    exact Nat.mul_mod_right s _
def mc_lb (t : Nat → Int32) (s n j : Nat) : Int32 :=
  if n ≤ j + s then (if j < s then mj_mi (t (mc_pb s j)) (t (mc_pf s j)) else mj_mi (mj_mi (t (mc_pb s j)) (t (mc_pf s j))) (t (j - s)))
  else mj_mi (if j < s then mj_mi (t (mc_pb s j)) (t (mc_pf s j)) else mj_mi (mj_mi (t (mc_pb s j)) (t (mc_pf s j))) (t (j - s))) (t (j + s))
/-- the wear: rate, factor, how far it stands out, what counts -/
def mc_wr (rt φ df ct : Int32) : Int32 := if df < ct then rt * φ / nI 100 else rt * φ / nI 100 + df / ct
/-- the temperature: shell factor, thickness -/
def mc_tp (sh t : Int32) : Int32 := nI 40 + sh / (t + nI 100)
def mc_nn (s n j : Nat) : Nat := (if j < s then 0 else 1) + 2 + (if n ≤ j + s then 0 else 1)
/-- the neighbour of that index, the lowest first -/
def mc_na (s j x : Nat) : Nat :=
  if j < s then (if x = 0 then min (mc_pb s j) (mc_pf s j) else if x = 1 then max (mc_pb s j) (mc_pf s j) else j + s)
  else (if x = 0 then j - s else if x = 1 then min (mc_pb s j) (mc_pf s j) else if x = 2 then max (mc_pb s j) (mc_pf s j) else j + s)
def mc_kp (f : mj_F) (a n : Nat) : mj_F := fun k i j => if k = 13 ∧ i = a ∧ j < n then mc_T f a j else f k i j
theorem mc_kp_k {f : mj_F} {a n k i j : Nat} (h : k ≠ 13) : mc_kp f a n k i j = f k i j := by
  unfold mc_kp
  rw [if_neg (fun q_ => h q_.1)]
theorem mc_kp_j {f : mj_F} {a n j : Nat} (h : j < n) : mc_kp f a n 13 a j = mc_T f a j := by
  unfold mc_kp
  rw [if_pos ⟨rfl, rfl, h⟩]
theorem mc_kp_T {f : mj_F} {a n b : Nat} : mc_T (mc_kp f a n) b = mc_T f b := by
  funext j
  unfold mc_T
  rw [mc_kp_k (by decide), mc_kp_k (by decide)]
theorem mc_kp_0 {f : mj_F} {a : Nat} : mc_kp f a 0 = f := by
  funext k i j
  unfold mc_kp
  rw [if_neg (fun q_ => Nat.not_lt_zero _ q_.2.2)]
theorem mc_kp_s {f : mj_F} {a n : Nat} : mj_u (mc_kp f a n) 13 a n (mc_T f a n) = mc_kp f a (n + 1) := by
  funext k i j
  unfold mj_u mc_kp
  by_cases h1 : k = 13 ∧ i = a
  · obtain ⟨rfl, rfl⟩ := h1
    by_cases h2 : j = n
    · subst h2; simp
    · by_cases h3 : j < n
      · rw [if_neg (fun q_ => h2 q_.2.2), if_pos ⟨rfl, rfl, h3⟩, if_pos ⟨rfl, rfl, by omega⟩]
      · rw [if_neg (fun q_ => h2 q_.2.2), if_neg (fun q_ => h3 q_.2.2), if_neg (fun q_ => by omega)]
  · rw [if_neg (fun q_ => h1 ⟨q_.1, q_.2.1⟩), if_neg (fun q_ => h1 ⟨q_.1, q_.2.1⟩), if_neg (fun q_ => h1 ⟨q_.1, q_.2.1⟩)]
theorem mc_lb_congr {t u : Nat → Int32} {r s n j : Nat} (hG : mc_Ge r s n) (hj : j < n) (h : ∀ i, i < n → t i = u i) : mc_lb t s n j = mc_lb u s n j := by
  have e1 := h _ (hG.pb hj)
  have e2 := h _ (hG.pf hj)
  have e3 := h (j - s) (by omega)
  unfold mc_lb
  rw [e1, e2, e3]
  by_cases c2 : n ≤ j + s
  · rw [if_pos c2, if_pos c2]
  · rw [if_neg c2, if_neg c2, h (j + s) (by omega)]
theorem mc_lb_kp {f : mj_F} {a r s n j : Nat} (hG : mc_Ge r s n) (hj : j < n) : mc_lb (fun i => mc_kp f a n 13 a i) s n j = mc_lb (mc_T f a) s n j := mc_lb_congr hG hj (fun i hi => mc_kp_j hi)
theorem mj_min {a b : Nat} (ha : a < 2147483648) (hb : b < 2147483648) : mj_mi (nI a) (nI b) = nI (min a b) := by
  unfold mj_mi
  by_cases h_ : b < a
  · rw [if_pos ((mj_lt hb ha).mpr h_), Nat.min_eq_right (by omega)]
  · rw [if_neg (fun q_ => h_ ((mj_lt hb ha).mp q_)), Nat.min_eq_left (by omega)]
theorem mj_max {a b : Nat} (ha : a < 2147483648) (hb : b < 2147483648) : mj_ma (nI a) (nI b) = nI (max a b) := by
  unfold mj_ma
  by_cases h_ : a < b
  · rw [if_pos ((mj_lt ha hb).mpr h_), Nat.max_eq_right (by omega)]
  · rw [if_neg (fun q_ => h_ ((mj_lt ha hb).mp q_)), Nat.max_eq_left (by omega)]
section GE
variable {X : mj_X} {S : List (Nat × Nat)} {f : mj_F} {g : mj_G} {a r s n j : Nat}
theorem mc_ringOf (hs : f 1 a 1 = nI s) (h0 : 0 < s) (h1 : s ≤ 10) (hj : j < 60) : mj_x X 8 [.inr (1, a), .inl (nI j)] (S, f, g) = some (some (.inl (nI (j / s))), (S, f, g)) := by
  simp (disch := omega) only [mj_x8, mj_g8_0, mj_g8_1, mj_g8_2, mj_g8_3, mj_g8_4, hs, ↓reduceIte, Option.bind_some, Option.toList_some, Option.toList_none, List.cons_append, List.nil_append, mj_ixn, mj_add, mj_mul, mj_sub, mj_dv, mj_rmn, mj_ltT, mj_ltF, mj_leT, mj_leF, mj_eqT, mj_eqF, mj_z0T, mj_z0F, mj_bo0, mj_boc, mj_chk10, mj_chk11]
theorem mc_neighboursOf (hG : mc_Ge r s n) (hs : f 1 a 1 = nI s) (hn : f 1 a 2 = nI n) (hj : j < n) : mj_x X 9 [.inr (1, a), .inl (nI j)] (S, f, g) = some (some (.inl (nI (mc_nn s n j))), (S, f, g)) := by
  have h60 := hG.n60
  obtain ⟨h1, h2, h3, h4, h5⟩ := hG
  unfold mc_nn
  by_cases c1 : j < s <;> by_cases c2 : n ≤ j + s <;> simp (disch := omega) only [mj_x9, mj_g9_0, mj_g9_1, mj_g9_2, mj_g9_3, mj_g9_4, mj_g9_5, mj_g9_6, mj_g9_7, mj_g9_8, mj_g9_9, mj_g9_10, mj_g9_11, mj_g9_12, mj_g9_13, mj_g9_14, mj_g9_15, mj_g9_16, mj_g9_17, mj_g9_18, mj_g9_19, mj_g9_20, mj_g9_21, mj_g9_22, mj_g9_23, mj_g9_24, hs, hn, ↓reduceIte, Option.bind_some, Option.toList_some, Option.toList_none, List.cons_append, List.nil_append, mj_ixn, mj_add, mj_mul, mj_sub, mj_dv, mj_rmn, mj_ltT, mj_ltF, mj_leT, mj_leF, mj_eqT, mj_eqF, mj_z0T, mj_z0F, mj_bo0, mj_boc, mj_chk10, mj_chk11, c1, c2]
theorem mc_placeBefore (hG : mc_Ge r s n) (hs : f 1 a 1 = nI s) (hj : j < n) : mj_x X 11 [.inr (1, a), .inl (nI j)] (S, f, g) = some (some (.inl (nI (mc_pb s j))), (S, f, g)) := by
  have h60 := hG.n60
  obtain ⟨q1, q2, q3, q4⟩ := hG.q hj
  obtain ⟨h1, h2, h3, h4, h5⟩ := hG
  unfold mc_pb
  by_cases c1 : j % s = 0 <;> simp (disch := omega) only [mj_x11, mj_g11_0, mj_g11_1, mj_g11_2, mj_g11_3, mj_g11_4, mj_g11_5, mj_g11_6, mj_g11_7, mj_g11_8, mj_g11_9, mj_g11_10, mj_g11_11, mj_g11_12, mj_g11_13, mj_g11_14, mj_g11_15, hs, ↓reduceIte, Option.bind_some, Option.toList_some, Option.toList_none, List.cons_append, List.nil_append, mj_ixn, mj_add, mj_mul, mj_sub, mj_dv, mj_rmn, mj_ltT, mj_ltF, mj_leT, mj_leF, mj_eqT, mj_eqF, mj_z0T, mj_z0F, mj_bo0, mj_boc, mj_chk10, mj_chk11, c1]
theorem mc_placeBehind (hG : mc_Ge r s n) (hs : f 1 a 1 = nI s) (hj : j < n) : mj_x X 12 [.inr (1, a), .inl (nI j)] (S, f, g) = some (some (.inl (nI (mc_pf s j))), (S, f, g)) := by
  have h60 := hG.n60
  have hp := hG.pf0 hj
  obtain ⟨q1, q2, q3, q4⟩ := hG.q hj
  obtain ⟨h1, h2, h3, h4, h5⟩ := hG
  have hb := Nat.mod_lt (j + 1) (show 0 < s by omega)
  unfold mc_pf
  by_cases c1 : (j + 1) % s = 0
  · have hle : s ≤ j + 1 := by have := hp.mp c1; omega
    simp (disch := omega) only [mj_x12, mj_g12_0, mj_g12_1, mj_g12_2, mj_g12_3, mj_g12_4, mj_g12_5, mj_g12_6, mj_g12_7, mj_g12_8, mj_g12_9, mj_g12_10, mj_g12_11, mj_g12_12, mj_g12_13, mj_g12_14, mj_g12_15, mj_g12_16, mj_g12_17, hs, ↓reduceIte, Option.bind_some, Option.toList_some, Option.toList_none, List.cons_append, List.nil_append, mj_ixn, mj_add, mj_mul, mj_sub, mj_dv, mj_rmn, mj_ltT, mj_ltF, mj_leT, mj_leF, mj_eqT, mj_eqF, mj_z0T, mj_z0F, mj_bo0, mj_boc, mj_chk10, mj_chk11, c1]
  · simp (disch := omega) only [mj_x12, mj_g12_0, mj_g12_1, mj_g12_2, mj_g12_3, mj_g12_4, mj_g12_5, mj_g12_6, mj_g12_7, mj_g12_8, mj_g12_9, mj_g12_10, mj_g12_11, mj_g12_12, mj_g12_13, mj_g12_14, mj_g12_15, mj_g12_16, mj_g12_17, hs, ↓reduceIte, Option.bind_some, Option.toList_some, Option.toList_none, List.cons_append, List.nil_append, mj_ixn, mj_add, mj_mul, mj_sub, mj_dv, mj_rmn, mj_ltT, mj_ltF, mj_leT, mj_leF, mj_eqT, mj_eqF, mj_z0T, mj_z0F, mj_bo0, mj_boc, mj_chk10, mj_chk11, c1]
theorem mc_neighbourAt {x : Nat} (hG : mc_Ge r s n) (hs : f 1 a 1 = nI s) (hj : j < n) (hx : x < 4) : mj_x X 10 [.inr (1, a), .inl (nI j), .inl (nI x)] (S, f, g) = some (some (.inl (nI (mc_na s j x))), (S, f, g)) := by
  have h60 := hG.n60
  have hpb := hG.pb hj
  have hpf := hG.pf hj
  have hG2 := hG
  obtain ⟨h1, h2, h3, h4, h5⟩ := hG
  have m1 : ¬ (0 : Int32) ≤ nI 0 - nI 1 := by decide
  unfold mc_na
  by_cases c1 : j < s
  · by_cases c2 : x = 0
    · simp (disch := omega) only [mj_x10, mj_g10_0, mj_g10_1, mj_g10_2, mj_g10_3, mj_g10_4, mj_g10_5, mj_g10_6, mj_g10_7, mj_g10_8, mj_g10_9, mj_g10_10, mj_g10_11, mj_g10_12, mj_g10_13, mj_g10_14, mj_g10_15, mj_g10_16, mj_g10_17, mj_g10_18, mj_g10_19, mj_g10_20, mj_g10_21, mj_g10_22, mj_g10_23, mj_g10_24, mj_g10_25, mj_g10_26, mj_g10_27, mj_g10_28, mj_g10_29, mj_g10_30, mj_g10_31, mj_g10_32, mj_g10_33, mj_g10_34, mj_g10_35, mj_g10_36, mj_g10_37, mj_g10_38, mj_g10_39, mj_g10_40, mj_g10_41, mj_g10_42, hs, ↓reduceIte, Option.bind_some, Option.toList_some, Option.toList_none, List.cons_append, List.nil_append, mj_ixn, mj_add, mj_mul, mj_sub, mj_dv, mj_rmn, mj_ltT, mj_ltF, mj_leT, mj_leF, mj_eqT, mj_eqF, mj_z0T, mj_z0F, mj_bo0, mj_boc, mj_chk10, mj_chk11, c1, c2, mj_ge0, mc_placeBefore hG2 hs hj, mc_placeBehind hG2 hs hj, mc_min, mj_min]
    · by_cases c3 : x = 1
      · simp (disch := omega) only [mj_x10, mj_g10_0, mj_g10_1, mj_g10_2, mj_g10_3, mj_g10_4, mj_g10_5, mj_g10_6, mj_g10_7, mj_g10_8, mj_g10_9, mj_g10_10, mj_g10_11, mj_g10_12, mj_g10_13, mj_g10_14, mj_g10_15, mj_g10_16, mj_g10_17, mj_g10_18, mj_g10_19, mj_g10_20, mj_g10_21, mj_g10_22, mj_g10_23, mj_g10_24, mj_g10_25, mj_g10_26, mj_g10_27, mj_g10_28, mj_g10_29, mj_g10_30, mj_g10_31, mj_g10_32, mj_g10_33, mj_g10_34, mj_g10_35, mj_g10_36, mj_g10_37, mj_g10_38, mj_g10_39, mj_g10_40, mj_g10_41, mj_g10_42, hs, ↓reduceIte, Option.bind_some, Option.toList_some, Option.toList_none, List.cons_append, List.nil_append, mj_ixn, mj_add, mj_mul, mj_sub, mj_dv, mj_rmn, mj_ltT, mj_ltF, mj_leT, mj_leF, mj_eqT, mj_eqF, mj_z0T, mj_z0F, mj_bo0, mj_boc, mj_chk10, mj_chk11, c1, c2, c3, mj_ge0, mc_placeBefore hG2 hs hj, mc_placeBehind hG2 hs hj, mc_max, mj_max]
        rfl
      · simp (disch := omega) only [mj_x10, mj_g10_0, mj_g10_1, mj_g10_2, mj_g10_3, mj_g10_4, mj_g10_5, mj_g10_6, mj_g10_7, mj_g10_8, mj_g10_9, mj_g10_10, mj_g10_11, mj_g10_12, mj_g10_13, mj_g10_14, mj_g10_15, mj_g10_16, mj_g10_17, mj_g10_18, mj_g10_19, mj_g10_20, mj_g10_21, mj_g10_22, mj_g10_23, mj_g10_24, mj_g10_25, mj_g10_26, mj_g10_27, mj_g10_28, mj_g10_29, mj_g10_30, mj_g10_31, mj_g10_32, mj_g10_33, mj_g10_34, mj_g10_35, mj_g10_36, mj_g10_37, mj_g10_38, mj_g10_39, mj_g10_40, mj_g10_41, mj_g10_42, hs, ↓reduceIte, Option.bind_some, Option.toList_some, Option.toList_none, List.cons_append, List.nil_append, mj_ixn, mj_add, mj_mul, mj_sub, mj_dv, mj_rmn, mj_ltT, mj_ltF, mj_leT, mj_leF, mj_eqT, mj_eqF, mj_z0T, mj_z0F, mj_bo0, mj_boc, mj_chk10, mj_chk11, c1, c2, c3, mj_ge0]
  · by_cases c0 : x = 0
    · subst c0
      simp (disch := omega) only [mj_x10, mj_g10_0, mj_g10_1, mj_g10_2, mj_g10_3, mj_g10_4, mj_g10_5, mj_g10_6, mj_g10_7, mj_g10_8, mj_g10_9, hs, Option.bind_some, mj_ltF, ↓reduceIte, c1]
      simp (disch := omega) only [mj_g10_10, mj_g10_11, mj_g10_12, mj_g10_13, mj_g10_14, mj_g10_15, mj_g10_16, m1, hs, ↓reduceIte, Option.bind_some, Option.toList_some, Option.toList_none, List.cons_append, List.nil_append, mj_ixn, mj_add, mj_mul, mj_sub, mj_dv, mj_rmn, mj_ltT, mj_ltF, mj_leT, mj_leF, mj_eqT, mj_eqF, mj_z0T, mj_z0F, mj_bo0, mj_boc, mj_chk10, mj_chk11]
    · by_cases c2 : x = 1
      · simp (disch := omega) only [mj_x10, mj_g10_0, mj_g10_1, mj_g10_2, mj_g10_3, mj_g10_4, mj_g10_5, mj_g10_6, mj_g10_7, mj_g10_8, mj_g10_9, mj_g10_10, mj_g10_11, mj_g10_12, mj_g10_13, mj_g10_14, mj_g10_15, mj_g10_16, mj_g10_17, mj_g10_18, mj_g10_19, mj_g10_20, mj_g10_21, mj_g10_22, mj_g10_23, mj_g10_24, mj_g10_25, mj_g10_26, mj_g10_27, mj_g10_28, mj_g10_29, mj_g10_30, mj_g10_31, mj_g10_32, mj_g10_33, mj_g10_34, mj_g10_35, mj_g10_36, mj_g10_37, mj_g10_38, mj_g10_39, mj_g10_40, mj_g10_41, mj_g10_42, hs, ↓reduceIte, Option.bind_some, Option.toList_some, Option.toList_none, List.cons_append, List.nil_append, mj_ixn, mj_add, mj_mul, mj_sub, mj_dv, mj_rmn, mj_ltT, mj_ltF, mj_leT, mj_leF, mj_eqT, mj_eqF, mj_z0T, mj_z0F, mj_bo0, mj_boc, mj_chk10, mj_chk11, c1, c0, c2, mj_ge0, mc_placeBefore hG2 hs hj, mc_placeBehind hG2 hs hj, mc_min, mj_min]
        rfl
      · by_cases c3 : x = 2
        · simp (disch := omega) only [mj_x10, mj_g10_0, mj_g10_1, mj_g10_2, mj_g10_3, mj_g10_4, mj_g10_5, mj_g10_6, mj_g10_7, mj_g10_8, mj_g10_9, mj_g10_10, mj_g10_11, mj_g10_12, mj_g10_13, mj_g10_14, mj_g10_15, mj_g10_16, mj_g10_17, mj_g10_18, mj_g10_19, mj_g10_20, mj_g10_21, mj_g10_22, mj_g10_23, mj_g10_24, mj_g10_25, mj_g10_26, mj_g10_27, mj_g10_28, mj_g10_29, mj_g10_30, mj_g10_31, mj_g10_32, mj_g10_33, mj_g10_34, mj_g10_35, mj_g10_36, mj_g10_37, mj_g10_38, mj_g10_39, mj_g10_40, mj_g10_41, mj_g10_42, hs, ↓reduceIte, Option.bind_some, Option.toList_some, Option.toList_none, List.cons_append, List.nil_append, mj_ixn, mj_add, mj_mul, mj_sub, mj_dv, mj_rmn, mj_ltT, mj_ltF, mj_leT, mj_leF, mj_eqT, mj_eqF, mj_z0T, mj_z0F, mj_bo0, mj_boc, mj_chk10, mj_chk11, c1, c0, c2, c3, mj_ge0, mc_placeBefore hG2 hs hj, mc_placeBehind hG2 hs hj, mc_max, mj_max]
          rfl
        · simp (disch := omega) only [mj_x10, mj_g10_0, mj_g10_1, mj_g10_2, mj_g10_3, mj_g10_4, mj_g10_5, mj_g10_6, mj_g10_7, mj_g10_8, mj_g10_9, mj_g10_10, mj_g10_11, mj_g10_12, mj_g10_13, mj_g10_14, mj_g10_15, mj_g10_16, mj_g10_17, mj_g10_18, mj_g10_19, mj_g10_20, mj_g10_21, mj_g10_22, mj_g10_23, mj_g10_24, mj_g10_25, mj_g10_26, mj_g10_27, mj_g10_28, mj_g10_29, mj_g10_30, mj_g10_31, mj_g10_32, mj_g10_33, mj_g10_34, mj_g10_35, mj_g10_36, mj_g10_37, mj_g10_38, mj_g10_39, mj_g10_40, mj_g10_41, mj_g10_42, hs, ↓reduceIte, Option.bind_some, Option.toList_some, Option.toList_none, List.cons_append, List.nil_append, mj_ixn, mj_add, mj_mul, mj_sub, mj_dv, mj_rmn, mj_ltT, mj_ltF, mj_leT, mj_leF, mj_eqT, mj_eqF, mj_z0T, mj_z0F, mj_bo0, mj_boc, mj_chk10, mj_chk11, c1, c0, c2, c3, mj_ge0]
theorem mc_shellTemperature (hg : mc_LG g a) (hj : j < 60) (ht : ¬ mc_T f a j + nI 100 = 0) : mj_x X 18 [.inr (1, a), .inl (nI j)] (S, f, g) = some (some (.inl (mc_tp (f 11 a 2) (mc_T f a j))), (S, f, g)) := by
  simp (disch := omega) only [mj_x18, mj_g18_0, mj_g18_1, mj_g18_2, mj_g18_3, mj_g18_4, mj_g18_5, mj_g18_6, mj_g18_7, mj_g18_8, mj_g18_9, mj_g18_10, mj_g18_11, mj_g18_12, ↓reduceIte, Option.bind_some, Option.toList_some, Option.toList_none, List.cons_append, List.nil_append, mj_ixn, mj_add, mj_mul, mj_sub, mj_dv, mj_rmn, mj_ltT, mj_ltF, mj_leT, mj_leF, mj_eqT, mj_eqF, mj_z0T, mj_z0F, mj_bo0, mj_boc, mj_chk10, mj_chk11, hg.2.2.2.1, mc_thickness hg, ht, mc_tp]
theorem mc_keepThicknesses (hg : mc_LG g a) (hN : f 1 a 2 = nI n) (h60 : n ≤ 60) : mj_x X 19 [.inr (1, a)] (S, f, g) = some (none, (S, mc_kp f a n, g)) := by
  have hl := mj_loop (fun k => mj_g X 19 2 [some (.inr (1, a)), some (.inl (nI k))] [] (S, mc_kp f a k, g)) n (fun k hk => by
    refine Eq.trans mj_g19_2 ?_
    have e1 : mc_kp f a k 1 a 2 = nI n := by rw [mc_kp_k (by decide)]; exact hN
    simp (disch := omega) only [mj_g19_3, mj_g19_4, mj_g19_5, mj_g19_6, mj_g19_7, mj_g19_8, mj_g19_9, mj_g19_10, mj_g19_11, mj_g19_12, mj_g19_13, mj_g19_14, e1, ↓reduceIte, Option.bind_some, Option.toList_some, Option.toList_none, List.cons_append, List.nil_append, mj_ixn, mj_add, mj_mul, mj_sub, mj_dv, mj_rmn, mj_ltT, mj_ltF, mj_leT, mj_leF, mj_eqT, mj_eqF, mj_z0T, mj_z0F, mj_bo0, mj_boc, mj_chk10, mj_chk11, hg.2.2.2.2.2, mc_thickness hg, mc_kp_T, mc_kp_s])
  simp only [mj_x19, mj_g19_0, mj_g19_1]
  refine Eq.trans ?_ (hl.trans ?_)
  · show _ = mj_g X 19 2 _ _ (S, mc_kp f a 0, g)
    rw [mc_kp_0]
  · have e1 : mc_kp f a n 1 a 2 = nI n := by rw [mc_kp_k (by decide)]; exact hN
    simp (disch := omega) only [mj_g19_2, mj_g19_3, mj_g19_4, mj_g19_5, mj_g19_15, e1, ↓reduceIte, Option.bind_some, Option.toList_some, Option.toList_none, List.cons_append, List.nil_append, mj_ixn, mj_add, mj_mul, mj_sub, mj_dv, mj_rmn, mj_ltT, mj_ltF, mj_leT, mj_leF, mj_eqT, mj_eqF, mj_z0T, mj_z0F, mj_bo0, mj_boc, mj_chk10, mj_chk11]
theorem mc_standingOutAhead (hg : mc_LG g a) (hG : mc_Ge r s n) (hs : f 1 a 1 = nI s) (hn : f 1 a 2 = nI n) (hj : j < n) : mj_x X 21 [.inr (1, a), .inl (nI j)] (S, f, g) = some (some (.inl (f 13 a j - mc_lb (fun i => f 13 a i) s n j)), (S, f, g)) := by
  have h60 := hG.n60
  have hpb := hG.pb hj
  have hpf := hG.pf hj
  have hG2 := hG
  obtain ⟨h1, h2, h3, h4, h5⟩ := hG
  unfold mc_lb
  by_cases c1 : j < s <;> by_cases c2 : n ≤ j + s <;> simp (disch := omega) only [mj_x21, mj_g21_0, mj_g21_1, mj_g21_2, mj_g21_3, mj_g21_4, mj_g21_5, mj_g21_6, mj_g21_7, mj_g21_8, mj_g21_9, mj_g21_10, mj_g21_11, mj_g21_12, mj_g21_13, mj_g21_14, mj_g21_15, mj_g21_16, mj_g21_17, mj_g21_18, mj_g21_19, mj_g21_20, mj_g21_21, mj_g21_22, mj_g21_23, mj_g21_24, mj_g21_25, mj_g21_26, mj_g21_27, mj_g21_28, mj_g21_29, mj_g21_30, mj_g21_31, mj_g21_32, mj_g21_33, mj_g21_34, mj_g21_35, mj_g21_36, mj_g21_37, mj_g21_38, mj_g21_39, mj_g21_40, mj_g21_41, mj_g21_42, mj_g21_43, mj_g21_44, mj_g21_45, mj_g21_46, mj_g21_47, mj_g21_48, mj_g21_49, mj_g21_50, mj_g21_51, hg.2.2.2.2.2, hs, hn, ↓reduceIte, Option.bind_some, Option.toList_some, Option.toList_none, List.cons_append, List.nil_append, mj_ixn, mj_add, mj_mul, mj_sub, mj_dv, mj_rmn, mj_ltT, mj_ltF, mj_leT, mj_leF, mj_eqT, mj_eqF, mj_z0T, mj_z0F, mj_bo0, mj_boc, mj_chk10, mj_chk11, c1, c2, mc_placeBefore hG2 hs hj, mc_placeBehind hG2 hs hj, mc_min]
theorem mc_wearAhead {φ : Int32} (hg : mc_LG g a) (hG : mc_Ge r s n) (hs : f 1 a 1 = nI s) (hn : f 1 a 2 = nI n) (hj : j < n) (hc : ¬ f 11 a 1 = 0) : mj_x X 23 [.inr (1, a), .inl (nI j), .inl φ] (S, f, g) = some (some (.inl (mc_wr (f 10 a (j / s)) φ (f 13 a j - mc_lb (fun i => f 13 a i) s n j) (f 11 a 1))), (S, f, g)) := by
  have h60 := hG.n60
  obtain ⟨q1, q2, q3, q4⟩ := hG.q hj
  have hG2 := hG
  obtain ⟨h1, h2, h3, h4, h5⟩ := hG
  have e100 : (nI 100 = 0) = False := eq_false (by decide)
  unfold mc_wr
  simp (disch := omega) only [mj_x23, mj_g23_0, mj_g23_1, mj_g23_2, mj_g23_3, mj_g23_4, mj_g23_5, mj_g23_6, mj_g23_7, mj_g23_8, mj_g23_9, mj_g23_10, mj_g23_11, mj_g23_12, mj_g23_13, mj_g23_14, mj_g23_15, mj_g23_16, mj_g23_17, mj_g23_18, mj_g23_19, mj_g23_20, mj_g23_21, mj_g23_22, mj_g23_23, mj_g23_24, mj_g23_25, mj_g23_26, mj_g23_27, mj_g23_28, mj_g23_29, mj_g23_30, hg.2.2.1, hg.2.2.2.1, ↓reduceIte, Option.bind_some, Option.toList_some, Option.toList_none, List.cons_append, List.nil_append, mj_ixn, mj_add, mj_mul, mj_sub, mj_dv, mj_rmn, mj_ltT, mj_ltF, mj_leT, mj_leF, mj_eqT, mj_eqF, mj_z0T, mj_z0F, mj_bo0, mj_boc, mj_chk10, mj_chk11, mc_ringOf hs, mc_standingOutAhead hg hG2 hs hn hj, hc, e100]
  split <;> rfl
theorem mc_standingOut (hg : mc_LG g a) (hG : mc_Ge r s n) (hs : f 1 a 1 = nI s) (hn : f 1 a 2 = nI n) (hj : j < n) : mj_x X 20 [.inr (1, a), .inl (nI j)] (S, f, g) = some (some (.inl (mc_T f a j - mc_lb (mc_T f a) s n j)), (S, mc_kp f a n, g)) := by
  have h60 := hG.n60
  have e1 : mc_kp f a n 1 a 1 = nI s := by rw [mc_kp_k (by decide)]; exact hs
  have e2 : mc_kp f a n 1 a 2 = nI n := by rw [mc_kp_k (by decide)]; exact hn
  simp (disch := omega) only [mj_x20, mj_g20_0, mj_g20_1, mj_g20_2, mj_g20_3, mj_g20_4, mj_g20_5, mc_keepThicknesses hg hn, ↓reduceIte, Option.bind_some, Option.toList_some, Option.toList_none, List.cons_append, List.nil_append, mj_ixn, mj_add, mj_mul, mj_sub, mj_dv, mj_rmn, mj_ltT, mj_ltF, mj_leT, mj_leF, mj_eqT, mj_eqF, mj_z0T, mj_z0F, mj_bo0, mj_boc, mj_chk10, mj_chk11, mc_standingOutAhead hg hG e1 e2 hj, mc_kp_j hj, mc_lb_kp hG hj]
theorem mc_wearNow {φ : Int32} (hg : mc_LG g a) (hG : mc_Ge r s n) (hs : f 1 a 1 = nI s) (hn : f 1 a 2 = nI n) (hj : j < n) (hc : ¬ f 11 a 1 = 0) : mj_x X 22 [.inr (1, a), .inl (nI j), .inl φ] (S, f, g) = some (some (.inl (mc_wr (f 10 a (j / s)) φ (mc_T f a j - mc_lb (mc_T f a) s n j) (f 11 a 1))), (S, mc_kp f a n, g)) := by
  have h60 := hG.n60
  have e1 : mc_kp f a n 1 a 1 = nI s := by rw [mc_kp_k (by decide)]; exact hs
  have e2 : mc_kp f a n 1 a 2 = nI n := by rw [mc_kp_k (by decide)]; exact hn
  have e3 : ¬ mc_kp f a n 11 a 1 = 0 := by rw [mc_kp_k (by decide)]; exact hc
  simp (disch := omega) only [mj_x22, mj_g22_0, mj_g22_1, mj_g22_2, mj_g22_3, mj_g22_4, mj_g22_5, mj_g22_6, mc_keepThicknesses hg hn, ↓reduceIte, Option.bind_some, Option.toList_some, Option.toList_none, List.cons_append, List.nil_append, mj_ixn, mj_add, mj_mul, mj_sub, mj_dv, mj_rmn, mj_ltT, mj_ltF, mj_leT, mj_leF, mj_eqT, mj_eqF, mj_z0T, mj_z0F, mj_bo0, mj_boc, mj_chk10, mj_chk11, mc_wearAhead hg hG e1 e2 hj e3, mc_kp_j hj, mc_lb_kp hG hj, mc_kp_k]
end GE
