/-! the law's 'holds': neighbours both ways, the greatest difference, the least -/
def mq_geo : Bool := (List.range 6).all (fun a => (List.range 8).all (fun b => (List.range ((a + 1) * (b + 3))).all (fun j => (List.range (mc_nn (b + 3) ((a + 1) * (b + 3)) j)).all (fun k => (List.range (mc_nn (b + 3) ((a + 1) * (b + 3)) (mc_na (b + 3) j k))).any (fun i => decide (mc_na (b + 3) (mc_na (b + 3) j k) i = j))))))
theorem mq_geo_ok : mq_geo = true := by decide +kernel
theorem mq_both {r s n j k : Nat} (hG : mc_Ge r s n) (hj : j < n) (hk : k < mc_nn s n j) : ∃ i, i < mc_nn s n (mc_na s j k) ∧ mc_na s (mc_na s j k) i = j := by
  obtain ⟨h1, h2, h3, h4, rfl⟩ := hG
  have h := mq_geo_ok
  unfold mq_geo at h
  have a1 := List.all_eq_true.mp h (r - 1) (List.mem_range.mpr (by omega))
  have a2 := List.all_eq_true.mp a1 (s - 3) (List.mem_range.mpr (by omega))
  rw [show r - 1 + 1 = r by omega, show s - 3 + 3 = s by omega] at a2
  have a3 := List.all_eq_true.mp a2 j (List.mem_range.mpr hj)
  have a4 := List.all_eq_true.mp a3 k (List.mem_range.mpr hk)
  obtain ⟨i, hi, e⟩ := List.any_eq_true.mp a4
  exact ⟨i, List.mem_range.mp hi, of_decide_eq_true e⟩
/-- the least of the neighbours seen so far; far above at first -/
def mq_mk (T : Nat → Nat) (s j : Nat) : Nat → Nat
  | 0 => T j + 99999
  | k + 1 => min (mq_mk T s j k) (T (mc_na s j k))
theorem mq_mk_le (T : Nat → Nat) (s j : Nat) : ∀ k, mq_mk T s j k ≤ T j + 99999 := by
  intro k
  induction k with
  | zero => exact Nat.le_refl _
  | succ k ih =>
    show min _ _ ≤ _
    omega
/-- 1 if one of the first i neighbours of x is j -/
def mq_bk (s x j : Nat) : Nat → Nat
  | 0 => 0
  | i + 1 => if mq_bk s x j i = 1 then 1 else if mc_na s x i = j then 1 else 0
theorem mq_bk_c (s x j i : Nat) : mq_bk s x j i = 0 ∨ mq_bk s x j i = 1 := by
  cases i with
  | zero => exact Or.inl rfl
  | succ i =>
    show (if _ then 1 else if _ then 1 else 0) = 0 ∨ (if _ then 1 else if _ then 1 else 0) = 1
    split
    · exact Or.inr rfl
    · split
      · exact Or.inr rfl
      · exact Or.inl rfl
theorem mq_bk_s (s x j i : Nat) : mq_bk s x j (i + 1) = if mq_bk s x j i = 1 then 1 else if mc_na s x i = j then 1 else 0 := rfl
theorem mq_bk_1 {s x j m : Nat} (h : ∃ i, i < m ∧ mc_na s x i = j) : mq_bk s x j m = 1 := by
  induction m with
  | zero =>
    obtain ⟨i, h1, -⟩ := h
    omega
  | succ m ih =>
    rw [mq_bk_s]
    obtain ⟨i, h1, h2⟩ := h
    by_cases c1 : i = m
    · subst c1
      rw [if_pos h2]
      split <;> rfl
    · rw [if_pos (ih ⟨i, by omega, h2⟩)]
/-- the least so far, 99999 at first -/
def mq_L (T : Nat → Nat) : Nat → Nat
  | 0 => 99999
  | j + 1 => if T j < mq_L T j then T j else mq_L T j
theorem mq_L_le (T : Nat → Nat) : ∀ j, mq_L T j ≤ 99999 := by
  intro j
  induction j with
  | zero => exact Nat.le_refl _
  | succ j ih =>
    show (if _ then _ else _) ≤ _
    split <;> omega
section QH
variable {r s n j k : Nat} {t : Nat → Int32} {T : Nat → Nat}
theorem mq_L_mn (hT : ∀ i, i < n → t i = nI (T i) ∧ T i ≤ 3500) : ∀ k, k < n → mc_mn t k = nI (mq_L T (k + 1)) := by
  intro k
  induction k with
  | zero =>
    intro hk
    obtain ⟨h1, h2⟩ := hT 0 hk
    show t 0 = nI (if T 0 < 99999 then T 0 else 99999)
    rw [if_pos (by omega), h1]
  | succ k ih =>
    intro hk
    obtain ⟨h1, h2⟩ := hT (k + 1) hk
    have h3 := mq_L_le T (k + 1)
    show mj_mi (mc_mn t k) (t (k + 1)) = nI (if T (k + 1) < mq_L T (k + 1) then T (k + 1) else mq_L T (k + 1))
    rw [ih (by omega), h1, mj_min (by omega) (by omega)]
    split
    · rw [Nat.min_eq_right (by omega)]
    · rw [Nat.min_eq_left (by omega)]
theorem mq_lb (hG : mc_Ge r s n) (hj : j < n) (hT : ∀ i, i < n → t i = nI (T i) ∧ T i ≤ 3500) : mc_lb t s n j = nI (mq_mk T s j (mc_nn s n j)) := by
  have hpb := hG.pb hj
  have hpf := hG.pf hj
  have tb := hT _ hpb
  have tf := hT _ hpf
  have hb2 := (hT (min (mc_pb s j) (mc_pf s j)) (by omega)).2
  have hf2 := (hT (max (mc_pb s j) (mc_pf s j)) (by omega)).2
  have tj := hT _ hj
  have tm := hT (j - s) (by omega)
  have mm : min (T (mc_pb s j)) (T (mc_pf s j)) = min (T (min (mc_pb s j) (mc_pf s j))) (T (max (mc_pb s j) (mc_pf s j))) := by
    rcases Nat.le_total (mc_pb s j) (mc_pf s j) with h | h
    · rw [Nat.min_eq_left h, Nat.max_eq_right h]
    · rw [Nat.min_eq_right h, Nat.max_eq_left h, Nat.min_comm]
  unfold mc_lb mc_nn
  rw [tb.1, tf.1, mj_min (by omega) (by omega), mm]
  generalize hx : T (min (mc_pb s j) (mc_pf s j)) = x at hb2
  generalize hy : T (max (mc_pb s j) (mc_pf s j)) = y at hf2
  by_cases c1 : j < s
  · have n0 : T (mc_na s j 0) = x := by rw [← hx]; unfold mc_na; rw [if_pos c1, if_pos rfl]
    have n1 : T (mc_na s j 1) = y := by rw [← hy]; unfold mc_na; rw [if_pos c1, if_neg (by decide), if_pos rfl]
    have n2 : mc_na s j 2 = j + s := by unfold mc_na; rw [if_pos c1, if_neg (by decide), if_neg (by decide)]
    by_cases c2 : n ≤ j + s
    · simp only [c1, c2, ↓reduceIte]
      show _ = nI (min (min (T j + 99999) (T (mc_na s j 0))) (T (mc_na s j 1)))
      rw [n0, n1]
      exact congrArg nI (by omega)
    · have t2 := hT (j + s) (by omega)
      simp only [c1, c2, ↓reduceIte]
      show _ = nI (min (min (min (T j + 99999) (T (mc_na s j 0))) (T (mc_na s j 1))) (T (mc_na s j 2)))
      rw [n0, n1, n2, t2.1, mj_min (by omega) (by omega)]
      exact congrArg nI (by omega)
  · have n0 : mc_na s j 0 = j - s := by unfold mc_na; rw [if_neg c1, if_pos rfl]
    have n1 : T (mc_na s j 1) = x := by rw [← hx]; unfold mc_na; rw [if_neg c1, if_neg (by decide), if_pos rfl]
    have n2 : T (mc_na s j 2) = y := by rw [← hy]; unfold mc_na; rw [if_neg c1, if_neg (by decide), if_neg (by decide), if_pos rfl]
    have n3 : mc_na s j 3 = j + s := by unfold mc_na; rw [if_neg c1, if_neg (by decide), if_neg (by decide), if_neg (by decide)]
    by_cases c2 : n ≤ j + s
    · simp only [c1, c2, ↓reduceIte]
      show _ = nI (min (min (min (T j + 99999) (T (mc_na s j 0))) (T (mc_na s j 1))) (T (mc_na s j 2)))
      rw [n0, n1, n2, tm.1, mj_min (by omega) (by omega)]
      exact congrArg nI (by omega)
    · have t2 := hT (j + s) (by omega)
      simp only [c1, c2, ↓reduceIte]
      show _ = nI (min (min (min (min (T j + 99999) (T (mc_na s j 0))) (T (mc_na s j 1))) (T (mc_na s j 2))) (T (mc_na s j 3)))
      rw [n0, n1, n2, n3, t2.1, tm.1, mj_min (by omega) (by omega), mj_min (by omega) (by omega)]
      exact congrArg nI (by omega)
/-- differences from one number compare as what is taken away -/
theorem mq_dle {a x m : Nat} (ha : a < 1000000) (hx : x < 1000000) (hm : m < 1000000) : nI a - nI x ≤ nI a - nI m ↔ m ≤ x := by
  have e : ∀ q : Nat, q < 1000000 → (nI a - nI q).toInt = (a : Int) - (q : Int) := fun q hq => by
    rw [Int32.toInt_sub, nI_toInt (by omega), nI_toInt (by omega)]
    exact Int.bmod_eq_of_le (by omega) (by omega)
  rw [Int32.le_iff_toInt_le, e x hx, e m hm]
  omega
theorem mq_d9 (a : Nat) : nI a - nI (a + 99999) = -99999 := by
  rw [← mj_add]
  have e : (-99999 : Int32) = 0 - nI 99999 := by decide
  rw [e]
  grind
end QH
