/-! wear, rest, a heat; gunning; relining; a plan's heats: what they write -/
def mp_b (b l w : Int32) : Int32 := if l < nI 2 * w then b - mj_mi (w - l / nI 2) b else b
def mp_l (l w : Int32) : Int32 := if l < nI 2 * w then nI 0 else l - nI 2 * w
def mp_x (b l w : Int32) : Int32 := if l < nI 2 * w then l + mj_mi (w - l / nI 2) b else nI 2 * w
def mc_tw (f : mj_F) (a j : Nat) (w : Int32) : mj_F :=
  if f 9 a j < nI 2 * w then mj_u (mj_u f 9 a j (nI 0)) 8 a j (f 8 a j - mj_mi (w - f 9 a j / nI 2) (f 8 a j)) else mj_u f 9 a j (f 9 a j - nI 2 * w)
theorem mc_tw_k {f : mj_F} {a j : Nat} {w : Int32} {k2 i2 j2 : Nat} (h : ¬ ((k2 = 8 ∨ k2 = 9) ∧ i2 = a ∧ j2 = j)) : mc_tw f a j w k2 i2 j2 = f k2 i2 j2 := by
  unfold mc_tw mj_u
  split
  · show (if _ then _ else (if _ then _ else _)) = _
    rw [if_neg (fun q_ => h ⟨.inl q_.1, q_.2⟩), if_neg (fun q_ => h ⟨.inr q_.1, q_.2⟩)]
  · show (if _ then _ else _) = _
    rw [if_neg (fun q_ => h ⟨.inr q_.1, q_.2⟩)]
theorem mc_tw_8 {f : mj_F} {a j : Nat} {w : Int32} : mc_tw f a j w 8 a j = mp_b (f 8 a j) (f 9 a j) w := by
  unfold mc_tw mp_b
  split
  · exact mj_us
  · exact mj_uk (by decide)
theorem mc_tw_9 {f : mj_F} {a j : Nat} {w : Int32} : mc_tw f a j w 9 a j = mp_l (f 9 a j) w := by
  unfold mc_tw mp_l
  split
  · rw [mj_uk (by decide)]; exact mj_us
  · exact mj_us
def mc_tws (f : mj_F) (a : Nat) (W : Nat → Int32) : Nat → mj_F
  | 0 => f
  | n + 1 => mc_tw (mc_tws f a W n) a n (W n)
theorem mc_tws_o {f : mj_F} {a n : Nat} {W : Nat → Int32} {k2 i2 j2 : Nat} (h : ¬ ((k2 = 8 ∨ k2 = 9) ∧ i2 = a ∧ j2 < n)) : mc_tws f a W n k2 i2 j2 = f k2 i2 j2 := by
  induction n with
  | zero => rfl
  | succ n ih =>
    show mc_tw _ _ _ _ _ _ _ = _
    rw [mc_tw_k (fun q_ => h ⟨q_.1, q_.2.1, by omega⟩), ih (fun q_ => h ⟨q_.1, q_.2.1, by omega⟩)]
theorem mc_tws_8 {f : mj_F} {a n j : Nat} {W : Nat → Int32} (h : j < n) : mc_tws f a W n 8 a j = mp_b (f 8 a j) (f 9 a j) (W j) := by
  induction n with
  | zero => omega
  | succ n ih =>
    show mc_tw _ _ _ _ _ _ _ = _
    by_cases e_ : j = n
    · subst e_
      rw [mc_tw_8, mc_tws_o (by omega), mc_tws_o (by omega)]
    · rw [mc_tw_k (by omega), ih (by omega)]
theorem mc_tws_9 {f : mj_F} {a n j : Nat} {W : Nat → Int32} (h : j < n) : mc_tws f a W n 9 a j = mp_l (f 9 a j) (W j) := by
  induction n with
  | zero => omega
  | succ n ih =>
    show mc_tw _ _ _ _ _ _ _ = _
    by_cases e_ : j = n
    · subst e_
      rw [mc_tw_9, mc_tws_o (by omega)]
    · rw [mc_tw_k (by omega), ih (by omega)]
/-- a rest, place by place -/
def mc_rs (f : mj_F) (a : Nat) : Nat → mj_F
  | 0 => f
  | n + 1 => mj_u (mj_u (mc_rs f a n) 9 a n (mc_rs f a n 9 a n - mc_rs f a n 9 a n / nI 2)) 12 a 3 (mc_rs f a n 12 a 3 + mc_rs f a n 9 a n / nI 2)
theorem mc_rs_o {f : mj_F} {a n : Nat} {k2 i2 j2 : Nat} (h : ¬ (k2 = 9 ∧ i2 = a ∧ j2 < n)) (h2 : ¬ (k2 = 12 ∧ i2 = a ∧ j2 = 3)) : mc_rs f a n k2 i2 j2 = f k2 i2 j2 := by
  induction n with
  | zero => rfl
  | succ n ih =>
    show (if _ then _ else (if _ then _ else _)) = _
    rw [if_neg h2, if_neg (fun q_ => h ⟨q_.1, q_.2.1, by omega⟩), ih (fun q_ => h ⟨q_.1, q_.2.1, by omega⟩)]
theorem mc_rs_9 {f : mj_F} {a n j : Nat} (h : j < n) : mc_rs f a n 9 a j = f 9 a j - f 9 a j / nI 2 := by
  induction n with
  | zero => omega
  | succ n ih =>
    show mj_u _ _ _ _ _ _ _ _ = _
    rw [mj_uk (by decide)]
    by_cases e_ : j = n
    · subst e_
      rw [mj_us, mc_rs_o (by omega) (by omega)]
    · rw [mj_uj e_, ih (by omega)]
theorem mc_rs_12 {f : mj_F} {a n : Nat} : mc_rs f a n 12 a 3 = f 12 a 3 + mc_sm (fun j => f 9 a j / nI 2) n := by
  induction n with
  | zero =>
    show _ = _ + nI 0
    rw [nI_0, Int32.add_zero]
    rfl
  | succ n ih =>
    show mj_u _ _ _ _ _ _ _ _ = _
    rw [mj_us, ih, mc_rs_o (by omega) (by omega), Int32.add_assoc]
    rfl
/-- what a heat needs of a lining; what it takes -/
def mc_LO (f : mj_F) (a r s n : Nat) : Prop := f 1 a 0 = nI r ∧ f 1 a 1 = nI s ∧ f 1 a 2 = nI n ∧ mc_Ge r s n ∧ ¬ f 11 a 1 = 0 ∧ ¬ f 11 a 5 = 0
def mc_W (f : mj_F) (a s n : Nat) (φ : Int32) (j : Nat) : Int32 := mc_wr (f 10 a (j / s)) φ (mc_T f a j - mc_lb (mc_T f a) s n j) (f 11 a 1)
def mc_h1 (f : mj_F) (a s n : Nat) (φ : Int32) : mj_F := mc_tws (mc_kp f a n) a (mc_W f a s n φ) n
def mc_hx (f : mj_F) (a s n : Nat) (φ : Int32) : Int32 := mc_sm (fun j => mp_x (f 8 a j) (f 9 a j) (mc_W f a s n φ j)) n
def mc_h2 (f : mj_F) (a : Nat) (x : Int32) : mj_F := mj_u f 12 a 2 (f 12 a 2 + x)
def mc_h3 (f : mj_F) (a : Nat) : mj_F := mj_u f 1 a 8 (f 1 a 8 + nI 1)
def mc_h4 (f : mj_F) (a : Nat) : mj_F := mj_u f 1 a 9 (f 1 a 9 + nI 1)
def mc_h5 (f : mj_F) (a n : Nat) : mj_F := if mj_rem (f 1 a 9) (f 11 a 5) = 0 then mc_rs f a n else f
def mc_h6 (f : mj_F) (a n : Nat) : mj_F := mj_u f 1 a 11 (mj_bo (∃ j, j < n ∧ mc_T f a j < f 11 a 0))
theorem mc_fi_lt {p : Nat → Bool} {b n j : Nat} (h : mc_fi p b n = some j) : b ≤ j ∧ j < b + n ∧ p j = true := by
  induction n generalizing b with
  | zero => cases h
  | succ n ih =>
    rw [mc_fi_s] at h
    by_cases c_ : p b = true
    · rw [if_pos c_] at h
      cases h
      exact ⟨by omega, by omega, c_⟩
    · rw [if_neg c_] at h
      obtain ⟨h1, h2, h3⟩ := ih h
      exact ⟨by omega, by omega, h3⟩
theorem mc_fi_no {p : Nat → Bool} {b n : Nat} (h : mc_fi p b n = none) : ∀ j, b ≤ j → j < b + n → ¬ p j = true := by
  induction n generalizing b with
  | zero => intro j h1 h2; omega
  | succ n ih =>
    rw [mc_fi_s] at h
    by_cases c_ : p b = true
    · rw [if_pos c_] at h
      cases h
    · rw [if_neg c_] at h
      intro j h1 h2
      by_cases e_ : j = b
      · rw [e_]; exact c_
      · exact ih h j (by omega) (by omega)
theorem mc_oi_n {o : Option Nat} (h : ∀ j, o = some j → j < 2147483648) : mc_oi o = (-1000004) ↔ o = none := by
  cases o with
  | none => exact ⟨fun _ => rfl, fun _ => rfl⟩
  | some j =>
    refine ⟨fun e_ => ?_, fun e_ => by cases e_⟩
    have h1 := h j rfl
    have h2 : nI j = -1000004 := e_
    have h3 := (mj_ge0 h1).mpr trivial
    rw [h2] at h3
    exact absurd h3 (by decide)

