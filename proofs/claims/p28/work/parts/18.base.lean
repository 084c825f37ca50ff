/-! numbers, indices, cells: rows for the walks -/
theorem mj_ixn {j n : Nat} (h : j < n) (h2 : n < 2147483648) : mj_ix (nI j) n = some j := by
  unfold mj_ix
  have e1 := nI_toInt (n := j) (by omega)
  have e2 := nI_clamp (n := j) (by omega)
  rw [e1, e2, if_pos ⟨by omega, by omega⟩]
theorem mj_lt {a b : Nat} (ha : a < 2147483648) (hb : b < 2147483648) : nI a < nI b ↔ a < b := nI_ltI (by omega) (by omega)
theorem mj_le {a b : Nat} (ha : a < 2147483648) (hb : b < 2147483648) : nI a ≤ nI b ↔ a ≤ b := nI_leI (by omega) (by omega)
theorem mj_eq {a b : Nat} (ha : a < 2147483648) (hb : b < 2147483648) : nI a = nI b ↔ a = b := nI_eq (by omega) (by omega)
theorem mj_ltT {a b : Nat} (h : a < b) (hb : b < 2147483648) : (nI a < nI b) = True := eq_true ((mj_lt (by omega) hb).mpr h)
theorem mj_ltF {a b : Nat} (h : b ≤ a) (ha : a < 2147483648) : (nI a < nI b) = False := eq_false (fun q_ => absurd ((mj_lt ha (by omega)).mp q_) (by omega))
theorem mj_leT {a b : Nat} (h : a ≤ b) (hb : b < 2147483648) : (nI a ≤ nI b) = True := eq_true ((mj_le (by omega) hb).mpr h)
theorem mj_leF {a b : Nat} (h : b < a) (ha : a < 2147483648) : (nI a ≤ nI b) = False := eq_false (fun q_ => absurd ((mj_le ha (by omega)).mp q_) (by omega))
theorem mj_eqT {a b : Nat} (h : a = b) : (nI a = nI b) = True := eq_true (by rw [h])
theorem mj_eqF {a b : Nat} (h : a ≠ b) (ha : a < 2147483648) (hb : b < 2147483648) : (nI a = nI b) = False := eq_false (fun q_ => h ((mj_eq ha hb).mp q_))
theorem mj_z0T {a : Nat} (h : a = 0) : (nI a = 0) = True := eq_true (by rw [h]; exact nI_0)
theorem mj_z0F {a : Nat} (h : a ≠ 0) (ha : a < 2147483648) : (nI a = 0) = False := eq_false (fun q_ => h ((nI_eq (b := 0) (by omega) (by omega)).mp (by rw [q_]; exact nI_0.symm)))
theorem mj_lt0 {a : Nat} (ha : a < 2147483648) : nI a < 0 ↔ False := ⟨fun h_ => nI_pos (n := a) (by omega) h_, fun h_ => h_.elim⟩
theorem mj_ge0 {a : Nat} (ha : a < 2147483648) : 0 ≤ nI a ↔ True := ⟨fun _ => trivial, fun _ => nI_pos' (n := a) (by omega)⟩
theorem mj_le0 {a : Nat} (ha : a < 2147483648) : nI a ≤ 0 ↔ a = 0 := by
  have h_ := nI_leI (a := a) (b := 0) (by omega) (by omega)
  have e_ : nI 0 = 0 := nI_0
  rw [e_] at h_
  rw [h_]
  omega
theorem mj_add (a b : Nat) : nI a + nI b = nI (a + b) := nI_add a b
theorem mj_mul (a b : Nat) : nI a * nI b = nI (a * b) := pk_mul a b
theorem mj_sub {a b : Nat} (h : b ≤ a) : nI a - nI b = nI (a - b) := pk_sub h
theorem mj_dv {a d : Nat} (ha : a < 2147483648) (h0 : 0 < d) (hd : d < 2147483648) : nI a / nI d = nI (a / d) := pk_div (by omega) h0 (by omega)
theorem mj_rmn {a d : Nat} (ha : a < 2147483648) (h0 : 0 < d) (hd : d < 2147483648) : mj_rem (nI a) (nI d) = nI (a % d) := pk_rem (by omega) h0 (by omega)
theorem mj_uk {f : mj_F} {k i j k2 i2 j2 : Nat} {v : Int32} (h : k2 ≠ k) : mj_u f k i j v k2 i2 j2 = f k2 i2 j2 := by
  unfold mj_u
  rw [if_neg (fun q_ => h q_.1)]
theorem mj_ui {f : mj_F} {k i j k2 i2 j2 : Nat} {v : Int32} (h : i2 ≠ i) : mj_u f k i j v k2 i2 j2 = f k2 i2 j2 := by
  unfold mj_u
  rw [if_neg (fun q_ => h q_.2.1)]
theorem mj_uj {f : mj_F} {k i j k2 i2 j2 : Nat} {v : Int32} (h : j2 ≠ j) : mj_u f k i j v k2 i2 j2 = f k2 i2 j2 := by
  unfold mj_u
  rw [if_neg (fun q_ => h q_.2.2)]
theorem mj_us {f : mj_F} {k i j : Nat} {v : Int32} : mj_u f k i j v k i j = v := by
  unfold mj_u
  rw [if_pos ⟨rfl, rfl, rfl⟩]
/-- a truth value as an int -/
def mj_bo (P : Prop) [Decidable P] : Int32 := if P then nI 1 else nI 0
theorem mj_bo0 {P : Prop} [Decidable P] : mj_bo P = 0 ↔ ¬ P := by
  unfold mj_bo
  by_cases h_ : P
  · rw [if_pos h_]; exact ⟨fun e_ => absurd e_ (by decide), fun e_ => absurd h_ e_⟩
  · rw [if_neg h_]; exact ⟨fun _ => h_, fun _ => rfl⟩
theorem mj_boc {P : Prop} [Decidable P] : mj_chk 1 (mj_bo P) = true := by
  unfold mj_bo
  by_cases h_ : P
  · rw [if_pos h_]; rfl
  · rw [if_neg h_]; rfl
theorem mj_boT {P : Prop} [Decidable P] (h : P) : nI 1 = mj_bo P := by unfold mj_bo; rw [if_pos h]
theorem mj_boF {P : Prop} [Decidable P] (h : ¬ P) : nI 0 = mj_bo P := by unfold mj_bo; rw [if_neg h]
theorem mj_chk10 : mj_chk 1 (nI 0) = true := rfl
theorem mj_chk11 : mj_chk 1 (nI 1) = true := rfl
/-- a loop, its state a function of its count -/
theorem mj_loop {α : Type} (G : Nat → α) (n : Nat) (h : ∀ k, k < n → G k = G (k + 1)) : G 0 = G n := by
  induction n with
  | zero => rfl
  | succ n ih => exact (ih (fun k hk => h k (Nat.lt_succ_of_lt hk))).trans (h n (Nat.lt_succ_self n))
/-- Math -/
def mj_mi (x y : Int32) : Int32 := if y < x then y else x
def mj_ma (x y : Int32) : Int32 := if x < y then y else x
def mj_fd (x y : Int32) : Int32 := if 0 ≤ x ^^^ y then x / y else if x / y * y = x then x / y else x / y - nI 1
section MA
variable {X : mj_X} {σ : mj_H}
theorem mc_min {x y : Int32} : mj_x X 67 [.inl x, .inl y] σ = some (some (.inl (mj_mi x y)), σ) := by
  simp only [mj_x67, mj_g67_0, mj_g67_1, mj_g67_2, mj_g67_3, mj_g67_4, mj_g67_5, mj_g67_6, mj_mi]
  split <;> rfl
theorem mc_max {x y : Int32} : mj_x X 66 [.inl x, .inl y] σ = some (some (.inl (mj_ma x y)), σ) := by
  simp only [mj_x66, mj_g66_0, mj_g66_1, mj_g66_2, mj_g66_3, mj_g66_4, mj_g66_5, mj_g66_6, mj_ma]
  split <;> rfl
theorem mc_floorDiv {x y : Int32} (hy : ¬ y = 0) : mj_x X 65 [.inl x, .inl y] σ = some (some (.inl (mj_fd x y)), σ) := by
  simp only [mj_x65, mj_g65_0, mj_g65_1, mj_g65_2, mj_g65_3, mj_g65_4, mj_g65_5, mj_g65_6, mj_g65_7, mj_g65_8, mj_g65_9, mj_g65_10, mj_g65_11, mj_g65_12, mj_g65_13, mj_g65_14, mj_g65_15, mj_g65_16, mj_g65_17, mj_g65_18, mj_fd, if_neg hy]
  split
  · rfl
  · split <;> rfl
theorem mc_within {v lo hi : Int32} : mj_x X 61 [.inl v, .inl lo, .inl hi] σ = some (some (.inl (mj_bo (lo ≤ v ∧ v ≤ hi))), σ) := by
  simp only [mj_x61, mj_g61_0, mj_g61_1, mj_g61_2, mj_g61_3, mj_g61_4, mj_g61_5, mj_g61_6, mj_g61_7, mj_g61_8, mj_g61_9, mj_chk10, mj_chk11, if_true]
  by_cases h1_ : v < lo
  · rw [if_pos h1_, mj_boF (P := lo ≤ v ∧ v ≤ hi) (fun q_ => absurd q_.1 (Int32.not_le.mpr h1_))]
  · rw [if_neg h1_]
    by_cases h2_ : hi < v
    · rw [if_pos h2_, mj_boF (P := lo ≤ v ∧ v ≤ hi) (fun q_ => absurd q_.2 (Int32.not_le.mpr h2_))]
    · rw [if_neg h2_, mj_boT (P := lo ≤ v ∧ v ≤ hi) ⟨Int32.not_lt.mp h1_, Int32.not_lt.mp h2_⟩]
end MA
