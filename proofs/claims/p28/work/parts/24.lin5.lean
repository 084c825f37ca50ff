/-! Lining: what a heat leaves; a plan; laying; copies -/
def mc_rt (f : mj_F) (a : Nat) : Bool := decide (mj_rem (f 1 a 9 + nI 1) (f 11 a 5) = 0)
def mc_w9 (f : mj_F) (a s n : Nat) (φ : Int32) (j : Nat) : Int32 := mp_l (f 9 a j) (mc_W f a s n φ j)
def mc_n8 (f : mj_F) (a s n : Nat) (φ : Int32) (j : Nat) : Int32 := mp_b (f 8 a j) (f 9 a j) (mc_W f a s n φ j)
def mc_n9 (f : mj_F) (a s n : Nat) (φ : Int32) (j : Nat) : Int32 := if mc_rt f a = true then mc_w9 f a s n φ j - mc_w9 f a s n φ j / nI 2 else mc_w9 f a s n φ j
section LL
variable {X : mj_X} {S : List (Nat × Nat)} {f : mj_F} {g : mj_G} {a r s n j : Nat} {φ : Int32}
theorem mc_h1_o {k2 i2 j2 : Nat} (h : ¬ ((k2 = 8 ∨ k2 = 9 ∨ k2 = 13) ∧ i2 = a ∧ j2 < n)) : mc_h1 f a s n φ k2 i2 j2 = f k2 i2 j2 := by
  unfold mc_h1 mc_kp
  rw [mc_tws_o (fun q_ => h ⟨q_.1.elim Or.inl (fun e_ => Or.inr (Or.inl e_)), q_.2⟩)]
  show (if _ then _ else _) = _
  rw [if_neg (fun q_ => h ⟨Or.inr (Or.inr q_.1), q_.2⟩)]
theorem mc_h1_8 (hj : j < n) : mc_h1 f a s n φ 8 a j = mc_n8 f a s n φ j := by
  unfold mc_h1 mc_n8
  rw [mc_tws_8 hj, mc_kp_k (by decide), mc_kp_k (by decide)]
theorem mc_h1_9 (hj : j < n) : mc_h1 f a s n φ 9 a j = mc_w9 f a s n φ j := by
  unfold mc_h1 mc_w9
  rw [mc_tws_9 hj, mc_kp_k (by decide)]
/-- behind the counts, ahead of the rest -/
def mc_hb (f : mj_F) (a s n : Nat) (φ : Int32) : mj_F := mc_h4 (mc_h3 (mc_h2 (mc_h1 f a s n φ) a (mc_hx f a s n φ)) a) a
theorem mc_hb_k {k2 i2 j2 : Nat} (h : k2 ≠ 1) (h2 : k2 ≠ 12) : mc_hb f a s n φ k2 i2 j2 = mc_h1 f a s n φ k2 i2 j2 := by
  unfold mc_hb mc_h4 mc_h3 mc_h2
  rw [mj_uk h, mj_uk h, mj_uk h2]
theorem mc_hb_i {k2 i2 j2 : Nat} (h : i2 ≠ a) : mc_hb f a s n φ k2 i2 j2 = f k2 i2 j2 := by
  unfold mc_hb mc_h4 mc_h3 mc_h2
  rw [mj_ui h, mj_ui h, mj_ui h, mc_h1_o (fun q_ => h q_.2.1)]
theorem mc_hb_1 {j2 : Nat} (h : j2 ≠ 8) (h2 : j2 ≠ 9) : mc_hb f a s n φ 1 a j2 = f 1 a j2 := by
  unfold mc_hb mc_h4 mc_h3 mc_h2
  rw [mj_uj h2, mj_uj h, mj_uk (by decide), mc_h1_o (by omega)]
theorem mc_hb_18 : mc_hb f a s n φ 1 a 8 = f 1 a 8 + nI 1 := by
  unfold mc_hb mc_h4 mc_h3 mc_h2
  rw [mj_uj (by decide), mj_us, mj_uk (by decide), mc_h1_o (by omega)]
theorem mc_hb_19 : mc_hb f a s n φ 1 a 9 = f 1 a 9 + nI 1 := by
  unfold mc_hb mc_h4 mc_h3 mc_h2
  rw [mj_us, mj_uj (by decide), mj_uk (by decide), mc_h1_o (by omega)]
theorem mc_hb_12 {j2 : Nat} (h : j2 ≠ 2) : mc_hb f a s n φ 12 a j2 = f 12 a j2 := by
  unfold mc_hb mc_h4 mc_h3 mc_h2
  rw [mj_uk (by decide), mj_uk (by decide), mj_uj h, mc_h1_o (by omega)]
theorem mc_hb_122 : mc_hb f a s n φ 12 a 2 = f 12 a 2 + mc_hx f a s n φ := by
  unfold mc_hb mc_h4 mc_h3 mc_h2
  rw [mj_uk (by decide), mj_uk (by decide), mj_us, mc_h1_o (by omega)]
theorem mc_hb_rt : mc_rt f a = true ↔ mj_rem (mc_hb f a s n φ 1 a 9) (mc_hb f a s n φ 11 a 5) = 0 := by
  rw [mc_hb_19, mc_hb_k (by decide) (by decide), mc_h1_o (by omega)]
  exact decide_eq_true_iff
def mc_hc (f : mj_F) (a s n : Nat) (φ : Int32) : mj_F := if mc_rt f a = true then mc_rs (mc_hb f a s n φ) a n else mc_hb f a s n φ
theorem mc_hc_e : mc_h5 (mc_hb f a s n φ) a n = mc_hc f a s n φ := by
  unfold mc_h5 mc_hc
  by_cases c1 : mc_rt f a = true
  · rw [if_pos c1, if_pos (mc_hb_rt.mp c1)]
  · rw [if_neg c1, if_neg (fun q_ => c1 (mc_hb_rt.mpr q_))]
theorem mc_hc_o {k2 i2 j2 : Nat} (h : ¬ (k2 = 9 ∧ i2 = a ∧ j2 < n)) (h2 : ¬ (k2 = 12 ∧ i2 = a ∧ j2 = 3)) : mc_hc f a s n φ k2 i2 j2 = mc_hb f a s n φ k2 i2 j2 := by
  unfold mc_hc
  split
  · exact mc_rs_o h h2
  · rfl
theorem mc_ht_e : mc_ht f a s n φ = mc_h6 (mc_hc f a s n φ) a n := by
  rw [← mc_hc_e]
  rfl
theorem mc_ht_u {k2 i2 j2 : Nat} (h : ¬ (k2 = 1 ∧ i2 = a ∧ j2 = 11)) : mc_ht f a s n φ k2 i2 j2 = mc_hc f a s n φ k2 i2 j2 := by
  rw [mc_ht_e]
  show (if _ then _ else _) = _
  rw [if_neg h]
theorem mc_ht_i {k2 i2 j2 : Nat} (h : i2 ≠ a) : mc_ht f a s n φ k2 i2 j2 = f k2 i2 j2 := by
  rw [mc_ht_u (fun q_ => h q_.2.1), mc_hc_o (fun q_ => h q_.2.1) (fun q_ => h q_.2.1), mc_hb_i h]
theorem mc_ht_k {k2 i2 j2 : Nat} (h : k2 ≠ 1) (h2 : k2 ≠ 8) (h3 : k2 ≠ 9) (h4 : k2 ≠ 12) (h5 : k2 ≠ 13) : mc_ht f a s n φ k2 i2 j2 = f k2 i2 j2 := by
  rw [mc_ht_u (fun q_ => h q_.1), mc_hc_o (fun q_ => h3 q_.1) (fun q_ => h4 q_.1), mc_hb_k h h4, mc_h1_o (by omega)]
theorem mc_ht_1 {j2 : Nat} (h : j2 ≠ 8) (h2 : j2 ≠ 9) (h3 : j2 ≠ 11) : mc_ht f a s n φ 1 a j2 = f 1 a j2 := by
  rw [mc_ht_u (by omega), mc_hc_o (by omega) (by omega), mc_hb_1 h h2]
theorem mc_ht_18 : mc_ht f a s n φ 1 a 8 = f 1 a 8 + nI 1 := by
  rw [mc_ht_u (by omega), mc_hc_o (by omega) (by omega), mc_hb_18]
theorem mc_ht_19 : mc_ht f a s n φ 1 a 9 = f 1 a 9 + nI 1 := by
  rw [mc_ht_u (by omega), mc_hc_o (by omega) (by omega), mc_hb_19]
theorem mc_ht_8 (hj : j < n) : mc_ht f a s n φ 8 a j = mc_n8 f a s n φ j := by
  rw [mc_ht_u (by omega), mc_hc_o (by omega) (by omega), mc_hb_k (by decide) (by decide), mc_h1_8 hj]
theorem mc_hc_9 (hj : j < n) : mc_hc f a s n φ 9 a j = mc_n9 f a s n φ j := by
  unfold mc_hc mc_n9
  split
  · rw [mc_rs_9 hj, mc_hb_k (by decide) (by decide), mc_h1_9 hj]
  · rw [mc_hb_k (by decide) (by decide), mc_h1_9 hj]
theorem mc_ht_9 (hj : j < n) : mc_ht f a s n φ 9 a j = mc_n9 f a s n φ j := by
  rw [mc_ht_u (by omega), mc_hc_9 hj]
theorem mc_sm_congr {t u : Nat → Int32} (h : ∀ i, i < n → t i = u i) : mc_sm t n = mc_sm u n := by
  induction n with
  | zero => rfl
  | succ n ih =>
    show _ + _ = _ + _
    rw [ih (fun i hi => h i (by omega)), h n (by omega)]
theorem mc_ht_12 {j2 : Nat} (h : j2 ≠ 2) (h2 : j2 ≠ 3) : mc_ht f a s n φ 12 a j2 = f 12 a j2 := by
  rw [mc_ht_u (by omega), mc_hc_o (by omega) (by omega), mc_hb_12 h]
theorem mc_ht_122 : mc_ht f a s n φ 12 a 2 = f 12 a 2 + mc_hx f a s n φ := by
  rw [mc_ht_u (by omega), mc_hc_o (by omega) (by omega), mc_hb_122]
theorem mc_ht_123 : mc_ht f a s n φ 12 a 3 = if mc_rt f a = true then f 12 a 3 + mc_sm (fun j => mc_w9 f a s n φ j / nI 2) n else f 12 a 3 := by
  rw [mc_ht_u (by omega)]
  unfold mc_hc
  split
  · rw [mc_rs_12, mc_hb_12 (by decide)]
    rw [mc_sm_congr (u := fun j => mc_w9 f a s n φ j / nI 2) (fun i hi => by rw [mc_hb_k (by decide) (by decide), mc_h1_9 hi])]
  · rw [mc_hb_12 (by decide)]
theorem mc_ht_111 : mc_ht f a s n φ 1 a 11 = mj_bo (∃ j, j < n ∧ mc_n8 f a s n φ j + mc_n9 f a s n φ j < f 11 a 0) := by
  rw [mc_ht_e]
  unfold mc_h6
  rw [mj_us]
  have e1 : (∃ j, j < n ∧ mc_T (mc_hc f a s n φ) a j < mc_hc f a s n φ 11 a 0) ↔ ∃ j, j < n ∧ mc_n8 f a s n φ j + mc_n9 f a s n φ j < f 11 a 0 := by
    have e2 : mc_hc f a s n φ 11 a 0 = f 11 a 0 := by rw [mc_hc_o (by omega) (by omega), mc_hb_k (by decide) (by decide), mc_h1_o (by omega)]
    have e3 : ∀ j, j < n → mc_T (mc_hc f a s n φ) a j = mc_n8 f a s n φ j + mc_n9 f a s n φ j := fun j hj => by
      unfold mc_T
      rw [mc_hc_9 hj, mc_hc_o (by omega) (by omega), mc_hb_k (by decide) (by decide), mc_h1_8 hj]
    rw [e2]
    exact ⟨fun ⟨j, h1, h2⟩ => ⟨j, h1, by rw [← e3 j h1]; exact h2⟩, fun ⟨j, h1, h2⟩ => ⟨j, h1, by rw [e3 j h1]; exact h2⟩⟩
  unfold mj_bo
  by_cases c1 : ∃ j, j < n ∧ mc_n8 f a s n φ j + mc_n9 f a s n φ j < f 11 a 0
  · rw [if_pos c1, if_pos (e1.mpr c1)]
  · rw [if_neg c1, if_neg (fun q_ => c1 (e1.mp q_))]
end LL
