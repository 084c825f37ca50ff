/-! what the class holds, what the reference holds: one and the same -/
def mr_HC (f : mj_F) (z : Nat) (Ds : Nat → Nat → Int32) (H : Nat) : Prop := ∃ o, o < 4 ∧ z ≤ 4 ∧ f 0 0 1 = nI o ∧ f 0 0 2 = nI z ∧ ∀ k, k < z → ∃ r s n, mr_S f ((o + k) % 4 + 1) ((o + k) % 4 + 2) (fun j => 4 * ((o + k) % 4 + 1) + j) (Ds k) r s n H
section RE
variable {X : mj_X} {S : List (Nat × Nat)} {f F : mj_F} {g G : mj_G} {st sw a b r s n r2 s2 n2 lo c H H2 z L : Nat} {sc sp : Nat → Nat} {D E : Nat → Int32} {Ds : Nat → Nat → Int32} {t : Nat → Int32} {w v : Int32}
theorem mr_S_k (h : mr_S f st a sc D r s n H) (hF : ∀ k i j, (k = 1 ∨ k = 3 ∨ k = 4 ∨ (8 ≤ k ∧ k ≤ 12) ∨ k = 15 ∨ k = 16) → F k i j = f k i j) : mr_S F st a sc D r s n H := by
  obtain ⟨k1, k2, c, k3, k4, k5, k6⟩ := h
  refine ⟨mr_L_e k1 (fun k j hk => hF _ _ _ (by omega)), k2, c, k3, k4, by rw [hF _ _ _ (by omega)]; exact k5, fun k hk => ⟨?_, fun j hj => ⟨?_, ?_⟩⟩⟩
  · rw [hF _ _ _ (by omega)]; exact (k6 k hk).1
  · rw [hF _ _ _ (by omega)]; exact ((k6 k hk).2 j hj).1
  · rw [hF _ _ _ (by omega)]; exact ((k6 k hk).2 j hj).2
theorem mr_HC_k (h : mr_HC f z Ds H) (hH : H ≤ H2) (hF : ∀ k i j, (k ≤ 1 ∨ k = 3 ∨ k = 4 ∨ (8 ≤ k ∧ k ≤ 12) ∨ k = 15 ∨ k = 16) → F k i j = f k i j) : mr_HC F z Ds H2 := by
  obtain ⟨o, h1, h2, h3, h4, h5⟩ := h
  refine ⟨o, h1, h2, by rw [hF _ _ _ (by omega)]; exact h3, by rw [hF _ _ _ (by omega)]; exact h4, fun k hk => ?_⟩
  obtain ⟨r, s, n, h6⟩ := h5 k hk
  exact ⟨r, s, n, mr_S_k (mr_S_H h6 hH) (fun k i j hn => hF k i j (by omega))⟩
theorem mr_HC_G (h : mr_HC f z Ds H) (hH : H ≤ H2) (hG : mr_G 0 0 0 f F) : mr_HC F z Ds H2 := by
  obtain ⟨o, h1, h2, h3, h4, h5⟩ := h
  refine ⟨o, h1, h2, by rw [hG _ _ _ (by omega) (by omega) (by omega)]; exact h3, by rw [hG _ _ _ (by omega) (by omega) (by omega)]; exact h4, fun k hk => ?_⟩
  obtain ⟨r, s, n, h6⟩ := h5 k hk
  exact ⟨r, s, n, mr_S_e (mr_S_H h6 hH) hG (by omega) (by omega) (fun j hj => by omega)⟩
theorem mr_Pq {q : Nat} : mr_P (4 * (q + 1)) (fun j => 4 * (q + 1) + j) := ⟨fun k hk => by show 4 * (q + 1) ≤ 4 * (q + 1) + k ∧ 4 * (q + 1) + k < 4 * (q + 1) + 4; omega, fun k p hk hp e => by have e2 : 4 * (q + 1) + k = 4 * (q + 1) + p := e; omega⟩
/-- the history behind a change -/
def sp_rz (z : Nat) : Nat := if z = 4 then 4 else z + 1
def sp_rd (D : Nat → Int32) (z : Nat) (Ds : Nat → Nat → Int32) : Nat → Nat → Int32 := fun k => if z = 4 then (if k = 3 then D else Ds (k + 1)) else (if k = z then D else Ds k)
end RE
