/-! calls: both answer the same, and hold the same behind it -/
theorem mr_rg {v : Int32} {lo hi : Nat} (hh : hi < 2147483648) (hl : lo < 2147483648) (h : nI lo ≤ v ∧ v ≤ nI hi) : ∃ k, lo ≤ k ∧ k ≤ hi ∧ v = nI k := by
  obtain ⟨h1, h2⟩ := h
  rw [Int32.le_iff_toInt_le, nI_toInt (by omega)] at h1 h2
  obtain ⟨k, hk, rfl⟩ := mj_nIx (w := v) (N := hi + 1) (by omega) (by omega)
  rw [nI_toInt (by omega)] at h1
  exact ⟨k, by omega, by omega, rfl⟩
theorem sp_ok_bg {r s n H : Nat} (hG : mc_Ge r s n) : sp_ok (sp_bg r s n) r s n H := by
  have h60 := hG.n60
  have b : ∀ i, 142 ≤ i → sp_bg r s n i = nI 0 := fun i hi => by unfold sp_bg; rw [if_neg (by omega), if_neg (by omega), if_neg (by omega), if_neg (by omega), if_neg (by omega), if_neg (by omega), if_neg (by omega)]
  refine ⟨hG, rfl, rfl, ⟨Or.inl ?_, fun j hj => ⟨10, by omega, ?_⟩, ⟨50, by omega, by omega, ?_⟩, ⟨30000, by omega, ?_⟩, ⟨20, by omega, by omega, ?_⟩, fun j hj => ⟨3000, 0, by omega, by omega, ?_, ?_⟩⟩, 0, by omega, b 142 (by omega), 0, fun _ => 0, ?_, by omega, fun k hk => by omega, fun k hk => by omega, fun k hk => by omega⟩
  · unfold sp_bg; rw [if_neg (by omega), if_neg (by omega), if_neg (by omega), if_neg (by omega), if_neg (by omega), if_neg (by omega), if_neg (by omega)]
  · unfold sp_bg; rw [if_neg (by omega), if_neg (by omega), if_neg (by omega), if_pos (by omega)]
  · unfold sp_bg; rw [if_neg (by omega), if_neg (by omega), if_neg (by omega), if_neg (by omega), if_pos (by omega)]; rfl
  · unfold sp_bg; rw [if_neg (by omega), if_neg (by omega), if_neg (by omega), if_neg (by omega), if_pos (by omega)]; rfl
  · unfold sp_bg; rw [if_neg (by omega), if_neg (by omega), if_neg (by omega), if_neg (by omega), if_pos (by omega)]; rfl
  · unfold sp_bg; rw [if_neg (by omega), if_neg (by omega), if_neg (by omega), if_neg (by omega), if_neg (by omega), if_neg (by omega), if_pos (by omega)]
  · unfold sp_bg; rw [if_neg (by omega), if_neg (by omega), if_neg (by omega), if_neg (by omega), if_neg (by omega), if_neg (by omega), if_neg (by omega)]
  · unfold sp_bg; rw [if_neg (by omega), if_neg (by omega), if_neg (by omega), if_neg (by omega), if_neg (by omega), if_neg (by omega), if_neg (by omega)]
section O1
variable {X : mj_X} {S : List (Nat × Nat)} {f F F2 : mj_F} {g G : mj_G} {r s n c H H2 z L j : Nat} {sc sp : Nat → Nat} {D E : Nat → Int32} {Ds : Nat → Nat → Int32} {t : Nat → Int32} {w v a b : Int32}
end O1
