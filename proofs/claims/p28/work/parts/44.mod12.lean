/-! what a line, and a text, makes of a state; the reference carries out just that -/
def sp_sc (D : Nat → Int32) (n : Nat) : Nat → Int32 := if D 142 = nI 4 then sp_st (sp_sd D) 3 n else sp_st D (D 142).toNatClampNeg n
def sp_ok (D : Nat → Int32) (r s n H : Nat) : Prop := mc_Ge r s n ∧ D 0 = nI r ∧ D 1 = nI s ∧ mr_V D n ∧ ∃ c, c ≤ 4 ∧ D 142 = nI c ∧ mr_U D c n H
theorem sp_gr_c {D : Nat → Int32} {j : Nat} {q : Int32} : sp_gr D j q = nI 0 ∨ sp_gr D j q = nI 1 ∨ sp_gr D j q = nI 2 ∨ sp_gr D j q = nI 3 := by
  unfold sp_gr
  split
  · exact Or.inr (Or.inl rfl)
  · split
    · split
      · exact Or.inl rfl
      · exact Or.inr (Or.inr (Or.inr rfl))
    · exact Or.inr (Or.inr (Or.inl rfl))
section OK
variable {D : Nat → Int32} {r s n H H2 j m b c : Nat} {K v w φ : Int32}
theorem sp_ok_H (h : sp_ok D r s n H) (hH : H ≤ H2) : sp_ok D r s n H2 := by
  obtain ⟨h1, h2, h3, h4, c, h5, h6, h7⟩ := h
  exact ⟨h1, h2, h3, h4, c, h5, h6, mr_U_h h7 hH⟩
theorem sp_ok_ht {p : Nat} (h : sp_ok D r s n H) (hp : p ≤ 200) (hH : H < 1000000) : sp_ok (sp_ht D s n (nI p)) r s n (H + 1) := by
  obtain ⟨h1, h2, h3, h4, c, h5, h6, h7⟩ := h
  have h60 := h1.n60
  exact ⟨h1, by rw [sp_ht_o (by omega)]; exact h2, by rw [sp_ht_o (by omega)]; exact h3, mr_V_ht h4 h1 hp, c, h5, by rw [sp_ht_o (by omega)]; exact h6, mr_U_ht h7 h60 hH⟩
theorem sp_ok_po (h : sp_ok D r s n H) (hj : j < n) (hm : m ≤ 500) (hr : sp_gr D j (nI m) = nI 0) : sp_ok (sp_po D j (nI m)) r s n H := by
  obtain ⟨h1, h2, h3, h4, c, h5, h6, h7⟩ := h
  have h60 := h1.n60
  exact ⟨h1, by rw [sp_po_o (by omega)]; exact h2, by rw [sp_po_o (by omega)]; exact h3, mr_V_po h4 h60 hj hm hr, c, h5, by rw [sp_po_o (by omega)]; exact h6, mr_U_e h7 (Nat.le_refl _) (sp_po_o (by omega)) (fun i hi => sp_po_o (by omega))⟩
theorem sp_ok_lr (h : sp_ok D r s n H) (hb : b + c ≤ n) : sp_ok (sp_lr D b c) r s n H := by
  obtain ⟨h1, h2, h3, h4, c, h5, h6, h7⟩ := h
  have h60 := h1.n60
  exact ⟨h1, by rw [sp_lr_o (by omega)]; exact h2, by rw [sp_lr_o (by omega)]; exact h3, mr_V_lr h4 h60 hb, c, h5, by rw [sp_lr_o (by omega)]; exact h6, mr_U_e h7 (Nat.le_refl _) (sp_lr_o (by omega)) (fun i hi => sp_lr_o (by omega))⟩
theorem sp_st_142 : sp_st D c n 142 = nI (c + 1) := rfl
end OK
section CA
variable {X : mj_X} {S : List (Nat × Nat)} {f F : mj_F} {g : mj_G} {m L p b r s n H : Nat} {K v w : Int32} {l1 : Option mj_V}
end CA
