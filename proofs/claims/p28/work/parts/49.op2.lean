/-! calls: set, heat, gun, reline -/
section O2
variable {X : mj_X} {S : List (Nat × Nat)} {f F F2 : mj_F} {g G : mj_G} {r s n c H H2 z L j k : Nat} {sc sp : Nat → Nat} {D E : Nat → Int32} {Ds : Nat → Nat → Int32} {t : Nat → Int32} {w v a b : Int32}
theorem sp_ok_set (h : sp_ok D r s n H) (hk : k < 6) (hv : mj_tb 1 k ≤ v ∧ v ≤ mj_tb 2 k) : sp_ok (sp_u D (12 + k) v) r s n H := by
  obtain ⟨o1, o2, o3, ⟨a1, a2, a3, a4, a5, a6⟩, c, o5, o6, o7⟩ := h
  have h60 := o1.n60
  refine ⟨o1, by rw [sp_u_o (by omega)]; exact o2, by rw [sp_u_o (by omega)]; exact o3, ⟨by rw [sp_u_o (by omega)]; exact a1, fun i hi => by rw [sp_u_o (by omega)]; exact a2 i hi, ?_, ?_, ?_, fun i hi => by rw [sp_u_o (by omega), sp_u_o (by omega)]; exact a6 i hi⟩, c, o5, by rw [sp_u_o (by omega)]; exact o6, mr_U_e o7 (Nat.le_refl _) (sp_u_o (by omega)) (fun i hi => sp_u_o (by omega))⟩
  · by_cases c1 : k = 1
    · subst c1
      rw [sp_u_s]
      obtain ⟨x, x1, x2, x3⟩ := mr_rg (lo := 1) (hi := 500) (by omega) (by omega) hv
      exact ⟨x, x1, x2, x3⟩
    · rw [sp_u_o (by omega)]; exact a3
  · by_cases c1 : k = 2
    · subst c1
      rw [sp_u_s]
      obtain ⟨x, x1, x2, x3⟩ := mr_rg (lo := 1000) (hi := 100000) (by omega) (by omega) hv
      exact ⟨x, x2, x3⟩
    · rw [sp_u_o (by omega)]; exact a4
  · by_cases c1 : k = 5
    · subst c1
      rw [sp_u_s]
      obtain ⟨x, x1, x2, x3⟩ := mr_rg (lo := 1) (hi := 100) (by omega) (by omega) hv
      exact ⟨x, x1, x2, x3⟩
    · rw [sp_u_o (by omega)]; exact a5
end O2
