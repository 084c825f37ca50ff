/-! calls: reline, scan, undo -/
section O3
variable {X : mj_X} {S : List (Nat × Nat)} {f F F2 : mj_F} {g G : mj_G} {r s n c H H2 z L j k d : Nat} {sc sp : Nat → Nat} {D E : Nat → Int32} {Ds : Nat → Nat → Int32} {t : Nat → Int32} {w v a b : Int32}
theorem sp_ok_lu (h : sp_ok D r s n H) : sp_ok (sp_lu D) r s n H := by
  obtain ⟨o1, o2, o3, ⟨a1, a2, a3, a4, a5, a6⟩, c, o5, o6, o7⟩ := h
  exact ⟨o1, by rw [sp_lu_o (by omega)]; exact o2, by rw [sp_lu_o (by omega)]; exact o3, ⟨Or.inl rfl, fun i hi => by rw [sp_lu_o (by omega)]; exact a2 i hi, by rw [sp_lu_o (by omega)]; exact a3, by rw [sp_lu_o (by omega)]; exact a4, by rw [sp_lu_o (by omega)]; exact a5, fun i hi => by rw [sp_lu_o (by omega), sp_lu_o (by omega)]; exact a6 i hi⟩, c, o5, by rw [sp_lu_o (by omega)]; exact o6, mr_U_e o7 (Nat.le_refl _) (sp_lu_o (by omega)) (fun i hi => sp_lu_o (by omega))⟩
theorem sp_ok_la (h : sp_ok D r s n H) : sp_ok (sp_la D n) r s n H := sp_ok_lr (sp_ok_lu h) (by omega)
theorem sp_lx_lu (h60 : n ≤ 60) : sp_lx (sp_lu D) 0 n = sp_lx D 0 n := by
  unfold sp_lx
  refine mc_sm_congr (fun i hi => ?_)
  unfold sp_T
  rw [sp_lu_o (by omega), sp_lu_o (by omega)]
theorem mr_m1n (hj : j < 2147483648) : ¬ nI j = -1 := by
  intro q_
  have h1 := (mj_ge0 hj).mpr trivial
  rw [q_] at h1
  exact absurd h1 (by decide)
end O3
