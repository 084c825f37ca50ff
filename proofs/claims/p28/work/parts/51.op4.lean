/-! calls: count, spot, neighbour, account, wear, texts -/
theorem mc_mn_congr {t u : Nat → Int32} {n : Nat} (h : ∀ i, i ≤ n → t i = u i) : mc_mn t n = mc_mn u n := by
  induction n with
  | zero => exact h 0 (by omega)
  | succ n ih =>
    show mj_mi (mc_mn t n) _ = mj_mi (mc_mn u n) _
    rw [ih (fun i hi => h i (by omega)), h (n + 1) (by omega)]
section O4
variable {X : mj_X} {S : List (Nat × Nat)} {f F F2 : mj_F} {g G : mj_G} {r s n c H H2 z L j k d m : Nat} {sc sp : Nat → Nat} {D E : Nat → Int32} {Ds : Nat → Nat → Int32} {t : Nat → Int32} {w v a b e : Int32} {o2 o3 o4 : Option mj_V}
end O4
