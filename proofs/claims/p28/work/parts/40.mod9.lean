/-! the reference: neighbours, peaks, settings -/
section MN
variable {X : mj_X} {S : List (Nat × Nat)} {f : mj_F} {g : mj_G} {m r s n j b x k : Nat} {l2 l5 l7 l8 l9 l6 : Option mj_V} {v w its : Int32}
theorem mj_nIx {w : Int32} {N : Nat} (h : 0 ≤ w.toInt) (h2 : w.toInt < (N : Int)) : ∃ k, k < N ∧ w = nI k := by
  have h3 : w.toInt < 2147483648 := Int32.toInt_lt w
  refine ⟨w.toInt.toNat, by omega, ?_⟩
  apply Int32.toInt_inj.mp
  rw [nI_toInt (by omega)]
  omega
end MN
