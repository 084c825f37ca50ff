/-! LogText: ranges; the first fault -/
section TN
variable {X : mj_X} {S : List (Nat × Nat)} {f F : mj_F} {g : mj_G} {i L p e a r n b : Nat} {c x v : Int32}
theorem mj_boi {P Q : Prop} [Decidable P] [Decidable Q] (h : P ↔ Q) : mj_bo P = mj_bo Q := by
  unfold mj_bo
  by_cases y_ : P
  · rw [if_pos y_, if_pos (h.mp y_)]
  · rw [if_neg y_, if_neg (fun q_ => y_ (h.mpr q_))]
end TN
