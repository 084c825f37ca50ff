/-! the reference: the first fault; what a state is as 627 ints, and what the calls make of it (sp_), and that the reference makes just that -/
section MY
variable {X : mj_X} {S : List (Nat × Nat)} {f F : mj_F} {g : mj_G} {m L p b r s n : Nat} {c K : Int32}
end MY
/-- a state's ints: what is read off them -/
def sp_T (D : Nat → Int32) : Nat → Int32 := fun j => D (22 + j) + D (82 + j)
def sp_W0 (D : Nat → Int32) (s n : Nat) (φ : Int32) (j : Nat) : Int32 := D (6 + j / s) * φ / nI 100 + (if sp_T D j - mc_lb (sp_T D) s n j < D 13 then nI 0 else (sp_T D j - mc_lb (sp_T D) s n j) / D 13)
def sp_W (D : Nat → Int32) (s n : Nat) (φ : Int32) (j : Nat) : Int32 := if 0 ≤ sp_W0 D s n φ j then sp_W0 D s n φ j else nI 0
def sp_x (D : Nat → Int32) (s n : Nat) (φ : Int32) : Int32 := mc_sm (fun j => mp_x (D (22 + j)) (D (82 + j)) (sp_W D s n φ j)) n
def sp_rt (D : Nat → Int32) : Bool := decide (mj_rem (D 3 + nI 1) (D 17) = 0)
def sp_b (D : Nat → Int32) (s n : Nat) (φ : Int32) (j : Nat) : Int32 := mp_b (D (22 + j)) (D (82 + j)) (sp_W D s n φ j)
def sp_l (D : Nat → Int32) (s n : Nat) (φ : Int32) (j : Nat) : Int32 := mp_l (D (82 + j)) (sp_W D s n φ j)
def sp_9 (D : Nat → Int32) (s n : Nat) (φ : Int32) (j : Nat) : Int32 := if sp_rt D = true then sp_l D s n φ j - sp_l D s n φ j / nI 2 else sp_l D s n φ j
abbrev sp_ov (D : Nat → Int32) (s n : Nat) (φ : Int32) : Prop := ∃ j, j < n ∧ sp_b D s n φ j + sp_9 D s n φ j < D 12
def sp_ht (D : Nat → Int32) (s n : Nat) (φ : Int32) : Nat → Int32 := fun i =>
  if i = 2 then D 2 + nI 1 else if i = 3 then D 3 + nI 1 else if i = 5 then (if sp_ov D s n φ then nI 1 else D 5)
  else if i = 20 then D 20 + sp_x D s n φ else if i = 21 then (if sp_rt D = true then D 21 + mc_sm (fun j => sp_l D s n φ j / nI 2) n else D 21)
  else if 22 ≤ i ∧ i < 22 + n then sp_b D s n φ (i - 22) else if 82 ≤ i ∧ i < 82 + n then sp_9 D s n φ (i - 82) else D i
def sp_sy (D : Nat → Int32) (j : Nat) (q : Int32) : Int32 := if mc_tp (D 14) (sp_T D j) < D 15 then q * nI 3 / nI 5 else q * nI 4 / nI 5
def sp_gr (D : Nat → Int32) (j : Nat) (q : Int32) : Int32 :=
  if D 5 = nI 1 then nI 1 else (if sp_T D j + sp_sy D j q ≤ nI 3500 then (if q ≤ D 16 then nI 0 else nI 3) else nI 2)
def sp_po (D : Nat → Int32) (j : Nat) (q : Int32) : Nat → Int32 := fun i =>
  if i = 82 + j then D (82 + j) + sp_sy D j q else if i = 19 then D 19 + sp_sy D j q else if i = 16 then D 16 - q else D i
def sp_lx (D : Nat → Int32) (b c : Nat) : Int32 := mc_sm (fun q => sp_T D (b + q)) c
def sp_lr (D : Nat → Int32) (b c : Nat) : Nat → Int32 := fun i =>
  if i = 18 then D 18 + nI (3000 * c) else if i = 21 then D 21 + sp_lx D b c else if 22 + b ≤ i ∧ i < 22 + b + c then nI 3000 else if 82 + b ≤ i ∧ i < 82 + b + c then nI 0 else D i
def sp_u (D : Nat → Int32) (j : Nat) (v : Int32) : Nat → Int32 := fun i => if i = j then v else D i
def sp_bg (r s n : Nat) : Nat → Int32 := fun i =>
  if i = 0 then nI r else if i = 1 then nI s else if i = 4 then nI 1 else if 6 ≤ i ∧ i < 12 then nI 10
  else if 12 ≤ i ∧ i < 18 then mj_tb 0 (i - 12) else if i = 18 then nI (3000 * n) else if 22 ≤ i ∧ i < 22 + n then nI 3000 else nI 0
def sp_sd (D : Nat → Int32) : Nat → Int32 := fun i =>
  if i = 142 then nI 3 else if 143 ≤ i ∧ i < 146 then D (i + 1) else if 147 ≤ i ∧ i < 327 then D (i + 60) else if 387 ≤ i ∧ i < 567 then D (i + 60) else D i
def sp_st (D : Nat → Int32) (c n : Nat) : Nat → Int32 := fun i =>
  if i = 142 then nI (c + 1) else if i = 143 + c then D 2 else if 147 + 60 * c ≤ i ∧ i < 147 + 60 * c + n then mc_tp (D 14) (sp_T D (i - (147 + 60 * c)))
  else if 387 + 60 * c ≤ i ∧ i < 387 + 60 * c + n then sp_T D (i - (387 + 60 * c)) else D i
section SP
variable {f F : mj_F} {m L p b c r s n j : Nat} {φ q v : Int32} {D : Nat → Int32}
end SP
