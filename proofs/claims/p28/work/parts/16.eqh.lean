/-! the rows of the small machine as equations -/
noncomputable def mj_g (X : mj_X) (m k : Nat) (ls : mj_L) (st : List mj_V) (σ : mj_H) : Option (Option mj_V × mj_H) := mj_go mj_Y X m k ls st σ
noncomputable def mj_x (X : mj_X) (m : Nat) (as : List mj_V) (σ : mj_H) : Option (Option mj_V × mj_H) := mj_ex mj_Y X m as σ
def mj_rem (x y : Int32) : Int32 := x - x / y * y
def mj_tb (t q : Nat) : Int32 := (((mj_tbs[t]?).getD [])[q]?).getD 0
section RW
variable {Y : mj_T} {X : mj_X} {m k : Nat} {ls : mj_L} {st : List mj_V} {σ : mj_H}
theorem mj_go_z (h : mj_stp Y X m k ls st σ = none) : mj_go Y X m k ls st σ = none := by
  refine mj_go_none (fun r_ n_ e_ => ?_)
  cases n_ with
  | zero => cases e_
  | succ n_ => unfold mj_run at e_; rw [h] at e_; cases e_
theorem mj_go_n {P : Prop} [Decidable P] {k' : Nat} {ls' : mj_L} {st' : List mj_V} {σ' : mj_H} (h : mj_stp Y X m k ls st σ = if P then none else some (.inl (k', ls', st', σ'))) : mj_go Y X m k ls st σ = if P then none else mj_go Y X m k' ls' st' σ' := by
  by_cases hp : P
  · rw [if_pos hp] at h ⊢
    exact mj_go_z h
  · rw [if_neg hp] at h ⊢
    exact mj_go_c h
theorem mj_go_t2 {P : Prop} [Decidable P] {k' : Nat} {ls' : mj_L} {st' : List mj_V} {σ' : mj_H} (h : mj_stp Y X m k ls st σ = if P then some (.inl (k', ls', st', σ')) else none) : mj_go Y X m k ls st σ = if P then mj_go Y X m k' ls' st' σ' else none := mj_go_t h
theorem mj_go_bn {st' : List mj_V} {a b : Nat} {c : Bool} {P : Prop} [Decidable P] (hP : c = decide (¬ P)) (h : mj_stp Y X m k ls st σ = some (.inl (if c = true then a else b, ls, st', σ))) : mj_go Y X m k ls st σ = if P then mj_go Y X m b ls st' σ else mj_go Y X m a ls st' σ := by
  rw [mj_go_c h]
  subst hP
  by_cases hp : P
  · rw [if_pos hp, if_neg (by simpa using hp)]
  · rw [if_neg hp, if_pos (by simpa using hp)]
variable {pc len a b cc n c i : Nat} {v : Int32} {ts : List Nat} {S : List (Nat × Nat)} {f : mj_F} {g : mj_G} {j x : Int32}
theorem mj_l_getq {i0 : Nat} (he : mj_ent Y m k = some (pc, len, .getfield i0, a, b, cc, v, ts)) (h3 : mj_ft Y a b = 3) : mj_go Y X m k ls (.inr (a, i) :: st) (S, f, g) = (g a i b).bind (fun q => mj_go Y X m (k + 1) ls (.inr q :: st) (S, f, g)) := by
  have hs_ : mj_stp Y X m k ls (.inr (a, i) :: st) (S, f, g) = (if a = a then (if mj_ft Y a b = 3 then (match g a i b with
          | some q => some (.inl (k + 1, ls, .inr q :: st, (S, f, g)))
          | none => none) else some (.inl (k + 1, ls, .inl (f a i b) :: st, (S, f, g)))) else none) := by
    unfold mj_stp
    rw [he]
    rfl
  rw [if_pos rfl, if_pos h3] at hs_
  cases hz_ : g a i b with
  | none => rw [hz_] at hs_; exact mj_go_z hs_
  | some z_ => rw [hz_] at hs_; exact mj_go_c hs_
theorem mj_l_iald (he : mj_ent Y m k = some (pc, len, .iaload, a, b, cc, v, ts)) (h3 : mj_isI Y c = true) (hl : mj_len Y X c = n) : mj_go Y X m k ls (.inl j :: .inr (c, i) :: st) (S, f, g) = (mj_ix j n).bind (fun q => mj_go Y X m (k + 1) ls (.inl (mj_rd Y X f c i q) :: st) (S, f, g)) := by
  have hs_ : mj_stp Y X m k ls (.inl j :: .inr (c, i) :: st) (S, f, g) = (if mj_isI Y c = true then (match mj_ix j (mj_len Y X c) with
          | some q => some (.inl (k + 1, ls, .inl (mj_rd Y X f c i q) :: st, (S, f, g)))
          | none => none) else none) := by
    unfold mj_stp
    rw [he]
    rfl
  rw [if_pos h3, hl] at hs_
  cases hz_ : mj_ix j n with
  | none => rw [hz_] at hs_; exact mj_go_z hs_
  | some z_ => rw [hz_] at hs_; exact mj_go_c hs_
theorem mj_l_cald (he : mj_ent Y m k = some (pc, len, .caload, a, b, cc, v, ts)) (h3 : mj_isA Y 2 c = true) (hl : mj_len Y X c = n) : mj_go Y X m k ls (.inl j :: .inr (c, i) :: st) (S, f, g) = (mj_ix j n).bind (fun q => mj_go Y X m (k + 1) ls (.inl (f c i q) :: st) (S, f, g)) := by
  have hs_ : mj_stp Y X m k ls (.inl j :: .inr (c, i) :: st) (S, f, g) = (if mj_isA Y 2 c = true then (match mj_ix j (mj_len Y X c) with
          | some q => some (.inl (k + 1, ls, .inl (f c i q) :: st, (S, f, g)))
          | none => none) else none) := by
    unfold mj_stp
    rw [he]
    rfl
  rw [if_pos h3, hl] at hs_
  cases hz_ : mj_ix j n with
  | none => rw [hz_] at hs_; exact mj_go_z hs_
  | some z_ => rw [hz_] at hs_; exact mj_go_c hs_
theorem mj_l_aald (he : mj_ent Y m k = some (pc, len, .aaload, a, b, cc, v, ts)) (h3 : mj_isQ Y c = true) (hl : mj_len Y X c = n) : mj_go Y X m k ls (.inl j :: .inr (c, i) :: st) (S, f, g) = (mj_ix j n).bind (fun q => (g c i q).bind (fun z => mj_go Y X m (k + 1) ls (.inr z :: st) (S, f, g))) := by
  have hs_ : mj_stp Y X m k ls (.inl j :: .inr (c, i) :: st) (S, f, g) = (if mj_isQ Y c = true then (match mj_ix j (mj_len Y X c) with
          | some q => (match g c i q with
            | some z => some (.inl (k + 1, ls, .inr z :: st, (S, f, g)))
            | none => none)
          | none => none) else none) := by
    unfold mj_stp
    rw [he]
    rfl
  rw [if_pos h3, hl] at hs_
  cases hz_ : mj_ix j n with
  | none => rw [hz_] at hs_; exact mj_go_z hs_
  | some z_ =>
    rw [hz_] at hs_
    dsimp only at hs_
    rw [Option.bind_some]
    cases hy_ : g c i z_ with
    | none => rw [hy_] at hs_; exact mj_go_z hs_
    | some y_ => rw [hy_] at hs_; exact mj_go_c hs_
theorem mj_l_iast (he : mj_ent Y m k = some (pc, len, .iastore, a, b, cc, v, ts)) (h3 : mj_isA Y 0 c = true) (hl : mj_len Y X c = n) : mj_go Y X m k ls (.inl x :: .inl j :: .inr (c, i) :: st) (S, f, g) = (mj_ix j n).bind (fun q => mj_go Y X m (k + 1) ls st (S, mj_u f c i q x, g)) := by
  have hs_ : mj_stp Y X m k ls (.inl x :: .inl j :: .inr (c, i) :: st) (S, f, g) = (if mj_isA Y 0 c = true then (match mj_ix j (mj_len Y X c) with
          | some q => some (.inl (k + 1, ls, st, (S, mj_u f c i q x, g)))
          | none => none) else none) := by
    unfold mj_stp
    rw [he]
    rfl
  rw [if_pos h3, hl] at hs_
  cases hz_ : mj_ix j n with
  | none => rw [hz_] at hs_; exact mj_go_z hs_
  | some z_ => rw [hz_] at hs_; exact mj_go_c hs_
theorem mj_l_cast (he : mj_ent Y m k = some (pc, len, .castore, a, b, cc, v, ts)) (h3 : mj_isA Y 2 c = true) (hl : mj_len Y X c = n) : mj_go Y X m k ls (.inl x :: .inl j :: .inr (c, i) :: st) (S, f, g) = if mj_chk 2 x = true then (mj_ix j n).bind (fun q => mj_go Y X m (k + 1) ls st (S, mj_u f c i q x, g)) else none := by
  have hs_ : mj_stp Y X m k ls (.inl x :: .inl j :: .inr (c, i) :: st) (S, f, g) = (if mj_isA Y 2 c = true ∧ mj_chk 2 x = true then (match mj_ix j (mj_len Y X c) with
          | some q => some (.inl (k + 1, ls, st, (S, mj_u f c i q x, g)))
          | none => none) else none) := by
    unfold mj_stp
    rw [he]
    rfl
  by_cases hc_ : mj_chk 2 x = true
  · rw [if_pos ⟨h3, hc_⟩, hl] at hs_
    rw [if_pos hc_]
    cases hz_ : mj_ix j n with
    | none => rw [hz_] at hs_; exact mj_go_z hs_
    | some z_ => rw [hz_] at hs_; exact mj_go_c hs_
  · rw [if_neg (fun q_ => hc_ q_.2)] at hs_
    rw [if_neg hc_]
    exact mj_go_z hs_
theorem mj_l_aast {z : Nat × Nat} (he : mj_ent Y m k = some (pc, len, .aastore, a, b, cc, v, ts)) (h3 : mj_isQ Y c = true) (hk : z.1 = (mj_kd Y c).2.1) (hl : mj_len Y X c = n) : mj_go Y X m k ls (.inr z :: .inl j :: .inr (c, i) :: st) (S, f, g) = (mj_ix j n).bind (fun q => mj_go Y X m (k + 1) ls st (S, f, mj_w g c i q (some z))) := by
  have hs_ : mj_stp Y X m k ls (.inr z :: .inl j :: .inr (c, i) :: st) (S, f, g) = (if mj_isQ Y c = true ∧ z.1 = (mj_kd Y c).2.1 then (match mj_ix j (mj_len Y X c) with
          | some q => some (.inl (k + 1, ls, st, (S, f, mj_w g c i q (some z))))
          | none => none) else none) := by
    unfold mj_stp
    rw [he]
    rfl
  rw [if_pos ⟨h3, hk⟩, hl] at hs_
  cases hz_ : mj_ix j n with
  | none => rw [hz_] at hs_; exact mj_go_z hs_
  | some z_ => rw [hz_] at hs_; exact mj_go_c hs_
theorem mj_go_rt {r : Option mj_V} {P : Prop} [Decidable P] (h : mj_stp Y X m k ls st σ = if P then some (.inr (.inl r)) else none) : mj_go Y X m k ls st σ = if P then some (r, σ) else none := by
  by_cases hp : P
  · rw [if_pos hp] at h ⊢
    exact mj_go_r h
  · rw [if_neg hp] at h ⊢
    exact mj_go_z h
theorem mj_if {α : Type} {P Q : Prop} [Decidable P] [Decidable Q] (h : P ↔ Q) (a : α) {b : α} : (if P then a else b) = if Q then a else b := by
  by_cases hp : P
  · rw [if_pos hp, if_pos (h.mp hp)]
  · rw [if_neg hp, if_neg (fun z_ => hp (h.mpr z_))]
theorem mj_ifn {α : Type} {P Q : Prop} [Decidable P] [Decidable Q] (h : P ↔ Q) (b : α) {a : α} : (if P then a else b) = if Q then a else b := mj_if h a
end RW
