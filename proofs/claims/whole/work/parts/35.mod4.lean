/-! the reference: what is kept for undo -/
def md_rc (f : mj_F) (m z : Nat) : Nat → mj_F
  | 0 => f
  | k + 1 => mj_u (md_rc f m z k) 19 m (627 * z + k) (f 18 m k)
theorem md_rc_o {f : mj_F} {m z n k2 i2 j2 : Nat} (h : ¬ (k2 = 19 ∧ i2 = m ∧ 627 * z ≤ j2 ∧ j2 < 627 * z + n)) : md_rc f m z n k2 i2 j2 = f k2 i2 j2 := by
  induction n with
  | zero => rfl
  | succ n ih =>
    show (if _ then _ else _) = _
    rw [if_neg (fun q_ => h ⟨q_.1, q_.2.1, by omega⟩), ih (fun q_ => h ⟨q_.1, q_.2.1, by omega⟩)]
theorem md_rc_j {f : mj_F} {m z n j : Nat} (h : j < n) : md_rc f m z n 19 m (627 * z + j) = f 18 m j := by
  induction n with
  | zero => omega
  | succ n ih =>
    show mj_u _ _ _ _ _ _ _ _ = _
    by_cases e_ : j = n
    · subst e_; exact mj_us
    · rw [mj_uj (by omega)]; exact ih (by omega)
def md_rec (f : mj_F) (m z : Nat) : mj_F := mj_u (md_rc f m z 627) 6 m 2 (nI (z + 1))
def md_shf (f : mj_F) (m : Nat) : mj_F := mj_u (mc_fl f 19 m (fun k => f 19 m (k + 627)) 1881) 6 m 2 (nI 3)
section MR
variable {X : mj_X} {S : List (Nat × Nat)} {f : mj_F} {g : mj_G} {m r s n j z : Nat} {l1 : Option mj_V}
theorem md_records_a (hg : g 6 m 0 = some (18, m)) (hg1 : g 6 m 1 = some (19, m)) (hz : f 6 m 2 = nI z) (hz4 : z < 4) : mj_g X 94 27 [some (.inr (6, m)), l1] [] (S, f, g) = some (none, (S, md_rec f m z, g)) := by
  have hl := mj_loop (fun k => mj_g X 94 29 [some (.inr (6, m)), some (.inl (nI k))] [] (S, md_rc f m z k, g)) 627 (fun k hk => by
    have w1 : md_rc f m z k 18 m k = f 18 m k := md_rc_o (by omega)
    have w2 : md_rc f m z k 6 m 2 = nI z := by rw [md_rc_o (by omega)]; exact hz
    refine Eq.trans mj_g94_29 ?_
    simp (disch := omega) only [mj_g94_30, mj_g94_31, mj_g94_32, mj_g94_33, mj_g94_34, mj_g94_35, mj_g94_36, mj_g94_37, mj_g94_38, mj_g94_39, mj_g94_40, mj_g94_41, mj_g94_42, mj_g94_43, mj_g94_44, mj_g94_45, mj_g94_46, ↓reduceIte, Option.bind_some, Option.toList_some, Option.toList_none, List.cons_append, List.nil_append, mj_ixn, mj_add, mj_mul, mj_sub, mj_dv, mj_rmn, mj_ltT, mj_ltF, mj_leT, mj_leF, mj_eqT, mj_eqF, mj_z0T, mj_z0F, mj_bo0, mj_boc, mj_chk10, mj_chk11, hg, hg1, w1, w2]
    rfl)
  simp (disch := omega) only [mj_g94_27, mj_g94_28]
  refine Eq.trans ?_ (hl.trans ?_)
  · rfl
  · have w2 : md_rc f m z 627 6 m 2 = nI z := by rw [md_rc_o (by omega)]; exact hz
    simp (disch := omega) only [mj_g94_29, mj_g94_30, mj_g94_31, mj_g94_47, mj_g94_48, mj_g94_49, mj_g94_50, mj_g94_51, mj_g94_52, mj_g94_53, ↓reduceIte, Option.bind_some, Option.toList_some, Option.toList_none, List.cons_append, List.nil_append, mj_ixn, mj_add, mj_mul, mj_sub, mj_dv, mj_rmn, mj_ltT, mj_ltF, mj_leT, mj_leF, mj_eqT, mj_eqF, mj_z0T, mj_z0F, mj_bo0, mj_boc, mj_chk10, mj_chk11, w2]
    rfl
theorem md_records (hg : g 6 m 0 = some (18, m)) (hg1 : g 6 m 1 = some (19, m)) (hz : f 6 m 2 = nI z) (hz4 : z < 4) : mj_x X 94 [.inr (6, m)] (S, f, g) = some (none, (S, md_rec f m z, g)) := by
  have z1 := md_records_a (X := X) (S := S) (l1 := none) hg hg1 hz hz4
  simp (disch := omega) only [mj_x94, mj_g94_0, mj_g94_1, mj_g94_2, mj_g94_3, ↓reduceIte, Option.bind_some, Option.toList_some, Option.toList_none, List.cons_append, List.nil_append, mj_ixn, mj_add, mj_mul, mj_sub, mj_dv, mj_rmn, mj_ltT, mj_ltF, mj_leT, mj_leF, mj_eqT, mj_eqF, mj_z0T, mj_z0F, mj_bo0, mj_boc, mj_chk10, mj_chk11, hz]
  exact z1
theorem md_records4 (hg : g 6 m 0 = some (18, m)) (hg1 : g 6 m 1 = some (19, m)) (hz : f 6 m 2 = nI 4) : mj_x X 94 [.inr (6, m)] (S, f, g) = some (none, (S, md_rec (md_shf f m) m 3, g)) := by
  have hl := mj_loop (fun k => mj_g X 94 6 [some (.inr (6, m)), some (.inl (nI k))] [] (S, mc_fl f 19 m (fun k => f 19 m (k + 627)) k, g)) 1881 (fun k hk => by
    have w1 : mc_fl f 19 m (fun k => f 19 m (k + 627)) k 19 m (k + 627) = f 19 m (k + 627) := mc_fl_o (by omega)
    refine Eq.trans mj_g94_6 ?_
    simp (disch := omega) only [mj_g94_7, mj_g94_8, mj_g94_9, mj_g94_10, mj_g94_11, mj_g94_12, mj_g94_13, mj_g94_14, mj_g94_15, mj_g94_16, mj_g94_17, mj_g94_18, mj_g94_19, mj_g94_20, ↓reduceIte, Option.bind_some, Option.toList_some, Option.toList_none, List.cons_append, List.nil_append, mj_ixn, mj_add, mj_mul, mj_sub, mj_dv, mj_rmn, mj_ltT, mj_ltF, mj_leT, mj_leF, mj_eqT, mj_eqF, mj_z0T, mj_z0F, mj_bo0, mj_boc, mj_chk10, mj_chk11, hg1, w1]
    rfl)
  have z1 := md_records_a (X := X) (S := S) (f := md_shf f m) (z := 3) (l1 := some (.inl (nI 1881))) hg hg1 (by unfold md_shf; rw [mj_us]) (by omega)
  simp (disch := omega) only [mj_x94, mj_g94_0, mj_g94_1, mj_g94_2, mj_g94_3, mj_g94_4, mj_g94_5, ↓reduceIte, Option.bind_some, Option.toList_some, Option.toList_none, List.cons_append, List.nil_append, mj_ixn, mj_add, mj_mul, mj_sub, mj_dv, mj_rmn, mj_ltT, mj_ltF, mj_leT, mj_leF, mj_eqT, mj_eqF, mj_z0T, mj_z0F, mj_bo0, mj_boc, mj_chk10, mj_chk11, hz]
  refine Eq.trans ?_ (hl.trans ?_)
  · rfl
  · have w2 : mc_fl f 19 m (fun k => f 19 m (k + 627)) 1881 6 m 2 = nI 4 := by rw [mc_fl_o (by omega)]; exact hz
    simp (disch := omega) only [mj_g94_6, mj_g94_7, mj_g94_8, mj_g94_21, mj_g94_22, mj_g94_23, mj_g94_24, mj_g94_25, mj_g94_26, ↓reduceIte, Option.bind_some, Option.toList_some, Option.toList_none, List.cons_append, List.nil_append, mj_ixn, mj_add, mj_mul, mj_sub, mj_dv, mj_rmn, mj_ltT, mj_ltF, mj_leT, mj_leF, mj_eqT, mj_eqF, mj_z0T, mj_z0F, mj_bo0, mj_boc, mj_chk10, mj_chk11, w2]
    exact z1
end MR
