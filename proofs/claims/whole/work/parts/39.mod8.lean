/-! the reference: scans, the oldest dropped -/
def md_si (F : mj_F) (m k : Nat) : Nat → mj_F
  | 0 => F
  | q + 1 => mj_u (mj_u (md_si F m k q) 18 m (147 + 60 * k + q) (F 18 m (147 + 60 * k + 60 + q))) 18 m (387 + 60 * k + q) (F 18 m (387 + 60 * k + 60 + q))
theorem md_si_o {F : mj_F} {m k n k2 i2 j2 : Nat} (h : ¬ (k2 = 18 ∧ i2 = m ∧ ((147 + 60 * k ≤ j2 ∧ j2 < 147 + 60 * k + n) ∨ (387 + 60 * k ≤ j2 ∧ j2 < 387 + 60 * k + n)))) : md_si F m k n k2 i2 j2 = F k2 i2 j2 := by
  induction n with
  | zero => rfl
  | succ n ih =>
    show (if _ then _ else (if _ then _ else _)) = _
    rw [if_neg (fun q_ => h ⟨q_.1, q_.2.1, by omega⟩), if_neg (fun q_ => h ⟨q_.1, q_.2.1, by omega⟩), ih (fun q_ => h ⟨q_.1, q_.2.1, by omega⟩)]
def md_so (f : mj_F) (m : Nat) : Nat → mj_F
  | 0 => f
  | k + 1 => md_si (mj_u (md_so f m k) 18 m (143 + k) (md_so f m k 18 m (143 + k + 1))) m k 60
theorem md_so_o {f : mj_F} {m n k2 i2 j2 : Nat} (h : ¬ (k2 = 18 ∧ i2 = m ∧ 143 ≤ j2)) : md_so f m n k2 i2 j2 = f k2 i2 j2 := by
  induction n with
  | zero => rfl
  | succ n ih =>
    show md_si _ _ _ _ _ _ _ = _
    rw [md_si_o (fun q_ => h ⟨q_.1, q_.2.1, by omega⟩)]
    show (if _ then _ else _) = _
    rw [if_neg (fun q_ => h ⟨q_.1, q_.2.1, by omega⟩), ih]
def md_sd (f : mj_F) (m : Nat) : mj_F := mj_u (md_so f m 3) 18 m 142 (nI 3)
section MW
variable {X : mj_X} {S : List (Nat × Nat)} {f F : mj_F} {g : mj_G} {m r s n k : Nat}
theorem md_scans_i (hg : g 6 m 0 = some (18, m)) (hk : k < 3) : mj_g X 108 27 [some (.inr (6, m)), some (.inl (nI k)), some (.inl (nI 0))] [] (S, F, g) = mj_g X 108 76 [some (.inr (6, m)), some (.inl (nI k)), some (.inl (nI 60))] [] (S, md_si F m k 60, g) := by
  have hl := mj_loop (fun q => mj_g X 108 27 [some (.inr (6, m)), some (.inl (nI k)), some (.inl (nI q))] [] (S, md_si F m k q, g)) 60 (fun q hq => by
    have e1 : md_si F m k q 18 m (147 + 60 * k + 60 + q) = F 18 m (147 + 60 * k + 60 + q) := md_si_o (by omega)
    have e2 : md_si F m k q 18 m (387 + 60 * k + 60 + q) = F 18 m (387 + 60 * k + 60 + q) := md_si_o (by omega)
    refine Eq.trans mj_g108_27 ?_
    simp (disch := omega) only [mj_g108_28, mj_g108_29, mj_g108_30, mj_g108_31, mj_g108_32, mj_g108_33, mj_g108_34, mj_g108_35, mj_g108_36, mj_g108_37, mj_g108_38, mj_g108_39, mj_g108_40, mj_g108_41, mj_g108_42, mj_g108_43, mj_g108_44, mj_g108_45, mj_g108_46, mj_g108_47, mj_g108_48, mj_g108_49, mj_g108_50, mj_g108_51, mj_g108_52, mj_g108_53, mj_g108_54, mj_g108_55, mj_g108_56, mj_g108_57, mj_g108_58, mj_g108_59, mj_g108_60, mj_g108_61, mj_g108_62, mj_g108_63, mj_g108_64, mj_g108_65, mj_g108_66, mj_g108_67, mj_g108_68, mj_g108_69, mj_g108_70, mj_g108_71, mj_g108_72, mj_g108_73, mj_g108_74, mj_g108_75, ↓reduceIte, Option.bind_some, Option.toList_some, Option.toList_none, List.cons_append, List.nil_append, mj_ixn, mj_add, mj_mul, mj_sub, mj_dv, mj_rmn, mj_ltT, mj_ltF, mj_leT, mj_leF, mj_eqT, mj_eqF, mj_z0T, mj_z0F, mj_bo0, mj_boc, mj_chk10, mj_chk11, hg, mj_uj, e1, e2]
    rfl)
  refine Eq.trans ?_ (hl.trans ?_)
  · rfl
  · simp (disch := omega) only [mj_g108_27, mj_g108_28, mj_g108_29, ↓reduceIte, Option.bind_some, Option.toList_some, Option.toList_none, List.cons_append, List.nil_append, mj_ixn, mj_add, mj_mul, mj_sub, mj_dv, mj_rmn, mj_ltT, mj_ltF, mj_leT, mj_leF, mj_eqT, mj_eqF, mj_z0T, mj_z0F, mj_bo0, mj_boc, mj_chk10, mj_chk11]
theorem md_scans_o (hg : g 6 m 0 = some (18, m)) : ∀ (q k : Nat) (l2 : Option mj_V), k + q = 3 → ∃ l3 : Option mj_V, mj_g X 108 8 [some (.inr (6, m)), some (.inl (nI k)), l2] [] (S, md_so f m k, g) = mj_g X 108 78 [some (.inr (6, m)), some (.inl (nI 3)), l3] [] (S, md_so f m 3, g) := by
  intro q
  induction q with
  | zero =>
    intro k l2 hk
    have hk2 : k = 3 := by omega
    subst hk2
    refine ⟨l2, ?_⟩
    refine Eq.trans mj_g108_8 ?_
    simp (disch := omega) only [mj_g108_9, mj_g108_10, ↓reduceIte, Option.bind_some, Option.toList_some, Option.toList_none, List.cons_append, List.nil_append, mj_ixn, mj_add, mj_mul, mj_sub, mj_dv, mj_rmn, mj_ltT, mj_ltF, mj_leT, mj_leF, mj_eqT, mj_eqF, mj_z0T, mj_z0F, mj_bo0, mj_boc, mj_chk10, mj_chk11]
  | succ q ih =>
    intro k l2 hk
    obtain ⟨l3, ih2⟩ := ih (k + 1) (some (.inl (nI 60))) (by omega)
    refine ⟨l3, ?_⟩
    rw [← ih2]
    have z1 := md_scans_i (X := X) (S := S) (F := mj_u (md_so f m k) 18 m (143 + k) (md_so f m k 18 m (143 + k + 1))) (k := k) hg (by omega)
    refine Eq.trans mj_g108_8 ?_
    simp (disch := omega) only [mj_g108_9, mj_g108_10, mj_g108_11, mj_g108_12, mj_g108_13, mj_g108_14, mj_g108_15, mj_g108_16, mj_g108_17, mj_g108_18, mj_g108_19, mj_g108_20, mj_g108_21, mj_g108_22, mj_g108_23, mj_g108_24, mj_g108_25, mj_g108_26, ↓reduceIte, Option.bind_some, Option.toList_some, Option.toList_none, List.cons_append, List.nil_append, mj_ixn, mj_add, mj_mul, mj_sub, mj_dv, mj_rmn, mj_ltT, mj_ltF, mj_leT, mj_leF, mj_eqT, mj_eqF, mj_z0T, mj_z0F, mj_bo0, mj_boc, mj_chk10, mj_chk11, hg]
    refine Eq.trans z1 ?_
    simp (disch := omega) only [mj_g108_76, mj_g108_77, ↓reduceIte, Option.bind_some, Option.toList_some, Option.toList_none, List.cons_append, List.nil_append, mj_ixn, mj_add, mj_mul, mj_sub, mj_dv, mj_rmn, mj_ltT, mj_ltF, mj_leT, mj_leF, mj_eqT, mj_eqF, mj_z0T, mj_z0F, mj_bo0, mj_boc, mj_chk10, mj_chk11]
    rfl
theorem md_scans4 (hg : g 6 m 0 = some (18, m)) (hO : md_O f m r s n) (hc : f 18 m 142 = nI 4) (ht : ∀ j, j < n → ¬ md_T f m j + nI 100 = 0) : mj_x X 108 [.inr (6, m)] (S, f, g) = some (none, (S, md_sc (md_sd f m) m 3 n, g)) := by
  have h60 := hO.2.2.n60
  obtain ⟨l3, z1⟩ := md_scans_o (X := X) (S := S) (f := f) hg 3 0 none rfl
  have a0 : ∀ j, j < 142 → md_sd f m 18 m j = f 18 m j := fun j hj => by
    unfold md_sd
    rw [mj_uj (by omega), md_so_o (by omega)]
  have O1 : md_O (md_sd f m) m r s n := ⟨(a0 0 (by omega)).trans hO.1, (a0 1 (by omega)).trans hO.2.1, hO.2.2⟩
  have hc1 : md_sd f m 18 m 142 = nI 3 := by unfold md_sd; rw [mj_us]
  have z2 := md_scans_a (X := X) (S := S) (l1 := some (.inl (nI 3))) (l2 := l3) hg O1 hc1 (by omega) (fun j hj => by
    have e1 : md_T (md_sd f m) m j = md_T f m j := by
      unfold md_T
      rw [a0 _ (by omega), a0 _ (by omega)]
    rw [e1]
    exact ht j hj)
  have e4 : md_so f m 3 18 m 142 = nI 4 := by rw [md_so_o (by omega)]; exact hc
  simp (disch := omega) only [mj_x108, mj_g108_0, mj_g108_1, mj_g108_2, mj_g108_3, mj_g108_4, mj_g108_5, mj_g108_6, mj_g108_7, ↓reduceIte, Option.bind_some, Option.toList_some, Option.toList_none, List.cons_append, List.nil_append, mj_ixn, mj_add, mj_mul, mj_sub, mj_dv, mj_rmn, mj_ltT, mj_ltF, mj_leT, mj_leF, mj_eqT, mj_eqF, mj_z0T, mj_z0F, mj_bo0, mj_boc, mj_chk10, mj_chk11, hg, hc]
  refine Eq.trans z1 ?_
  rw [← z2]
  simp (disch := omega) only [mj_g108_78, mj_g108_79, mj_g108_80, mj_g108_81, mj_g108_82, mj_g108_83, mj_g108_84, mj_g108_85, ↓reduceIte, Option.bind_some, Option.toList_some, Option.toList_none, List.cons_append, List.nil_append, mj_ixn, mj_add, mj_mul, mj_sub, mj_dv, mj_rmn, mj_ltT, mj_ltF, mj_leT, mj_leF, mj_eqT, mj_eqF, mj_z0T, mj_z0F, mj_bo0, mj_boc, mj_chk10, mj_chk11, hg, e4]
  rfl
end MW
