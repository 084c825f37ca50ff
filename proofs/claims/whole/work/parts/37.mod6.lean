/-! the reference: a lining begun -/
def md_sf (f : mj_F) (m b : Nat) (v : Int32) : Nat → mj_F
  | 0 => f
  | n + 1 => mj_u (md_sf f m b v n) 18 m (b + n) v
theorem md_sf_o {f : mj_F} {m b n k2 i2 j2 : Nat} {v : Int32} (h : ¬ (k2 = 18 ∧ i2 = m ∧ b ≤ j2 ∧ j2 < b + n)) : md_sf f m b v n k2 i2 j2 = f k2 i2 j2 := by
  induction n with
  | zero => rfl
  | succ n ih =>
    show (if _ then _ else _) = _
    rw [if_neg (fun q_ => h ⟨q_.1, q_.2.1, by omega⟩), ih (fun q_ => h ⟨q_.1, q_.2.1, by omega⟩)]
theorem md_sf_j {f : mj_F} {m b n j : Nat} {v : Int32} (h : b ≤ j) (h2 : j < b + n) : md_sf f m b v n 18 m j = v := by
  induction n with
  | zero => omega
  | succ n ih =>
    show mj_u _ _ _ _ _ _ _ _ = _
    by_cases e_ : j = b + n
    · subst e_; exact mj_us
    · rw [mj_uj e_]; exact ih (by omega)
def md_b1 (f : mj_F) (m r s : Nat) : mj_F := mj_u (mj_u (mj_u (mc_fl f 18 m (fun _ => nI 0) 627) 18 m 0 (nI r)) 18 m 1 (nI s)) 18 m 4 (nI 1)
def md_b2 (f : mj_F) (m : Nat) : mj_F := mj_u (mj_u (mj_u (mj_u (mj_u (mj_u (md_sf f m 6 (nI 10) 6) 18 m 12 (nI 800)) 18 m 13 (nI 50)) 18 m 14 (nI 30000)) 18 m 15 (nI 60)) 18 m 16 (nI 20000)) 18 m 17 (nI 20)
def md_bg (f : mj_F) (m r s n : Nat) : mj_F := mj_u (md_sf (md_b2 (md_b1 f m r s) m) m 22 (nI 3000) n) 18 m 18 (nI (3000 * n))
section MU
variable {X : mj_X} {S : List (Nat × Nat)} {f : mj_F} {g : mj_G} {m r s n : Nat}
theorem md_begins (hg : g 6 m 0 = some (18, m)) (hG : mc_Ge r s n) : mj_x X 95 [.inr (6, m), .inl (nI r), .inl (nI s)] (S, f, g) = some (none, (S, md_bg f m r s n, g)) := by
  have h60 := hG.n60
  have hl1 := mj_loop (fun k => mj_g X 95 2 [some (.inr (6, m)), some (.inl (nI r)), some (.inl (nI s)), some (.inl (nI k))] [] (S, mc_fl f 18 m (fun _ => nI 0) k, g)) 627 (fun k hk => by
    refine Eq.trans mj_g95_2 ?_
    simp (disch := omega) only [mj_g95_3, mj_g95_4, mj_g95_5, mj_g95_6, mj_g95_7, mj_g95_8, mj_g95_9, mj_g95_10, mj_g95_11, ↓reduceIte, Option.bind_some, Option.toList_some, Option.toList_none, List.cons_append, List.nil_append, mj_ixn, mj_add, mj_mul, mj_sub, mj_dv, mj_rmn, mj_ltT, mj_ltF, mj_leT, mj_leF, mj_eqT, mj_eqF, mj_z0T, mj_z0F, mj_bo0, mj_boc, mj_chk10, mj_chk11, hg]
    rfl)
  have hl2 := mj_loop (fun k => mj_g X 95 29 [some (.inr (6, m)), some (.inl (nI r)), some (.inl (nI s)), some (.inl (nI k))] [] (S, md_sf (md_b1 f m r s) m 6 (nI 10) k, g)) 6 (fun k hk => by
    refine Eq.trans mj_g95_29 ?_
    simp (disch := omega) only [mj_g95_30, mj_g95_31, mj_g95_32, mj_g95_33, mj_g95_34, mj_g95_35, mj_g95_36, mj_g95_37, mj_g95_38, mj_g95_39, mj_g95_40, ↓reduceIte, Option.bind_some, Option.toList_some, Option.toList_none, List.cons_append, List.nil_append, mj_ixn, mj_add, mj_mul, mj_sub, mj_dv, mj_rmn, mj_ltT, mj_ltF, mj_leT, mj_leF, mj_eqT, mj_eqF, mj_z0T, mj_z0F, mj_bo0, mj_boc, mj_chk10, mj_chk11, hg]
    rfl)
  have O0 : md_O (md_b2 (md_b1 f m r s) m) m r s n := by
    refine ⟨?_, ?_, hG⟩
    · unfold md_b2 md_b1
      rw [mj_uj (by decide), mj_uj (by decide), mj_uj (by decide), mj_uj (by decide), mj_uj (by decide), mj_uj (by decide), md_sf_o (by omega), mj_uj (by decide), mj_uj (by decide), mj_us]
    · unfold md_b2 md_b1
      rw [mj_uj (by decide), mj_uj (by decide), mj_uj (by decide), mj_uj (by decide), mj_uj (by decide), mj_uj (by decide), md_sf_o (by omega), mj_uj (by decide), mj_us]
  have O3 : ∀ k, md_O (md_sf (md_b2 (md_b1 f m r s) m) m 22 (nI 3000) k) m r s n := fun k => ⟨by rw [md_sf_o (by omega)]; exact O0.1, by rw [md_sf_o (by omega)]; exact O0.2.1, hG⟩
  have hl3 := mj_loop (fun k => mj_g X 95 73 [some (.inr (6, m)), some (.inl (nI r)), some (.inl (nI s)), some (.inl (nI k))] [] (S, md_sf (md_b2 (md_b1 f m r s) m) m 22 (nI 3000) k, g)) n (fun k hk => by
    refine Eq.trans mj_g95_73 ?_
    simp (disch := omega) only [mj_g95_74, mj_g95_75, mj_g95_76, mj_g95_77, mj_g95_78, mj_g95_79, mj_g95_80, mj_g95_81, mj_g95_82, mj_g95_83, mj_g95_84, mj_g95_85, ↓reduceIte, Option.bind_some, Option.toList_some, Option.toList_none, List.cons_append, List.nil_append, mj_ixn, mj_add, mj_mul, mj_sub, mj_dv, mj_rmn, mj_ltT, mj_ltF, mj_leT, mj_leF, mj_eqT, mj_eqF, mj_z0T, mj_z0F, mj_bo0, mj_boc, mj_chk10, mj_chk11, hg, md_spots hg (O3 k)]
    rfl)
  simp (disch := omega) only [mj_x95, mj_g95_0, mj_g95_1]
  refine Eq.trans ?_ (hl1.trans ?_)
  · rfl
  simp (disch := omega) only [mj_g95_2, mj_g95_3, mj_g95_4, mj_g95_12, mj_g95_13, mj_g95_14, mj_g95_15, mj_g95_16, mj_g95_17, mj_g95_18, mj_g95_19, mj_g95_20, mj_g95_21, mj_g95_22, mj_g95_23, mj_g95_24, mj_g95_25, mj_g95_26, mj_g95_27, mj_g95_28, ↓reduceIte, Option.bind_some, Option.toList_some, Option.toList_none, List.cons_append, List.nil_append, mj_ixn, mj_add, mj_mul, mj_sub, mj_dv, mj_rmn, mj_ltT, mj_ltF, mj_leT, mj_leF, mj_eqT, mj_eqF, mj_z0T, mj_z0F, mj_bo0, mj_boc, mj_chk10, mj_chk11, hg]
  refine Eq.trans ?_ (hl2.trans ?_)
  · rfl
  simp (disch := omega) only [mj_g95_29, mj_g95_30, mj_g95_31, mj_g95_41, mj_g95_42, mj_g95_43, mj_g95_44, mj_g95_45, mj_g95_46, mj_g95_47, mj_g95_48, mj_g95_49, mj_g95_50, mj_g95_51, mj_g95_52, mj_g95_53, mj_g95_54, mj_g95_55, mj_g95_56, mj_g95_57, mj_g95_58, mj_g95_59, mj_g95_60, mj_g95_61, mj_g95_62, mj_g95_63, mj_g95_64, mj_g95_65, mj_g95_66, mj_g95_67, mj_g95_68, mj_g95_69, mj_g95_70, mj_g95_71, mj_g95_72, ↓reduceIte, Option.bind_some, Option.toList_some, Option.toList_none, List.cons_append, List.nil_append, mj_ixn, mj_add, mj_mul, mj_sub, mj_dv, mj_rmn, mj_ltT, mj_ltF, mj_leT, mj_leF, mj_eqT, mj_eqF, mj_z0T, mj_z0F, mj_bo0, mj_boc, mj_chk10, mj_chk11, hg]
  refine Eq.trans ?_ (hl3.trans ?_)
  · rfl
  simp (disch := omega) only [mj_g95_73, mj_g95_74, mj_g95_75, mj_g95_76, mj_g95_86, mj_g95_87, mj_g95_88, mj_g95_89, mj_g95_90, mj_g95_91, mj_g95_92, mj_g95_93, mj_g95_94, ↓reduceIte, Option.bind_some, Option.toList_some, Option.toList_none, List.cons_append, List.nil_append, mj_ixn, mj_add, mj_mul, mj_sub, mj_dv, mj_rmn, mj_ltT, mj_ltF, mj_leT, mj_leF, mj_eqT, mj_eqF, mj_z0T, mj_z0F, mj_bo0, mj_boc, mj_chk10, mj_chk11, hg, md_spots hg (O3 n)]
  rfl
end MU
