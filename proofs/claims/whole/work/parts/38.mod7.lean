/-! the reference: scans -/
def md_sl (f : mj_F) (m c : Nat) : Nat → mj_F
  | 0 => f
  | k + 1 => mj_u (mj_u (md_sl f m c k) 18 m (147 + 60 * c + k) (mc_tp (f 18 m 14) (md_T f m k))) 18 m (387 + 60 * c + k) (md_T f m k)
theorem md_sl_o {f : mj_F} {m c n k2 i2 j2 : Nat} (h : ¬ (k2 = 18 ∧ i2 = m ∧ ((147 + 60 * c ≤ j2 ∧ j2 < 147 + 60 * c + n) ∨ (387 + 60 * c ≤ j2 ∧ j2 < 387 + 60 * c + n)))) : md_sl f m c n k2 i2 j2 = f k2 i2 j2 := by
  induction n with
  | zero => rfl
  | succ n ih =>
    show (if _ then _ else (if _ then _ else _)) = _
    rw [if_neg (fun q_ => h ⟨q_.1, q_.2.1, by omega⟩), if_neg (fun q_ => h ⟨q_.1, q_.2.1, by omega⟩), ih (fun q_ => h ⟨q_.1, q_.2.1, by omega⟩)]
theorem md_sl_t {f : mj_F} {m c n j : Nat} (h : j < n) (hc : c < 4) (hn : n ≤ 60) : md_sl f m c n 18 m (147 + 60 * c + j) = mc_tp (f 18 m 14) (md_T f m j) := by
  induction n with
  | zero => omega
  | succ n ih =>
    show mj_u _ _ _ _ _ _ _ _ = _
    rw [mj_uj (by omega)]
    by_cases e_ : j = n
    · subst e_; exact mj_us
    · rw [mj_uj (by omega)]; exact ih (by omega) (by omega)
theorem md_sl_h {f : mj_F} {m c n j : Nat} (h : j < n) (hc : c < 4) (hn : n ≤ 60) : md_sl f m c n 18 m (387 + 60 * c + j) = md_T f m j := by
  induction n with
  | zero => omega
  | succ n ih =>
    show mj_u _ _ _ _ _ _ _ _ = _
    by_cases e_ : j = n
    · subst e_; exact mj_us
    · rw [mj_uj (by omega), mj_uj (by omega)]; exact ih (by omega) (by omega)
def md_sc (f : mj_F) (m c n : Nat) : mj_F := mj_u (md_sl (mj_u f 18 m (143 + c) (f 18 m 2)) m c n) 18 m 142 (nI (c + 1))
section MV
variable {X : mj_X} {S : List (Nat × Nat)} {f : mj_F} {g : mj_G} {m r s n c : Nat} {l1 l2 : Option mj_V}
theorem md_scans_a (hg : g 6 m 0 = some (18, m)) (hO : md_O f m r s n) (hc : f 18 m 142 = nI c) (hc4 : c < 4) (ht : ∀ j, j < n → ¬ md_T f m j + nI 100 = 0) : mj_g X 108 86 [some (.inr (6, m)), l1, l2] [] (S, f, g) = some (none, (S, md_sc f m c n, g)) := by
  have h60 := hO.2.2.n60
  have a0 : ∀ j, j < 143 → mj_u f 18 m (143 + c) (f 18 m 2) 18 m j = f 18 m j := fun j hj => mj_uj (by omega)
  have aT : ∀ j, j < 60 → md_T (mj_u f 18 m (143 + c) (f 18 m 2)) m j = md_T f m j := fun j hj => by
    unfold md_T
    rw [a0 _ (by omega), a0 _ (by omega)]
  have g1 : mj_g X 108 86 [some (.inr (6, m)), l1, l2] [] (S, f, g) = mj_g X 108 103 [some (.inr (6, m)), some (.inl (nI c)), some (.inl (nI 0))] [] (S, mj_u f 18 m (143 + c) (f 18 m 2), g) := by
    simp (disch := omega) only [mj_g108_86, mj_g108_87, mj_g108_88, mj_g108_89, mj_g108_90, mj_g108_91, mj_g108_92, mj_g108_93, mj_g108_94, mj_g108_95, mj_g108_96, mj_g108_97, mj_g108_98, mj_g108_99, mj_g108_100, mj_g108_101, mj_g108_102, ↓reduceIte, Option.bind_some, Option.toList_some, Option.toList_none, List.cons_append, List.nil_append, mj_ixn, mj_add, mj_mul, mj_sub, mj_dv, mj_rmn, mj_ltT, mj_ltF, mj_leT, mj_leF, mj_eqT, mj_eqF, mj_z0T, mj_z0F, mj_bo0, mj_boc, mj_chk10, mj_chk11, hg, hc]
  rw [g1]
  unfold md_sc
  have O1 : md_O (mj_u f 18 m (143 + c) (f 18 m 2)) m r s n := ⟨(a0 0 (by omega)).trans hO.1, (a0 1 (by omega)).trans hO.2.1, hO.2.2⟩
  have hc1 : mj_u f 18 m (143 + c) (f 18 m 2) 18 m 142 = nI c := (a0 142 (by omega)).trans hc
  have ht1 : ∀ j, j < n → ¬ md_T (mj_u f 18 m (143 + c) (f 18 m 2)) m j + nI 100 = 0 := fun j hj => by rw [aT j (by omega)]; exact ht j hj
  generalize mj_u f 18 m (143 + c) (f 18 m 2) = F at O1 hc1 ht1 ⊢
  have O2 : ∀ k, md_O (md_sl F m c k) m r s n := fun k => ⟨by rw [md_sl_o (by omega)]; exact O1.1, by rw [md_sl_o (by omega)]; exact O1.2.1, O1.2.2⟩
  have hl := mj_loop (fun k => mj_g X 108 103 [some (.inr (6, m)), some (.inl (nI c)), some (.inl (nI k))] [] (S, md_sl F m c k, g)) n (fun k hk => by
    have e1 : md_T (md_sl F m c k) m k = md_T F m k := by
      unfold md_T
      rw [md_sl_o (by omega), md_sl_o (by omega)]
    have e2 : md_sl F m c k 18 m 14 = F 18 m 14 := md_sl_o (by omega)
    have e3 : md_T (mj_u (md_sl F m c k) 18 m (147 + 60 * c + k) (mc_tp (F 18 m 14) (md_T F m k))) m k = md_T F m k := by
      rw [← e1]
      unfold md_T
      rw [mj_uj (by omega), mj_uj (by omega)]
    have w1 := md_warmth (X := X) (S := S) (f := md_sl F m c k) (j := k) hg (by omega) (by rw [e1]; exact ht1 k hk)
    rw [e1, e2] at w1
    refine Eq.trans mj_g108_103 ?_
    simp (disch := omega) only [mj_g108_104, mj_g108_105, mj_g108_106, mj_g108_107, mj_g108_108, mj_g108_109, mj_g108_110, mj_g108_111, mj_g108_112, mj_g108_113, mj_g108_114, mj_g108_115, mj_g108_116, mj_g108_117, mj_g108_118, mj_g108_119, mj_g108_120, mj_g108_121, mj_g108_122, mj_g108_123, mj_g108_124, mj_g108_125, mj_g108_126, mj_g108_127, mj_g108_128, mj_g108_129, mj_g108_130, mj_g108_131, mj_g108_132, mj_g108_133, mj_g108_134, ↓reduceIte, Option.bind_some, Option.toList_some, Option.toList_none, List.cons_append, List.nil_append, mj_ixn, mj_add, mj_mul, mj_sub, mj_dv, mj_rmn, mj_ltT, mj_ltF, mj_leT, mj_leF, mj_eqT, mj_eqF, mj_z0T, mj_z0F, mj_bo0, mj_boc, mj_chk10, mj_chk11, hg, md_spots hg (O2 k), w1, md_thick hg, e3]
    rfl)
  refine Eq.trans ?_ (hl.trans ?_)
  · rfl
  · have e1 : md_sl F m c n 18 m 142 = nI c := by rw [md_sl_o (by omega)]; exact hc1
    simp (disch := omega) only [mj_g108_103, mj_g108_104, mj_g108_105, mj_g108_106, mj_g108_135, mj_g108_136, mj_g108_137, mj_g108_138, mj_g108_139, mj_g108_140, mj_g108_141, mj_g108_142, mj_g108_143, ↓reduceIte, Option.bind_some, Option.toList_some, Option.toList_none, List.cons_append, List.nil_append, mj_ixn, mj_add, mj_mul, mj_sub, mj_dv, mj_rmn, mj_ltT, mj_ltF, mj_leT, mj_leF, mj_eqT, mj_eqF, mj_z0T, mj_z0F, mj_bo0, mj_boc, mj_chk10, mj_chk11, hg, md_spots hg (O2 n), e1]
theorem md_scans (hg : g 6 m 0 = some (18, m)) (hO : md_O f m r s n) (hc : f 18 m 142 = nI c) (hc4 : c < 4) (ht : ∀ j, j < n → ¬ md_T f m j + nI 100 = 0) : mj_x X 108 [.inr (6, m)] (S, f, g) = some (none, (S, md_sc f m c n, g)) := by
  have z1 := md_scans_a (X := X) (S := S) (l1 := none) (l2 := none) hg hO hc hc4 ht
  simp (disch := omega) only [mj_x108, mj_g108_0, mj_g108_1, mj_g108_2, mj_g108_3, mj_g108_4, mj_g108_5, ↓reduceIte, Option.bind_some, Option.toList_some, Option.toList_none, List.cons_append, List.nil_append, mj_ixn, mj_add, mj_mul, mj_sub, mj_dv, mj_rmn, mj_ltT, mj_ltF, mj_leT, mj_leF, mj_eqT, mj_eqF, mj_z0T, mj_z0F, mj_bo0, mj_boc, mj_chk10, mj_chk11, hg, hc]
  exact z1
end MV
