/-! Lining: gunning, relining, plans -/
def mc_sy (f : mj_F) (a j : Nat) (m : Int32) : Int32 := if mc_tp (f 11 a 2) (mc_T f a j) < f 11 a 3 then m * nI 3 / nI 5 else m * nI 4 / nI 5
def mc_gr (f : mj_F) (a j : Nat) (m : Int32) : Int32 :=
  if f 1 a 11 = 0 then (if mc_T f a j + mc_sy f a j m ≤ nI 3500 then (if m ≤ f 11 a 4 then nI 0 else nI 3) else nI 2) else nI 1
def mc_po (f : mj_F) (a j : Nat) (m : Int32) : mj_F :=
  mj_u (mj_u (mj_u f 9 a j (f 9 a j + mc_sy f a j m)) 11 a 4 (f 11 a 4 - m)) 12 a 1 (f 12 a 1 + mc_sy f a j m)
def mc_ly (f : mj_F) (a b : Nat) : Nat → mj_F
  | 0 => f
  | n + 1 => mj_u (mj_u (mc_ly f a b n) 8 a (b + n) (nI 3000)) 9 a (b + n) (nI 0)
theorem mc_ly_o {f : mj_F} {a b n k2 i2 j2 : Nat} (h : ¬ ((k2 = 8 ∨ k2 = 9) ∧ i2 = a ∧ b ≤ j2 ∧ j2 < b + n)) : mc_ly f a b n k2 i2 j2 = f k2 i2 j2 := by
  induction n with
  | zero => rfl
  | succ n ih =>
    show (if _ then _ else (if _ then _ else _)) = _
    rw [if_neg (fun q_ => h ⟨.inr q_.1, q_.2.1, by omega⟩), if_neg (fun q_ => h ⟨.inl q_.1, q_.2.1, by omega⟩), ih (fun q_ => h ⟨q_.1, q_.2.1, by omega⟩)]
theorem mc_ly_8 {f : mj_F} {a b n j : Nat} (h1 : b ≤ j) (h2 : j < b + n) : mc_ly f a b n 8 a j = nI 3000 := by
  induction n with
  | zero => omega
  | succ n ih =>
    show mj_u _ _ _ _ _ _ _ _ = _
    rw [mj_uk (by decide)]
    by_cases e_ : j = b + n
    · subst e_; exact mj_us
    · rw [mj_uj e_]; exact ih (by omega)
theorem mc_ly_9 {f : mj_F} {a b n j : Nat} (h1 : b ≤ j) (h2 : j < b + n) : mc_ly f a b n 9 a j = nI 0 := by
  induction n with
  | zero => omega
  | succ n ih =>
    show mj_u _ _ _ _ _ _ _ _ = _
    by_cases e_ : j = b + n
    · subst e_; exact mj_us
    · rw [mj_uj e_, mj_uk (by decide)]; exact ih (by omega)
def mc_lrx (f : mj_F) (a s ring : Nat) : Int32 := mc_sm (fun q => mc_T f a (ring * s + q)) s
def mc_lr (f : mj_F) (a s ring : Nat) : mj_F :=
  mj_u (mj_u (mc_ly f a (ring * s) s) 12 a 3 (f 12 a 3 + mc_lrx f a s ring)) 12 a 0 (f 12 a 0 + nI (s * 3000))
def mc_las (f : mj_F) (a s : Nat) : Nat → mj_F
  | 0 => f
  | k + 1 => mc_lr (mc_las f a s k) a s k
def mc_lax (f : mj_F) (a s : Nat) : Nat → Int32
  | 0 => nI 0
  | k + 1 => mc_lax f a s k + mc_lrx (mc_las f a s k) a s k
def mc_la (f : mj_F) (a s r : Nat) : mj_F :=
  mj_u (mj_u (mj_u (mc_las f a s r) 1 a 10 (mc_las f a s r 1 a 10 + nI 1)) 1 a 9 (nI 0)) 1 a 11 (nI 0)
def mc_fo (t sl : Int32) : Int32 := nI 100 + mj_fd (t - nI 1600) (nI 4) + sl / nI 2
def mc_iH (t sl : Int32) : Prop := (nI 1400 ≤ t ∧ t ≤ nI 1800) ∧ (nI 0 ≤ sl ∧ sl ≤ nI 100)
section LK
variable {X : mj_X} {S : List (Nat × Nat)} {f : mj_F} {g : mj_G} {a r s n j : Nat} {m v t sl : Int32}
theorem mc_hasSpot (hn : f 1 a 2 = nI n) : mj_x X 7 [.inr (1, a), .inl v] (S, f, g) = some (some (.inl (mj_bo (nI 0 ≤ v ∧ v ≤ nI n - nI 1))), (S, f, g)) := by
  simp (disch := omega) only [mj_x7, mj_g7_0, mj_g7_1, mj_g7_2, mj_g7_3, mj_g7_4, mj_g7_5, mj_g7_6, mj_g7_7, hn, ↓reduceIte, Option.bind_some, Option.toList_some, List.cons_append, List.nil_append, mc_within, mj_boc]
theorem mc_hasRing (hn : f 1 a 0 = nI n) : mj_x X 6 [.inr (1, a), .inl v] (S, f, g) = some (some (.inl (mj_bo (nI 0 ≤ v ∧ v ≤ nI n - nI 1))), (S, f, g)) := by
  simp (disch := omega) only [mj_x6, mj_g6_0, mj_g6_1, mj_g6_2, mj_g6_3, mj_g6_4, mj_g6_5, mj_g6_6, mj_g6_7, hn, ↓reduceIte, Option.bind_some, Option.toList_some, List.cons_append, List.nil_append, mc_within, mj_boc]
theorem mc_staying (hg : mc_LG g a) (hj : j < 60) (ht : ¬ mc_T f a j + nI 100 = 0) : mj_x X 27 [.inr (1, a), .inl (nI j), .inl m] (S, f, g) = some (some (.inl (mc_sy f a j m)), (S, f, g)) := by
  unfold mc_sy
  by_cases c1 : mc_tp (f 11 a 2) (mc_T f a j) < f 11 a 3 <;> simp (disch := omega) only [mj_x27, mj_g27_0, mj_g27_1, mj_g27_2, mj_g27_3, mj_g27_4, mj_g27_5, mj_g27_6, mj_g27_7, mj_g27_8, mj_g27_9, mj_g27_10, mj_g27_11, mj_g27_12, mj_g27_13, mj_g27_14, mj_g27_15, mj_g27_16, mj_g27_17, mj_g27_18, mj_g27_19, mj_g27_20, mj_g27_21, mj_g27_22, mj_g27_23, mj_g27_24, mj_g27_25, hg.2.2.2.1, ↓reduceIte, Option.bind_some, Option.toList_some, Option.toList_none, List.cons_append, List.nil_append, mj_ixn, mj_add, mj_mul, mj_sub, mj_dv, mj_rmn, mj_ltT, mj_ltF, mj_leT, mj_leF, mj_eqT, mj_eqF, mj_z0T, mj_z0F, mj_bo0, mj_boc, mj_chk10, mj_chk11, mc_shellTemperature hg hj ht, c1]
theorem mc_gunningRefusal (hg : mc_LG g a) (hj : j < 60) (ht : ¬ mc_T f a j + nI 100 = 0) : mj_x X 28 [.inr (1, a), .inl (nI j), .inl m] (S, f, g) = some (some (.inl (mc_gr f a j m)), (S, f, g)) := by
  unfold mc_gr
  by_cases c1 : f 1 a 11 = 0
  · by_cases c2 : mc_T f a j + mc_sy f a j m ≤ nI 3500
    · by_cases c3 : m ≤ f 11 a 4 <;> simp (disch := omega) only [mj_x28, mj_g28_0, mj_g28_1, mj_g28_2, mj_g28_3, mj_g28_4, mj_g28_5, mj_g28_6, mj_g28_7, mj_g28_8, mj_g28_9, mj_g28_10, mj_g28_11, mj_g28_12, mj_g28_13, mj_g28_14, mj_g28_15, mj_g28_16, mj_g28_17, mj_g28_18, mj_g28_19, mj_g28_20, mj_g28_21, mj_g28_22, mj_g28_23, mj_g28_24, mj_g28_25, mj_g28_26, hg.2.2.2.1, ↓reduceIte, Option.bind_some, Option.toList_some, Option.toList_none, List.cons_append, List.nil_append, mj_ixn, mj_add, mj_mul, mj_sub, mj_dv, mj_rmn, mj_ltT, mj_ltF, mj_leT, mj_leF, mj_eqT, mj_eqF, mj_z0T, mj_z0F, mj_bo0, mj_boc, mj_chk10, mj_chk11, mc_thickness hg, mc_staying hg hj ht, c1, c2, c3]
    · simp (disch := omega) only [mj_x28, mj_g28_0, mj_g28_1, mj_g28_2, mj_g28_3, mj_g28_4, mj_g28_5, mj_g28_6, mj_g28_7, mj_g28_8, mj_g28_9, mj_g28_10, mj_g28_11, mj_g28_12, mj_g28_13, mj_g28_14, mj_g28_15, mj_g28_16, mj_g28_17, mj_g28_18, mj_g28_19, mj_g28_20, mj_g28_21, mj_g28_22, mj_g28_23, mj_g28_24, mj_g28_25, mj_g28_26, hg.2.2.2.1, ↓reduceIte, Option.bind_some, Option.toList_some, Option.toList_none, List.cons_append, List.nil_append, mj_ixn, mj_add, mj_mul, mj_sub, mj_dv, mj_rmn, mj_ltT, mj_ltF, mj_leT, mj_leF, mj_eqT, mj_eqF, mj_z0T, mj_z0F, mj_bo0, mj_boc, mj_chk10, mj_chk11, mc_thickness hg, mc_staying hg hj ht, c1, c2]
  · simp (disch := omega) only [mj_x28, mj_g28_0, mj_g28_1, mj_g28_2, mj_g28_3, mj_g28_4, mj_g28_5, mj_g28_6, mj_g28_7, mj_g28_8, mj_g28_9, mj_g28_10, mj_g28_11, mj_g28_12, mj_g28_13, mj_g28_14, mj_g28_15, mj_g28_16, mj_g28_17, mj_g28_18, mj_g28_19, mj_g28_20, mj_g28_21, mj_g28_22, mj_g28_23, mj_g28_24, mj_g28_25, mj_g28_26, ↓reduceIte, Option.bind_some, Option.toList_some, Option.toList_none, List.cons_append, List.nil_append, mj_ixn, mj_add, mj_mul, mj_sub, mj_dv, mj_rmn, mj_ltT, mj_ltF, mj_leT, mj_leF, mj_eqT, mj_eqF, mj_z0T, mj_z0F, mj_bo0, mj_boc, mj_chk10, mj_chk11, c1]
theorem mc_putOn (hg : mc_LG g a) (hj : j < 60) (ht : ¬ mc_T f a j + nI 100 = 0) : mj_x X 29 [.inr (1, a), .inl (nI j), .inl m] (S, f, g) = some (some (.inl (mc_sy f a j m)), (S, mc_po f a j m, g)) := by
  unfold mc_po
  simp (disch := omega) only [mj_x29, mj_g29_0, mj_g29_1, mj_g29_2, mj_g29_3, mj_g29_4, mj_g29_5, mj_g29_6, mj_g29_7, mj_g29_8, mj_g29_9, mj_g29_10, mj_g29_11, mj_g29_12, mj_g29_13, mj_g29_14, mj_g29_15, mj_g29_16, mj_g29_17, mj_g29_18, mj_g29_19, mj_g29_20, mj_g29_21, mj_g29_22, mj_g29_23, mj_g29_24, mj_g29_25, mj_g29_26, mj_g29_27, mj_g29_28, mj_g29_29, mj_g29_30, hg.2.1, hg.2.2.2.1, hg.2.2.2.2.1, ↓reduceIte, Option.bind_some, Option.toList_some, Option.toList_none, List.cons_append, List.nil_append, mj_ixn, mj_add, mj_mul, mj_sub, mj_dv, mj_rmn, mj_ltT, mj_ltF, mj_leT, mj_leF, mj_eqT, mj_eqF, mj_z0T, mj_z0F, mj_bo0, mj_boc, mj_chk10, mj_chk11, mc_staying hg hj ht, mj_uk]
theorem mc_layRing (hg : mc_LG g a) (hs : f 1 a 1 = nI s) (h1 : s ≤ 10) (hj : j < 6) (hb : j * s + s ≤ 60) : mj_x X 30 [.inr (1, a), .inl (nI j)] (S, f, g) = some (some (.inl (mc_lrx f a s j)), (S, mc_lr f a s j, g)) := by
  have hk : (j + 1) * s = j * s + s := Nat.succ_mul j s
  have hl := mj_loop (fun k => mj_g X 30 14 [some (.inr (1, a)), some (.inl (nI j)), some (.inl (mc_sm (fun q => mc_T f a (j * s + q)) k)), some (.inl (nI (j * s + s))), some (.inl (nI (j * s + k)))] [] (S, mc_ly f a (j * s) k, g)) s (fun k hk => by
    have w1 : mc_T (mc_ly f a (j * s) k) a (j * s + k) = mc_T f a (j * s + k) := by
      unfold mc_T
      rw [mc_ly_o (by omega), mc_ly_o (by omega)]
    refine Eq.trans mj_g30_14 ?_
    simp (disch := omega) only [mj_g30_15, mj_g30_16, mj_g30_17, mj_g30_18, mj_g30_19, mj_g30_20, mj_g30_21, mj_g30_22, mj_g30_23, mj_g30_24, mj_g30_25, mj_g30_26, mj_g30_27, mj_g30_28, mj_g30_29, mj_g30_30, mj_g30_31, mj_g30_32, mj_g30_33, mj_g30_34, ↓reduceIte, Option.bind_some, Option.toList_some, Option.toList_none, List.cons_append, List.nil_append, mj_ixn, mj_add, mj_mul, mj_sub, mj_dv, mj_rmn, mj_ltT, mj_ltF, mj_leT, mj_leF, mj_eqT, mj_eqF, mj_z0T, mj_z0F, mj_bo0, mj_boc, mj_chk10, mj_chk11, mc_thickness hg, hg.1, hg.2.1, w1]
    rfl)
  simp (disch := omega) only [mj_x30, mj_g30_0, mj_g30_1, mj_g30_2, mj_g30_3, mj_g30_4, mj_g30_5, mj_g30_6, mj_g30_7, mj_g30_8, mj_g30_9, mj_g30_10, mj_g30_11, mj_g30_12, mj_g30_13, hs, ↓reduceIte, Option.bind_some, Option.toList_some, Option.toList_none, List.cons_append, List.nil_append, mj_ixn, mj_add, mj_mul, mj_sub, mj_dv, mj_rmn, mj_ltT, mj_ltF, mj_leT, mj_leF, mj_eqT, mj_eqF, mj_z0T, mj_z0F, mj_bo0, mj_boc, mj_chk10, mj_chk11, hk]
  refine Eq.trans ?_ (hl.trans ?_)
  · rfl
  · have e1 : mc_ly f a (j * s) s 1 a 1 = nI s := by rw [mc_ly_o (by omega)]; exact hs
    have e2 : ∀ q, mc_ly f a (j * s) s 12 a q = f 12 a q := fun q => mc_ly_o (by omega)
    simp (disch := omega) only [mj_g30_14, mj_g30_15, mj_g30_16, mj_g30_35, mj_g30_36, mj_g30_37, mj_g30_38, mj_g30_39, mj_g30_40, mj_g30_41, mj_g30_42, mj_g30_43, mj_g30_44, mj_g30_45, mj_g30_46, mj_g30_47, mj_g30_48, mj_g30_49, mj_g30_50, mj_g30_51, mj_g30_52, mj_g30_53, mj_g30_54, mj_g30_55, hg.2.2.2.2.1, mj_uk, mj_uj, e1, e2, ↓reduceIte, Option.bind_some, Option.toList_some, Option.toList_none, List.cons_append, List.nil_append, mj_ixn, mj_add, mj_mul, mj_sub, mj_dv, mj_rmn, mj_ltT, mj_ltF, mj_leT, mj_leF, mj_eqT, mj_eqF, mj_z0T, mj_z0F, mj_bo0, mj_boc, mj_chk10, mj_chk11]
    rfl
theorem mc_las_o {k k2 i2 j2 : Nat} (h : ¬ ((k2 = 8 ∨ k2 = 9) ∧ i2 = a ∧ j2 < k * s)) (h2 : ¬ (k2 = 12 ∧ i2 = a)) : mc_las f a s k k2 i2 j2 = f k2 i2 j2 := by
  induction k with
  | zero => rfl
  | succ k ih =>
    rw [Nat.succ_mul] at h
    show (if _ then _ else (if _ then _ else _)) = _
    rw [if_neg (fun q_ => h2 ⟨q_.1, q_.2.1⟩), if_neg (fun q_ => h2 ⟨q_.1, q_.2.1⟩), mc_ly_o (fun q_ => h ⟨q_.1, q_.2.1, by omega⟩), ih (fun q_ => h ⟨q_.1, q_.2.1, by omega⟩)]
theorem mc_layAllRings (hg : mc_LG g a) (hr : f 1 a 0 = nI r) (hs : f 1 a 1 = nI s) (hG : mc_Ge r s n) : mj_x X 31 [.inr (1, a)] (S, f, g) = some (some (.inl (mc_lax f a s r)), (S, mc_la f a s r, g)) := by
  obtain ⟨h1, h2, h3, h4, h5⟩ := hG
  have hl := mj_loop (fun k => mj_g X 31 4 [some (.inr (1, a)), some (.inl (mc_lax f a s k)), some (.inl (nI k))] [] (S, mc_las f a s k, g)) r (fun k hk => by
    have e1 : mc_las f a s k 1 a 0 = nI r := by rw [mc_las_o (by omega) (by omega)]; exact hr
    have e2 : mc_las f a s k 1 a 1 = nI s := by rw [mc_las_o (by omega) (by omega)]; exact hs
    have e3 : k * s + s ≤ 60 := by
      have := Nat.mul_le_mul (show k + 1 ≤ 6 by omega) h4
      rw [Nat.succ_mul] at this
      exact this
    refine Eq.trans mj_g31_4 ?_
    simp (disch := omega) only [mj_g31_5, mj_g31_6, mj_g31_7, mj_g31_8, mj_g31_9, mj_g31_10, mj_g31_11, mj_g31_12, mj_g31_13, mj_g31_14, mj_g31_15, ↓reduceIte, Option.bind_some, Option.toList_some, Option.toList_none, List.cons_append, List.nil_append, mj_ixn, mj_add, mj_mul, mj_sub, mj_dv, mj_rmn, mj_ltT, mj_ltF, mj_leT, mj_leF, mj_eqT, mj_eqF, mj_z0T, mj_z0F, mj_bo0, mj_boc, mj_chk10, mj_chk11, e1, mc_layRing hg e2 h4 (show k < 6 by omega) e3]
    rfl)
  simp (disch := omega) only [mj_x31, mj_g31_0, mj_g31_1, mj_g31_2, mj_g31_3]
  refine Eq.trans ?_ (hl.trans ?_)
  · rfl
  · have e1 : mc_las f a s r 1 a 0 = nI r := by rw [mc_las_o (by omega) (by omega)]; exact hr
    simp (disch := omega) only [mj_g31_4, mj_g31_5, mj_g31_6, mj_g31_7, mj_g31_16, mj_g31_17, mj_g31_18, mj_g31_19, mj_g31_20, mj_g31_21, mj_g31_22, mj_g31_23, mj_g31_24, mj_g31_25, mj_g31_26, mj_g31_27, mj_g31_28, mj_g31_29, mj_uk, mj_uj, e1, ↓reduceIte, Option.bind_some, Option.toList_some, Option.toList_none, List.cons_append, List.nil_append, mj_ixn, mj_add, mj_mul, mj_sub, mj_dv, mj_rmn, mj_ltT, mj_ltF, mj_leT, mj_leF, mj_eqT, mj_eqF, mj_z0T, mj_z0F, mj_bo0, mj_boc, mj_chk10, mj_chk11]
    rfl
theorem mc_factorOf : mj_x X 64 [.inl t, .inl sl] (S, f, g) = some (some (.inl (mc_fo t sl)), (S, f, g)) := by
  have h4 : ¬ nI 4 = 0 := by decide
  simp (disch := omega) only [mj_x64, mj_g64_0, mj_g64_1, mj_g64_2, mj_g64_3, mj_g64_4, mj_g64_5, mj_g64_6, mj_g64_7, mj_g64_8, mj_g64_9, mj_g64_10, mj_g64_11, mc_floorDiv h4, ↓reduceIte, Option.bind_some, Option.toList_some, List.cons_append, List.nil_append, mj_z0F, mc_fo]
theorem mc_isHeat [Decidable (mc_iH t sl)] : mj_x X 62 [.inl t, .inl sl] (S, f, g) = some (some (.inl (mj_bo (mc_iH t sl))), (S, f, g)) := by
  by_cases c1 : nI 1400 ≤ t ∧ t ≤ nI 1800
  · by_cases c2 : nI 0 ≤ sl ∧ sl ≤ nI 100
    · rw [← mj_boT (P := mc_iH t sl) ⟨c1, c2⟩]
      simp (disch := omega) only [mj_x62, mj_g62_0, mj_g62_1, mj_g62_2, mj_g62_3, mj_g62_4, mj_g62_5, mj_g62_6, mj_g62_7, mj_g62_8, mj_g62_9, mj_g62_10, mj_g62_11, mj_g62_12, mj_g62_13, mc_within, ↓reduceIte, Option.bind_some, Option.toList_some, Option.toList_none, List.cons_append, List.nil_append, mj_ixn, mj_add, mj_mul, mj_sub, mj_dv, mj_rmn, mj_ltT, mj_ltF, mj_leT, mj_leF, mj_eqT, mj_eqF, mj_z0T, mj_z0F, mj_bo0, mj_boc, mj_chk10, mj_chk11, c1, c2, and_self, not_true]
    · rw [← mj_boF (P := mc_iH t sl) (fun q_ => c2 q_.2)]
      simp (disch := omega) only [mj_x62, mj_g62_0, mj_g62_1, mj_g62_2, mj_g62_3, mj_g62_4, mj_g62_5, mj_g62_6, mj_g62_7, mj_g62_8, mj_g62_9, mj_g62_10, mj_g62_11, mj_g62_12, mj_g62_13, mc_within, ↓reduceIte, Option.bind_some, Option.toList_some, Option.toList_none, List.cons_append, List.nil_append, mj_ixn, mj_add, mj_mul, mj_sub, mj_dv, mj_rmn, mj_ltT, mj_ltF, mj_leT, mj_leF, mj_eqT, mj_eqF, mj_z0T, mj_z0F, mj_bo0, mj_boc, mj_chk10, mj_chk11, c1, c2, and_self, not_true, not_false_eq_true]
  · rw [← mj_boF (P := mc_iH t sl) (fun q_ => c1 q_.1)]
    simp (disch := omega) only [mj_x62, mj_g62_0, mj_g62_1, mj_g62_2, mj_g62_3, mj_g62_4, mj_g62_5, mj_g62_6, mj_g62_7, mj_g62_8, mj_g62_9, mj_g62_10, mj_g62_11, mj_g62_12, mj_g62_13, mc_within, ↓reduceIte, Option.bind_some, Option.toList_some, Option.toList_none, List.cons_append, List.nil_append, mj_ixn, mj_add, mj_mul, mj_sub, mj_dv, mj_rmn, mj_ltT, mj_ltF, mj_leT, mj_leF, mj_eqT, mj_eqF, mj_z0T, mj_z0F, mj_bo0, mj_boc, mj_chk10, mj_chk11, c1, not_false_eq_true]
theorem mc_isAmount : mj_x X 63 [.inl m] (S, f, g) = some (some (.inl (mj_bo (nI 1 ≤ m ∧ m ≤ nI 500))), (S, f, g)) := by
  simp (disch := omega) only [mj_x63, mj_g63_0, mj_g63_1, mj_g63_2, mj_g63_3, mj_g63_4, mc_within, ↓reduceIte, Option.bind_some, Option.toList_some, Option.toList_none, List.cons_append, List.nil_append, mj_ixn, mj_add, mj_mul, mj_sub, mj_dv, mj_rmn, mj_ltT, mj_ltF, mj_leT, mj_leF, mj_eqT, mj_eqF, mj_z0T, mj_z0F, mj_bo0, mj_boc, mj_chk10, mj_chk11]
end LK
