/-! State, History -/
theorem mj_wk {g : mj_G} {k i j k2 i2 j2 : Nat} {v : Option (Nat × Nat)} (h : k2 ≠ k) : mj_w g k i j v k2 i2 j2 = g k2 i2 j2 := by
  unfold mj_w
  rw [if_neg (fun q_ => h q_.1)]
theorem mj_wj {g : mj_G} {k i j k2 i2 j2 : Nat} {v : Option (Nat × Nat)} (h : j2 ≠ j) : mj_w g k i j v k2 i2 j2 = g k2 i2 j2 := by
  unfold mj_w
  rw [if_neg (fun q_ => h q_.2.2)]
theorem mj_wq {g : mj_G} {k i j : Nat} {v : Option (Nat × Nat)} : mj_w g k i j v k i j = v := by
  unfold mj_w
  rw [if_pos ⟨rfl, rfl, rfl⟩]
/-- a state's cells: its lining, its scans in their order -/
def mc_TG (g : mj_G) (st a : Nat) (sc : Nat → Nat) : Prop := g 4 st 0 = some (1, a) ∧ g 4 st 1 = some (17, st) ∧ mc_LG g a ∧ ∀ k, k < 4 → g 17 st k = some (3, sc k) ∧ mc_SG g (sc k)
def mc_css (f : mj_F) (sc sp : Nat → Nat) : Nat → mj_F
  | 0 => f
  | n + 1 => mc_cs (mc_css f sc sp n) (sc n) (sp n)
def mc_cst (f : mj_F) (st a b : Nat) (sc sp : Nat → Nat) (c : Nat) : mj_F := mc_css (mj_u (mc_cf f a b) 4 st 2 (nI c)) sc sp c
def mc_dg (g : mj_G) (st : Nat) : mj_G := mj_w (mj_w (mj_w (mj_w g 17 st 0 (g 17 st 1)) 17 st 1 (g 17 st 2)) 17 st 2 (g 17 st 3)) 17 st 3 (g 17 st 0)
def mc_ro (sc : Nat → Nat) : Nat → Nat := fun k => if k = 3 then sc 0 else sc (k + 1)
theorem mc_dg_k {g : mj_G} {st k2 i2 j2 : Nat} (h : ¬ (k2 = 17 ∧ i2 = st)) : mc_dg g st k2 i2 j2 = g k2 i2 j2 := by
  unfold mc_dg mj_w
  show (if _ then _ else (if _ then _ else (if _ then _ else (if _ then _ else _)))) = _
  rw [if_neg (fun q_ => h ⟨q_.1, q_.2.1⟩), if_neg (fun q_ => h ⟨q_.1, q_.2.1⟩), if_neg (fun q_ => h ⟨q_.1, q_.2.1⟩), if_neg (fun q_ => h ⟨q_.1, q_.2.1⟩)]
theorem mc_LG_dg {g : mj_G} {st a : Nat} (h : mc_LG g a) : mc_LG (mc_dg g st) a := by
  obtain ⟨h1, h2, h3, h4, h5, h6⟩ := h
  exact ⟨by rw [mc_dg_k (by omega)]; exact h1, by rw [mc_dg_k (by omega)]; exact h2, by rw [mc_dg_k (by omega)]; exact h3, by rw [mc_dg_k (by omega)]; exact h4, by rw [mc_dg_k (by omega)]; exact h5, by rw [mc_dg_k (by omega)]; exact h6⟩
theorem mc_SG_dg {g : mj_G} {st q : Nat} (h : mc_SG g q) : mc_SG (mc_dg g st) q := ⟨by rw [mc_dg_k (by omega)]; exact h.1, by rw [mc_dg_k (by omega)]; exact h.2⟩
theorem mc_TG_dg {g : mj_G} {st a : Nat} {sc : Nat → Nat} (h : mc_TG g st a sc) : mc_TG (mc_dg g st) st a (mc_ro sc) := by
  obtain ⟨h1, h2, h3, h4⟩ := h
  refine ⟨by rw [mc_dg_k (by omega)]; exact h1, by rw [mc_dg_k (by omega)]; exact h2, mc_LG_dg h3, fun k hk => ?_⟩
  unfold mc_ro mc_dg
  by_cases c3 : k = 3
  · subst c3
    rw [mj_wq, if_pos rfl]
    exact ⟨(h4 0 (by omega)).1, mc_SG_dg (h4 0 (by omega)).2⟩
  · rw [mj_wj c3, if_neg c3]
    refine ⟨?_, mc_SG_dg (h4 (k + 1) (by omega)).2⟩
    by_cases c2 : k = 2
    · subst c2; rw [mj_wq]; exact (h4 3 (by omega)).1
    · rw [mj_wj c2]
      by_cases c1 : k = 1
      · subst c1; rw [mj_wq]; exact (h4 2 (by omega)).1
      · rw [mj_wj c1]
        have c0 : k = 0 := by omega
        subst c0; rw [mj_wq]; exact (h4 1 (by omega)).1
theorem mc_TG_dg2 {g : mj_G} {st st2 a : Nat} {sc : Nat → Nat} (h : mc_TG g st a sc) (h2 : st ≠ st2) : mc_TG (mc_dg g st2) st a sc := by
  obtain ⟨h1, h2, h3, h4⟩ := h
  exact ⟨by rw [mc_dg_k (by omega)]; exact h1, by rw [mc_dg_k (by omega)]; exact h2, mc_LG_dg h3, fun k hk => ⟨by rw [mc_dg_k (by omega)]; exact (h4 k hk).1, mc_SG_dg (h4 k hk).2⟩⟩
theorem mc_css_o {f : mj_F} {sc sp : Nat → Nat} {n k2 i2 j2 : Nat} (h : k2 ≠ 3 ∧ k2 ≠ 15 ∧ k2 ≠ 16) : mc_css f sc sp n k2 i2 j2 = f k2 i2 j2 := by
  induction n with
  | zero => rfl
  | succ n ih =>
    show mc_cs _ _ _ _ _ _ = _
    unfold mc_cs
    rw [mj_uk h.1, mj_cpk h.2.2, mj_cpk h.2.1]
    exact ih
section ST
variable {X : mj_X} {S : List (Nat × Nat)} {f : mj_F} {g : mj_G} {st sw a b r s n j c o z h : Nat} {sc sp : Nat → Nat} {v : Int32}
theorem mc_startAnew (hT : mc_TG g st a sc) (hG : mc_Ge r s n) : mj_x X 39 [.inr (4, st), .inl (nI r), .inl (nI s)] (S, f, g) = some (none, (S, mj_u (mc_lay f a r s) 4 st 2 (nI 0), g)) := by
  simp (disch := omega) only [mj_x39, mj_g39_0, mj_g39_1, mj_g39_2, mj_g39_3, mj_g39_4, mj_g39_5, mj_g39_6, mj_g39_7, mj_g39_8, ↓reduceIte, Option.bind_some, Option.toList_some, Option.toList_none, List.cons_append, List.nil_append, mj_ixn, mj_add, mj_mul, mj_sub, mj_dv, mj_rmn, mj_ltT, mj_ltF, mj_leT, mj_leF, mj_eqT, mj_eqF, mj_z0T, mj_z0F, mj_bo0, mj_boc, mj_chk10, mj_chk11, hT.1, mc_layNew hT.2.2.1 hG]
theorem mc_copyState (hT : mc_TG g st a sc) (hU : mc_TG g sw b sp) (hab : b ≠ a) (hst : sw ≠ st) (hc : f 4 sw 2 = nI c) (hc4 : c ≤ 4) (hov : mj_chk 1 (f 1 b 11) = true) (hd : ∀ k, k < 4 → sp k ≠ sc k) : mj_x X 40 [.inr (4, st), .inr (4, sw)] (S, f, g) = some (none, (S, mc_cst f st a b sc sp c, g)) := by
  have e1 : mc_cf f a b 4 sw 2 = nI c := by
    unfold mc_cf mc_c3 mc_c2 mc_c1
    simp (disch := omega) only [mj_uk, mj_cpk, hc]
  have hl := mj_loop (fun k => mj_g X 40 11 [some (.inr (4, st)), some (.inr (4, sw)), some (.inl (nI k))] [] (S, mc_css (mj_u (mc_cf f a b) 4 st 2 (nI c)) sc sp k, g)) c (fun k hk => by
    have e2 : mc_css (mj_u (mc_cf f a b) 4 st 2 (nI c)) sc sp k 4 st 2 = nI c := by rw [mc_css_o (by decide), mj_us]
    have t1 := hT.2.2.2 k (by omega)
    have t2 := hU.2.2.2 k (by omega)
    refine Eq.trans mj_g40_11 ?_
    simp (disch := omega) only [mj_g40_12, mj_g40_13, mj_g40_14, mj_g40_15, mj_g40_16, mj_g40_17, mj_g40_18, mj_g40_19, mj_g40_20, mj_g40_21, mj_g40_22, mj_g40_23, mj_g40_24, mj_g40_25, ↓reduceIte, Option.bind_some, Option.toList_some, Option.toList_none, List.cons_append, List.nil_append, mj_ixn, mj_add, mj_mul, mj_sub, mj_dv, mj_rmn, mj_ltT, mj_ltF, mj_leT, mj_leF, mj_eqT, mj_eqF, mj_z0T, mj_z0F, mj_bo0, mj_boc, mj_chk10, mj_chk11, hT.2.1, hU.2.1, e2, t1.1, t2.1, mc_copyScan t1.2 t2.2 (hd k (by omega))]
    rfl)
  simp (disch := omega) only [mj_x40, mj_g40_0, mj_g40_1, mj_g40_2, mj_g40_3, mj_g40_4, mj_g40_5, mj_g40_6, mj_g40_7, mj_g40_8, mj_g40_9, mj_g40_10, ↓reduceIte, Option.bind_some, Option.toList_some, Option.toList_none, List.cons_append, List.nil_append, mj_ixn, mj_add, mj_mul, mj_sub, mj_dv, mj_rmn, mj_ltT, mj_ltF, mj_leT, mj_leF, mj_eqT, mj_eqF, mj_z0T, mj_z0F, mj_bo0, mj_boc, mj_chk10, mj_chk11, hT.1, hU.1, mc_copyLining hT.2.2.1 hU.2.2.1 hab hov, e1]
  refine Eq.trans ?_ (hl.trans ?_)
  · rfl
  · have e2 : mc_css (mj_u (mc_cf f a b) 4 st 2 (nI c)) sc sp c 4 st 2 = nI c := by rw [mc_css_o (by decide), mj_us]
    simp (disch := omega) only [mj_g40_11, mj_g40_12, mj_g40_13, mj_g40_14, mj_g40_26, ↓reduceIte, Option.bind_some, Option.toList_some, Option.toList_none, List.cons_append, List.nil_append, mj_ixn, mj_add, mj_mul, mj_sub, mj_dv, mj_rmn, mj_ltT, mj_ltF, mj_leT, mj_leF, mj_eqT, mj_eqF, mj_z0T, mj_z0F, mj_bo0, mj_boc, mj_chk10, mj_chk11, e2]
    rfl
theorem mc_dropOldest (hT : mc_TG g st a sc) (hc : f 4 st 2 = nI 4) : mj_x X 42 [.inr (4, st)] (S, f, g) = some (none, (S, mj_u f 4 st 2 (nI 3), mc_dg g st)) := by
  have t0 := (hT.2.2.2 0 (by omega)).1
  have t1 := (hT.2.2.2 1 (by omega)).1
  have t2 := (hT.2.2.2 2 (by omega)).1
  have t3 := (hT.2.2.2 3 (by omega)).1
  unfold mc_dg
  simp (disch := omega) only [mj_x42, mj_g42_0, mj_g42_1, mj_g42_2, mj_g42_3, mj_g42_4, mj_g42_5, mj_g42_6, mj_g42_7, mj_g42_8, mj_g42_9, mj_g42_10, mj_g42_11, mj_g42_12, mj_g42_13, mj_g42_14, mj_g42_15, mj_g42_16, mj_g42_17, mj_g42_18, mj_g42_19, mj_g42_20, mj_g42_21, mj_g42_22, mj_g42_23, mj_g42_24, mj_g42_25, mj_g42_26, mj_g42_27, mj_g42_28, mj_g42_29, mj_g42_30, mj_g42_31, mj_g42_32, mj_g42_33, ↓reduceIte, Option.bind_some, Option.toList_some, Option.toList_none, List.cons_append, List.nil_append, mj_ixn, mj_add, mj_mul, mj_sub, mj_dv, mj_rmn, mj_ltT, mj_ltF, mj_leT, mj_leF, mj_eqT, mj_eqF, mj_z0T, mj_z0F, mj_bo0, mj_boc, mj_chk10, mj_chk11, hT.2.1, hc, t0, t1, t2, t3, mj_wk, mj_wj, Nat.reduceAdd, Nat.reduceSub]
theorem mc_takeScan_a {l1 : Option mj_V} (hT : mc_TG g st a sc) (hn : f 1 a 2 = nI n) (h60 : n ≤ 60) (ht : ∀ j, j < n → ¬ mc_T f a j + nI 100 = 0) (hc : f 4 st 2 = nI c) (hc4 : c < 4) : mj_g X 41 6 [some (.inr (4, st)), l1] [] (S, f, g) = some (some (.inr (3, sc c)), (S, mj_u (mc_tke f (sc c) a n) 4 st 2 (nI (c + 1)), g)) := by
  have t1 := hT.2.2.2 c hc4
  have e1 : mc_tke f (sc c) a n 4 st 2 = nI c := by
    unfold mc_tke
    rw [mj_uk (by decide), mc_tk_o (by omega)]
    exact hc
  simp (disch := omega) only [mj_g41_6, mj_g41_7, mj_g41_8, mj_g41_9, mj_g41_10, mj_g41_11, mj_g41_12, mj_g41_13, mj_g41_14, mj_g41_15, mj_g41_16, mj_g41_17, mj_g41_18, mj_g41_19, mj_g41_20, mj_g41_21, mj_g41_22, mj_g41_23, ↓reduceIte, Option.bind_some, Option.toList_some, Option.toList_none, List.cons_append, List.nil_append, mj_ixn, mj_add, mj_mul, mj_sub, mj_dv, mj_rmn, mj_ltT, mj_ltF, mj_leT, mj_leF, mj_eqT, mj_eqF, mj_z0T, mj_z0F, mj_bo0, mj_boc, mj_chk10, mj_chk11, hT.1, hT.2.1, hc, t1.1, mc_scanTake t1.2 hT.2.2.1 hn h60 ht, e1]
theorem mc_takeScan (hT : mc_TG g st a sc) (hn : f 1 a 2 = nI n) (h60 : n ≤ 60) (ht : ∀ j, j < n → ¬ mc_T f a j + nI 100 = 0) (hc : f 4 st 2 = nI c) (hc4 : c < 4) : mj_x X 41 [.inr (4, st)] (S, f, g) = some (some (.inr (3, sc c)), (S, mj_u (mc_tke f (sc c) a n) 4 st 2 (nI (c + 1)), g)) := by
  have z1 := mc_takeScan_a (X := X) (S := S) (l1 := none) hT hn h60 ht hc hc4
  simp (disch := omega) only [mj_x41, mj_g41_0, mj_g41_1, mj_g41_2, mj_g41_3, ↓reduceIte, Option.bind_some, Option.toList_some, Option.toList_none, List.cons_append, List.nil_append, mj_ixn, mj_add, mj_mul, mj_sub, mj_dv, mj_rmn, mj_ltT, mj_ltF, mj_leT, mj_leF, mj_eqT, mj_eqF, mj_z0T, mj_z0F, mj_bo0, mj_boc, mj_chk10, mj_chk11, hc]
  exact z1
theorem mc_takeScan4 (hT : mc_TG g st a sc) (hn : f 1 a 2 = nI n) (h60 : n ≤ 60) (ht : ∀ j, j < n → ¬ mc_T f a j + nI 100 = 0) (hc : f 4 st 2 = nI 4) : mj_x X 41 [.inr (4, st)] (S, f, g) = some (some (.inr (3, sc 0)), (S, mj_u (mc_tke (mj_u f 4 st 2 (nI 3)) (sc 0) a n) 4 st 2 (nI 4), mc_dg g st)) := by
  have z1 := mc_takeScan_a (X := X) (S := S) (f := mj_u f 4 st 2 (nI 3)) (c := 3) (l1 := none) (mc_TG_dg hT) (by rw [mj_uk (by decide)]; exact hn) h60 (fun j hj => by unfold mc_T; rw [mj_uk (by decide), mj_uk (by decide)]; exact ht j hj) mj_us (by omega)
  simp (disch := omega) only [mj_x41, mj_g41_0, mj_g41_1, mj_g41_2, mj_g41_3, mj_g41_4, mj_g41_5, ↓reduceIte, Option.bind_some, Option.toList_some, Option.toList_none, List.cons_append, List.nil_append, mj_ixn, mj_add, mj_mul, mj_sub, mj_dv, mj_rmn, mj_ltT, mj_ltF, mj_leT, mj_leF, mj_eqT, mj_eqF, mj_z0T, mj_z0F, mj_bo0, mj_boc, mj_chk10, mj_chk11, hc, mc_dropOldest hT hc]
  exact z1
def mc_dh (f : mj_F) (sc : Nat → Nat) (c : Nat) : Int32 := f 3 (sc (c - 1)) 2 - f 3 (sc (c - 2)) 2
theorem mc_heatsBetween (hT : mc_TG g st a sc) (hc : f 4 st 2 = nI c) (hc4 : c ≤ 4) (hc2 : 2 ≤ c) : mj_x X 43 [.inr (4, st)] (S, f, g) = some (some (.inl (mc_dh f sc c)), (S, f, g)) := by
  unfold mc_dh
  simp (disch := omega) only [mj_x43, mj_g43_0, mj_g43_1, mj_g43_2, mj_g43_3, mj_g43_4, mj_g43_5, mj_g43_6, mj_g43_7, mj_g43_8, mj_g43_9, mj_g43_10, mj_g43_11, mj_g43_12, mj_g43_13, mj_g43_14, mj_g43_15, mj_g43_16, mj_g43_17, ↓reduceIte, Option.bind_some, Option.toList_some, Option.toList_none, List.cons_append, List.nil_append, mj_ixn, mj_add, mj_mul, mj_sub, mj_dv, mj_rmn, mj_ltT, mj_ltF, mj_leT, mj_leF, mj_eqT, mj_eqF, mj_z0T, mj_z0F, mj_bo0, mj_boc, mj_chk10, mj_chk11, hT.2.1, hc, (hT.2.2.2 (c - 1) (by omega)).1, (hT.2.2.2 (c - 2) (by omega)).1]
theorem mc_trendIsKnown (hT : mc_TG g st a sc) (hc : f 4 st 2 = nI c) (hc4 : c ≤ 4) : mj_x X 44 [.inr (4, st)] (S, f, g) = some (some (.inl (mj_bo (2 ≤ c ∧ ¬ mc_dh f sc c = 0))), (S, f, g)) := by
  by_cases c1 : 2 ≤ c
  · by_cases c2 : mc_dh f sc c = 0
    · rw [← mj_boF (fun q_ => q_.2 c2)]
      simp (disch := omega) only [mj_x44, mj_g44_0, mj_g44_1, mj_g44_2, mj_g44_3, mj_g44_4, mj_g44_5, mj_g44_6, mj_g44_7, mj_g44_8, mj_g44_9, mj_g44_10, ↓reduceIte, Option.bind_some, Option.toList_some, Option.toList_none, List.cons_append, List.nil_append, mj_ixn, mj_add, mj_mul, mj_sub, mj_dv, mj_rmn, mj_ltT, mj_ltF, mj_leT, mj_leF, mj_eqT, mj_eqF, mj_z0T, mj_z0F, mj_bo0, mj_boc, mj_chk10, mj_chk11, hc, mc_heatsBetween hT hc hc4 c1, c2]
    · rw [← mj_boT ⟨c1, c2⟩]
      simp (disch := omega) only [mj_x44, mj_g44_0, mj_g44_1, mj_g44_2, mj_g44_3, mj_g44_4, mj_g44_5, mj_g44_6, mj_g44_7, mj_g44_8, mj_g44_9, mj_g44_10, ↓reduceIte, Option.bind_some, Option.toList_some, Option.toList_none, List.cons_append, List.nil_append, mj_ixn, mj_add, mj_mul, mj_sub, mj_dv, mj_rmn, mj_ltT, mj_ltF, mj_leT, mj_leF, mj_eqT, mj_eqF, mj_z0T, mj_z0F, mj_bo0, mj_boc, mj_chk10, mj_chk11, hc, mc_heatsBetween hT hc hc4 c1, c2]
  · rw [← mj_boF (fun q_ => c1 q_.1)]
    simp (disch := omega) only [mj_x44, mj_g44_0, mj_g44_1, mj_g44_2, mj_g44_3, mj_g44_4, mj_g44_5, mj_g44_6, mj_g44_7, mj_g44_8, mj_g44_9, mj_g44_10, ↓reduceIte, Option.bind_some, Option.toList_some, Option.toList_none, List.cons_append, List.nil_append, mj_ixn, mj_add, mj_mul, mj_sub, mj_dv, mj_rmn, mj_ltT, mj_ltF, mj_leT, mj_leF, mj_eqT, mj_eqF, mj_z0T, mj_z0F, mj_bo0, mj_boc, mj_chk10, mj_chk11, hc]
theorem mc_trendOf (hT : mc_TG g st a sc) (hc : f 4 st 2 = nI c) (hc4 : c ≤ 4) (hc2 : 2 ≤ c) (hj : j < 60) (hz : ¬ mc_dh f sc c = 0) : mj_x X 45 [.inr (4, st), .inl (nI j)] (S, f, g) = some (some (.inl (mj_fd ((f 16 (sc (c - 2)) j - f 16 (sc (c - 1)) j) * nI 100) (mc_dh f sc c))), (S, f, g)) := by
  have t1 := hT.2.2.2 (c - 1) (by omega)
  have t2 := hT.2.2.2 (c - 2) (by omega)
  simp (disch := omega) only [mj_x45, mj_g45_0, mj_g45_1, mj_g45_2, mj_g45_3, mj_g45_4, mj_g45_5, mj_g45_6, mj_g45_7, mj_g45_8, mj_g45_9, mj_g45_10, mj_g45_11, mj_g45_12, mj_g45_13, mj_g45_14, mj_g45_15, mj_g45_16, mj_g45_17, mj_g45_18, mj_g45_19, mj_g45_20, mj_g45_21, mj_g45_22, mj_g45_23, mj_g45_24, mj_g45_25, mj_g45_26, mj_g45_27, mj_g45_28, mj_g45_29, mj_g45_30, ↓reduceIte, Option.bind_some, Option.toList_some, Option.toList_none, List.cons_append, List.nil_append, mj_ixn, mj_add, mj_mul, mj_sub, mj_dv, mj_rmn, mj_ltT, mj_ltF, mj_leT, mj_leF, mj_eqT, mj_eqF, mj_z0T, mj_z0F, mj_bo0, mj_boc, mj_chk10, mj_chk11, hT.2.1, hc, t1.1, t2.1, t1.2.2, t2.2.2, mc_heatsBetween hT hc hc4 hc2, mc_floorDiv hz]
/-- the history's cells -/
def mc_HG (g : mj_G) (h : Nat) (hs : Nat → Nat) : Prop := g 0 h 0 = some (7, h) ∧ ∀ k, k < 4 → g 7 h k = some (4, hs k)
def mc_r1 (f : mj_F) (h o : Nat) : mj_F := mj_u (mj_u f 0 h 1 (nI ((o + 1) % 4))) 0 h 2 (nI 3)
theorem mc_record_a {hs : Nat → Nat} {l1 : mj_V} (hl1 : l1 = .inr (4, sw)) (hH : mc_HG g h hs) (ho : f 0 h 1 = nI o) (ho4 : o < 4) (hz : f 0 h 2 = nI z) (hz4 : z < 4) (hT : mc_TG g (hs ((o + z) % 4)) a sc) (hU : mc_TG g sw b sp) (hab : b ≠ a) (hst : sw ≠ hs ((o + z) % 4)) (hc : f 4 sw 2 = nI c) (hc4 : c ≤ 4) (hov : mj_chk 1 (f 1 b 11) = true) (hd : ∀ k, k < 4 → sp k ≠ sc k) : mj_g X 1 18 [some (.inr (0, h)), some l1] [] (S, f, g) = some (none, (S, mj_u (mc_cst f (hs ((o + z) % 4)) a b sc sp c) 0 h 2 (nI (z + 1)), g)) := by
  subst hl1
  have t1 := hH.2 ((o + z) % 4) (by omega)
  have e1 : mc_cst f (hs ((o + z) % 4)) a b sc sp c 0 h 2 = nI z := by
    unfold mc_cst
    rw [mc_css_o (by decide), mj_uk (by decide)]
    unfold mc_cf mc_c3 mc_c2 mc_c1
    simp (disch := omega) only [mj_uk, mj_cpk, hz]
  simp (disch := omega) only [mj_g1_18, mj_g1_19, mj_g1_20, mj_g1_21, mj_g1_22, mj_g1_23, mj_g1_24, mj_g1_25, mj_g1_26, mj_g1_27, mj_g1_28, mj_g1_29, mj_g1_30, mj_g1_31, mj_g1_32, mj_g1_33, mj_g1_34, mj_g1_35, mj_g1_36, ↓reduceIte, Option.bind_some, Option.toList_some, Option.toList_none, List.cons_append, List.nil_append, mj_ixn, mj_add, mj_mul, mj_sub, mj_dv, mj_rmn, mj_ltT, mj_ltF, mj_leT, mj_leF, mj_eqT, mj_eqF, mj_z0T, mj_z0F, mj_bo0, mj_boc, mj_chk10, mj_chk11, hH.1, ho, hz, t1, mc_copyState hT hU hab hst hc hc4 hov hd, e1]
theorem mc_record {hs : Nat → Nat} (hH : mc_HG g h hs) (ho : f 0 h 1 = nI o) (ho4 : o < 4) (hz : f 0 h 2 = nI z) (hz4 : z < 4) (hT : mc_TG g (hs ((o + z) % 4)) a sc) (hU : mc_TG g sw b sp) (hab : b ≠ a) (hst : sw ≠ hs ((o + z) % 4)) (hc : f 4 sw 2 = nI c) (hc4 : c ≤ 4) (hov : mj_chk 1 (f 1 b 11) = true) (hd : ∀ k, k < 4 → sp k ≠ sc k) : mj_x X 1 [.inr (0, h), .inr (4, sw)] (S, f, g) = some (none, (S, mj_u (mc_cst f (hs ((o + z) % 4)) a b sc sp c) 0 h 2 (nI (z + 1)), g)) := by
  have z1 := mc_record_a (X := X) (S := S) rfl hH ho ho4 hz hz4 hT hU hab hst hc hc4 hov hd
  simp (disch := omega) only [mj_x1, mj_g1_0, mj_g1_1, mj_g1_2, mj_g1_3, ↓reduceIte, Option.bind_some, Option.toList_some, Option.toList_none, List.cons_append, List.nil_append, mj_ixn, mj_add, mj_mul, mj_sub, mj_dv, mj_rmn, mj_ltT, mj_ltF, mj_leT, mj_leF, mj_eqT, mj_eqF, mj_z0T, mj_z0F, mj_bo0, mj_boc, mj_chk10, mj_chk11, hz]
  exact z1
theorem mc_record4 {hs : Nat → Nat} (hH : mc_HG g h hs) (ho : f 0 h 1 = nI o) (ho4 : o < 4) (hz : f 0 h 2 = nI 4) (hT : mc_TG g (hs (((o + 1) % 4 + 3) % 4)) a sc) (hU : mc_TG g sw b sp) (hab : b ≠ a) (hst : sw ≠ hs (((o + 1) % 4 + 3) % 4)) (hc : f 4 sw 2 = nI c) (hc4 : c ≤ 4) (hov : mj_chk 1 (f 1 b 11) = true) (hd : ∀ k, k < 4 → sp k ≠ sc k) : mj_x X 1 [.inr (0, h), .inr (4, sw)] (S, f, g) = some (none, (S, mj_u (mc_cst (mc_r1 f h o) (hs (((o + 1) % 4 + 3) % 4)) a b sc sp c) 0 h 2 (nI 4), g)) := by
  have z1 := mc_record_a (X := X) (S := S) (f := mc_r1 f h o) (o := (o + 1) % 4) (z := 3) rfl hH (by unfold mc_r1; rw [mj_uj (by decide), mj_us]) (by omega) (by unfold mc_r1; rw [mj_us]) (by omega) hT hU hab hst (by unfold mc_r1; rw [mj_uk (by decide), mj_uk (by decide)]; exact hc) hc4 (by unfold mc_r1; rw [mj_uk (by decide), mj_uk (by decide)]; exact hov) hd
  have e4 : ¬ nI 4 = 0 := by decide
  simp (disch := omega) only [mj_x1, mj_g1_0, mj_g1_1, mj_g1_2, mj_g1_3, mj_g1_4, mj_g1_5, mj_g1_6, mj_g1_7, mj_g1_8, mj_g1_9, mj_g1_10, mj_g1_11, mj_g1_12, mj_g1_13, mj_g1_14, mj_g1_15, mj_g1_16, mj_g1_17, ↓reduceIte, Option.bind_some, Option.toList_some, Option.toList_none, List.cons_append, List.nil_append, mj_ixn, mj_add, mj_mul, mj_sub, mj_dv, mj_rmn, mj_ltT, mj_ltF, mj_leT, mj_leF, mj_eqT, mj_eqF, mj_z0T, mj_z0F, mj_bo0, mj_boc, mj_chk10, mj_chk11, hz, ho, mj_uj]
  exact z1
theorem mc_restoreLatest {hs : Nat → Nat} (hH : mc_HG g h hs) (ho : f 0 h 1 = nI o) (ho4 : o < 4) (hz : f 0 h 2 = nI z) (hz0 : 0 < z) (hz4 : z ≤ 4) (hT : mc_TG g st a sc) (hU : mc_TG g (hs ((o + (z - 1)) % 4)) b sp) (hab : b ≠ a) (hst : hs ((o + (z - 1)) % 4) ≠ st) (hc : f 4 (hs ((o + (z - 1)) % 4)) 2 = nI c) (hc4 : c ≤ 4) (hov : mj_chk 1 (f 1 b 11) = true) (hd : ∀ k, k < 4 → sp k ≠ sc k) : mj_x X 2 [.inr (0, h), .inr (4, st)] (S, f, g) = some (none, (S, mc_cst (mj_u f 0 h 2 (nI (z - 1))) st a b sc sp c, g)) := by
  have t1 := hH.2 ((o + (z - 1)) % 4) (by omega)
  have k1 := mc_copyState (X := X) (S := S) (f := mj_u f 0 h 2 (nI (z - 1))) hT hU hab hst (by rw [mj_uk (by decide)]; exact hc) hc4 (by rw [mj_uk (by decide)]; exact hov) hd
  simp (disch := omega) only [mj_x2, mj_g2_0, mj_g2_1, mj_g2_2, mj_g2_3, mj_g2_4, mj_g2_5, mj_g2_6, mj_g2_7, mj_g2_8, mj_g2_9, mj_g2_10, mj_g2_11, mj_g2_12, mj_g2_13, mj_g2_14, mj_g2_15, mj_g2_16, mj_g2_17, mj_g2_18, ↓reduceIte, Option.bind_some, Option.toList_some, Option.toList_none, List.cons_append, List.nil_append, mj_ixn, mj_add, mj_mul, mj_sub, mj_dv, mj_rmn, mj_ltT, mj_ltF, mj_leT, mj_leF, mj_eqT, mj_eqF, mj_z0T, mj_z0F, mj_bo0, mj_boc, mj_chk10, mj_chk11, hH.1, ho, hz, mj_us, mj_uj, t1, k1]
end ST
