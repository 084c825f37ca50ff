/-! constructors -/
def mi_up (C : Nat → Nat) (k : Nat) : Nat → Nat := fun j => if j = k then C j + 1 else C j
def mj_ct (S : List (Nat × Nat)) (C : Nat → Nat) : Prop := (∀ k i, (k, i) ∈ S → i < mj_cnt k S) ∧ ∀ k, mj_cnt k S = C k
theorem mj_cnt_app (k : Nat) (x : Nat × Nat) (S : List (Nat × Nat)) : mj_cnt k (S ++ [x]) = if x.1 = k then mj_cnt k S + 1 else mj_cnt k S := by
  induction S with
  | nil =>
    show (if x.1 = k then 0 + 1 else 0) = _
    split <;> rfl
  | cons y S ih =>
    show (if y.1 = k then mj_cnt k (S ++ [x]) + 1 else mj_cnt k (S ++ [x])) = if x.1 = k then (if y.1 = k then mj_cnt k S + 1 else mj_cnt k S) + 1 else (if y.1 = k then mj_cnt k S + 1 else mj_cnt k S)
    rw [ih]
    split <;> split <;> rfl
theorem mj_nw {S : List (Nat × Nat)} {C : Nat → Nat} {k a : Nat} (h : mj_ct S C) (hk : C k = a) : mj_cnt k S = a ∧ (¬ (k, a) ∈ S) ∧ mj_ct (S ++ [(k, a)]) (mi_up C k) := by
  obtain ⟨h1, h2⟩ := h
  have e : mj_cnt k S = a := (h2 k).trans hk
  refine ⟨e, fun q_ => by have := h1 _ _ q_; omega, fun k2 i hi => ?_, fun k2 => ?_⟩
  · rw [mj_cnt_app]
    rcases List.mem_append.mp hi with q_ | q_
    · have := h1 _ _ q_
      split <;> omega
    · have q2 := List.mem_singleton.mp q_
      cases q2
      rw [if_pos rfl]
      omega
  · rw [mj_cnt_app]
    unfold mi_up
    by_cases c1 : k = k2
    · subst c1; rw [if_pos rfl, if_pos rfl, h2]
    · rw [if_neg c1, if_neg (fun q_ => c1 q_.symm), h2]
theorem mj_z_n {f : mj_F} {a n k i j : Nat} (h : ¬ (k = a ∧ i = n)) : mj_z f a n k i j = f k i j := by unfold mj_z; rw [if_neg h]
theorem mj_z_s {f : mj_F} {a n j : Nat} : mj_z f a n a n j = nI 0 := by unfold mj_z; rw [if_pos ⟨rfl, rfl⟩, nI_0]
theorem mj_n_n {g : mj_G} {a n k i j : Nat} (h : ¬ (k = a ∧ i = n)) : mj_n g a n k i j = g k i j := by unfold mj_n; rw [if_neg h]
theorem mj_w_n {g : mj_G} {k i j k2 i2 j2 : Nat} {v : Option (Nat × Nat)} (h : ¬ (k2 = k ∧ i2 = i ∧ j2 = j)) : mj_w g k i j v k2 i2 j2 = g k2 i2 j2 := by unfold mj_w; rw [if_neg h]
def mi_bd (S S2 : List (Nat × Nat)) (N M : Nat) : Prop := S2.length = S.length + N ∧ mj_sl S2 = mj_sl S + M
theorem mi_bd_a {S : List (Nat × Nat)} {k a M : Nat} (h : (mj_kd mj_Y k).2.2 = M) : mi_bd S (S ++ [(k, a)]) 1 M := by
  refine ⟨by rw [List.length_append]; rfl, ?_⟩
  unfold mj_sl
  rw [List.map_append, List.sum_append]
  show _ + (((mj_kd mj_Y k).2.2) + 0) = _
  rw [h]
  rfl
theorem mi_bd_t {S S2 S3 : List (Nat × Nat)} {N M N2 M2 N3 M3 : Nat} (h : mi_bd S S2 N M) (h2 : mi_bd S2 S3 N2 M2) (hN : N + N2 = N3) (hM : M + M2 = M3) : mi_bd S S3 N3 M3 := by
  obtain ⟨a1, a2⟩ := h
  obtain ⟨b1, b2⟩ := h2
  exact ⟨by omega, by omega⟩
theorem mi_bd_r {S : List (Nat × Nat)} : mi_bd S S 0 0 := ⟨rfl, rfl⟩
def mi_G (st a lo : Nat) (g G : mj_G) : Prop := ∀ k i j, ¬ ((k = 1 ∨ (8 ≤ k ∧ k ≤ 13)) ∧ i = a) → ¬ ((k = 4 ∨ k = 17) ∧ i = st) → ¬ ((k = 3 ∨ k = 15 ∨ k = 16) ∧ lo ≤ i ∧ i < lo + 4) → G k i j = g k i j
def mi_F (st a lo : Nat) (f F : mj_F) : Prop := ∀ k i j, ¬ ((k = 1 ∨ (8 ≤ k ∧ k ≤ 13)) ∧ i = a) → ¬ (k = 17 ∧ i = st) → ¬ ((k = 3 ∨ k = 15 ∨ k = 16) ∧ lo ≤ i ∧ i < lo + 4) → F k i j = f k i j
section CO
variable {X : mj_X} {S : List (Nat × Nat)} {f F : mj_F} {g G : mj_G} {C : Nat → Nat} {a st q lo : Nat}
theorem mi_lining (hC : mj_ct S C) (h8 : ∀ k, 8 ≤ k → k ≤ 13 → C k = a) : ∃ S2 F G C2, mj_x X 3 [.inr (1, a)] (S, f, g) = some (none, (S2, F, G)) ∧ mj_ct S2 C2 ∧ mi_bd S S2 6 196 ∧ (∀ j, C2 j = if 8 ≤ j ∧ j ≤ 13 then C j + 1 else C j) ∧ mc_LG G a ∧ (∃ f0, F = mc_lay f0 a 3 6) ∧ mr_F a f F ∧ ∀ k i j, ¬ ((k = 1 ∨ (8 ≤ k ∧ k ≤ 13)) ∧ i = a) → G k i j = g k i j := by
  obtain ⟨a1, a2, a3⟩ := mj_nw (k := 8) hC (h8 8 (by omega) (by omega))
  have s1 : mj_x X 3 [.inr (1, a)] (S, f, g) = mj_g X 3 6 [some (.inr (1, a))] [] (S ++ [(8, a)], mj_z f 8 a, mj_w (mj_n g 8 a) 1 a 3 (some (8, a))) := by
    simp only [mj_x3, mj_g3_0, mj_g3_1, mj_g3_2, mj_g3_3, mj_g3_4, mj_g3_5, a1, a2, ↓reduceIte]
  have m1 : mi_bd S (S ++ [(8, a)]) 1 60 := mi_bd_a rfl
  generalize S ++ [(8, a)] = S1 at a3 s1 m1
  obtain ⟨b1, b2, b3⟩ := mj_nw (k := 9) a3 (show mi_up C 8 9 = a from h8 9 (by omega) (by omega))
  have s2 : ∀ f g, mj_g X 3 6 [some (.inr (1, a))] [] (S1, f, g) = mj_g X 3 10 [some (.inr (1, a))] [] (S1 ++ [(9, a)], mj_z f 9 a, mj_w (mj_n g 9 a) 1 a 4 (some (9, a))) := fun f g => by
    simp only [mj_g3_6, mj_g3_7, mj_g3_8, mj_g3_9, b1, b2, ↓reduceIte]
  have m2 : mi_bd S1 (S1 ++ [(9, a)]) 1 60 := mi_bd_a rfl
  generalize S1 ++ [(9, a)] = S2 at b3 s2 m2
  obtain ⟨c1, c2, c3⟩ := mj_nw (k := 10) b3 (show mi_up (mi_up C 8) 9 10 = a from h8 10 (by omega) (by omega))
  have s3 : ∀ f g, mj_g X 3 10 [some (.inr (1, a))] [] (S2, f, g) = mj_g X 3 14 [some (.inr (1, a))] [] (S2 ++ [(10, a)], mj_z f 10 a, mj_w (mj_n g 10 a) 1 a 5 (some (10, a))) := fun f g => by
    simp only [mj_g3_10, mj_g3_11, mj_g3_12, mj_g3_13, c1, c2, ↓reduceIte]
  have m3 : mi_bd S2 (S2 ++ [(10, a)]) 1 6 := mi_bd_a rfl
  generalize S2 ++ [(10, a)] = S3 at c3 s3 m3
  obtain ⟨d1, d2, d3⟩ := mj_nw (k := 11) c3 (show mi_up (mi_up (mi_up C 8) 9) 10 11 = a from h8 11 (by omega) (by omega))
  have s4 : ∀ f g, mj_g X 3 14 [some (.inr (1, a))] [] (S3, f, g) = mj_g X 3 18 [some (.inr (1, a))] [] (S3 ++ [(11, a)], mj_z f 11 a, mj_w (mj_n g 11 a) 1 a 6 (some (11, a))) := fun f g => by
    simp only [mj_g3_14, mj_g3_15, mj_g3_16, mj_g3_17, d1, d2, ↓reduceIte]
  have m4 : mi_bd S3 (S3 ++ [(11, a)]) 1 6 := mi_bd_a rfl
  generalize S3 ++ [(11, a)] = S4 at d3 s4 m4
  obtain ⟨e1, e2, e3⟩ := mj_nw (k := 12) d3 (show mi_up (mi_up (mi_up (mi_up C 8) 9) 10) 11 12 = a from h8 12 (by omega) (by omega))
  have s5 : ∀ f g, mj_g X 3 18 [some (.inr (1, a))] [] (S4, f, g) = mj_g X 3 22 [some (.inr (1, a))] [] (S4 ++ [(12, a)], mj_z f 12 a, mj_w (mj_n g 12 a) 1 a 7 (some (12, a))) := fun f g => by
    simp only [mj_g3_18, mj_g3_19, mj_g3_20, mj_g3_21, e1, e2, ↓reduceIte]
  have m5 : mi_bd S4 (S4 ++ [(12, a)]) 1 4 := mi_bd_a rfl
  generalize S4 ++ [(12, a)] = S5 at e3 s5 m5
  obtain ⟨t1, t2, t3⟩ := mj_nw (k := 13) e3 (show mi_up (mi_up (mi_up (mi_up (mi_up C 8) 9) 10) 11) 12 13 = a from h8 13 (by omega) (by omega))
  have s6 : ∀ f g, mj_g X 3 22 [some (.inr (1, a))] [] (S5, f, g) = mj_g X 3 26 [some (.inr (1, a))] [] (S5 ++ [(13, a)], mj_z f 13 a, mj_w (mj_n g 13 a) 1 a 12 (some (13, a))) := fun f g => by
    simp only [mj_g3_22, mj_g3_23, mj_g3_24, mj_g3_25, t1, t2, ↓reduceIte]
  have m6 : mi_bd S5 (S5 ++ [(13, a)]) 1 60 := mi_bd_a rfl
  generalize S5 ++ [(13, a)] = S6 at t3 s6 m6
  rw [s1, s2, s3, s4, s5, s6]
  have hz : mr_F a f (mj_z (mj_z (mj_z (mj_z (mj_z (mj_z f 8 a) 9 a) 10 a) 11 a) 12 a) 13 a) := fun k i j hn => by
    rw [mj_z_n (by omega), mj_z_n (by omega), mj_z_n (by omega), mj_z_n (by omega), mj_z_n (by omega), mj_z_n (by omega)]
  generalize mj_z (mj_z (mj_z (mj_z (mj_z (mj_z f 8 a) 9 a) 10 a) 11 a) 12 a) 13 a = f0 at hz
  have hLG : mc_LG (mj_w (mj_n (mj_w (mj_n (mj_w (mj_n (mj_w (mj_n (mj_w (mj_n (mj_w (mj_n g 8 a) 1 a 3 (some (8, a))) 9 a) 1 a 4 (some (9, a))) 10 a) 1 a 5 (some (10, a))) 11 a) 1 a 6 (some (11, a))) 12 a) 1 a 7 (some (12, a))) 13 a) 1 a 12 (some (13, a))) a := by
    refine ⟨?_, ?_, ?_, ?_, ?_, mj_wq⟩
    · rw [mj_w_n (by omega), mj_n_n (by omega), mj_w_n (by omega), mj_n_n (by omega), mj_w_n (by omega), mj_n_n (by omega), mj_w_n (by omega), mj_n_n (by omega), mj_w_n (by omega), mj_n_n (by omega), mj_wq]
    · rw [mj_w_n (by omega), mj_n_n (by omega), mj_w_n (by omega), mj_n_n (by omega), mj_w_n (by omega), mj_n_n (by omega), mj_w_n (by omega), mj_n_n (by omega), mj_wq]
    · rw [mj_w_n (by omega), mj_n_n (by omega), mj_w_n (by omega), mj_n_n (by omega), mj_w_n (by omega), mj_n_n (by omega), mj_wq]
    · rw [mj_w_n (by omega), mj_n_n (by omega), mj_w_n (by omega), mj_n_n (by omega), mj_wq]
    · rw [mj_w_n (by omega), mj_n_n (by omega), mj_wq]
  have hGf : ∀ k i j, ¬ ((k = 1 ∨ (8 ≤ k ∧ k ≤ 13)) ∧ i = a) → (mj_w (mj_n (mj_w (mj_n (mj_w (mj_n (mj_w (mj_n (mj_w (mj_n (mj_w (mj_n g 8 a) 1 a 3 (some (8, a))) 9 a) 1 a 4 (some (9, a))) 10 a) 1 a 5 (some (10, a))) 11 a) 1 a 6 (some (11, a))) 12 a) 1 a 7 (some (12, a))) 13 a) 1 a 12 (some (13, a))) k i j = g k i j := fun k i j hn => by
    rw [mj_w_n (by omega), mj_n_n (by omega), mj_w_n (by omega), mj_n_n (by omega), mj_w_n (by omega), mj_n_n (by omega), mj_w_n (by omega), mj_n_n (by omega), mj_w_n (by omega), mj_n_n (by omega), mj_w_n (by omega), mj_n_n (by omega)]
  generalize (mj_w (mj_n (mj_w (mj_n (mj_w (mj_n (mj_w (mj_n (mj_w (mj_n (mj_w (mj_n g 8 a) 1 a 3 (some (8, a))) 9 a) 1 a 4 (some (9, a))) 10 a) 1 a 5 (some (10, a))) 11 a) 1 a 6 (some (11, a))) 12 a) 1 a 7 (some (12, a))) 13 a) 1 a 12 (some (13, a))) = G at hLG hGf
  have ly := mc_layNew (X := X) (S := S6) (f := f0) (r := 3) (s := 6) (n := 18) hLG ⟨by omega, by omega, by omega, by omega, rfl⟩
  refine ⟨S6, mc_lay f0 a 3 6, G, _, ?_, t3, mi_bd_t (mi_bd_t (mi_bd_t (mi_bd_t (mi_bd_t m1 m2 rfl rfl) m3 rfl rfl) m4 rfl rfl) m5 rfl rfl) m6 rfl rfl, fun j => ?_, hLG, ⟨f0, rfl⟩, mr_F_t hz mr_F_lay, hGf⟩
  · simp only [mj_g3_26, mj_g3_27, mj_g3_28, mj_g3_29, mj_g3_30, ly, Option.bind_some, Option.toList_none, List.nil_append]
  · by_cases hj : 8 ≤ j ∧ j ≤ 13
    · rw [if_pos hj]
      have hj6 : j = 8 ∨ j = 9 ∨ j = 10 ∨ j = 11 ∨ j = 12 ∨ j = 13 := by omega
      rcases hj6 with rfl | rfl | rfl | rfl | rfl | rfl <;> rfl
    · rw [if_neg hj]
      unfold mi_up
      rw [if_neg (by omega), if_neg (by omega), if_neg (by omega), if_neg (by omega), if_neg (by omega), if_neg (by omega)]
theorem mi_scan (hC : mj_ct S C) (h15 : C 15 = q) (h16 : C 16 = q) : ∃ S2 F G C2, mj_x X 33 [.inr (3, q)] (S, f, g) = some (none, (S2, F, G)) ∧ mj_ct S2 C2 ∧ mi_bd S S2 2 120 ∧ (∀ j, C2 j = if j = 15 ∨ j = 16 then C j + 1 else C j) ∧ mc_SG G q ∧ (∀ k i j, ¬ ((k = 15 ∨ k = 16) ∧ i = q) → F k i j = f k i j) ∧ ∀ k i j, ¬ ((k = 3 ∨ k = 15 ∨ k = 16) ∧ i = q) → G k i j = g k i j := by
  obtain ⟨a1, a2, a3⟩ := mj_nw (k := 15) hC h15
  have s1 : mj_x X 33 [.inr (3, q)] (S, f, g) = mj_g X 33 6 [some (.inr (3, q))] [] (S ++ [(15, q)], mj_z f 15 q, mj_w (mj_n g 15 q) 3 q 0 (some (15, q))) := by
    simp only [mj_x33, mj_g33_0, mj_g33_1, mj_g33_2, mj_g33_3, mj_g33_4, mj_g33_5, a1, a2, ↓reduceIte]
  have m1 : mi_bd S (S ++ [(15, q)]) 1 60 := mi_bd_a rfl
  generalize S ++ [(15, q)] = S1 at a3 s1 m1
  obtain ⟨b1, b2, b3⟩ := mj_nw (k := 16) a3 (show mi_up C 15 16 = q from h16)
  refine ⟨S1 ++ [(16, q)], mj_z (mj_z f 15 q) 16 q, mj_w (mj_n (mj_w (mj_n g 15 q) 3 q 0 (some (15, q))) 16 q) 3 q 1 (some (16, q)), _, ?_, b3, mi_bd_t m1 (mi_bd_a rfl) rfl rfl, fun j => ?_, ⟨?_, mj_wq⟩, fun k i j hn => ?_, fun k i j hn => ?_⟩
  · rw [s1]
    simp only [mj_g33_6, mj_g33_7, mj_g33_8, mj_g33_9, mj_g33_10, b1, b2, ↓reduceIte]
  · unfold mi_up
    by_cases c1 : j = 15
    · subst c1; rfl
    · by_cases c2 : j = 16
      · subst c2; rfl
      · rw [if_neg c2, if_neg c1, if_neg (by omega)]
  · rw [mj_w_n (by omega), mj_n_n (by omega), mj_wq]
  · rw [mj_z_n (by omega), mj_z_n (by omega)]
  · rw [mj_w_n (by omega), mj_n_n (by omega), mj_w_n (by omega), mj_n_n (by omega)]
theorem mi_statel {l1 : Nat} (hl : l1 = 0) (h17 : g 4 st 1 = some (17, st)) : ∀ (m k : Nat) (S : List (Nat × Nat)) (f : mj_F) (g : mj_G) (C : Nat → Nat), k + m = 4 → mj_ct S C → C 3 = lo + k → C 15 = lo + k → C 16 = lo + k → g 4 st 1 = some (17, st) → (∀ j, j < k → g 17 st j = some (3, lo + j) ∧ mc_SG g (lo + j)) → ∃ S2 F G C2, mj_g X 38 13 [some (.inr (4, st)), some (.inl (nI k))] [] (S, f, g) = some (none, (S2, F, G)) ∧ mj_ct S2 C2 ∧ mi_bd S S2 (3 * m) (123 * m) ∧ (∀ j, C2 j = if j = 3 ∨ j = 15 ∨ j = 16 then C j + m else C j) ∧ (∀ j, j < 4 → G 17 st j = some (3, lo + j) ∧ mc_SG G (lo + j)) ∧ (∀ k i j, ¬ ((k = 3 ∨ k = 15 ∨ k = 16) ∧ lo ≤ i ∧ i < lo + 4) → F k i j = f k i j) ∧ ∀ k i j, ¬ (k = 17 ∧ i = st) → ¬ ((k = 3 ∨ k = 15 ∨ k = 16) ∧ lo ≤ i ∧ i < lo + 4) → G k i j = g k i j := by
  intro m
  induction m with
  | zero =>
    intro k S f g C hk hC h3 h15 h16 h17 hsc
    have hk4 : k = 4 := by omega
    subst hk4
    refine ⟨S, f, g, C, ?_, hC, mi_bd_r, fun j => by split <;> rfl, hsc, fun _ _ _ _ => rfl, fun _ _ _ _ _ => rfl⟩
    refine Eq.trans mj_g38_13 ?_
    simp (disch := omega) only [mj_g38_14, mj_g38_15, mj_g38_25, ↓reduceIte, Option.bind_some, Option.toList_some, Option.toList_none, List.cons_append, List.nil_append, mj_ixn, mj_add, mj_mul, mj_sub, mj_dv, mj_rmn, mj_ltT, mj_ltF, mj_leT, mj_leF, mj_eqT, mj_eqF, mj_z0T, mj_z0F, mj_bo0, mj_boc, mj_chk10, mj_chk11, and_self, not_true, not_false_eq_true]
  | succ m ih =>
    intro k S f g C hk hC h3 h15 h16 h17 hsc
    obtain ⟨a1, a2, a3⟩ := mj_nw (k := 3) hC h3
    have m1 : mi_bd S (S ++ [(3, lo + k)]) 1 3 := mi_bd_a rfl
    obtain ⟨S2, F2, G2, C2, e1, e2, m2, e3, e4, e5, e6⟩ := mi_scan (X := X) (f := mj_z f 3 (lo + k)) (g := mj_n g 3 (lo + k)) a3 (show mi_up C 3 15 = lo + k from h15) (show mi_up C 3 16 = lo + k from h16)
    have c3 : C2 3 = lo + (k + 1) := by
      rw [e3, if_neg (by omega)]
      show C 3 + 1 = _
      omega
    have c15 : C2 15 = lo + (k + 1) := by
      rw [e3, if_pos (by omega)]
      show C 15 + 1 = _
      omega
    have c16 : C2 16 = lo + (k + 1) := by
      rw [e3, if_pos (by omega)]
      show C 16 + 1 = _
      omega
    have gw : ∀ k2 i j, ¬ (k2 = 17 ∧ i = st ∧ j = k) → ¬ ((k2 = 3 ∨ k2 = 15 ∨ k2 = 16) ∧ i = lo + k) → mj_w G2 17 st k (some (3, lo + k)) k2 i j = g k2 i j := fun k2 i j n1 n2 => by
      rw [mj_w_n n1, e6 _ _ _ n2, mj_n_n (by omega)]
    obtain ⟨S3, F3, G3, C3, i1, i2, m3, i3, i4, i5, i6⟩ := ih (k + 1) S2 F2 (mj_w G2 17 st k (some (3, lo + k))) C2 (by omega) e2 c3 c15 c16 (by rw [gw _ _ _ (by omega) (by omega)]; exact h17) (fun j hj => by
      by_cases c1 : j = k
      · subst c1
        exact ⟨mj_wq, by rw [mj_w_n (by omega)]; exact e4.1, by rw [mj_w_n (by omega)]; exact e4.2⟩
      · obtain ⟨q1, q2, q3⟩ := hsc j (by omega)
        exact ⟨by rw [gw _ _ _ (by omega) (by omega)]; exact q1, by rw [gw _ _ _ (by omega) (by omega)]; exact q2, by rw [gw _ _ _ (by omega) (by omega)]; exact q3⟩)
    refine ⟨S3, F3, G3, C3, ?_, i2, mi_bd_t (mi_bd_t m1 m2 rfl rfl) m3 (by omega) (by omega), fun j => ?_, i4, fun k2 i j hn => ?_, fun k2 i j n1 n2 => ?_⟩
    · rw [← i1]
      have h17b : g 4 st 1 = some (17, st) := h17
      refine Eq.trans mj_g38_13 ?_
      simp (disch := omega) only [mj_g38_14, mj_g38_15, mj_g38_16, mj_g38_17, mj_g38_18, mj_g38_19, mj_g38_20, mj_g38_21, mj_g38_22, mj_g38_23, mj_g38_24, ↓reduceIte, Option.bind_some, Option.toList_some, Option.toList_none, List.cons_append, List.nil_append, mj_ixn, mj_add, mj_mul, mj_sub, mj_dv, mj_rmn, mj_ltT, mj_ltF, mj_leT, mj_leF, mj_eqT, mj_eqF, mj_z0T, mj_z0F, mj_bo0, mj_boc, mj_chk10, mj_chk11, and_self, not_true, not_false_eq_true, h17b, a1, a2, e1]
    · rw [i3, e3]
      by_cases c1 : j = 3
      · subst c1
        rw [if_pos (by omega), if_neg (by omega), if_pos (by omega)]
        show C 3 + 1 + m = C 3 + (m + 1)
        omega
      · have u1 : mi_up C 3 j = C j := by unfold mi_up; rw [if_neg c1]
        rw [u1]
        by_cases c2 : j = 15 ∨ j = 16
        · rw [if_pos (by omega), if_pos c2, if_pos (by omega)]; omega
        · rw [if_neg (by omega), if_neg c2, if_neg (by omega)]
    · rw [i5 _ _ _ hn, e5 _ _ _ (by omega), mj_z_n (by omega)]
    · rw [i6 _ _ _ n1 n2, gw _ _ _ (by omega) (by omega)]
theorem mi_state (hC : mj_ct S C) (h1 : C 1 = a) (h8 : ∀ k, 8 ≤ k → k ≤ 13 → C k = a) (h17 : C 17 = st) (h3 : C 3 = lo) (h15 : C 15 = lo) (h16 : C 16 = lo) : ∃ S2 F G C2, mj_x X 38 [.inr (4, st)] (S, f, g) = some (none, (S2, F, G)) ∧ mj_ct S2 C2 ∧ mi_bd S S2 20 705 ∧ (∀ j, C2 j = if j = 3 ∨ j = 15 ∨ j = 16 then C j + 4 else if j = 1 ∨ j = 17 ∨ (8 ≤ j ∧ j ≤ 13) then C j + 1 else C j) ∧ mc_TG G st a (fun j => lo + j) ∧ mr_L F a (sp_bg 3 6 18) 3 6 18 ∧ mi_F st a lo f F ∧ mi_G st a lo g G := by
  obtain ⟨a1, a2, a3⟩ := mj_nw (k := 1) hC h1
  have m1 : mi_bd S (S ++ [(1, a)]) 1 13 := mi_bd_a rfl
  obtain ⟨S2, F2, G2, C2, e1, e2, m2, e3, e4, ⟨f0, e5⟩, e6, e7⟩ := mi_lining (X := X) (a := a) (f := mj_z f 1 a) (g := mj_n g 1 a) a3 (fun k k1 k2 => by
    have : mi_up C 1 k = C k := by unfold mi_up; rw [if_neg (by omega)]
    rw [this]
    exact h8 k k1 k2)
  have u : ∀ j, j ≠ 1 → mi_up C 1 j = C j := fun j hj => by unfold mi_up; rw [if_neg hj]
  obtain ⟨b1, b2, b3⟩ := mj_nw (k := 17) e2 (show C2 17 = st by rw [e3, if_neg (by omega), u _ (by omega)]; exact h17)
  have g0 : mj_x X 38 [.inr (4, st)] (S, f, g) = mj_g X 38 13 [some (.inr (4, st)), some (.inl (nI 0))] [] (S2 ++ [(17, st)], mj_z F2 17 st, mj_w (mj_n (mj_w G2 4 st 0 (some (1, a))) 17 st) 4 st 1 (some (17, st))) := by
    simp only [mj_x38, mj_g38_0, mj_g38_1, mj_g38_2, mj_g38_3, mj_g38_4, mj_g38_5, mj_g38_6, mj_g38_7, mj_g38_8, mj_g38_9, mj_g38_10, mj_g38_11, mj_g38_12, a1, a2, e1, b1, b2, ↓reduceIte, Option.bind_some, Option.toList_none, List.nil_append]
  have m3 : mi_bd S2 (S2 ++ [(17, st)]) 1 4 := mi_bd_a rfl
  generalize S2 ++ [(17, st)] = S3 at b3 g0 m3
  have v : ∀ j, j ≠ 17 → mi_up C2 17 j = C2 j := fun j hj => by unfold mi_up; rw [if_neg hj]
  have cc : ∀ j, j = 3 ∨ j = 15 ∨ j = 16 → mi_up C2 17 j = lo := fun j hj => by
    rw [v _ (by omega), e3, if_neg (by omega), u _ (by omega)]
    rcases hj with rfl | rfl | rfl
    · exact h3
    · exact h15
    · exact h16
  have gg : ∀ k i j, ¬ ((k = 1 ∨ (8 ≤ k ∧ k ≤ 13)) ∧ i = a) → ¬ ((k = 4 ∨ k = 17) ∧ i = st) → mj_w (mj_n (mj_w G2 4 st 0 (some (1, a))) 17 st) 4 st 1 (some (17, st)) k i j = g k i j := fun k i j n1 n2 => by
    rw [mj_w_n (by omega), mj_n_n (by omega), mj_w_n (by omega), e7 _ _ _ n1, mj_n_n (by omega)]
  obtain ⟨S4, F4, G4, C4, i1, i2, m4, i3, i4, i5, i6⟩ := mi_statel (X := X) (lo := lo) (l1 := 0) (g := mj_w (mj_n (mj_w G2 4 st 0 (some (1, a))) 17 st) 4 st 1 (some (17, st))) (st := st) rfl mj_wq 4 0 S3 (mj_z F2 17 st) (mj_w (mj_n (mj_w G2 4 st 0 (some (1, a))) 17 st) 4 st 1 (some (17, st))) (mi_up C2 17) rfl b3 (cc 3 (by omega)) (cc 15 (by omega)) (cc 16 (by omega)) mj_wq (fun j hj => by omega)
  have gl : ∀ k i j, k = 1 → G4 k i j = G2 k i j := fun k i j hk => by rw [i6 _ _ _ (by omega) (by omega), mj_w_n (by omega), mj_n_n (by omega), mj_w_n (by omega)]
  refine ⟨S4, F4, G4, C4, g0.trans i1, i2, mi_bd_t (mi_bd_t (mi_bd_t m1 m2 rfl rfl) m3 rfl rfl) m4 rfl rfl, fun j => ?_, ⟨?_, ?_, ?_, i4⟩, ?_, fun k i j n1 n2 n3 => ?_, fun k i j n1 n2 n3 => ?_⟩
  · rw [i3]
    by_cases c1 : j = 3 ∨ j = 15 ∨ j = 16
    · rw [if_pos c1, if_pos c1, v _ (by omega), e3, if_neg (by omega), u _ (by omega)]
    · rw [if_neg c1, if_neg c1]
      by_cases c2 : j = 17
      · subst c2
        rw [if_pos (by omega)]
        show C2 17 + 1 = C 17 + 1
        rw [e3, if_neg (by omega), u _ (by omega)]
      · rw [v _ c2, e3]
        by_cases c3 : 8 ≤ j ∧ j ≤ 13
        · rw [if_pos c3, if_pos (by omega), u _ (by omega)]
        · rw [if_neg c3]
          by_cases c4 : j = 1
          · subst c4; rw [if_pos (by omega)]; rfl
          · rw [u _ c4, if_neg (by omega)]
  · rw [i6 _ _ _ (by omega) (by omega), mj_w_n (by omega), mj_n_n (by omega), mj_wq]
  · rw [i6 _ _ _ (by omega) (by omega), mj_wq]
  · obtain ⟨l1, l2, l3, l4, l5, l6⟩ := e4
    exact ⟨by rw [gl _ _ _ rfl]; exact l1, by rw [gl _ _ _ rfl]; exact l2, by rw [gl _ _ _ rfl]; exact l3, by rw [gl _ _ _ rfl]; exact l4, by rw [gl _ _ _ rfl]; exact l5, by rw [gl _ _ _ rfl]; exact l6⟩
  · have hl := mr_L_lay (f := f0) (a := a) (r := 3) (s := 6) (n := 18) ⟨by omega, by omega, by omega, by omega, rfl⟩
    rw [← e5] at hl
    exact mr_L_e hl (fun k j hk => by rw [i5 _ _ _ (by omega), mj_z_n (by omega)])
  · rw [i5 _ _ _ n3, mj_z_n n2, e6 _ _ _ n1, mj_z_n (by omega)]
  · rw [i6 _ _ _ (by omega) n3, gg _ _ _ n1 n2]
theorem mi_histl : ∀ (m k : Nat) (S : List (Nat × Nat)) (f : mj_F) (g : mj_G) (C : Nat → Nat), k + m = 4 → mj_ct S C → C 4 = k + 1 → C 1 = k + 2 → (∀ j, 8 ≤ j → j ≤ 13 → C j = k + 2) → C 17 = k + 1 → C 3 = 4 * (k + 1) → C 15 = 4 * (k + 1) → C 16 = 4 * (k + 1) → g 0 0 0 = some (7, 0) → (∀ j, j < k → g 7 0 j = some (4, j + 1) ∧ mc_TG g (j + 1) (j + 2) (fun i => 4 * (j + 1) + i)) → ∃ S2 F G C2, mj_g X 0 8 [some (.inr (0, 0)), some (.inl (nI k))] [] (S, f, g) = some (none, (S2, F, G)) ∧ mj_ct S2 C2 ∧ mi_bd S S2 (21 * m) (708 * m) ∧ (∀ j, ¬ (j = 1 ∨ j = 3 ∨ j = 4 ∨ (8 ≤ j ∧ j ≤ 13) ∨ j = 15 ∨ j = 16 ∨ j = 17) → C2 j = C j) ∧ (∀ j, j < 4 → G 7 0 j = some (4, j + 1) ∧ mc_TG G (j + 1) (j + 2) (fun i => 4 * (j + 1) + i)) ∧ (∀ k2 i j, ¬ ((k2 = 1 ∨ (8 ≤ k2 ∧ k2 ≤ 13)) ∧ 2 ≤ i) → ¬ ((k2 = 4 ∨ k2 = 17) ∧ 1 ≤ i) → ¬ ((k2 = 3 ∨ k2 = 15 ∨ k2 = 16) ∧ 4 ≤ i) → F k2 i j = f k2 i j) ∧ ∀ k2 i j, ¬ ((k2 = 1 ∨ (8 ≤ k2 ∧ k2 ≤ 13)) ∧ 2 ≤ i) → ¬ ((k2 = 4 ∨ k2 = 17) ∧ 1 ≤ i) → ¬ ((k2 = 3 ∨ k2 = 15 ∨ k2 = 16) ∧ 4 ≤ i) → ¬ (k2 = 7 ∧ i = 0) → G k2 i j = g k2 i j := by
  intro m
  induction m with
  | zero =>
    intro k S f g C hk hC h4 h1 h8 h17 h3 h15 h16 h0 hst
    have hk4 : k = 4 := by omega
    subst hk4
    refine ⟨S, f, g, C, ?_, hC, mi_bd_r, fun _ _ => rfl, hst, fun _ _ _ _ _ _ => rfl, fun _ _ _ _ _ _ _ => rfl⟩
    refine Eq.trans mj_g0_8 ?_
    simp (disch := omega) only [mj_g0_9, mj_g0_10, mj_g0_20, ↓reduceIte, Option.bind_some, Option.toList_some, Option.toList_none, List.cons_append, List.nil_append, mj_ixn, mj_add, mj_mul, mj_sub, mj_dv, mj_rmn, mj_ltT, mj_ltF, mj_leT, mj_leF, mj_eqT, mj_eqF, mj_z0T, mj_z0F, mj_bo0, mj_boc, mj_chk10, mj_chk11, and_self, not_true, not_false_eq_true]
  | succ m ih =>
    intro k S f g C hk hC h4 h1 h8 h17 h3 h15 h16 h0 hst
    obtain ⟨a1, a2, a3⟩ := mj_nw (k := 4) hC h4
    have u : ∀ j, j ≠ 4 → mi_up C 4 j = C j := fun j hj => by unfold mi_up; rw [if_neg hj]
    have m1 : mi_bd S (S ++ [(4, k + 1)]) 1 3 := mi_bd_a rfl
    obtain ⟨S2, F2, G2, C2, e1, e2, m2, e3, e4, e5, e6, e7⟩ := mi_state (X := X) (st := k + 1) (a := k + 2) (lo := 4 * (k + 1)) (f := mj_z f 4 (k + 1)) (g := mj_n g 4 (k + 1)) a3 (by rw [u _ (by omega)]; exact h1) (fun j j1 j2 => by rw [u _ (by omega)]; exact h8 j j1 j2) (by rw [u _ (by omega)]; exact h17) (by rw [u _ (by omega)]; exact h3) (by rw [u _ (by omega)]; exact h15) (by rw [u _ (by omega)]; exact h16)
    have gw : ∀ k2 i j, ¬ ((k2 = 1 ∨ (8 ≤ k2 ∧ k2 ≤ 13)) ∧ i = k + 2) → ¬ ((k2 = 4 ∨ k2 = 17) ∧ i = k + 1) → ¬ ((k2 = 3 ∨ k2 = 15 ∨ k2 = 16) ∧ 4 * (k + 1) ≤ i ∧ i < 4 * (k + 1) + 4) → ¬ (k2 = 7 ∧ i = 0 ∧ j = k) → mj_w G2 7 0 k (some (4, k + 1)) k2 i j = g k2 i j := fun k2 i j n1 n2 n3 n4 => by
      rw [mj_w_n n4, e7 _ _ _ n1 n2 n3, mj_n_n (by omega)]
    have c4 : C2 4 = k + 1 + 1 := by rw [e3, if_neg (by omega), if_neg (by omega)]; show C 4 + 1 = _; omega
    have c1 : C2 1 = k + 1 + 2 := by rw [e3, if_neg (by omega), if_pos (by omega), u _ (by omega)]; omega
    have c8 : ∀ j, 8 ≤ j → j ≤ 13 → C2 j = k + 1 + 2 := fun j j1 j2 => by rw [e3, if_neg (by omega), if_pos (by omega), u _ (by omega), h8 j j1 j2]
    have c17 : C2 17 = k + 1 + 1 := by rw [e3, if_neg (by omega), if_pos (by omega), u _ (by omega)]; omega
    have c3 : C2 3 = 4 * (k + 1 + 1) := by rw [e3, if_pos (by omega), u _ (by omega)]; omega
    have c15 : C2 15 = 4 * (k + 1 + 1) := by rw [e3, if_pos (by omega), u _ (by omega)]; omega
    have c16 : C2 16 = 4 * (k + 1 + 1) := by rw [e3, if_pos (by omega), u _ (by omega)]; omega
    obtain ⟨S3, F3, G3, C3, i1, i2, m3, i3, i4, i5, i6⟩ := ih (k + 1) S2 F2 (mj_w G2 7 0 k (some (4, k + 1))) C2 (by omega) e2 c4 c1 c8 c17 c3 c15 c16 (by rw [gw _ _ _ (by omega) (by omega) (by omega) (by omega)]; exact h0) (fun j hj => by
      by_cases cj : j = k
      · subst cj
        obtain ⟨t1, t2, ⟨l1, l2, l3, l4, l5, l6⟩, t4⟩ := e4
        refine ⟨mj_wq, by rw [mj_w_n (by omega)]; exact t1, by rw [mj_w_n (by omega)]; exact t2, ⟨?_, ?_, ?_, ?_, ?_, ?_⟩, fun i hi => ⟨?_, ?_, ?_⟩⟩
        · rw [mj_w_n (by omega)]; exact l1
        · rw [mj_w_n (by omega)]; exact l2
        · rw [mj_w_n (by omega)]; exact l3
        · rw [mj_w_n (by omega)]; exact l4
        · rw [mj_w_n (by omega)]; exact l5
        · rw [mj_w_n (by omega)]; exact l6
        · rw [mj_w_n (by omega)]; exact (t4 i hi).1
        · rw [mj_w_n (by omega)]; exact (t4 i hi).2.1
        · rw [mj_w_n (by omega)]; exact (t4 i hi).2.2
      · obtain ⟨q1, t1, t2, ⟨l1, l2, l3, l4, l5, l6⟩, t4⟩ := hst j (by omega)
        refine ⟨by rw [gw _ _ _ (by omega) (by omega) (by omega) (by omega)]; exact q1, by rw [gw _ _ _ (by omega) (by omega) (by omega) (by omega)]; exact t1, by rw [gw _ _ _ (by omega) (by omega) (by omega) (by omega)]; exact t2, ⟨?_, ?_, ?_, ?_, ?_, ?_⟩, fun i hi => ?_⟩
        · rw [gw _ _ _ (by omega) (by omega) (by omega) (by omega)]; exact l1
        · rw [gw _ _ _ (by omega) (by omega) (by omega) (by omega)]; exact l2
        · rw [gw _ _ _ (by omega) (by omega) (by omega) (by omega)]; exact l3
        · rw [gw _ _ _ (by omega) (by omega) (by omega) (by omega)]; exact l4
        · rw [gw _ _ _ (by omega) (by omega) (by omega) (by omega)]; exact l5
        · rw [gw _ _ _ (by omega) (by omega) (by omega) (by omega)]; exact l6
        · have hb : (fun i => 4 * (j + 1) + i) i = 4 * (j + 1) + i := rfl
          obtain ⟨q2, q3, q4⟩ := t4 i hi
          rw [hb] at q2 q3 q4 ⊢
          exact ⟨by rw [gw _ _ _ (by omega) (by omega) (by omega) (by omega)]; exact q2, by rw [gw _ _ _ (by omega) (by omega) (by omega) (by omega)]; exact q3, by rw [gw _ _ _ (by omega) (by omega) (by omega) (by omega)]; exact q4⟩)
    refine ⟨S3, F3, G3, C3, ?_, i2, mi_bd_t (mi_bd_t m1 m2 rfl rfl) m3 (by omega) (by omega), fun j hj => ?_, i4, fun k2 i j n1 n2 n3 => ?_, fun k2 i j n1 n2 n3 n4 => ?_⟩
    · rw [← i1]
      refine Eq.trans mj_g0_8 ?_
      simp (disch := omega) only [mj_g0_9, mj_g0_10, mj_g0_11, mj_g0_12, mj_g0_13, mj_g0_14, mj_g0_15, mj_g0_16, mj_g0_17, mj_g0_18, mj_g0_19, ↓reduceIte, Option.bind_some, Option.toList_some, Option.toList_none, List.cons_append, List.nil_append, mj_ixn, mj_add, mj_mul, mj_sub, mj_dv, mj_rmn, mj_ltT, mj_ltF, mj_leT, mj_leF, mj_eqT, mj_eqF, mj_z0T, mj_z0F, mj_bo0, mj_boc, mj_chk10, mj_chk11, and_self, not_true, not_false_eq_true, h0, a1, a2, e1]
    · rw [i3 j hj, e3, if_neg (by omega), if_neg (by omega), u _ (by omega)]
    · rw [i5 _ _ _ n1 n2 n3, e6 _ _ _ (by omega) (by omega) (by omega), mj_z_n (by omega)]
    · rw [i6 _ _ _ n1 n2 n3 n4, gw _ _ _ (by omega) (by omega) (by omega) (by omega)]
theorem mi_TG_e {sc : Nat → Nat} (h : mc_TG g st a sc) (hg : ∀ k i j, (k = 1 ∧ i = a) ∨ (k = 4 ∧ i = st) ∨ (k = 17 ∧ i = st) ∨ (k = 3 ∧ ∃ q, q < 4 ∧ i = sc q) → G k i j = g k i j) : mc_TG G st a sc := by
  obtain ⟨t1, t2, ⟨l1, l2, l3, l4, l5, l6⟩, t4⟩ := h
  refine ⟨by rw [hg _ _ _ (by omega)]; exact t1, by rw [hg _ _ _ (by omega)]; exact t2, ⟨?_, ?_, ?_, ?_, ?_, ?_⟩, fun k hk => ⟨?_, ?_, ?_⟩⟩
  · rw [hg _ _ _ (by omega)]; exact l1
  · rw [hg _ _ _ (by omega)]; exact l2
  · rw [hg _ _ _ (by omega)]; exact l3
  · rw [hg _ _ _ (by omega)]; exact l4
  · rw [hg _ _ _ (by omega)]; exact l5
  · rw [hg _ _ _ (by omega)]; exact l6
  · rw [hg _ _ _ (by omega)]; exact (t4 k hk).1
  · rw [hg _ _ _ (Or.inr (Or.inr (Or.inr ⟨rfl, k, hk, rfl⟩)))]; exact (t4 k hk).2.1
  · rw [hg _ _ _ (Or.inr (Or.inr (Or.inr ⟨rfl, k, hk, rfl⟩)))]; exact (t4 k hk).2.2
theorem mi_LG_e (h : mc_LG g a) (hg : ∀ j, G 1 a j = g 1 a j) : mc_LG G a := by
  obtain ⟨l1, l2, l3, l4, l5, l6⟩ := h
  exact ⟨by rw [hg]; exact l1, by rw [hg]; exact l2, by rw [hg]; exact l3, by rw [hg]; exact l4, by rw [hg]; exact l5, by rw [hg]; exact l6⟩
/-- the class's object, made -/
def mi_K (f : mj_F) (g : mj_G) : Prop :=
  (g 5 0 0 = some (4, 0) ∧ g 5 0 1 = some (1, 1) ∧ g 5 0 2 = some (0, 0) ∧ g 5 0 3 = some (2, 0)) ∧ mc_TG g 0 0 (fun j => 0 + j) ∧ mc_LG g 1 ∧ mc_HG g 0 (fun k => k + 1) ∧ (∀ k, k < 4 → mc_TG g (k + 1) (k + 2) (fun j => 4 * (k + 1) + j)) ∧ g 2 0 0 = some (14, 0) ∧ mr_L f 0 (sp_bg 3 6 18) 3 6 18 ∧ f 4 0 2 = nI 0 ∧ f 0 0 1 = nI 0 ∧ f 0 0 2 = nI 0 ∧ f 2 0 1 = nI 0 ∧ f 14 0 = (fun _ => nI 0) ∧ f 5 0 4 = nI 0
theorem mi_log (hC : mj_ct S C) (h0 : ∀ k, k < 18 → k ≠ 5 → k ≠ 6 → C k = 0) : ∃ S2 F G C2, mj_x X 46 [.inr (5, 0)] (S, f, g) = some (none, (S2, F, G)) ∧ mj_ct S2 C2 ∧ mi_bd S S2 116 3862 ∧ (∀ j, j = 6 ∨ 18 ≤ j → C2 j = C j) ∧ mi_K F G := by
  obtain ⟨a1, a2, a3⟩ := mj_nw (k := 4) hC (h0 4 (by omega) (by omega) (by omega))
  have u : ∀ (C : Nat → Nat) (k j : Nat), j ≠ k → mi_up C k j = C j := fun C k j hj => by unfold mi_up; rw [if_neg hj]
  have us : ∀ (C : Nat → Nat) (k : Nat), mi_up C k k = C k + 1 := fun C k => by unfold mi_up; rw [if_pos rfl]
  obtain ⟨S1, F1, G1, C1, e1, e2, e2b, e3, e4, e5, e6, e7⟩ := mi_state (X := X) (st := 0) (a := 0) (lo := 0) (f := mj_z f 4 0) (g := mj_n g 4 0) a3 (by rw [u _ _ _ (by omega)]; exact h0 _ (by omega) (by omega) (by omega)) (fun j j1 j2 => by rw [u _ _ _ (by omega)]; exact h0 _ (by omega) (by omega) (by omega)) (by rw [u _ _ _ (by omega)]; exact h0 _ (by omega) (by omega) (by omega)) (by rw [u _ _ _ (by omega)]; exact h0 _ (by omega) (by omega) (by omega)) (by rw [u _ _ _ (by omega)]; exact h0 _ (by omega) (by omega) (by omega)) (by rw [u _ _ _ (by omega)]; exact h0 _ (by omega) (by omega) (by omega))
  have p1 : mi_bd S S1 21 708 := mi_bd_t (mi_bd_a rfl) e2b rfl rfl
  have c1 : ∀ j, C1 j = if j = 3 ∨ j = 15 ∨ j = 16 then C j + 4 else if j = 1 ∨ j = 4 ∨ j = 17 ∨ (8 ≤ j ∧ j ≤ 13) then C j + 1 else C j := fun j => by
    rw [e3]
    by_cases q1 : j = 3 ∨ j = 15 ∨ j = 16
    · rw [if_pos q1, if_pos q1, u _ _ _ (by omega)]
    · rw [if_neg q1, if_neg q1]
      by_cases q2 : j = 4
      · subst q2; rw [if_neg (by omega), if_pos (by omega), us]
      · by_cases q3 : j = 1 ∨ j = 17 ∨ (8 ≤ j ∧ j ≤ 13)
        · rw [if_pos q3, if_pos (by omega), u _ _ _ q2]
        · rw [if_neg q3, if_neg (by omega), u _ _ _ q2]
  have s1 : mj_x X 46 [.inr (5, 0)] (S, f, g) = mj_g X 46 7 [some (.inr (5, 0))] [] (S1, F1, mj_w G1 5 0 0 (some (4, 0))) := by
    simp only [mj_x46, mj_g46_0, mj_g46_1, mj_g46_2, mj_g46_3, mj_g46_4, mj_g46_5, mj_g46_6, a1, a2, e1, ↓reduceIte, Option.bind_some, Option.toList_none, List.nil_append]
  have f40 : F1 4 0 2 = nI 0 := by rw [e6 _ _ _ (by omega) (by omega) (by omega), mj_z_s]
  have t1 : mc_TG (mj_w G1 5 0 0 (some (4, 0))) 0 0 (fun j => 0 + j) := mi_TG_e e4 (fun k i j hh => mj_w_n (by omega))
  obtain ⟨b1, b2, b3⟩ := mj_nw (k := 1) (a := 1) e2 (by rw [c1, if_neg (by omega), if_pos (by omega), h0 _ (by omega) (by omega) (by omega)])
  obtain ⟨S2, F2, G2, C2, x1, x2, x2b, x3, x4, ⟨f0, x5⟩, x6, x7⟩ := mi_lining (X := X) (a := 1) (f := mj_z F1 1 1) (g := mj_n (mj_w G1 5 0 0 (some (4, 0))) 1 1) b3 (fun k k1 k2 => by rw [u _ _ _ (by omega), c1, if_neg (by omega), if_pos (by omega), h0 _ (by omega) (by omega) (by omega)])
  have p2 : mi_bd S S2 28 917 := mi_bd_t p1 (mi_bd_t (mi_bd_a rfl) x2b rfl rfl) rfl rfl
  have s2 : mj_g X 46 7 [some (.inr (5, 0))] [] (S1, F1, mj_w G1 5 0 0 (some (4, 0))) = mj_g X 46 12 [some (.inr (5, 0))] [] (S2, F2, mj_w G2 5 0 1 (some (1, 1))) := by
    simp only [mj_g46_7, mj_g46_8, mj_g46_9, mj_g46_10, mj_g46_11, b1, b2, x1, ↓reduceIte, Option.bind_some, Option.toList_none, List.nil_append]
  have c2 : ∀ j, C2 j = if j = 3 ∨ j = 15 ∨ j = 16 then C j + 4 else if j = 1 ∨ (8 ≤ j ∧ j ≤ 13) then C j + 2 else if j = 4 ∨ j = 17 then C j + 1 else C j := fun j => by
    rw [x3]
    by_cases q1 : 8 ≤ j ∧ j ≤ 13
    · rw [if_pos q1, u _ _ _ (by omega), c1, if_neg (by omega), if_pos (by omega), if_neg (by omega), if_pos (by omega)]
    · rw [if_neg q1]
      by_cases q2 : j = 1
      · subst q2; rw [us, c1, if_neg (by omega), if_pos (by omega), if_neg (by omega), if_pos (by omega)]
      · rw [u _ _ _ q2, c1]
        by_cases q3 : j = 3 ∨ j = 15 ∨ j = 16
        · rw [if_pos q3, if_pos q3]
        · rw [if_neg q3, if_neg q3, if_neg (show ¬ (j = 1 ∨ (8 ≤ j ∧ j ≤ 13)) by omega)]
          by_cases q4 : j = 4 ∨ j = 17
          · rw [if_pos (by omega), if_pos q4]
          · rw [if_neg (by omega), if_neg q4]
  have gg2 : ∀ k i j, ¬ ((k = 1 ∨ (8 ≤ k ∧ k ≤ 13)) ∧ i = 1) → ¬ (k = 5 ∧ i = 0 ∧ j = 1) → mj_w G2 5 0 1 (some (1, 1)) k i j = mj_w G1 5 0 0 (some (4, 0)) k i j := fun k i j n1 n2 => by
    rw [mj_w_n n2, x7 _ _ _ n1, mj_n_n (by omega)]
  have t2 : mc_TG (mj_w G2 5 0 1 (some (1, 1))) 0 0 (fun j => 0 + j) := mi_TG_e t1 (fun k i j hh => gg2 _ _ _ (by omega) (by omega))
  have l2 : mc_LG (mj_w G2 5 0 1 (some (1, 1))) 1 := mi_LG_e x4 (fun j => mj_w_n (by omega))
  have g50 : mj_w G2 5 0 1 (some (1, 1)) 5 0 0 = some (4, 0) := by rw [gg2 _ _ _ (by omega) (by omega), mj_wq]
  have g51 : mj_w G2 5 0 1 (some (1, 1)) 5 0 1 = some (1, 1) := mj_wq
  have k2 : mr_L F2 0 (sp_bg 3 6 18) 3 6 18 := mr_L_e e5 (fun k j hk => by rw [x6 _ _ _ (by omega), mj_z_n (by omega)])
  have f2a : F2 4 0 2 = nI 0 := by rw [x6 _ _ _ (by omega), mj_z_n (by omega)]; exact f40
  generalize mj_w G2 5 0 1 (some (1, 1)) = G3 at s2 t2 l2 g50 g51
  obtain ⟨d1, d2, d3⟩ := mj_nw (k := 0) (a := 0) x2 (by rw [c2, if_neg (by omega), if_neg (by omega), if_neg (by omega), h0 _ (by omega) (by omega) (by omega)])
  obtain ⟨d4, d5, d6⟩ := mj_nw (k := 7) (a := 0) d3 (by rw [u _ _ _ (by omega), c2, if_neg (by omega), if_neg (by omega), if_neg (by omega), h0 _ (by omega) (by omega) (by omega)])
  have cc : ∀ j, j ≠ 0 → j ≠ 7 → mi_up (mi_up C2 0) 7 j = C2 j := fun j h1 h2 => by rw [u _ _ _ h2, u _ _ _ h1]
  obtain ⟨S4, F4, G4, C4, y1, y2, y2b, y3, y4, y5, y6⟩ := mi_histl (X := X) 4 0 (S2 ++ [(0, 0)] ++ [(7, 0)]) (mj_z (mj_z F2 0 0) 7 0) (mj_w (mj_n (mj_n G3 0 0) 7 0) 0 0 0 (some (7, 0))) (mi_up (mi_up C2 0) 7) rfl d6 (by rw [cc _ (by omega) (by omega), c2, if_neg (by omega), if_neg (by omega), if_pos (by omega), h0 _ (by omega) (by omega) (by omega)]) (by rw [cc _ (by omega) (by omega), c2, if_neg (by omega), if_pos (by omega), h0 _ (by omega) (by omega) (by omega)]) (fun j j1 j2 => by rw [cc _ (by omega) (by omega), c2, if_neg (by omega), if_pos (by omega), h0 _ (by omega) (by omega) (by omega)]) (by rw [cc _ (by omega) (by omega), c2, if_neg (by omega), if_neg (by omega), if_pos (by omega), h0 _ (by omega) (by omega) (by omega)]) (by rw [cc _ (by omega) (by omega), c2, if_pos (by omega), h0 _ (by omega) (by omega) (by omega)]) (by rw [cc _ (by omega) (by omega), c2, if_pos (by omega), h0 _ (by omega) (by omega) (by omega)]) (by rw [cc _ (by omega) (by omega), c2, if_pos (by omega), h0 _ (by omega) (by omega) (by omega)]) mj_wq (fun j hj => by omega)
  have p3 : mi_bd S S4 114 3756 := mi_bd_t p2 (mi_bd_t (mi_bd_t (mi_bd_a (k := 0) (M := 3) rfl) (mi_bd_a (k := 7) (M := 4) rfl) rfl rfl) y2b rfl rfl) rfl rfl
  have sh : mj_x X 0 [.inr (0, 0)] (S2 ++ [(0, 0)], mj_z F2 0 0, mj_n G3 0 0) = some (none, (S4, F4, G4)) := by
    rw [← y1]
    simp only [mj_x0, mj_g0_0, mj_g0_1, mj_g0_2, mj_g0_3, mj_g0_4, mj_g0_5, mj_g0_6, mj_g0_7, d4, d5, ↓reduceIte]
  have s3 : mj_g X 46 12 [some (.inr (5, 0))] [] (S2, F2, G3) = mj_g X 46 17 [some (.inr (5, 0))] [] (S4, F4, mj_w G4 5 0 2 (some (0, 0))) := by
    simp only [mj_g46_12, mj_g46_13, mj_g46_14, mj_g46_15, mj_g46_16, d1, d2, sh, ↓reduceIte, Option.bind_some, Option.toList_none, List.nil_append]
  have gg4 : ∀ k i j, ¬ ((k = 1 ∨ (8 ≤ k ∧ k ≤ 13)) ∧ 2 ≤ i) → ¬ ((k = 4 ∨ k = 17) ∧ 1 ≤ i) → ¬ ((k = 3 ∨ k = 15 ∨ k = 16) ∧ 4 ≤ i) → ¬ (k = 7 ∧ i = 0) → ¬ (k = 0 ∧ i = 0) → ¬ (k = 5 ∧ i = 0 ∧ j = 2) → mj_w G4 5 0 2 (some (0, 0)) k i j = G3 k i j := fun k i j n1 n2 n3 n4 n5 n6 => by
    rw [mj_w_n n6, y6 _ _ _ n1 n2 n3 n4, mj_w_n (by omega), mj_n_n (by omega), mj_n_n (by omega)]
  have t4 : mc_TG (mj_w G4 5 0 2 (some (0, 0))) 0 0 (fun j => 0 + j) := mi_TG_e t2 (fun k i j hh => by
    have hi : (k = 1 ∧ i = 0) ∨ (k = 4 ∧ i = 0) ∨ (k = 17 ∧ i = 0) ∨ (k = 3 ∧ i < 4) := by
      rcases hh with h | h | h | ⟨h1, q, h2, h3⟩
      · exact Or.inl h
      · exact Or.inr (Or.inl h)
      · exact Or.inr (Or.inr (Or.inl h))
      · have h4 : i = 0 + q := h3
        omega
    exact gg4 _ _ _ (by omega) (by omega) (by omega) (by omega) (by omega) (by omega))
  have l4 : mc_LG (mj_w G4 5 0 2 (some (0, 0))) 1 := mi_LG_e l2 (fun j => gg4 _ _ _ (by omega) (by omega) (by omega) (by omega) (by omega) (by omega))
  have h4 : mc_HG (mj_w G4 5 0 2 (some (0, 0))) 0 (fun k => k + 1) := ⟨by rw [mj_w_n (by omega), y6 _ _ _ (by omega) (by omega) (by omega) (by omega), mj_wq], fun k hk => by rw [mj_w_n (by omega)]; exact (y4 k hk).1⟩
  have st4 : ∀ k, k < 4 → mc_TG (mj_w G4 5 0 2 (some (0, 0))) (k + 1) (k + 2) (fun j => 4 * (k + 1) + j) := fun k hk => mi_TG_e (y4 k hk).2 (fun k i j hh => mj_w_n (by omega))
  have g50b : mj_w G4 5 0 2 (some (0, 0)) 5 0 0 = some (4, 0) := by rw [gg4 _ _ _ (by omega) (by omega) (by omega) (by omega) (by omega) (by omega)]; exact g50
  have g51b : mj_w G4 5 0 2 (some (0, 0)) 5 0 1 = some (1, 1) := by rw [gg4 _ _ _ (by omega) (by omega) (by omega) (by omega) (by omega) (by omega)]; exact g51
  have g52 : mj_w G4 5 0 2 (some (0, 0)) 5 0 2 = some (0, 0) := mj_wq
  have k4 : mr_L F4 0 (sp_bg 3 6 18) 3 6 18 := mr_L_e k2 (fun k j hk => by rw [y5 _ _ _ (by omega) (by omega) (by omega), mj_z_n (by omega), mj_z_n (by omega)])
  have f4a : F4 4 0 2 = nI 0 := by rw [y5 _ _ _ (by omega) (by omega) (by omega), mj_z_n (by omega), mj_z_n (by omega)]; exact f2a
  have f4b : ∀ j, F4 0 0 j = nI 0 := fun j => by rw [y5 _ _ _ (by omega) (by omega) (by omega), mj_z_n (by omega), mj_z_s]
  generalize mj_w G4 5 0 2 (some (0, 0)) = G5 at s3 t4 l4 h4 st4 g50b g51b g52
  have c4 : ∀ j, ¬ (j = 0 ∨ j = 1 ∨ j = 3 ∨ j = 4 ∨ j = 7 ∨ (8 ≤ j ∧ j ≤ 13) ∨ j = 15 ∨ j = 16 ∨ j = 17) → C4 j = C j := fun j hj => by
    rw [y3 _ (by omega), cc _ (by omega) (by omega), c2, if_neg (by omega), if_neg (by omega), if_neg (by omega)]
  obtain ⟨v1, v2, v3⟩ := mj_nw (k := 2) (a := 0) y2 (by rw [c4 _ (by omega), h0 _ (by omega) (by omega) (by omega)])
  obtain ⟨v4, v5, v6⟩ := mj_nw (k := 14) (a := 0) v3 (by rw [u _ _ _ (by omega), c4 _ (by omega), h0 _ (by omega) (by omega) (by omega)])
  have stx : mj_x X 32 [.inr (2, 0)] (S4 ++ [(2, 0)], mj_z F4 2 0, mj_n G5 2 0) = some (none, (S4 ++ [(2, 0)] ++ [(14, 0)], mj_z (mj_z F4 2 0) 14 0, mj_w (mj_n (mj_n G5 2 0) 14 0) 2 0 0 (some (14, 0)))) := by
    simp only [mj_x32, mj_g32_0, mj_g32_1, mj_g32_2, mj_g32_3, mj_g32_4, mj_g32_5, mj_g32_6, v4, v5, ↓reduceIte]
  have p5 : mi_bd S (S4 ++ [(2, 0)] ++ [(14, 0)]) 116 3862 := mi_bd_t p3 (mi_bd_t (mi_bd_a (k := 2) (M := 6) rfl) (mi_bd_a (k := 14) (M := 100) rfl) rfl rfl) rfl rfl
  have s4 : mj_g X 46 17 [some (.inr (5, 0))] [] (S4, F4, G5) = some (none, (S4 ++ [(2, 0)] ++ [(14, 0)], mj_u (mj_z (mj_z F4 2 0) 14 0) 5 0 4 (nI 0), mj_w (mj_w (mj_n (mj_n G5 2 0) 14 0) 2 0 0 (some (14, 0))) 5 0 3 (some (2, 0)))) := by
    simp only [mj_g46_17, mj_g46_18, mj_g46_19, mj_g46_20, mj_g46_21, mj_g46_22, mj_g46_23, mj_g46_24, mj_g46_25, v1, v2, stx, ↓reduceIte, Option.bind_some, Option.toList_none, List.nil_append]
  have gg6 : ∀ k i j, ¬ (k = 2 ∧ i = 0) → ¬ (k = 14 ∧ i = 0) → ¬ (k = 5 ∧ i = 0 ∧ j = 3) → mj_w (mj_w (mj_n (mj_n G5 2 0) 14 0) 2 0 0 (some (14, 0))) 5 0 3 (some (2, 0)) k i j = G5 k i j := fun k i j n1 n2 n3 => by
    rw [mj_w_n n3, mj_w_n (by omega), mj_n_n n2, mj_n_n n1]
  refine ⟨_, _, _, _, s1.trans (s2.trans (s3.trans s4)), v6, ?_, fun j hj => ?_, ⟨?_, ?_, ?_, mj_wq⟩, ?_, ?_, ⟨?_, fun k hk => ?_⟩, fun k hk => ?_, ?_, ?_, ?_, ?_, ?_, ?_, ?_, mj_us⟩
  · exact p5
  · rw [u _ _ _ (by omega), u _ _ _ (by omega), c4 _ (by omega)]
  · rw [gg6 _ _ _ (by omega) (by omega) (by omega)]; exact g50b
  · rw [gg6 _ _ _ (by omega) (by omega) (by omega)]; exact g51b
  · rw [gg6 _ _ _ (by omega) (by omega) (by omega)]; exact g52
  · exact mi_TG_e t4 (fun k i j hh => gg6 _ _ _ (by omega) (by omega) (by omega))
  · exact mi_LG_e l4 (fun j => gg6 _ _ _ (by omega) (by omega) (by omega))
  · rw [gg6 _ _ _ (by omega) (by omega) (by omega)]; exact h4.1
  · rw [gg6 _ _ _ (by omega) (by omega) (by omega)]; exact h4.2 k hk
  · exact mi_TG_e (st4 k hk) (fun k i j hh => gg6 _ _ _ (by omega) (by omega) (by omega))
  · rw [mj_w_n (by omega), mj_wq]
  · exact mr_L_e k4 (fun k j hk => by rw [mj_u_n (by omega), mj_z_n (by omega), mj_z_n (by omega)])
  · rw [mj_u_n (by omega), mj_z_n (by omega), mj_z_n (by omega)]; exact f4a
  · rw [mj_u_n (by omega), mj_z_n (by omega), mj_z_n (by omega)]; exact f4b 1
  · rw [mj_u_n (by omega), mj_z_n (by omega), mj_z_n (by omega)]; exact f4b 2
  · rw [mj_u_n (by omega), mj_z_n (by omega), mj_z_s]
  · funext j
    rw [mj_u_n (by omega), mj_z_s]
end CO
