/-! Lining: a heat, gunning, plans -/
section LJ
variable {X : mj_X} {S : List (Nat × Nat)} {f : mj_F} {g : mj_G} {a r s n j : Nat}
theorem mc_takeWear {w : Int32} (hg : mc_LG g a) (hj : j < 60) : mj_x X 25 [.inr (1, a), .inl (nI j), .inl w] (S, f, g) = some (some (.inl (mp_x (f 8 a j) (f 9 a j) w)), (S, mc_tw f a j w, g)) := by
  unfold mc_tw mp_x
  by_cases c1 : f 9 a j < nI 2 * w <;> simp (disch := omega) only [mj_x25, mj_g25_0, mj_g25_1, mj_g25_2, mj_g25_3, mj_g25_4, mj_g25_5, mj_g25_6, mj_g25_7, mj_g25_8, mj_g25_9, mj_g25_10, mj_g25_11, mj_g25_12, mj_g25_13, mj_g25_14, mj_g25_15, mj_g25_16, mj_g25_17, mj_g25_18, mj_g25_19, mj_g25_20, mj_g25_21, mj_g25_22, mj_g25_23, mj_g25_24, mj_g25_25, mj_g25_26, mj_g25_27, mj_g25_28, mj_g25_29, mj_g25_30, mj_g25_31, mj_g25_32, mj_g25_33, mj_g25_34, mj_g25_35, mj_g25_36, mj_g25_37, mj_g25_38, mj_g25_39, mj_g25_40, mj_g25_41, mj_g25_42, mj_g25_43, mj_g25_44, mj_g25_45, mj_g25_46, mj_g25_47, mj_g25_48, mj_g25_49, mj_g25_50, hg.1, hg.2.1, ↓reduceIte, Option.bind_some, Option.toList_some, Option.toList_none, List.cons_append, List.nil_append, mj_ixn, mj_add, mj_mul, mj_sub, mj_dv, mj_rmn, mj_ltT, mj_ltF, mj_leT, mj_leF, mj_eqT, mj_eqF, mj_z0T, mj_z0F, mj_bo0, mj_boc, mj_chk10, mj_chk11, mc_min, mj_uk, c1]
theorem mc_rs_s {k : Nat} : mc_rs f a (k + 1) = mj_u (mj_u (mc_rs f a k) 9 a k (mc_rs f a k 9 a k - mc_rs f a k 9 a k / nI 2)) 12 a 3 (mc_rs f a k 12 a 3 + mc_rs f a k 9 a k / nI 2) := rfl
/-- the rest's loop, its second local as it may be -/
theorem mc_rest_l (hg : mc_LG g a) (hN : f 1 a 2 = nI n) (h60 : n ≤ 60) : ∀ (q k : Nat) (o : Option mj_V), k + q = n → mj_g X 26 2 [some (.inr (1, a)), some (.inl (nI k)), o] [] (S, mc_rs f a k, g) = some (none, (S, mc_rs f a n, g)) := by
  intro q
  induction q with
  | zero =>
    intro k o hk
    have e1 : mc_rs f a k 1 a 2 = nI n := by rw [mc_rs_o (by omega) (by omega)]; exact hN
    have e2 : k = n := by omega
    simp (disch := omega) only [mj_g26_2, mj_g26_3, mj_g26_4, mj_g26_5, mj_g26_31, e1, ↓reduceIte, Option.bind_some, Option.toList_some, Option.toList_none, List.cons_append, List.nil_append, mj_ixn, mj_add, mj_mul, mj_sub, mj_dv, mj_rmn, mj_ltT, mj_ltF, mj_leT, mj_leF, mj_eqT, mj_eqF, mj_z0T, mj_z0F, mj_bo0, mj_boc, mj_chk10, mj_chk11]
    rw [e2]
  | succ q ih =>
    intro k o hk
    have e1 : mc_rs f a k 1 a 2 = nI n := by rw [mc_rs_o (by omega) (by omega)]; exact hN
    have ih2 := ih (k + 1) (some (.inl (mc_rs f a k 9 a k / nI 2))) (by omega)
    rw [mc_rs_s] at ih2
    refine Eq.trans mj_g26_2 ?_
    simp (disch := omega) only [mj_g26_3, mj_g26_4, mj_g26_5, mj_g26_6, mj_g26_7, mj_g26_8, mj_g26_9, mj_g26_10, mj_g26_11, mj_g26_12, mj_g26_13, mj_g26_14, mj_g26_15, mj_g26_16, mj_g26_17, mj_g26_18, mj_g26_19, mj_g26_20, mj_g26_21, mj_g26_22, mj_g26_23, mj_g26_24, mj_g26_25, mj_g26_26, mj_g26_27, mj_g26_28, mj_g26_29, mj_g26_30, e1, ↓reduceIte, Option.bind_some, Option.toList_some, Option.toList_none, List.cons_append, List.nil_append, mj_ixn, mj_add, mj_mul, mj_sub, mj_dv, mj_rmn, mj_ltT, mj_ltF, mj_leT, mj_leF, mj_eqT, mj_eqF, mj_z0T, mj_z0F, mj_bo0, mj_boc, mj_chk10, mj_chk11, hg.2.1, hg.2.2.2.2.1, mj_uk]
    exact ih2
theorem mc_rest (hg : mc_LG g a) (hN : f 1 a 2 = nI n) (h60 : n ≤ 60) : mj_x X 26 [.inr (1, a)] (S, f, g) = some (none, (S, mc_rs f a n, g)) := by
  simp only [mj_x26, mj_g26_0, mj_g26_1]
  exact mc_rest_l hg hN h60 n 0 none (Nat.zero_add n)
theorem mc_mh_b {l1 l2 l3 : Option mj_V} {x : Int32} (hl2 : l2 = some (.inl x)) (hg : mc_LG g a) (hN : f 1 a 2 = nI n) (h60 : n ≤ 60) : mj_g X 24 52 [some (.inr (1, a)), l1, l2, l3] [] (S, f, g) = some (some (.inl x), (S, mc_h6 f a n, g)) := by
  subst hl2
  have e1 := mc_oi_n (o := mc_fi (fun j => decide (mc_T f a j < f 11 a 0)) 0 n) (fun j hj => by have := mc_fi_lt hj; omega)
  unfold mc_h6
  by_cases c1 : mc_fi (fun j => decide (mc_T f a j < f 11 a 0)) 0 n = none
  · have e2 : ¬ ∃ j, j < n ∧ mc_T f a j < f 11 a 0 := fun ⟨j, h1, h2⟩ => mc_fi_no c1 j (Nat.zero_le _) (by omega) (decide_eq_true h2)
    rw [← mj_boF e2]
    simp (disch := omega) only [mj_g24_52, mj_g24_53, mj_g24_54, mj_g24_55, mj_g24_56, mj_g24_57, mj_g24_58, mj_g24_59, mj_g24_60, mj_g24_61, mj_g24_62, mc_firstBelowLimit hg hN h60, ↓reduceIte, Option.bind_some, Option.toList_some, Option.toList_none, List.cons_append, List.nil_append, mj_ixn, mj_add, mj_mul, mj_sub, mj_dv, mj_rmn, mj_ltT, mj_ltF, mj_leT, mj_leF, mj_eqT, mj_eqF, mj_z0T, mj_z0F, mj_bo0, mj_boc, mj_chk10, mj_chk11, eq_true (e1.mpr c1)]
  · have e2 : ∃ j, j < n ∧ mc_T f a j < f 11 a 0 := by
      cases hz : mc_fi (fun j => decide (mc_T f a j < f 11 a 0)) 0 n with
      | none => exact absurd hz c1
      | some j => exact ⟨j, by have := mc_fi_lt hz; omega, of_decide_eq_true (mc_fi_lt hz).2.2⟩
    rw [← mj_boT e2]
    simp (disch := omega) only [mj_g24_52, mj_g24_53, mj_g24_54, mj_g24_55, mj_g24_56, mj_g24_57, mj_g24_58, mj_g24_59, mj_g24_60, mj_g24_61, mj_g24_62, mc_firstBelowLimit hg hN h60, ↓reduceIte, Option.bind_some, Option.toList_some, Option.toList_none, List.cons_append, List.nil_append, mj_ixn, mj_add, mj_mul, mj_sub, mj_dv, mj_rmn, mj_ltT, mj_ltF, mj_leT, mj_leF, mj_eqT, mj_eqF, mj_z0T, mj_z0F, mj_bo0, mj_boc, mj_chk10, mj_chk11, eq_false (fun q_ => c1 (e1.mp q_))]
theorem mc_mh_a {l1 l3 : Option mj_V} {x : Int32} (hg : mc_LG g a) (hN : f 1 a 2 = nI n) (h60 : n ≤ 60) (h5 : ¬ f 11 a 5 = 0) : mj_g X 24 22 [some (.inr (1, a)), l1, some (.inl x), l3] [] (S, f, g) = some (some (.inl x), (S, mc_h6 (mc_h5 (mc_h4 (mc_h3 (mc_h2 f a x) a) a) a n) a n, g)) := by
  have n1 : mc_h4 (mc_h3 (mc_h2 f a x) a) a 1 a 2 = nI n := by
    unfold mc_h4 mc_h3 mc_h2
    rw [mj_uj (by decide), mj_uj (by decide), mj_uk (by decide)]
    exact hN
  have n2 : mc_h4 (mc_h3 (mc_h2 f a x) a) a 11 a 5 = f 11 a 5 := by
    unfold mc_h4 mc_h3 mc_h2
    rw [mj_uk (by decide), mj_uk (by decide), mj_uk (by decide)]
  have g1 : mj_g X 24 22 [some (.inr (1, a)), l1, some (.inl x), l3] [] (S, f, g) = mj_g X 24 42 [some (.inr (1, a)), l1, some (.inl x), l3] [] (S, mc_h4 (mc_h3 (mc_h2 f a x) a) a, g) := by
    simp (disch := omega) only [mj_g24_22, mj_g24_23, mj_g24_24, mj_g24_25, mj_g24_26, mj_g24_27, mj_g24_28, mj_g24_29, mj_g24_30, mj_g24_31, mj_g24_32, mj_g24_33, mj_g24_34, mj_g24_35, mj_g24_36, mj_g24_37, mj_g24_38, mj_g24_39, mj_g24_40, mj_g24_41, ↓reduceIte, Option.bind_some, Option.toList_some, Option.toList_none, List.cons_append, List.nil_append, mj_ixn, mj_add, mj_mul, mj_sub, mj_dv, mj_rmn, mj_ltT, mj_ltF, mj_leT, mj_leF, mj_eqT, mj_eqF, mj_z0T, mj_z0F, mj_bo0, mj_boc, mj_chk10, mj_chk11, hg.2.2.2.2.1]
    rfl
  rw [g1]
  generalize mc_h4 (mc_h3 (mc_h2 f a x) a) a = F at n1 n2 ⊢
  rw [← n2] at h5
  by_cases c1 : mj_rem (F 1 a 9) (F 11 a 5) = 0
  · simp (disch := omega) only [mj_g24_42, mj_g24_43, mj_g24_44, mj_g24_45, mj_g24_46, mj_g24_47, mj_g24_48, mj_g24_49, mj_g24_50, mj_g24_51, ↓reduceIte, Option.bind_some, Option.toList_some, Option.toList_none, List.cons_append, List.nil_append, mj_ixn, mj_add, mj_mul, mj_sub, mj_dv, mj_rmn, mj_ltT, mj_ltF, mj_leT, mj_leF, mj_eqT, mj_eqF, mj_z0T, mj_z0F, mj_bo0, mj_boc, mj_chk10, mj_chk11, hg.2.2.2.1, h5, c1, mc_rest hg n1 h60]
    have e1 : mc_h5 F a n = mc_rs F a n := by unfold mc_h5; rw [if_pos c1]
    rw [e1]
    exact mc_mh_b rfl hg (by rw [mc_rs_o (by omega) (by omega)]; exact n1) h60
  · simp (disch := omega) only [mj_g24_42, mj_g24_43, mj_g24_44, mj_g24_45, mj_g24_46, mj_g24_47, mj_g24_48, mj_g24_49, ↓reduceIte, Option.bind_some, Option.toList_some, Option.toList_none, List.cons_append, List.nil_append, mj_ixn, mj_add, mj_mul, mj_sub, mj_dv, mj_rmn, mj_ltT, mj_ltF, mj_leT, mj_leF, mj_eqT, mj_eqF, mj_z0T, mj_z0F, mj_bo0, mj_boc, mj_chk10, mj_chk11, hg.2.2.2.1, h5, c1]
    have e1 : mc_h5 F a n = F := by unfold mc_h5; rw [if_neg c1]
    rw [e1]
    exact mc_mh_b rfl hg n1 h60
def mc_ht (f : mj_F) (a s n : Nat) (φ : Int32) : mj_F := mc_h6 (mc_h5 (mc_h4 (mc_h3 (mc_h2 (mc_h1 f a s n φ) a (mc_hx f a s n φ)) a) a) a n) a n
theorem mc_makeHeat {φ : Int32} (hg : mc_LG g a) (hO : mc_LO f a r s n) : mj_x X 24 [.inr (1, a), .inl φ] (S, f, g) = some (some (.inl (mc_hx f a s n φ)), (S, mc_ht f a s n φ, g)) := by
  obtain ⟨hr, hs, hn, hG, hc, h5⟩ := hO
  have h60 := hG.n60
  have hf : ∀ k, k ≤ n → ∀ kk i jj, kk ≠ 8 → kk ≠ 9 → kk ≠ 13 → mc_tws (mc_kp f a n) a (mc_W f a s n φ) k kk i jj = f kk i jj := fun k hk kk i jj h1 h2 h3 => by
    rw [mc_tws_o (by omega), mc_kp_k h3]
  have h13 : ∀ k jj, jj < n → mc_tws (mc_kp f a n) a (mc_W f a s n φ) k 13 a jj = mc_T f a jj := fun k jj hj => by
    rw [mc_tws_o (by omega), mc_kp_j hj]
  have hl := mj_loop (fun k => mj_g X 24 6 [some (.inr (1, a)), some (.inl φ), some (.inl (mc_sm (fun j => mp_x (f 8 a j) (f 9 a j) (mc_W f a s n φ j)) k)), some (.inl (nI k))] [] (S, mc_tws (mc_kp f a n) a (mc_W f a s n φ) k, g)) n (fun k hk => by
    have w1 : mc_wr (mc_tws (mc_kp f a n) a (mc_W f a s n φ) k 10 a (k / s)) φ (mc_tws (mc_kp f a n) a (mc_W f a s n φ) k 13 a k - mc_lb (fun i => mc_tws (mc_kp f a n) a (mc_W f a s n φ) k 13 a i) s n k) (mc_tws (mc_kp f a n) a (mc_W f a s n φ) k 11 a 1) = mc_W f a s n φ k := by
      rw [hf k (by omega) 10 a (k / s) (by decide) (by decide) (by decide), hf k (by omega) 11 a 1 (by decide) (by decide) (by decide), h13 k k hk, mc_lb_congr hG hk (fun i hi => h13 k i hi)]
      rfl
    have w2 : mc_tws (mc_kp f a n) a (mc_W f a s n φ) k 8 a k = f 8 a k := by rw [mc_tws_o (by omega), mc_kp_k (by decide)]
    have w3 : mc_tws (mc_kp f a n) a (mc_W f a s n φ) k 9 a k = f 9 a k := by rw [mc_tws_o (by omega), mc_kp_k (by decide)]
    have e1 : mc_tws (mc_kp f a n) a (mc_W f a s n φ) k 1 a 2 = nI n := by rw [hf k (by omega) _ _ _ (by decide) (by decide) (by decide)]; exact hn
    have e2 : mc_tws (mc_kp f a n) a (mc_W f a s n φ) k 1 a 1 = nI s := by rw [hf k (by omega) _ _ _ (by decide) (by decide) (by decide)]; exact hs
    have e3 : ¬ mc_tws (mc_kp f a n) a (mc_W f a s n φ) k 11 a 1 = 0 := by rw [hf k (by omega) _ _ _ (by decide) (by decide) (by decide)]; exact hc
    refine Eq.trans mj_g24_6 ?_
    simp (disch := omega) only [mj_g24_7, mj_g24_8, mj_g24_9, mj_g24_10, mj_g24_11, mj_g24_12, mj_g24_13, mj_g24_14, mj_g24_15, mj_g24_16, mj_g24_17, mj_g24_18, mj_g24_19, mj_g24_20, mj_g24_21, e1, ↓reduceIte, Option.bind_some, Option.toList_some, Option.toList_none, List.cons_append, List.nil_append, mj_ixn, mj_add, mj_mul, mj_sub, mj_dv, mj_rmn, mj_ltT, mj_ltF, mj_leT, mj_leF, mj_eqT, mj_eqF, mj_z0T, mj_z0F, mj_bo0, mj_boc, mj_chk10, mj_chk11, mc_wearAhead hg hG e2 e1 hk e3, mc_takeWear hg, w1, w2, w3]
    rfl)
  simp (disch := omega) only [mj_x24, mj_g24_0, mj_g24_1, mj_g24_2, mj_g24_3, mj_g24_4, mj_g24_5, mc_keepThicknesses hg hn, ↓reduceIte, Option.bind_some, Option.toList_some, Option.toList_none, List.cons_append, List.nil_append, mj_ixn, mj_add, mj_mul, mj_sub, mj_dv, mj_rmn, mj_ltT, mj_ltF, mj_leT, mj_leF, mj_eqT, mj_eqF, mj_z0T, mj_z0F, mj_bo0, mj_boc, mj_chk10, mj_chk11]
  refine Eq.trans ?_ (hl.trans ?_)
  · rfl
  · have e1 : mc_tws (mc_kp f a n) a (mc_W f a s n φ) n 1 a 2 = nI n := by rw [hf n (Nat.le_refl _) _ _ _ (by decide) (by decide) (by decide)]; exact hn
    have e2 : ¬ mc_tws (mc_kp f a n) a (mc_W f a s n φ) n 11 a 5 = 0 := by rw [hf n (Nat.le_refl _) _ _ _ (by decide) (by decide) (by decide)]; exact h5
    have z1 := mc_mh_a (X := X) (S := S) (l1 := some (.inl φ)) (l3 := some (.inl (nI n))) (x := mc_hx f a s n φ) hg e1 h60 e2
    simp (disch := omega) only [mj_g24_6, mj_g24_7, mj_g24_8, mj_g24_9, ↓reduceIte, Option.bind_some, Option.toList_some, Option.toList_none, List.cons_append, List.nil_append, mj_ixn, mj_add, mj_mul, mj_sub, mj_dv, mj_rmn, mj_ltT, mj_ltF, mj_leT, mj_leF, mj_eqT, mj_eqF, mj_z0T, mj_z0F, mj_bo0, mj_boc, mj_chk10, mj_chk11, e1]
    exact z1
end LJ
