/-! numbers behind the law: the wear, sums, the accounts -/
theorem mq_a1 (b l m : Int32) : b - m = b + l - (l + m) := by grind
theorem mq_a2 (b l x : Int32) : b + (l - x) = b + l - x := by grind
theorem mq_a3 (a b x y : Int32) : a - b + (x - y) = a + x - (b + y) := by grind
theorem mq_a4 (t y : Int32) : t + y = t + y := rfl
/-- a state's invariants behind the ranges: the accounts agree; no more heats of the campaign than heats -/
def mq_I (D : Nat → Int32) (n H : Nat) : Prop := D 18 + D 19 = D 20 + D 21 + mc_sm (sp_T D) n ∧ ∃ a b, D 2 = nI a ∧ D 3 = nI b ∧ b ≤ a ∧ a ≤ H
def mq_w (D : Nat → Int32) (s n p j : Nat) : Nat := (sp_W D s n (nI p) j).toNatClampNeg
section QN
variable {D E : Nat → Int32} {r s n H j k b c d p q : Nat} {φ y v w l : Int32} {t u : Nat → Int32}
theorem mq_W (hV : mr_V D n) (hG : mc_Ge r s n) (hj : j < n) : ∃ v c, v ≤ 50 ∧ c ≤ 3500 ∧ ∀ p, p ≤ 200 → sp_W D s n (nI p) j = nI (v * p / 100 + c) := by
  obtain ⟨q1, q2, q3, q4⟩ := hG.q hj
  obtain ⟨t, ht, et⟩ := mr_T hV hj
  obtain ⟨y, hy, ey⟩ := mr_lb (t := sp_T D) (B := 3500) (by omega) hG hj (fun i hi => mr_T hV hi)
  obtain ⟨v, hv, ev⟩ := hV.2.1 (j / s) (by have := hG.2.1; omega)
  obtain ⟨ct, c1, c2, ec⟩ := hV.2.2.1
  have key : ∃ c, c ≤ 3500 ∧ (if sp_T D j - mc_lb (sp_T D) s n j < D 13 then nI 0 else (sp_T D j - mc_lb (sp_T D) s n j) / D 13) = nI c := by
    rw [et, ey, ec]
    by_cases c3 : t < y
    · rw [if_pos (of_eq_true (mj_sublt c3 (by omega) (by omega)))]
      exact ⟨0, by omega, rfl⟩
    · rw [mj_sub (by omega)]
      by_cases c4 : t - y < ct
      · rw [if_pos ((mj_lt (by omega) (by omega)).mpr c4)]
        exact ⟨0, by omega, rfl⟩
      · rw [if_neg (fun q_ => c4 ((mj_lt (by omega) (by omega)).mp q_)), mj_dv (by omega) (by omega) (by omega)]
        have : (t - y) / ct ≤ t - y := Nat.div_le_self _ _
        exact ⟨_, by omega, rfl⟩
  obtain ⟨c, hc, ek⟩ := key
  refine ⟨v, c, hv, hc, fun p hp => ?_⟩
  have hm : v * p ≤ 50 * 200 := Nat.mul_le_mul hv hp
  have e0 : sp_W0 D s n (nI p) j = nI (v * p / 100 + c) := by
    unfold sp_W0
    rw [ek, ev, mj_mul, mj_dv (by omega) (by omega) (by omega), mj_add]
  unfold sp_W
  rw [e0, if_pos ((mj_ge0 (by omega)).mpr trivial)]
theorem mq_w_e (hV : mr_V D n) (hG : mc_Ge r s n) (hj : j < n) (hp : p ≤ 200) : sp_W D s n (nI p) j = nI (mq_w D s n p j) ∧ mq_w D s n p j ≤ 3600 := by
  obtain ⟨v, c, h1, h2, h3⟩ := mq_W hV hG hj
  have hm : v * p ≤ 50 * 200 := Nat.mul_le_mul h1 hp
  have e1 : mq_w D s n p j = v * p / 100 + c := by unfold mq_w; rw [h3 p hp]; exact nI_clamp (by omega)
  rw [e1]
  exact ⟨h3 p hp, by omega⟩
theorem mq_w_m (hV : mr_V D n) (hG : mc_Ge r s n) (hj : j < n) (hpq : p ≤ q) (hq : q ≤ 200) : mq_w D s n p j ≤ mq_w D s n q j := by
  obtain ⟨v, c, h1, h2, h3⟩ := mq_W hV hG hj
  have hm : v * p ≤ 50 * 200 := Nat.mul_le_mul h1 (by omega)
  have hm2 : v * q ≤ 50 * 200 := Nat.mul_le_mul h1 hq
  have e1 : mq_w D s n p j = v * p / 100 + c := by unfold mq_w; rw [h3 p (by omega)]; exact nI_clamp (by omega)
  have e2 : mq_w D s n q j = v * q / 100 + c := by unfold mq_w; rw [h3 q hq]; exact nI_clamp (by omega)
  rw [e1, e2]
  have := Nat.div_le_div_right (c := 100) (Nat.mul_le_mul_left v hpq)
  omega
/-- what a spot loses, a number -/
theorem mq_x (hV : mr_V D n) (hG : mc_Ge r s n) (hj : j < n) (hp : p ≤ 200) : mp_x (D (22 + j)) (D (82 + j)) (sp_W D s n (nI p) j) = nI (if mq_l D j < 2 * mq_w D s n p j then mq_l D j + min (mq_w D s n p j - mq_l D j / 2) (mq_b D j) else 2 * mq_w D s n p j) := by
  obtain ⟨e1, e2⟩ := mq_w_e hV hG hj hp
  obtain ⟨b1, b2, b3, b4, b5, b6⟩ := mq_bl hV hj
  rw [e1, b4, b5]
  unfold mp_x
  rw [mj_mul]
  by_cases c1 : mq_l D j < 2 * mq_w D s n p j
  · rw [if_pos ((mj_lt (by omega) (by omega)).mpr c1), if_pos c1, mj_dv (by omega) (by omega) (by omega), mj_sub (by omega), mj_min (by omega) (by omega), mj_add]
  · rw [if_neg (fun q_ => c1 ((mj_lt (by omega) (by omega)).mp q_)), if_neg c1]
theorem mq_mp : mp_b v l w + mp_l l w = v + l - mp_x v l w := by
  unfold mp_b mp_l mp_x
  by_cases c1 : l < nI 2 * w
  · rw [if_pos c1, if_pos c1, if_pos c1, nI_0, Int32.add_zero]
    exact mq_a1 _ _ _
  · rw [if_neg c1, if_neg c1, if_neg c1]
    exact mq_a2 _ _ _
theorem mq_sm_sub : mc_sm (fun j => t j - u j) n = mc_sm t n - mc_sm u n := by
  induction n with
  | zero =>
    show nI 0 = nI 0 - nI 0
    decide
  | succ n ih =>
    show mc_sm (fun j => t j - u j) n + (t n - u n) = (mc_sm t n + t n) - (mc_sm u n + u n)
    rw [ih]
    exact mq_a3 _ _ _ _
theorem mq_sm_c : mc_sm (fun _ => nI 3000) n = nI (3000 * n) := by
  induction n with
  | zero => rfl
  | succ n ih =>
    show mc_sm (fun _ => nI 3000) n + nI 3000 = _
    rw [ih, mj_add, Nat.mul_succ]
/-- a heat's rest: what falls -/
def mq_R (D : Nat → Int32) (s n : Nat) (φ : Int32) : Int32 := if sp_rt D = true then mc_sm (fun j => sp_l D s n φ j / nI 2) n else nI 0
theorem mq_ht_T (h60 : n ≤ 60) (hj : j < n) : sp_T (sp_ht D s n φ) j = sp_T D j - mp_x (D (22 + j)) (D (82 + j)) (sp_W D s n φ j) - (if sp_rt D = true then sp_l D s n φ j / nI 2 else nI 0) := by
  show sp_ht D s n φ (22 + j) + sp_ht D s n φ (82 + j) = D (22 + j) + D (82 + j) - _ - _
  rw [sp_ht_8 hj, sp_ht_9 hj h60]
  have h := mq_mp (v := D (22 + j)) (l := D (82 + j)) (w := sp_W D s n φ j)
  unfold sp_b sp_9
  by_cases c1 : sp_rt D = true
  · rw [if_pos c1, if_pos c1, ← h]
    unfold sp_l
    exact mq_a2 _ _ _
  · rw [if_neg c1, if_neg c1, ← h, nI_0, Int32.sub_zero]
    rfl
theorem mq_ht_sm (h60 : n ≤ 60) : mc_sm (sp_T (sp_ht D s n φ)) n = mc_sm (sp_T D) n - sp_x D s n φ - mq_R D s n φ := by
  rw [mc_sm_congr (fun j hj => mq_ht_T h60 hj)]
  rw [mq_sm_sub (t := fun j => sp_T D j - mp_x (D (22 + j)) (D (82 + j)) (sp_W D s n φ j)), mq_sm_sub]
  unfold mq_R sp_x
  by_cases c1 : sp_rt D = true
  · simp only [if_pos c1]
  · simp only [if_neg c1]
    congr 1
    clear c1
    induction n with
    | zero => rfl
    | succ n ih =>
      show mc_sm (fun _ => nI 0) n + nI 0 = nI 0
      rw [ih (by omega), nI_0, Int32.add_zero]
theorem mq_ht_21 : sp_ht D s n φ 21 = D 21 + mq_R D s n φ := by
  rw [sp_ht_21]
  unfold mq_R
  split
  · rfl
  · rw [nI_0, Int32.add_zero]
theorem mq_I_ht (h : mq_I D n H) (h60 : n ≤ 60) : mq_I (sp_ht D s n φ) n (H + 1) := by
  obtain ⟨h1, a, b, h2, h3, h4, h5⟩ := h
  refine ⟨?_, a + 1, b + 1, ?_, ?_, by omega, by omega⟩
  · rw [sp_ht_o (by omega), sp_ht_o (by omega), sp_ht_20, mq_ht_21, mq_ht_sm h60, h1]
    grind
  · rw [sp_ht_2, h2, mj_add]
  · rw [sp_ht_3, h3, mj_add]
theorem mq_sm_1 (hj : j < n) (h1 : u j = t j + y) (h2 : ∀ i, i < n → i ≠ j → u i = t i) : mc_sm u n = mc_sm t n + y := by
  induction n with
  | zero => omega
  | succ n ih =>
    show mc_sm u n + u n = mc_sm t n + t n + y
    by_cases c1 : j = n
    · subst c1
      rw [h1, mc_sm_congr (u := t) (fun i hi => h2 i (by omega) (by omega)), Int32.add_assoc]
    · rw [ih (by omega) (fun i hi => h2 i (by omega)), h2 n (by omega) (fun q_ => c1 q_.symm)]
      grind
theorem mq_po_sm (h60 : n ≤ 60) (hj : j < n) : mc_sm (sp_T (sp_po D j v)) n = mc_sm (sp_T D) n + sp_sy D j v := by
  refine mq_sm_1 hj ?_ (fun i hi hne => ?_)
  · unfold sp_T
    rw [sp_po_o (by omega), sp_po_9, Int32.add_assoc]
  · unfold sp_T
    rw [sp_po_o (by omega), sp_po_o (by omega)]
theorem mq_I_po (h : mq_I D n H) (h60 : n ≤ 60) (hj : j < n) : mq_I (sp_po D j v) n H := by
  obtain ⟨h1, a, b, h2, h3, h4, h5⟩ := h
  have e19 : sp_po D j v 19 = D 19 + sp_sy D j v := by unfold sp_po; rw [if_neg (by omega), if_pos rfl]
  refine ⟨?_, a, b, ?_, ?_, h4, h5⟩
  · rw [sp_po_o (by omega), e19, sp_po_o (by omega), sp_po_o (by omega), mq_po_sm h60 hj]
    grind
  · rw [sp_po_o (by omega)]; exact h2
  · rw [sp_po_o (by omega)]; exact h3
theorem mq_lr_sm (hbc : b + c + d = n) (h60 : n ≤ 60) : mc_sm (sp_T (sp_lr D b c)) n = mc_sm (sp_T D) n - sp_lx D b c + nI (3000 * c) := by
  subst hbc
  rw [mc_sm_add, mc_sm_add, mc_sm_add (t := sp_T D), mc_sm_add (t := sp_T D)]
  have e1 : mc_sm (sp_T (sp_lr D b c)) b = mc_sm (sp_T D) b := mc_sm_congr (fun i hi => by unfold sp_T; rw [sp_lr_o (by omega), sp_lr_o (by omega)])
  have e2 : mc_sm (fun i => sp_T (sp_lr D b c) (b + i)) c = nI (3000 * c) := by
    rw [← mq_sm_c]
    refine mc_sm_congr (fun i hi => ?_)
    show sp_lr D b c (22 + (b + i)) + sp_lr D b c (82 + (b + i)) = _
    rw [sp_lr_8 (by omega) (by omega), sp_lr_9 (by omega) (by omega) (by omega), nI_0, Int32.add_zero]
  have e3 : mc_sm (fun i => sp_T (sp_lr D b c) (b + c + i)) d = mc_sm (fun i => sp_T D (b + c + i)) d := mc_sm_congr (fun i hi => by
    show sp_lr D b c (22 + (b + c + i)) + sp_lr D b c (82 + (b + c + i)) = D (22 + (b + c + i)) + D (82 + (b + c + i))
    rw [sp_lr_o (by omega), sp_lr_o (by omega)])
  rw [e1, e2, e3]
  show _ = _ - mc_sm (fun q => sp_T D (b + q)) c + _
  grind
theorem mq_I_lr (h : mq_I D n H) (hbc : b + c ≤ n) (h60 : n ≤ 60) : mq_I (sp_lr D b c) n H := by
  obtain ⟨h1, a, b', h2, h3, h4, h5⟩ := h
  have e18 : sp_lr D b c 18 = D 18 + nI (3000 * c) := by unfold sp_lr; rw [if_pos rfl]
  have e21 : sp_lr D b c 21 = D 21 + sp_lx D b c := by unfold sp_lr; rw [if_neg (by omega), if_pos rfl]
  refine ⟨?_, a, b', ?_, ?_, h4, h5⟩
  · rw [e18, sp_lr_o (by omega), sp_lr_o (by omega), e21, mq_lr_sm (d := n - (b + c)) (by omega) h60]
    grind
  · rw [sp_lr_o (by omega)]; exact h2
  · rw [sp_lr_o (by omega)]; exact h3
theorem mq_I_u (h : mq_I D n H) (h60 : n ≤ 60) (k1 : 6 ≤ k) (k2 : k < 18) : mq_I (sp_u D k v) n H := by
  obtain ⟨h1, a, b, h2, h3, h4, h5⟩ := h
  refine ⟨?_, a, b, ?_, ?_, h4, h5⟩
  · rw [sp_u_o (by omega), sp_u_o (by omega), sp_u_o (by omega), sp_u_o (by omega), mc_sm_congr (u := sp_T D) (fun i hi => by unfold sp_T; rw [sp_u_o (by omega), sp_u_o (by omega)])]
    exact h1
  · rw [sp_u_o (by omega)]; exact h2
  · rw [sp_u_o (by omega)]; exact h3
theorem mq_lu_sm (h60 : n ≤ 60) : mc_sm (sp_T (sp_lu D)) n = mc_sm (sp_T D) n := mc_sm_congr (fun i hi => by unfold sp_T; rw [sp_lu_o (by omega), sp_lu_o (by omega)])
theorem mq_I_la (h : mq_I D n H) (h60 : n ≤ 60) : mq_I (sp_la D n) n H := by
  refine mq_I_lr ?_ (by omega) h60
  obtain ⟨h1, a, b, h2, h3, h4, h5⟩ := h
  refine ⟨?_, a, 0, ?_, rfl, by omega, h5⟩
  · rw [sp_lu_o (by omega), sp_lu_o (by omega), sp_lu_o (by omega), sp_lu_o (by omega), mq_lu_sm h60]
    exact h1
  · rw [sp_lu_o (by omega)]; exact h2
theorem mq_I_st (h : mq_I D n H) (hc : c < 4) (h60 : n ≤ 60) : mq_I (sp_st D c n) n H := by
  obtain ⟨h1, a, b, h2, h3, h4, h5⟩ := h
  refine ⟨?_, a, b, ?_, ?_, h4, h5⟩
  · rw [sp_st_o hc h60 (by omega), sp_st_o hc h60 (by omega), sp_st_o hc h60 (by omega), sp_st_o hc h60 (by omega), mc_sm_congr (u := sp_T D) (fun i hi => by unfold sp_T; rw [sp_st_o hc h60 (by omega), sp_st_o hc h60 (by omega)])]
    exact h1
  · rw [sp_st_o hc h60 (by omega)]; exact h2
  · rw [sp_st_o hc h60 (by omega)]; exact h3
theorem mq_bg_0 {i : Nat} (h : i = 2 ∨ i = 3 ∨ i = 5 ∨ (19 ≤ i ∧ i ≤ 21) ∨ (82 ≤ i)) (h60 : n ≤ 60) : sp_bg r s n i = nI 0 := by
  unfold sp_bg
  rw [if_neg (by omega), if_neg (by omega), if_neg (by omega), if_neg (by omega), if_neg (by omega), if_neg (by omega), if_neg (by omega)]
theorem mq_bg_8 (hj : j < n) : sp_bg r s n (22 + j) = nI 3000 := by
  unfold sp_bg
  rw [if_neg (by omega), if_neg (by omega), if_neg (by omega), if_neg (by omega), if_neg (by omega), if_neg (by omega), if_pos (by omega)]
theorem mq_I_bg (h60 : n ≤ 60) : mq_I (sp_bg r s n) n H := by
  have e18 : sp_bg r s n 18 = nI (3000 * n) := rfl
  refine ⟨?_, 0, 0, mq_bg_0 (by omega) h60, mq_bg_0 (by omega) h60, by omega, by omega⟩
  have es : mc_sm (sp_T (sp_bg r s n)) n = nI (3000 * n) := by
    rw [← mq_sm_c]
    refine mc_sm_congr (fun i hi => ?_)
    unfold sp_T
    rw [mq_bg_8 hi, mq_bg_0 (by omega) h60, nI_0, Int32.add_zero]
  rw [e18, mq_bg_0 (i := 19) (by omega) h60, mq_bg_0 (i := 20) (by omega) h60, mq_bg_0 (i := 21) (by omega) h60, es, nI_0, Int32.add_zero, Int32.add_zero, Int32.zero_add]
/-- all rings laid anew: each spot as new -/
theorem mq_la_T (h60 : n ≤ 60) (hj : j < n) : sp_T (sp_la D n) j = nI 3000 := by
  unfold sp_T sp_la
  rw [sp_lr_8 (by omega) (by omega), sp_lr_9 (by omega) (by omega) (by omega), nI_0, Int32.add_zero]
theorem mq_la_sm (h60 : n ≤ 60) : mc_sm (sp_T (sp_la D n)) n = nI (3000 * n) := by
  rw [← mq_sm_c]
  exact mc_sm_congr (fun i hi => mq_la_T h60 hi)
theorem mq_lx_all : sp_lx D 0 n = mc_sm (sp_T D) n := by
  unfold sp_lx
  exact mc_sm_congr (fun i _ => by rw [Nat.zero_add])
theorem mq_la_21 (h60 : n ≤ 60) : sp_la D n 21 = D 21 + mc_sm (sp_T D) n := by
  show sp_lr (sp_lu D) 0 n 21 = _
  have e21 : sp_lr (sp_lu D) 0 n 21 = sp_lu D 21 + sp_lx (sp_lu D) 0 n := by unfold sp_lr; rw [if_neg (by omega), if_pos rfl]
  rw [e21, sp_lx_lu h60, mq_lx_all, sp_lu_o (by omega)]
theorem mq_la_4 : sp_la D n 4 = D 4 + nI 1 := by
  unfold sp_la
  rw [sp_lr_o (by omega)]
  rfl
theorem mq_la_3 : sp_la D n 3 = nI 0 := by
  unfold sp_la
  rw [sp_lr_o (by omega)]
  rfl
theorem mq_la_5 : sp_la D n 5 = nI 0 := by
  unfold sp_la
  rw [sp_lr_o (by omega)]
  rfl
theorem mq_mn_lt : ∀ k, mc_mn t k < v ↔ ∃ j, j ≤ k ∧ t j < v := by
  intro k
  induction k with
  | zero =>
    show t 0 < v ↔ _
    exact ⟨fun h => ⟨0, Nat.le_refl _, h⟩, fun ⟨j, h1, h2⟩ => by rw [show j = 0 by omega] at h2; exact h2⟩
  | succ k ih =>
    show mj_mi (mc_mn t k) (t (k + 1)) < v ↔ _
    have e1 : mj_mi (mc_mn t k) (t (k + 1)) < v ↔ mc_mn t k < v ∨ t (k + 1) < v := by
      unfold mj_mi
      by_cases c1 : t (k + 1) < mc_mn t k
      · rw [if_pos c1]
        rw [Int32.lt_iff_toInt_lt] at c1 ⊢
        rw [Int32.lt_iff_toInt_lt]
        omega
      · rw [if_neg c1]
        rw [Int32.lt_iff_toInt_lt] at c1 ⊢
        rw [Int32.lt_iff_toInt_lt]
        omega
    rw [e1, ih]
    constructor
    · rintro (⟨j, h1, h2⟩ | h)
      · exact ⟨j, by omega, h2⟩
      · exact ⟨k + 1, Nat.le_refl _, h⟩
    · rintro ⟨j, h1, h2⟩
      by_cases c1 : j = k + 1
      · subst c1; exact Or.inr h2
      · exact Or.inl ⟨j, by omega, h2⟩
/-- behind a heat: over just when the least is below the limit -/
theorem mq_ht_ov (h60 : n ≤ 60) (h0 : 0 < n) (h5 : D 5 = nI 0) : (sp_ht D s n φ 5 = nI 1 ∧ mc_mn (sp_T (sp_ht D s n φ)) (n - 1) < D 12) ∨ (sp_ht D s n φ 5 = nI 0 ∧ ¬ mc_mn (sp_T (sp_ht D s n φ)) (n - 1) < D 12) := by
  have e1 : (mc_mn (sp_T (sp_ht D s n φ)) (n - 1) < D 12) ↔ sp_ov D s n φ := by
    rw [mq_mn_lt]
    constructor
    · rintro ⟨j, h1, h2⟩
      refine ⟨j, by omega, ?_⟩
      unfold sp_T at h2
      rw [sp_ht_8 (by omega), sp_ht_9 (by omega) h60] at h2
      exact h2
    · rintro ⟨j, h1, h2⟩
      refine ⟨j, by omega, ?_⟩
      unfold sp_T
      rw [sp_ht_8 (by omega), sp_ht_9 (by omega) h60]
      exact h2
  rw [sp_ht_5, e1]
  by_cases c1 : sp_ov D s n φ
  · rw [if_pos c1]; exact Or.inl ⟨rfl, c1⟩
  · rw [if_neg c1]; exact Or.inr ⟨h5, c1⟩
end QN
