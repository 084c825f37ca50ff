/-! ranges of a state's ints, kept by what is made of them -/
theorem mj_sublt {x y c : Nat} (h : x < y) (hy : y < 2147483648) (hc : c < 2147483648) : (nI x - nI y < nI c) = True := by
  refine eq_true ?_
  rw [Int32.lt_iff_toInt_lt, nI_toInt (n := c) (by omega), Int32.toInt_sub, nI_toInt (n := x) (by omega), nI_toInt (n := y) (by omega)]
  have e : ((x : Int) - (y : Int)).bmod (2 ^ 32) = (x : Int) - (y : Int) := Int.bmod_eq_of_le (by omega) (by omega)
  rw [e]
  omega
def mr_V (D : Nat → Int32) (n : Nat) : Prop :=
  (D 5 = nI 0 ∨ D 5 = nI 1) ∧ (∀ j, j < 6 → ∃ v, v ≤ 50 ∧ D (6 + j) = nI v) ∧ (∃ v, 1 ≤ v ∧ v ≤ 500 ∧ D 13 = nI v) ∧ (∃ v, v ≤ 100000 ∧ D 14 = nI v) ∧ (∃ v, 1 ≤ v ∧ v ≤ 100 ∧ D 17 = nI v) ∧ ∀ j, j < n → ∃ b l, b + l ≤ 3500 ∧ b ≤ 3000 ∧ D (22 + j) = nI b ∧ D (82 + j) = nI l
def mr_U (D : Nat → Int32) (c n H : Nat) : Prop :=
  ∃ (h : Nat) (e : Nat → Nat), D 2 = nI h ∧ h ≤ H ∧ (∀ k, k < c → D (143 + k) = nI (e k) ∧ e k ≤ h) ∧ (∀ k, k + 1 < c → e k ≤ e (k + 1)) ∧ ∀ k, k < c → ∀ j, j < n → (∃ w, w ≤ 200000 ∧ D (147 + 60 * k + j) = nI w) ∧ ∃ t, t ≤ 3500 ∧ D (387 + 60 * k + j) = nI t
theorem mr_V_e {D E : Nat → Int32} {n : Nat} (hV : mr_V D n) (h5 : E 5 = D 5) (h1 : ∀ i, 6 ≤ i → i < 12 → E i = D i) (h13 : E 13 = D 13) (h14 : E 14 = D 14) (h17 : E 17 = D 17) (h2 : ∀ j, j < n → E (22 + j) = D (22 + j) ∧ E (82 + j) = D (82 + j)) : mr_V E n := by
  obtain ⟨a1, a2, a3, a4, a5, a6⟩ := hV
  refine ⟨by rw [h5]; exact a1, fun j hj => by rw [h1 _ (by omega) (by omega)]; exact a2 j hj, by rw [h13]; exact a3, by rw [h14]; exact a4, by rw [h17]; exact a5, fun j hj => by rw [(h2 j hj).1, (h2 j hj).2]; exact a6 j hj⟩
theorem mr_U_e {D E : Nat → Int32} {c n H H2 : Nat} (hU : mr_U D c n H) (hH : H ≤ H2) (h2 : E 2 = D 2) (h3 : ∀ i, 143 ≤ i → E i = D i) : mr_U E c n H2 := by
  obtain ⟨h, e, a1, a2, a3, a4, a5⟩ := hU
  refine ⟨h, e, by rw [h2]; exact a1, by omega, fun k hk => by rw [h3 _ (by omega)]; exact a3 k hk, a4, fun k hk j hj => ?_⟩
  rw [h3 _ (by omega), h3 _ (by omega)]
  exact a5 k hk j hj
theorem mr_U_h {D : Nat → Int32} {c n H H2 : Nat} (hU : mr_U D c n H) (hH : H ≤ H2) : mr_U D c n H2 := mr_U_e hU hH rfl (fun _ _ => rfl)
section RG
variable {D : Nat → Int32} {r s n c j b l w p H m k : Nat} {q φ : Int32}
theorem mr_T (hV : mr_V D n) (hj : j < n) : ∃ t, t ≤ 3500 ∧ sp_T D j = nI t := by
  obtain ⟨b, l, h1, h2, h3, h4⟩ := hV.2.2.2.2.2 j hj
  exact ⟨b + l, h1, by unfold sp_T; rw [h3, h4, mj_add]⟩
theorem mr_T0 (hV : mr_V D n) (hj : j < n) : ¬ sp_T D j + nI 100 = 0 := by
  obtain ⟨t, h1, h2⟩ := mr_T hV hj
  rw [h2, mj_add]
  exact of_eq_false (mj_z0F (by omega) (by omega))
theorem mr_mi {a b B : Nat} (ha : a ≤ B) (hb : b ≤ B) (hB : B < 2147483648) : ∃ c, c ≤ B ∧ mj_mi (nI a) (nI b) = nI c := ⟨min a b, by omega, mj_min (by omega) (by omega)⟩
theorem mr_lb {t : Nat → Int32} {B : Nat} (hB : B < 2147483648) (hG : mc_Ge r s n) (hj : j < n) (h : ∀ i, i < n → ∃ x, x ≤ B ∧ t i = nI x) : ∃ x, x ≤ B ∧ mc_lb t s n j = nI x := by
  obtain ⟨x1, y1, e1⟩ := h _ (hG.pb hj)
  obtain ⟨x2, y2, e2⟩ := h _ (hG.pf hj)
  obtain ⟨x3, y3, e3⟩ := mr_mi y1 y2 hB
  unfold mc_lb
  rw [e1, e2, e3]
  have k1 : ∃ x, x ≤ B ∧ (if j < s then nI x3 else mj_mi (nI x3) (t (j - s))) = nI x := by
    by_cases c1 : j < s
    · rw [if_pos c1]; exact ⟨x3, y3, rfl⟩
    · rw [if_neg c1]
      obtain ⟨x4, y4, e4⟩ := h (j - s) (by omega)
      rw [e4]
      exact mr_mi y3 y4 hB
  obtain ⟨x5, y5, e5⟩ := k1
  rw [e5]
  by_cases c2 : n ≤ j + s
  · rw [if_pos c2]; exact ⟨x5, y5, rfl⟩
  · rw [if_neg c2]
    obtain ⟨x6, y6, e6⟩ := h (j + s) (by omega)
    rw [e6]
    exact mr_mi y5 y6 hB
theorem mr_W0 (hV : mr_V D n) (hG : mc_Ge r s n) (hj : j < n) (hp : p ≤ 200) : ∃ w, w ≤ 3600 ∧ sp_W0 D s n (nI p) j = nI w ∧ mc_wr (D (6 + j / s)) (nI p) (sp_T D j - mc_lb (sp_T D) s n j) (D 13) = nI w := by
  obtain ⟨q1, q2, q3, q4⟩ := hG.q hj
  obtain ⟨t, ht, et⟩ := mr_T hV hj
  obtain ⟨y, hy, ey⟩ := mr_lb (t := sp_T D) (B := 3500) (by omega) hG hj (fun i hi => mr_T hV hi)
  obtain ⟨v, hv, ev⟩ := hV.2.1 (j / s) (by have := hG.2.1; omega)
  obtain ⟨ct, c1, c2, ec⟩ := hV.2.2.1
  have hm : v * p ≤ 50 * 200 := Nat.mul_le_mul hv hp
  have hd : v * p / 100 ≤ 100 := by omega
  unfold sp_W0 mc_wr
  rw [et, ey, ev, ec, mj_mul, mj_dv (by omega) (by omega) (by omega)]
  by_cases c3 : t < y
  · have k_ : nI t - nI y < nI ct := of_eq_true (mj_sublt c3 (by omega) (by omega))
    rw [if_pos k_, if_pos k_, mj_add]
    exact ⟨_, by omega, rfl, rfl⟩
  · rw [mj_sub (by omega)]
    by_cases c4 : t - y < ct
    · have k_ : nI (t - y) < nI ct := (mj_lt (by omega) (by omega)).mpr c4
      rw [if_pos k_, if_pos k_, mj_add]
      exact ⟨_, by omega, rfl, rfl⟩
    · have k_ : ¬ nI (t - y) < nI ct := fun q_ => c4 ((mj_lt (by omega) (by omega)).mp q_)
      rw [if_neg k_, if_neg k_, mj_dv (by omega) (by omega) (by omega), mj_add]
      have : (t - y) / ct ≤ t - y := Nat.div_le_self _ _
      exact ⟨_, by omega, rfl, rfl⟩
theorem mr_W (hV : mr_V D n) (hG : mc_Ge r s n) (hj : j < n) (hp : p ≤ 200) : ∃ w, w ≤ 3600 ∧ sp_W D s n (nI p) j = nI w ∧ mc_wr (D (6 + j / s)) (nI p) (sp_T D j - mc_lb (sp_T D) s n j) (D 13) = nI w := by
  obtain ⟨w, h1, h2, h3⟩ := mr_W0 hV hG hj hp
  refine ⟨w, h1, ?_, h3⟩
  unfold sp_W
  rw [h2, if_pos ((mj_ge0 (by omega)).mpr trivial)]
theorem mr_pb (hb : b ≤ 3000) (hl : l ≤ 3500) (hw : w ≤ 3600) : mp_b (nI b) (nI l) (nI w) = nI (if l < 2 * w then b - min (w - l / 2) b else b) := by
  unfold mp_b
  rw [mj_mul]
  by_cases c1 : l < 2 * w
  · rw [if_pos ((mj_lt (by omega) (by omega)).mpr c1), if_pos c1, mj_dv (by omega) (by omega) (by omega), mj_sub (by omega), mj_min (by omega) (by omega), mj_sub (by omega)]
  · rw [if_neg (fun q_ => c1 ((mj_lt (by omega) (by omega)).mp q_)), if_neg c1]
theorem mr_pl (hl : l ≤ 3500) (hw : w ≤ 3600) : mp_l (nI l) (nI w) = nI (if l < 2 * w then 0 else l - 2 * w) := by
  unfold mp_l
  rw [mj_mul]
  by_cases c1 : l < 2 * w
  · rw [if_pos ((mj_lt (by omega) (by omega)).mpr c1), if_pos c1]
  · rw [if_neg (fun q_ => c1 ((mj_lt (by omega) (by omega)).mp q_)), if_neg c1, mj_sub (by omega)]
theorem mr_b9 (hV : mr_V D n) (hG : mc_Ge r s n) (hj : j < n) (hp : p ≤ 200) : ∃ b l, b + l ≤ 3500 ∧ b ≤ 3000 ∧ sp_b D s n (nI p) j = nI b ∧ sp_9 D s n (nI p) j = nI l := by
  obtain ⟨w, hw, ew, -⟩ := mr_W hV hG hj hp
  obtain ⟨b, l, h1, h2, h3, h4⟩ := hV.2.2.2.2.2 j hj
  have e1 : sp_b D s n (nI p) j = nI (if l < 2 * w then b - min (w - l / 2) b else b) := by
    unfold sp_b
    rw [ew, h3, h4, mr_pb h2 (by omega) hw]
  have e2 : sp_l D s n (nI p) j = nI (if l < 2 * w then 0 else l - 2 * w) := by
    unfold sp_l
    rw [ew, h4, mr_pl (by omega) hw]
  have e3 : sp_9 D s n (nI p) j = nI (if sp_rt D = true then (if l < 2 * w then 0 else l - 2 * w) - (if l < 2 * w then 0 else l - 2 * w) / 2 else (if l < 2 * w then 0 else l - 2 * w)) := by
    unfold sp_9
    rw [e2]
    have h5 : (if l < 2 * w then 0 else l - 2 * w) ≤ 3500 := by split <;> omega
    generalize (if l < 2 * w then 0 else l - 2 * w) = z at h5
    split
    · rw [mj_dv (by omega) (by omega) (by omega), mj_sub (by omega)]
    · rfl
  refine ⟨_, _, ?_, ?_, e1, e3⟩
  · split <;> split <;> omega
  · split <;> omega
theorem sp_ht_o {i : Nat} (h : ¬ (i = 2 ∨ i = 3 ∨ i = 5 ∨ i = 20 ∨ i = 21 ∨ (22 ≤ i ∧ i < 22 + n) ∨ (82 ≤ i ∧ i < 82 + n))) : sp_ht D s n φ i = D i := by
  unfold sp_ht
  rw [if_neg (by omega), if_neg (by omega), if_neg (by omega), if_neg (by omega), if_neg (by omega), if_neg (by omega), if_neg (by omega)]
theorem sp_ht_8 (hj : j < n) : sp_ht D s n φ (22 + j) = sp_b D s n φ j := by
  unfold sp_ht
  rw [if_neg (by omega), if_neg (by omega), if_neg (by omega), if_neg (by omega), if_neg (by omega), if_pos (by omega), show 22 + j - 22 = j by omega]
theorem sp_ht_9 (hj : j < n) (h60 : n ≤ 60) : sp_ht D s n φ (82 + j) = sp_9 D s n φ j := by
  unfold sp_ht
  rw [if_neg (by omega), if_neg (by omega), if_neg (by omega), if_neg (by omega), if_neg (by omega), if_neg (by omega), if_pos (by omega), show 82 + j - 82 = j by omega]
theorem sp_ht_5 : sp_ht D s n φ 5 = if sp_ov D s n φ then nI 1 else D 5 := by
  unfold sp_ht
  rw [if_neg (by decide), if_neg (by decide), if_pos rfl]
theorem sp_ht_2 : sp_ht D s n φ 2 = D 2 + nI 1 := rfl
theorem mr_V_ht (hV : mr_V D n) (hG : mc_Ge r s n) (hp : p ≤ 200) : mr_V (sp_ht D s n (nI p)) n := by
  have h60 := hG.n60
  obtain ⟨a1, a2, a3, a4, a5, a6⟩ := hV
  refine ⟨?_, fun j hj => ?_, ?_, ?_, ?_, fun j hj => ?_⟩
  · rw [sp_ht_5]
    split
    · exact Or.inr rfl
    · exact a1
  · rw [sp_ht_o (by omega)]; exact a2 j hj
  · rw [sp_ht_o (by omega)]; exact a3
  · rw [sp_ht_o (by omega)]; exact a4
  · rw [sp_ht_o (by omega)]; exact a5
  · rw [sp_ht_8 hj, sp_ht_9 hj h60]
    exact mr_b9 ⟨a1, a2, a3, a4, a5, a6⟩ hG hj hp
theorem mr_U_ht (hU : mr_U D c n H) (h60 : n ≤ 60) (hH : H < 1000000) : mr_U (sp_ht D s n φ) c n (H + 1) := by
  obtain ⟨h, e, a1, a2, a3, a4, a5⟩ := hU
  refine ⟨h + 1, e, by rw [sp_ht_2, a1, mj_add], by omega, fun k hk => ?_, a4, fun k hk j hj => ?_⟩
  · rw [sp_ht_o (by omega)]; exact ⟨(a3 k hk).1, by have := (a3 k hk).2; omega⟩
  · rw [sp_ht_o (by omega), sp_ht_o (by omega)]; exact a5 k hk j hj
theorem mr_sy (hm : m ≤ 500) : ∃ y, y ≤ 400 ∧ sp_sy D j (nI m) = nI y := by
  unfold sp_sy
  rw [mj_mul, mj_mul, mj_dv (by omega) (by omega) (by omega), mj_dv (by omega) (by omega) (by omega)]
  split
  · exact ⟨_, by omega, rfl⟩
  · exact ⟨_, by omega, rfl⟩
theorem sp_po_o {i : Nat} (h : ¬ (i = 82 + j ∨ i = 19 ∨ i = 16)) : sp_po D j q i = D i := by
  unfold sp_po
  rw [if_neg (by omega), if_neg (by omega), if_neg (by omega)]
theorem sp_po_9 : sp_po D j q (82 + j) = D (82 + j) + sp_sy D j q := by
  unfold sp_po
  rw [if_pos rfl]
theorem mr_V_po (hV : mr_V D n) (h60 : n ≤ 60) (hj : j < n) (hm : m ≤ 500) (hr : sp_gr D j (nI m) = nI 0) : mr_V (sp_po D j (nI m)) n := by
  obtain ⟨a1, a2, a3, a4, a5, a6⟩ := hV
  refine ⟨?_, fun i hi => ?_, ?_, ?_, ?_, fun i hi => ?_⟩
  · rw [sp_po_o (by omega)]; exact a1
  · rw [sp_po_o (by omega)]; exact a2 i hi
  · rw [sp_po_o (by omega)]; exact a3
  · rw [sp_po_o (by omega)]; exact a4
  · rw [sp_po_o (by omega)]; exact a5
  · by_cases c1 : i = j
    · subst c1
      obtain ⟨b, l, h1, h2, h3, h4⟩ := a6 i hi
      obtain ⟨y, hy, ey⟩ := mr_sy (D := D) (j := i) hm
      rw [sp_po_9, sp_po_o (by omega), h3, h4, ey, mj_add]
      refine ⟨b, l + y, ?_, h2, rfl, rfl⟩
      unfold sp_gr at hr
      rw [ey] at hr
      have eT : sp_T D i = nI (b + l) := by unfold sp_T; rw [h3, h4, mj_add]
      rw [eT, mj_add] at hr
      by_cases c2 : D 5 = nI 1
      · rw [if_pos c2] at hr; exact absurd hr (by decide)
      · rw [if_neg c2] at hr
        by_cases c3 : b + l + y ≤ 3500
        · omega
        · rw [if_neg (fun q_ => c3 ((mj_le (by omega) (by omega)).mp q_))] at hr
          exact absurd hr (by decide)
    · rw [sp_po_o (by omega), sp_po_o (by omega)]; exact a6 i hi
theorem sp_lr_o {i : Nat} (h : ¬ (i = 18 ∨ i = 21 ∨ (22 + b ≤ i ∧ i < 22 + b + c) ∨ (82 + b ≤ i ∧ i < 82 + b + c))) : sp_lr D b c i = D i := by
  unfold sp_lr
  rw [if_neg (by omega), if_neg (by omega), if_neg (by omega), if_neg (by omega)]
theorem sp_lr_8 {i : Nat} (h : b ≤ i) (h2 : i < b + c) : sp_lr D b c (22 + i) = nI 3000 := by
  unfold sp_lr
  rw [if_neg (by omega), if_neg (by omega), if_pos (by omega)]
theorem sp_lr_9 {i : Nat} (h : b ≤ i) (h2 : i < b + c) (h3 : b + c ≤ 60) : sp_lr D b c (82 + i) = nI 0 := by
  unfold sp_lr
  rw [if_neg (by omega), if_neg (by omega), if_neg (by omega), if_pos (by omega)]
theorem mr_V_lr (hV : mr_V D n) (h60 : n ≤ 60) (hbc : b + c ≤ n) : mr_V (sp_lr D b c) n := by
  obtain ⟨a1, a2, a3, a4, a5, a6⟩ := hV
  refine ⟨?_, fun i hi => ?_, ?_, ?_, ?_, fun i hi => ?_⟩
  · rw [sp_lr_o (by omega)]; exact a1
  · rw [sp_lr_o (by omega)]; exact a2 i hi
  · rw [sp_lr_o (by omega)]; exact a3
  · rw [sp_lr_o (by omega)]; exact a4
  · rw [sp_lr_o (by omega)]; exact a5
  · by_cases c1 : b ≤ i ∧ i < b + c
    · rw [sp_lr_8 c1.1 c1.2, sp_lr_9 c1.1 c1.2 (by omega)]
      exact ⟨3000, 0, by omega, by omega, rfl, rfl⟩
    · rw [sp_lr_o (by omega), sp_lr_o (by omega)]; exact a6 i hi
theorem sp_st_o {i : Nat} (hc : c < 4) (h60 : n ≤ 60) (h : i < 142) : sp_st D c n i = D i := by
  unfold sp_st
  rw [if_neg (by omega), if_neg (by omega), if_neg (by omega), if_neg (by omega)]
theorem sp_sd_o {i : Nat} (h : i < 142) : sp_sd D i = D i := by
  unfold sp_sd
  rw [if_neg (by omega), if_neg (by omega), if_neg (by omega), if_neg (by omega)]
theorem mr_V_142 {E : Nat → Int32} (hV : mr_V D n) (h60 : n ≤ 60) (h : ∀ i, i < 142 → E i = D i) : mr_V E n := mr_V_e hV (h _ (by omega)) (fun i _ _ => h _ (by omega)) (h _ (by omega)) (h _ (by omega)) (h _ (by omega)) (fun j hj => ⟨h _ (by omega), h _ (by omega)⟩)
theorem mr_tp (hV : mr_V D n) (hj : j < n) : ∃ w, w ≤ 200000 ∧ mc_tp (D 14) (sp_T D j) = nI w := by
  obtain ⟨t, h1, h2⟩ := mr_T hV hj
  obtain ⟨v, h3, h4⟩ := hV.2.2.2.1
  unfold mc_tp
  rw [h2, h4, mj_add, mj_dv (by omega) (by omega) (by omega), mj_add]
  have : v / (t + 100) ≤ v := Nat.div_le_self _ _
  exact ⟨_, by omega, rfl⟩
theorem sp_st_k {i : Nat} (hc : c < 4) (h60 : n ≤ 60) (hi : i < c) : sp_st D c n (143 + i) = D (143 + i) := by
  unfold sp_st
  rw [if_neg (by omega), if_neg (by omega), if_neg (by omega), if_neg (by omega)]
theorem sp_st_h (hc : c < 4) (h60 : n ≤ 60) : sp_st D c n (143 + c) = D 2 := by
  unfold sp_st
  rw [if_neg (by omega), if_pos rfl]
theorem sp_st_t (hc : c < 4) (h60 : n ≤ 60) (hj : j < n) : sp_st D c n (147 + 60 * c + j) = mc_tp (D 14) (sp_T D j) := by
  unfold sp_st
  rw [if_neg (by omega), if_neg (by omega), if_pos (by omega), show 147 + 60 * c + j - (147 + 60 * c) = j by omega]
theorem sp_st_x (hc : c < 4) (h60 : n ≤ 60) (hj : j < n) : sp_st D c n (387 + 60 * c + j) = sp_T D j := by
  unfold sp_st
  rw [if_neg (by omega), if_neg (by omega), if_neg (by omega), if_pos (by omega), show 387 + 60 * c + j - (387 + 60 * c) = j by omega]
theorem sp_st_ko (hc : c < 4) (h60 : n ≤ 60) (hj : j < n) (hk : k < c) : sp_st D c n (147 + 60 * k + j) = D (147 + 60 * k + j) ∧ sp_st D c n (387 + 60 * k + j) = D (387 + 60 * k + j) := by
  unfold sp_st
  refine ⟨?_, ?_⟩
  · rw [if_neg (by omega), if_neg (by omega), if_neg (by omega), if_neg (by omega)]
  · rw [if_neg (by omega), if_neg (by omega), if_neg (by omega), if_neg (by omega)]
theorem mr_U_st (hV : mr_V D n) (hU : mr_U D c n H) (hc : c < 4) (h60 : n ≤ 60) : mr_U (sp_st D c n) (c + 1) n H := by
  obtain ⟨h, e, a1, a2, a3, a4, a5⟩ := hU
  refine ⟨h, fun k => if k = c then h else e k, by rw [sp_st_o hc h60 (by omega)]; exact a1, a2, fun k hk => ?_, fun k hk => ?_, fun k hk j hj => ?_⟩
  · show _ = nI (if k = c then h else e k) ∧ (if k = c then h else e k) ≤ h
    by_cases c1 : k = c
    · subst c1
      rw [if_pos rfl, sp_st_h hc h60]
      exact ⟨a1, Nat.le_refl _⟩
    · rw [if_neg c1, sp_st_k hc h60 (by omega)]
      exact a3 k (by omega)
  · show (if k = c then h else e k) ≤ (if k + 1 = c then h else e (k + 1))
    rw [if_neg (by omega)]
    by_cases c1 : k + 1 = c
    · rw [if_pos c1]; exact (a3 k (by omega)).2
    · rw [if_neg c1]; exact a4 k (by omega)
  · by_cases c1 : k = c
    · subst c1
      rw [sp_st_t hc h60 hj, sp_st_x hc h60 hj]
      exact ⟨mr_tp hV hj, mr_T hV hj⟩
    · rw [(sp_st_ko hc h60 hj (show k < c by omega)).1, (sp_st_ko hc h60 hj (show k < c by omega)).2]
      exact a5 k (by omega) j hj
theorem sp_sd_k {i : Nat} (h : i < 3) : sp_sd D (143 + i) = D (143 + (i + 1)) := by
  unfold sp_sd
  rw [if_neg (by omega), if_pos (by omega)]
  rfl
theorem sp_sd_t {i : Nat} (h : i < 3) (hj : j < 60) : sp_sd D (147 + 60 * i + j) = D (147 + 60 * (i + 1) + j) := by
  unfold sp_sd
  rw [if_neg (by omega), if_neg (by omega), if_pos (by omega)]
  exact congrArg D (by omega)
theorem sp_sd_x {i : Nat} (h : i < 3) (hj : j < 60) : sp_sd D (387 + 60 * i + j) = D (387 + 60 * (i + 1) + j) := by
  unfold sp_sd
  rw [if_neg (by omega), if_neg (by omega), if_neg (by omega), if_pos (by omega)]
  exact congrArg D (by omega)
theorem mr_U_sd (hU : mr_U D 4 n H) (h60 : n ≤ 60) : mr_U (sp_sd D) 3 n H := by
  obtain ⟨h, e, a1, a2, a3, a4, a5⟩ := hU
  refine ⟨h, fun k => e (k + 1), by rw [sp_sd_o (by omega)]; exact a1, a2, fun k hk => ?_, fun k hk => a4 (k + 1) (by omega), fun k hk j hj => ?_⟩
  · rw [sp_sd_k hk]; exact a3 (k + 1) (by omega)
  · rw [sp_sd_t hk (by omega), sp_sd_x hk (by omega)]; exact a5 (k + 1) (by omega) j hj
end RG
