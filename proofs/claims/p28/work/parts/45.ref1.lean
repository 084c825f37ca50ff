/-! a lining of the class holds a state's ints; the class makes of it just what sp_ says -/
def mr_L (f : mj_F) (a : Nat) (D : Nat → Int32) (r s n : Nat) : Prop :=
  (mc_Ge r s n ∧ D 0 = nI r ∧ D 1 = nI s) ∧ (f 1 a 0 = nI r ∧ f 1 a 1 = nI s ∧ f 1 a 2 = nI n) ∧ (f 1 a 8 = D 2 ∧ f 1 a 9 = D 3 ∧ f 1 a 10 = D 4 ∧ f 1 a 11 = D 5) ∧ (∀ j, j < 6 → f 10 a j = D (6 + j)) ∧ (∀ j, j < 6 → f 11 a j = D (12 + j)) ∧ (∀ j, j < 4 → f 12 a j = D (18 + j)) ∧ ∀ j, j < n → f 8 a j = D (22 + j) ∧ f 9 a j = D (82 + j)
/-- what an act on a lining may change -/
def mr_F (a : Nat) (f F : mj_F) : Prop := ∀ k i j, ¬ ((k = 1 ∨ (8 ≤ k ∧ k ≤ 13)) ∧ i = a) → F k i j = f k i j
theorem mr_F_r {a : Nat} {f : mj_F} : mr_F a f f := fun _ _ _ _ => rfl
theorem mr_F_t {a : Nat} {f F E : mj_F} (h : mr_F a f F) (h2 : mr_F a F E) : mr_F a f E := fun k i j hn => (h2 k i j hn).trans (h k i j hn)
theorem mr_L_e {f F : mj_F} {a : Nat} {D : Nat → Int32} {r s n : Nat} (h : mr_L f a D r s n) (hF : ∀ k j, (k = 1 ∨ (8 ≤ k ∧ k ≤ 12)) → F k a j = f k a j) : mr_L F a D r s n := by
  obtain ⟨h1, ⟨h2, h3, h4⟩, ⟨h5, h6, h7, h8⟩, h9, h10, h11, h12⟩ := h
  refine ⟨h1, ⟨?_, ?_, ?_⟩, ⟨?_, ?_, ?_, ?_⟩, fun j hj => ?_, fun j hj => ?_, fun j hj => ?_, fun j hj => ⟨?_, ?_⟩⟩
  · rw [hF _ _ (by omega)]; exact h2
  · rw [hF _ _ (by omega)]; exact h3
  · rw [hF _ _ (by omega)]; exact h4
  · rw [hF _ _ (by omega)]; exact h5
  · rw [hF _ _ (by omega)]; exact h6
  · rw [hF _ _ (by omega)]; exact h7
  · rw [hF _ _ (by omega)]; exact h8
  · rw [hF _ _ (by omega)]; exact h9 j hj
  · rw [hF _ _ (by omega)]; exact h10 j hj
  · rw [hF _ _ (by omega)]; exact h11 j hj
  · rw [hF _ _ (by omega)]; exact (h12 j hj).1
  · rw [hF _ _ (by omega)]; exact (h12 j hj).2
section RL
variable {f F : mj_F} {a b r s n j p k c m : Nat} {D E : Nat → Int32} {φ q v w : Int32}
theorem mr_L_D (h : mr_L f a D r s n) (hE : ∀ i, i < 142 → E i = D i) : mr_L f a E r s n := by
  have h60 := h.1.1.n60
  obtain ⟨⟨h0, h1, h1b⟩, h2, ⟨h5, h6, h7, h8⟩, h9, h10, h11, h12⟩ := h
  refine ⟨⟨h0, by rw [hE _ (by omega)]; exact h1, by rw [hE _ (by omega)]; exact h1b⟩, h2, ⟨?_, ?_, ?_, ?_⟩, fun j hj => ?_, fun j hj => ?_, fun j hj => ?_, fun j hj => ⟨?_, ?_⟩⟩
  · rw [hE _ (by omega)]; exact h5
  · rw [hE _ (by omega)]; exact h6
  · rw [hE _ (by omega)]; exact h7
  · rw [hE _ (by omega)]; exact h8
  · rw [hE _ (by omega)]; exact h9 j hj
  · rw [hE _ (by omega)]; exact h10 j hj
  · rw [hE _ (by omega)]; exact h11 j hj
  · rw [hE _ (by omega)]; exact (h12 j hj).1
  · rw [hE _ (by omega)]; exact (h12 j hj).2
theorem mr_L_T (h : mr_L f a D r s n) (hj : j < n) : mc_T f a j = sp_T D j := by
  obtain ⟨h1, h2⟩ := h.2.2.2.2.2.2 j hj
  unfold mc_T sp_T
  rw [h1, h2]
theorem mr_L_T0 (h : mr_L f a D r s n) (hV : mr_V D n) (hj : j < n) : ¬ mc_T f a j + nI 100 = 0 := by
  rw [mr_L_T h hj]
  exact mr_T0 hV hj
theorem mr_L_s (h : mr_L f a D r s n) (hj : j < 6) : f 11 a j = D (12 + j) := h.2.2.2.2.1 j hj
theorem mr_L_13 (h : mr_L f a D r s n) (hV : mr_V D n) : ¬ f 11 a 1 = 0 := by
  obtain ⟨v, h1, h2, h3⟩ := hV.2.2.1
  rw [mr_L_s h (by omega), h3]
  exact of_eq_false (mj_z0F (by omega) (by omega))
theorem mr_L_17 (h : mr_L f a D r s n) (hV : mr_V D n) : ¬ f 11 a 5 = 0 := by
  obtain ⟨v, h1, h2, h3⟩ := hV.2.2.2.2.1
  rw [mr_L_s h (by omega), h3]
  exact of_eq_false (mj_z0F (by omega) (by omega))
theorem mr_L_O (h : mr_L f a D r s n) (hV : mr_V D n) : mc_LO f a r s n := ⟨h.2.1.1, h.2.1.2.1, h.2.1.2.2, h.1.1, mr_L_13 h hV, mr_L_17 h hV⟩
theorem mr_L_ov (h : mr_L f a D r s n) (hV : mr_V D n) : mj_chk 1 (f 1 a 11) = true := by
  rw [h.2.2.1.2.2.2]
  rcases hV.1 with e_ | e_ <;> rw [e_] <;> rfl
theorem mr_L_W (h : mr_L f a D r s n) (hV : mr_V D n) (hj : j < n) (hp : p ≤ 200) : mc_W f a s n (nI p) j = sp_W D s n (nI p) j := by
  obtain ⟨w, -, h2, h3⟩ := mr_W hV h.1.1 hj hp
  have hG := h.1.1
  have q1 := (hG.q hj).1
  unfold mc_W
  rw [h2, ← h3, mr_L_T h hj, mc_lb_congr hG hj (fun i hi => mr_L_T h hi), h.2.2.2.1 (j / s) (by have := hG.2.1; omega), mr_L_s h (by omega)]
theorem mr_L_rt (h : mr_L f a D r s n) : mc_rt f a = sp_rt D := by
  unfold mc_rt sp_rt
  rw [h.2.2.1.2.1, mr_L_s h (by omega)]
theorem mr_L_n8 (h : mr_L f a D r s n) (hV : mr_V D n) (hj : j < n) (hp : p ≤ 200) : mc_n8 f a s n (nI p) j = sp_b D s n (nI p) j := by
  obtain ⟨h1, h2⟩ := h.2.2.2.2.2.2 j hj
  unfold mc_n8 sp_b
  rw [mr_L_W h hV hj hp, h1, h2]
theorem mr_L_w9 (h : mr_L f a D r s n) (hV : mr_V D n) (hj : j < n) (hp : p ≤ 200) : mc_w9 f a s n (nI p) j = sp_l D s n (nI p) j := by
  obtain ⟨h1, h2⟩ := h.2.2.2.2.2.2 j hj
  unfold mc_w9 sp_l
  rw [mr_L_W h hV hj hp, h2]
theorem mr_L_n9 (h : mr_L f a D r s n) (hV : mr_V D n) (hj : j < n) (hp : p ≤ 200) : mc_n9 f a s n (nI p) j = sp_9 D s n (nI p) j := by
  unfold mc_n9 sp_9
  rw [mr_L_w9 h hV hj hp, mr_L_rt h]
theorem mr_L_x (h : mr_L f a D r s n) (hV : mr_V D n) (hp : p ≤ 200) : mc_hx f a s n (nI p) = sp_x D s n (nI p) := by
  unfold mc_hx sp_x
  refine mc_sm_congr (fun j hj => ?_)
  obtain ⟨h1, h2⟩ := h.2.2.2.2.2.2 j hj
  rw [mr_L_W h hV hj hp, h1, h2]
theorem sp_ht_3 : sp_ht D s n φ 3 = D 3 + nI 1 := rfl
theorem sp_ht_20 : sp_ht D s n φ 20 = D 20 + sp_x D s n φ := rfl
theorem sp_ht_21 : sp_ht D s n φ 21 = if sp_rt D = true then D 21 + mc_sm (fun j => sp_l D s n φ j / nI 2) n else D 21 := rfl
theorem mr_L_ht (h : mr_L f a D r s n) (hV : mr_V D n) (hp : p ≤ 200) (h5 : D 5 = nI 0) : mr_L (mc_ht f a s n (nI p)) a (sp_ht D s n (nI p)) r s n := by
  have h60 := h.1.1.n60
  have hx := mr_L_x h hV hp
  have hrt := mr_L_rt h
  obtain ⟨⟨h0, h1, h1b⟩, ⟨k1, k2, k3⟩, ⟨b5, b6, b7, b8⟩, h9, h10, h11, h12⟩ := h
  have h : mr_L f a D r s n := ⟨⟨h0, h1, h1b⟩, ⟨k1, k2, k3⟩, ⟨b5, b6, b7, b8⟩, h9, h10, h11, h12⟩
  refine ⟨⟨h0, by rw [sp_ht_o (by omega)]; exact h1, by rw [sp_ht_o (by omega)]; exact h1b⟩, ⟨?_, ?_, ?_⟩, ⟨?_, ?_, ?_, ?_⟩, fun j hj => ?_, fun j hj => ?_, fun j hj => ?_, fun j hj => ⟨?_, ?_⟩⟩
  · rw [mc_ht_1 (by decide) (by decide) (by decide)]; exact k1
  · rw [mc_ht_1 (by decide) (by decide) (by decide)]; exact k2
  · rw [mc_ht_1 (by decide) (by decide) (by decide)]; exact k3
  · rw [mc_ht_18, b5]; rfl
  · rw [mc_ht_19, b6]; rfl
  · rw [mc_ht_1 (by decide) (by decide) (by decide), sp_ht_o (by omega)]; exact b7
  · rw [mc_ht_111, sp_ht_5, h5]
    have e1 : (∃ j, j < n ∧ mc_n8 f a s n (nI p) j + mc_n9 f a s n (nI p) j < f 11 a 0) ↔ sp_ov D s n (nI p) := by
      have e2 : f 11 a 0 = D 12 := h10 0 (by omega)
      rw [e2]
      exact ⟨fun ⟨j, y1, y2⟩ => ⟨j, y1, by rw [← mr_L_n8 h hV y1 hp, ← mr_L_n9 h hV y1 hp]; exact y2⟩, fun ⟨j, y1, y2⟩ => ⟨j, y1, by rw [mr_L_n8 h hV y1 hp, mr_L_n9 h hV y1 hp]; exact y2⟩⟩
    rw [mj_boi e1]
    rfl
  · rw [mc_ht_k (by decide) (by decide) (by decide) (by decide) (by decide), sp_ht_o (by omega)]; exact h9 j hj
  · rw [mc_ht_k (by decide) (by decide) (by decide) (by decide) (by decide), sp_ht_o (by omega)]; exact h10 j hj
  · by_cases c2 : j = 2
    · subst c2
      rw [mc_ht_122, hx, sp_ht_20, h11 2 (by omega)]
    · by_cases c3 : j = 3
      · subst c3
        rw [mc_ht_123, sp_ht_21, hrt, h11 3 (by omega), mc_sm_congr (u := fun j => sp_l D s n (nI p) j / nI 2) (fun j hj => by rw [mr_L_w9 h hV hj hp])]
      · rw [mc_ht_12 c2 c3, sp_ht_o (by omega)]; exact h11 j hj
  · rw [mc_ht_8 hj, sp_ht_8 hj, mr_L_n8 h hV hj hp]
  · rw [mc_ht_9 hj, sp_ht_9 hj h60, mr_L_n9 h hV hj hp]
theorem mr_F_ht : mr_F a f (mc_ht f a s n φ) := by
  intro k i j hn
  by_cases c1 : i = a
  · exact mc_ht_k (by omega) (by omega) (by omega) (by omega) (by omega)
  · exact mc_ht_i c1
theorem mr_L_sy (h : mr_L f a D r s n) (hj : j < n) : mc_sy f a j q = sp_sy D j q := by
  unfold mc_sy sp_sy
  rw [mr_L_T h hj, mr_L_s h (by omega), mr_L_s h (by omega)]
theorem mr_L_gr (h : mr_L f a D r s n) (hV : mr_V D n) (hj : j < n) : mc_gr f a j q = sp_gr D j q := by
  unfold mc_gr sp_gr
  rw [mr_L_sy h hj, mr_L_T h hj, h.2.2.1.2.2.2, mr_L_s h (by omega)]
  rcases hV.1 with e_ | e_
  · rw [e_, if_pos nI_0, if_neg (show ¬ nI 0 = nI 1 by decide)]
  · rw [e_, if_neg (by decide), if_pos rfl]
theorem mr_L_po (h : mr_L f a D r s n) (hj : j < n) : mr_L (mc_po f a j q) a (sp_po D j q) r s n := by
  have h60 := h.1.1.n60
  have hsy := mr_L_sy (q := q) h hj
  obtain ⟨⟨h0, h1, h1b⟩, ⟨k1, k2, k3⟩, ⟨b5, b6, b7, b8⟩, h9, h10, h11, h12⟩ := h
  unfold mc_po
  rw [hsy]
  refine ⟨⟨h0, by rw [sp_po_o (by omega)]; exact h1, by rw [sp_po_o (by omega)]; exact h1b⟩, ⟨?_, ?_, ?_⟩, ⟨?_, ?_, ?_, ?_⟩, fun i hi => ?_, fun i hi => ?_, fun i hi => ?_, fun i hi => ⟨?_, ?_⟩⟩
  · rw [mj_uk (by decide), mj_uk (by decide), mj_uk (by decide)]; exact k1
  · rw [mj_uk (by decide), mj_uk (by decide), mj_uk (by decide)]; exact k2
  · rw [mj_uk (by decide), mj_uk (by decide), mj_uk (by decide)]; exact k3
  · rw [mj_uk (by decide), mj_uk (by decide), mj_uk (by decide), sp_po_o (by omega)]; exact b5
  · rw [mj_uk (by decide), mj_uk (by decide), mj_uk (by decide), sp_po_o (by omega)]; exact b6
  · rw [mj_uk (by decide), mj_uk (by decide), mj_uk (by decide), sp_po_o (by omega)]; exact b7
  · rw [mj_uk (by decide), mj_uk (by decide), mj_uk (by decide), sp_po_o (by omega)]; exact b8
  · rw [mj_uk (by decide), mj_uk (by decide), mj_uk (by decide), sp_po_o (by omega)]; exact h9 i hi
  · rw [mj_uk (by decide)]
    by_cases c1 : i = 4
    · subst c1
      rw [mj_us, h10 4 (by omega)]
      unfold sp_po
      rw [if_neg (by omega), if_neg (by omega), if_pos rfl]
    · rw [mj_uj c1, mj_uk (by decide), sp_po_o (by omega)]; exact h10 i hi
  · by_cases c1 : i = 1
    · subst c1
      rw [mj_us, h11 1 (by omega)]
      unfold sp_po
      rw [if_neg (by omega), if_pos rfl]
    · rw [mj_uj c1, mj_uk (by decide), mj_uk (by decide), sp_po_o (by omega)]; exact h11 i hi
  · rw [mj_uk (by decide), mj_uk (by decide), mj_uk (by decide), sp_po_o (by omega)]; exact (h12 i hi).1
  · rw [mj_uk (by decide), mj_uk (by decide)]
    by_cases c1 : i = j
    · subst c1
      rw [mj_us, sp_po_9, (h12 i hi).2]
    · rw [mj_uj c1, sp_po_o (by omega)]; exact (h12 i hi).2
theorem mr_F_po : mr_F a f (mc_po f a j q) := by
  intro k i j2 hn
  unfold mc_po mj_u
  rw [if_neg (by omega), if_neg (by omega), if_neg (by omega)]
theorem mr_L_lrx (h : mr_L f a D r s n) (hj : j < r) : mc_lrx f a s j = sp_lx D (s * j) s := by
  have h5 := h.1.1.2.2.2.2
  have h6 := Nat.mul_le_mul_left s (show j + 1 ≤ r from hj)
  rw [Nat.mul_add, Nat.mul_one, Nat.mul_comm s r, ← h5] at h6
  unfold mc_lrx sp_lx
  refine mc_sm_congr (fun i hi => ?_)
  rw [Nat.mul_comm j s]
  exact mr_L_T h (by omega)
theorem mr_L_lr (h : mr_L f a D r s n) (hj : j < r) : mr_L (mc_lr f a s j) a (sp_lr D (s * j) s) r s n := by
  have h60 := h.1.1.n60
  have hx := mr_L_lrx h hj
  have h5 := h.1.1.2.2.2.2
  have h6 := Nat.mul_le_mul_left s (show j + 1 ≤ r from hj)
  rw [Nat.mul_add, Nat.mul_one, Nat.mul_comm s r, ← h5] at h6
  obtain ⟨⟨h0, h1, h1b⟩, ⟨k1, k2, k3⟩, ⟨b5, b6, b7, b8⟩, h9, h10, h11, h12⟩ := h
  unfold mc_lr
  rw [hx, Nat.mul_comm j s]
  have O : ∀ k i, k ≠ 8 → k ≠ 9 → k ≠ 12 → mj_u (mj_u (mc_ly f a (s * j) s) 12 a 3 (f 12 a 3 + sp_lx D (s * j) s)) 12 a 0 (f 12 a 0 + nI (s * 3000)) k a i = f k a i := fun k i y1 y2 y3 => by
    rw [mj_uk y3, mj_uk y3, mc_ly_o (by omega)]
  refine ⟨⟨h0, by rw [sp_lr_o (by omega)]; exact h1, by rw [sp_lr_o (by omega)]; exact h1b⟩, ⟨?_, ?_, ?_⟩, ⟨?_, ?_, ?_, ?_⟩, fun i hi => ?_, fun i hi => ?_, fun i hi => ?_, fun i hi => ⟨?_, ?_⟩⟩
  · rw [O _ _ (by decide) (by decide) (by decide)]; exact k1
  · rw [O _ _ (by decide) (by decide) (by decide)]; exact k2
  · rw [O _ _ (by decide) (by decide) (by decide)]; exact k3
  · rw [O _ _ (by decide) (by decide) (by decide), sp_lr_o (by omega)]; exact b5
  · rw [O _ _ (by decide) (by decide) (by decide), sp_lr_o (by omega)]; exact b6
  · rw [O _ _ (by decide) (by decide) (by decide), sp_lr_o (by omega)]; exact b7
  · rw [O _ _ (by decide) (by decide) (by decide), sp_lr_o (by omega)]; exact b8
  · rw [O _ _ (by decide) (by decide) (by decide), sp_lr_o (by omega)]; exact h9 i hi
  · rw [O _ _ (by decide) (by decide) (by decide), sp_lr_o (by omega)]; exact h10 i hi
  · by_cases c0 : i = 0
    · subst c0
      rw [mj_us, h11 0 (by omega)]
      unfold sp_lr
      rw [if_pos rfl, Nat.mul_comm s 3000]
    · rw [mj_uj c0]
      by_cases c3 : i = 3
      · subst c3
        rw [mj_us, h11 3 (by omega)]
        rfl
      · rw [mj_uj c3, mc_ly_o (by omega), sp_lr_o (by omega)]; exact h11 i hi
  · rw [mj_uk (by decide), mj_uk (by decide)]
    by_cases c1 : s * j ≤ i ∧ i < s * j + s
    · rw [mc_ly_8 c1.1 c1.2, sp_lr_8 c1.1 c1.2]
    · rw [mc_ly_o (by omega), sp_lr_o (by omega)]; exact (h12 i hi).1
  · rw [mj_uk (by decide), mj_uk (by decide)]
    by_cases c1 : s * j ≤ i ∧ i < s * j + s
    · rw [mc_ly_9 c1.1 c1.2, sp_lr_9 c1.1 c1.2 (by omega)]
    · rw [mc_ly_o (by omega), sp_lr_o (by omega)]; exact (h12 i hi).2
theorem mr_F_lr : mr_F a f (mc_lr f a s j) := by
  intro k i j2 hn
  unfold mc_lr
  rw [mj_u, if_neg (by omega), mj_u, if_neg (by omega), mc_ly_o (by omega)]
theorem mc_sm_add {t : Nat → Int32} : mc_sm t (b + c) = mc_sm t b + mc_sm (fun i => t (b + i)) c := by
  induction c with
  | zero =>
    show mc_sm t b = mc_sm t b + nI 0
    rw [nI_0, Int32.add_zero]
  | succ c ih =>
    show mc_sm t (b + c) + t (b + c) = _ + (_ + _)
    rw [ih, Int32.add_assoc]
theorem sp_lx_add : sp_lx D 0 (b + c) = sp_lx D 0 b + sp_lx D b c := by
  have e1 : (fun q => sp_T D (0 + q)) = sp_T D := funext (fun q => by rw [Nat.zero_add])
  unfold sp_lx
  rw [e1]
  exact mc_sm_add
theorem sp_lx_lr (h : b + c ≤ 60) : sp_lx (sp_lr D 0 b) b c = sp_lx D b c := by
  unfold sp_lx
  refine mc_sm_congr (fun i hi => ?_)
  unfold sp_T
  rw [sp_lr_o (by omega), sp_lr_o (by omega)]
theorem sp_lr_lr (h : b + c ≤ 60) : sp_lr (sp_lr D 0 b) b c = sp_lr D 0 (b + c) := by
  funext i
  by_cases c18 : i = 18
  · subst c18
    show D 18 + nI (3000 * b) + nI (3000 * c) = D 18 + nI (3000 * (b + c))
    rw [Int32.add_assoc, mj_add, Nat.mul_add]
  · by_cases c21 : i = 21
    · subst c21
      show D 21 + sp_lx D 0 b + sp_lx (sp_lr D 0 b) b c = D 21 + sp_lx D 0 (b + c)
      rw [sp_lx_lr h, sp_lx_add, Int32.add_assoc]
    · by_cases c1 : 22 ≤ i ∧ i < 22 + (b + c)
      · have e1 : sp_lr D 0 (b + c) i = nI 3000 := by
          rw [show i = 22 + (i - 22) by omega, sp_lr_8 (by omega) (by omega)]
        rw [e1]
        by_cases c2 : i < 22 + b
        · rw [sp_lr_o (by omega), show i = 22 + (i - 22) by omega, sp_lr_8 (by omega) (by omega)]
        · rw [show i = 22 + (i - 22) by omega, sp_lr_8 (by omega) (by omega)]
      · by_cases c3 : 82 ≤ i ∧ i < 82 + (b + c)
        · have e1 : sp_lr D 0 (b + c) i = nI 0 := by
            rw [show i = 82 + (i - 82) by omega, sp_lr_9 (by omega) (by omega) (by omega)]
          rw [e1]
          by_cases c2 : i < 82 + b
          · rw [sp_lr_o (by omega), show i = 82 + (i - 82) by omega, sp_lr_9 (by omega) (by omega) (by omega)]
          · rw [show i = 82 + (i - 82) by omega, sp_lr_9 (by omega) (by omega) (by omega)]
        · rw [sp_lr_o (by omega), sp_lr_o (by omega), sp_lr_o (by omega)]
theorem sp_lr_0 : sp_lr D 0 0 = D := by
  funext i
  unfold sp_lr sp_lx
  by_cases c18 : i = 18
  · subst c18
    rw [if_pos rfl]
    show D 18 + nI 0 = D 18
    rw [nI_0, Int32.add_zero]
  · rw [if_neg c18]
    by_cases c21 : i = 21
    · subst c21
      rw [if_pos rfl]
      show D 21 + nI 0 = D 21
      rw [nI_0, Int32.add_zero]
    · rw [if_neg c21, if_neg (by omega), if_neg (by omega)]
theorem mr_L_las (h : mr_L f a D r s n) : ∀ k, k ≤ r → mr_L (mc_las f a s k) a (sp_lr D 0 (s * k)) r s n ∧ mc_lax f a s k = sp_lx D 0 (s * k) ∧ mr_F a f (mc_las f a s k) := by
  have h60 := h.1.1.n60
  have h5 := h.1.1.2.2.2.2
  intro k
  induction k with
  | zero =>
    intro _
    rw [Nat.mul_zero, sp_lr_0]
    exact ⟨h, rfl, mr_F_r⟩
  | succ k ih =>
    intro hk
    obtain ⟨i1, i2, i3⟩ := ih (by omega)
    have h6 := Nat.mul_le_mul_left s hk
    rw [Nat.mul_add, Nat.mul_one, Nat.mul_comm s r, ← h5] at h6
    have e1 := mr_L_lr i1 (show k < r by omega)
    rw [sp_lr_lr (by omega)] at e1
    rw [Nat.mul_add, Nat.mul_one]
    refine ⟨e1, ?_, mr_F_t i3 mr_F_lr⟩
    show mc_lax f a s k + mc_lrx (mc_las f a s k) a s k = _
    rw [i2, mr_L_lrx i1 (show k < r by omega), sp_lx_lr (by omega), sp_lx_add]
def sp_lu (D : Nat → Int32) : Nat → Int32 := sp_u (sp_u (sp_u D 4 (D 4 + nI 1)) 3 (nI 0)) 5 (nI 0)
def sp_la (D : Nat → Int32) (n : Nat) : Nat → Int32 := sp_lr (sp_lu D) 0 n
theorem sp_lu_o {i : Nat} (h : i ≠ 3 ∧ i ≠ 4 ∧ i ≠ 5) : sp_lu D i = D i := by
  unfold sp_lu sp_u
  rw [if_neg h.2.2, if_neg h.1, if_neg h.2.1]
theorem sp_la_o {i : Nat} (h60 : n ≤ 60) (h : i ≠ 3 ∧ i ≠ 4 ∧ i ≠ 5) : sp_la D n i = sp_lr D 0 n i := by
  unfold sp_la
  have e1 : sp_lx (sp_lu D) 0 n = sp_lx D 0 n := by
    unfold sp_lx
    refine mc_sm_congr (fun i hi => ?_)
    unfold sp_T
    rw [sp_lu_o (by omega), sp_lu_o (by omega)]
  unfold sp_lr
  rw [sp_lu_o (i := 18) (by omega), sp_lu_o (i := 21) (by omega), e1, sp_lu_o h]
theorem mr_L_la (h : mr_L f a D r s n) : mr_L (mc_la f a s r) a (sp_la D n) r s n ∧ mc_lax f a s r = sp_lx D 0 n ∧ mr_F a f (mc_la f a s r) := by
  have h60 := h.1.1.n60
  have hn : s * r = n := by rw [h.1.1.2.2.2.2, Nat.mul_comm]
  obtain ⟨i1, i2, i3⟩ := mr_L_las h r (Nat.le_refl _)
  rw [hn] at i1 i2
  refine ⟨?_, i2, fun k i j hn => ?_⟩
  · obtain ⟨⟨h0, h1, h1b⟩, ⟨k1, k2, k3⟩, ⟨b5, b6, b7, b8⟩, h9, h10, h11, h12⟩ := i1
    unfold mc_la
    refine ⟨⟨h0, by rw [sp_la_o h60 (by omega)]; exact h1, by rw [sp_la_o h60 (by omega)]; exact h1b⟩, ⟨?_, ?_, ?_⟩, ⟨?_, ?_, ?_, ?_⟩, fun i hi => ?_, fun i hi => ?_, fun i hi => ?_, fun i hi => ⟨?_, ?_⟩⟩
    · rw [mj_uj (by decide), mj_uj (by decide), mj_uj (by decide)]; exact k1
    · rw [mj_uj (by decide), mj_uj (by decide), mj_uj (by decide)]; exact k2
    · rw [mj_uj (by decide), mj_uj (by decide), mj_uj (by decide)]; exact k3
    · rw [mj_uj (by decide), mj_uj (by decide), mj_uj (by decide), sp_la_o h60 (by omega)]; exact b5
    · rw [mj_uj (by decide), mj_us]; unfold sp_la; rw [sp_lr_o (by omega)]; rfl
    · rw [mj_uj (by decide), mj_uj (by decide), mj_us, b7, sp_lr_o (by omega)]; unfold sp_la; rw [sp_lr_o (by omega)]; rfl
    · rw [mj_us]; unfold sp_la; rw [sp_lr_o (by omega)]; rfl
    · rw [mj_uk (by decide), mj_uk (by decide), mj_uk (by decide), sp_la_o h60 (by omega)]; exact h9 i hi
    · rw [mj_uk (by decide), mj_uk (by decide), mj_uk (by decide), sp_la_o h60 (by omega)]; exact h10 i hi
    · rw [mj_uk (by decide), mj_uk (by decide), mj_uk (by decide), sp_la_o h60 (by omega)]; exact h11 i hi
    · rw [mj_uk (by decide), mj_uk (by decide), mj_uk (by decide), sp_la_o h60 (by omega)]; exact (h12 i hi).1
    · rw [mj_uk (by decide), mj_uk (by decide), mj_uk (by decide), sp_la_o h60 (by omega)]; exact (h12 i hi).2
  · unfold mc_la
    rw [mj_u, if_neg (by omega), mj_u, if_neg (by omega), mj_u, if_neg (by omega)]
    exact i3 k i j hn
theorem mr_L_cf (h : mr_L f b D r s n) (hab : b ≠ a) : mr_L (mc_cf f a b) a D r s n := by
  have h60 := h.1.1.n60
  obtain ⟨h0, ⟨k1, k2, k3⟩, ⟨b5, b6, b7, b8⟩, h9, h10, h11, h12⟩ := h
  have G1 : ∀ j, j = 0 ∨ j = 1 ∨ j = 2 ∨ j = 8 ∨ j = 9 ∨ j = 10 ∨ j = 11 → mc_cf f a b 1 a j = f 1 b j := by
    intro j hj
    have e0 : ∀ i, mc_c2 (mc_c1 f a b) a b 1 a i = mc_c1 f a b 1 a i := fun i => by
      unfold mc_c2
      rw [mj_cpk (by decide), mj_cpk (by decide), mj_cpk (by decide), mj_cpk (by decide), mj_cpk (by decide)]
    have e0b : ∀ i, mc_c2 (mc_c1 f a b) a b 1 b i = f 1 b i := fun i => by
      unfold mc_c2 mc_c1
      rw [mj_cpk (by decide), mj_cpk (by decide), mj_cpk (by decide), mj_cpk (by decide), mj_cpk (by decide), mj_ui hab, mj_ui hab, mj_ui hab]
    unfold mc_cf mc_c3
    rw [e0b, e0b, e0b, e0b]
    rcases hj with rfl | rfl | rfl | rfl | rfl | rfl | rfl
    · rw [mj_uj (by decide), mj_uj (by decide), mj_uj (by decide), mj_uj (by decide), e0]; unfold mc_c1; rw [mj_uj (by decide), mj_uj (by decide), mj_us]
    · rw [mj_uj (by decide), mj_uj (by decide), mj_uj (by decide), mj_uj (by decide), e0]; unfold mc_c1; rw [mj_uj (by decide), mj_us]
    · rw [mj_uj (by decide), mj_uj (by decide), mj_uj (by decide), mj_uj (by decide), e0]; unfold mc_c1; rw [mj_us]
    · rw [mj_uj (by decide), mj_uj (by decide), mj_uj (by decide), mj_us]
    · rw [mj_uj (by decide), mj_uj (by decide), mj_us]
    · rw [mj_uj (by decide), mj_us]
    · rw [mj_us]
  have G : ∀ k i j, k ≠ 1 → mc_c1 f a b k i j = f k i j := fun k i j hk => by unfold mc_c1; rw [mj_uk hk, mj_uk hk, mj_uk hk]
  have G3 : ∀ k i j, k ≠ 1 → mc_cf f a b k i j = mc_c2 (mc_c1 f a b) a b k i j := fun k i j hk => by unfold mc_cf mc_c3; rw [mj_uk hk, mj_uk hk, mj_uk hk, mj_uk hk]
  refine ⟨h0, ⟨?_, ?_, ?_⟩, ⟨?_, ?_, ?_, ?_⟩, fun j hj => ?_, fun j hj => ?_, fun j hj => ?_, fun j hj => ⟨?_, ?_⟩⟩
  · rw [G1 _ (by omega)]; exact k1
  · rw [G1 _ (by omega)]; exact k2
  · rw [G1 _ (by omega)]; exact k3
  · rw [G1 _ (by omega)]; exact b5
  · rw [G1 _ (by omega)]; exact b6
  · rw [G1 _ (by omega)]; exact b7
  · rw [G1 _ (by omega)]; exact b8
  · rw [G3 _ _ _ (by decide)]; unfold mc_c2; rw [mj_cpk (by decide), mj_cpk (by decide), mj_cpj hj, mj_cpk (by decide), mj_cpk (by decide), G _ _ _ (by decide)]; exact h9 j hj
  · rw [G3 _ _ _ (by decide)]; unfold mc_c2; rw [mj_cpk (by decide), mj_cpj hj, mj_cpk (by decide), mj_cpk (by decide), mj_cpk (by decide), G _ _ _ (by decide)]; exact h10 j hj
  · rw [G3 _ _ _ (by decide)]; unfold mc_c2; rw [mj_cpj hj, mj_cpk (by decide), mj_cpk (by decide), mj_cpk (by decide), mj_cpk (by decide), G _ _ _ (by decide)]; exact h11 j hj
  · rw [G3 _ _ _ (by decide)]; unfold mc_c2; rw [mj_cpk (by decide), mj_cpk (by decide), mj_cpk (by decide), mj_cpk (by decide), mj_cpj (by omega), G _ _ _ (by decide)]; exact (h12 j hj).1
  · rw [G3 _ _ _ (by decide)]; unfold mc_c2; rw [mj_cpk (by decide), mj_cpk (by decide), mj_cpk (by decide), mj_cpj (by omega), mj_cpk (by decide), G _ _ _ (by decide)]; exact (h12 j hj).2
theorem mj_u_n {k0 i0 j0 i : Nat} (h : ¬ (k = k0 ∧ i = i0 ∧ j = j0)) : mj_u f k0 i0 j0 v k i j = f k i j := by
  unfold mj_u
  rw [if_neg h]
theorem mj_cp_n {k0 i0 k1 i1 N i : Nat} (h : ¬ (k = k1 ∧ i = i1)) : mj_cp f k0 i0 k1 i1 N k i j = f k i j := by
  unfold mj_cp
  rw [if_neg (fun q_ => h ⟨q_.1, q_.2.1⟩)]
theorem mr_F_cf : mr_F a f (mc_cf f a b) := by
  intro k i j hn
  unfold mc_cf mc_c3 mc_c2 mc_c1
  rw [mj_u_n (by omega), mj_u_n (by omega), mj_u_n (by omega), mj_u_n (by omega), mj_cp_n (by omega), mj_cp_n (by omega), mj_cp_n (by omega), mj_cp_n (by omega), mj_cp_n (by omega), mj_u_n (by omega), mj_u_n (by omega), mj_u_n (by omega)]
theorem mr_F_lay : mr_F a f (mc_lay f a r s) := by
  intro k i j hn
  unfold mc_lay mc_l3 mc_l2
  rw [mj_u, if_neg (by omega), mj_u, if_neg (by omega), mj_u, if_neg (by omega), mj_u, if_neg (by omega), mj_u, if_neg (by omega), mj_u, if_neg (by omega), mj_u, if_neg (by omega), mj_u, if_neg (by omega), mc_fl_o (by omega), mc_fl_o (by omega), mc_ly_o (by omega)]
  unfold mc_l1 mj_u
  rw [if_neg (by omega), if_neg (by omega), if_neg (by omega)]
theorem mr_L_lay (hG : mc_Ge r s n) : mr_L (mc_lay f a r s) a (sp_bg r s n) r s n := by
  have h60 := hG.n60
  have h5 := hG.2.2.2.2
  have A1 : ∀ k i, k ≠ 1 → k ≠ 12 → mc_lay f a r s k a i = mc_l2 (mc_l1 f a r s) a (r * s) k a i := fun k i y1 y2 => by
    unfold mc_lay mc_l3
    rw [mj_uk y1, mj_uk y1, mj_uk y1, mj_uk y1, mj_uk y2, mj_uk y2, mj_uk y2, mj_uk y2]
  have A2 : ∀ i, i < 8 → mc_lay f a r s 1 a i = mc_l1 f a r s 1 a i := fun i y1 => by
    unfold mc_lay mc_l3
    rw [mj_uj (by omega), mj_uj (by omega), mj_uj (by omega), mj_uj (by omega), mj_uk (by decide), mj_uk (by decide), mj_uk (by decide), mj_uk (by decide), mc_l2_1]
  refine ⟨⟨hG, rfl, rfl⟩, ⟨?_, ?_, ?_⟩, ⟨?_, ?_, ?_, ?_⟩, fun j hj => ?_, fun j hj => ?_, fun j hj => ?_, fun j hj => ⟨?_, ?_⟩⟩
  · rw [A2 _ (by omega)]; unfold mc_l1; rw [mj_uj (by decide), mj_uj (by decide), mj_us]
  · rw [A2 _ (by omega)]; unfold mc_l1; rw [mj_uj (by decide), mj_us]
  · rw [A2 _ (by omega)]; unfold mc_l1; rw [mj_us, h5]
  · unfold mc_lay mc_l3; rw [mj_uj (by decide), mj_uj (by decide), mj_uj (by decide), mj_us]; unfold sp_bg; rw [if_neg (by omega), if_neg (by omega), if_neg (by omega), if_neg (by omega), if_neg (by omega), if_neg (by omega), if_neg (by omega)]
  · unfold mc_lay mc_l3; rw [mj_uj (by decide), mj_uj (by decide), mj_us]; unfold sp_bg; rw [if_neg (by omega), if_neg (by omega), if_neg (by omega), if_neg (by omega), if_neg (by omega), if_neg (by omega), if_neg (by omega)]
  · unfold mc_lay mc_l3; rw [mj_uj (by decide), mj_us]; rfl
  · unfold mc_lay mc_l3; rw [mj_us]; unfold sp_bg; rw [if_neg (by omega), if_neg (by omega), if_neg (by omega), if_neg (by omega), if_neg (by omega), if_neg (by omega), if_neg (by omega)]
  · rw [A1 _ _ (by decide) (by decide)]; unfold mc_l2; rw [mc_fl_o (by omega), mc_fl_j hj]; unfold sp_bg; rw [if_neg (by omega), if_neg (by omega), if_neg (by omega), if_pos (by omega)]
  · rw [A1 _ _ (by decide) (by decide)]; unfold mc_l2; rw [mc_fl_j hj]; unfold sp_bg; rw [if_neg (by omega), if_neg (by omega), if_neg (by omega), if_neg (by omega), if_pos (by omega), show 12 + j - 12 = j by omega]
  · unfold mc_lay mc_l3
    rw [mj_uk (by decide), mj_uk (by decide), mj_uk (by decide), mj_uk (by decide)]
    have b0 : ∀ i, 19 ≤ i → i < 22 → sp_bg r s n i = nI 0 := fun i y1 y2 => by unfold sp_bg; rw [if_neg (by omega), if_neg (by omega), if_neg (by omega), if_neg (by omega), if_neg (by omega), if_neg (by omega), if_neg (by omega)]
    by_cases c3 : j = 3
    · subst c3; rw [mj_us, b0 _ (by omega) (by omega)]
    · by_cases c2 : j = 2
      · subst c2; rw [mj_uj (by decide), mj_us, b0 _ (by omega) (by omega)]
      · by_cases c1 : j = 1
        · subst c1; rw [mj_uj (by decide), mj_uj (by decide), mj_us, b0 _ (by omega) (by omega)]
        · have c0 : j = 0 := by omega
          subst c0
          rw [mj_uj (by decide), mj_uj (by decide), mj_uj (by decide), mj_us]
          show nI (r * s * 3000) = nI (3000 * n)
          rw [h5, Nat.mul_comm]
  · rw [A1 _ _ (by decide) (by decide)]; unfold mc_l2; rw [mc_fl_o (by omega), mc_fl_o (by omega), mc_ly_8 (by omega) (by omega)]; unfold sp_bg; rw [if_neg (by omega), if_neg (by omega), if_neg (by omega), if_neg (by omega), if_neg (by omega), if_neg (by omega), if_pos (by omega)]
  · rw [A1 _ _ (by decide) (by decide)]; unfold mc_l2; rw [mc_fl_o (by omega), mc_fl_o (by omega), mc_ly_9 (by omega) (by omega)]; unfold sp_bg; rw [if_neg (by omega), if_neg (by omega), if_neg (by omega), if_neg (by omega), if_neg (by omega), if_neg (by omega), if_neg (by omega)]
theorem sp_u_o {i : Nat} (h : i ≠ j) : sp_u D j v i = D i := by unfold sp_u; rw [if_neg h]
theorem sp_u_s : sp_u D j v j = v := by unfold sp_u; rw [if_pos rfl]
theorem mr_L_rate (h : mr_L f a D r s n) (hj : j < 6) : mr_L (mj_u f 10 a j v) a (sp_u D (6 + j) v) r s n := by
  obtain ⟨⟨h0, h1, h1b⟩, ⟨k1, k2, k3⟩, ⟨b5, b6, b7, b8⟩, h9, h10, h11, h12⟩ := h
  refine ⟨⟨h0, by rw [sp_u_o (by omega)]; exact h1, by rw [sp_u_o (by omega)]; exact h1b⟩, ⟨?_, ?_, ?_⟩, ⟨?_, ?_, ?_, ?_⟩, fun i hi => ?_, fun i hi => ?_, fun i hi => ?_, fun i hi => ⟨?_, ?_⟩⟩
  · rw [mj_uk (by decide)]; exact k1
  · rw [mj_uk (by decide)]; exact k2
  · rw [mj_uk (by decide)]; exact k3
  · rw [mj_uk (by decide), sp_u_o (by omega)]; exact b5
  · rw [mj_uk (by decide), sp_u_o (by omega)]; exact b6
  · rw [mj_uk (by decide), sp_u_o (by omega)]; exact b7
  · rw [mj_uk (by decide), sp_u_o (by omega)]; exact b8
  · by_cases c1 : i = j
    · subst c1; rw [mj_us, sp_u_s]
    · rw [mj_uj c1, sp_u_o (by omega)]; exact h9 i hi
  · rw [mj_uk (by decide), sp_u_o (by omega)]; exact h10 i hi
  · rw [mj_uk (by decide), sp_u_o (by omega)]; exact h11 i hi
  · rw [mj_uk (by decide), sp_u_o (by omega)]; exact (h12 i hi).1
  · rw [mj_uk (by decide), sp_u_o (by omega)]; exact (h12 i hi).2
theorem mr_L_set (h : mr_L f a D r s n) (hj : j < 6) : mr_L (mj_u f 11 a j v) a (sp_u D (12 + j) v) r s n := by
  obtain ⟨⟨h0, h1, h1b⟩, ⟨k1, k2, k3⟩, ⟨b5, b6, b7, b8⟩, h9, h10, h11, h12⟩ := h
  refine ⟨⟨h0, by rw [sp_u_o (by omega)]; exact h1, by rw [sp_u_o (by omega)]; exact h1b⟩, ⟨?_, ?_, ?_⟩, ⟨?_, ?_, ?_, ?_⟩, fun i hi => ?_, fun i hi => ?_, fun i hi => ?_, fun i hi => ⟨?_, ?_⟩⟩
  · rw [mj_uk (by decide)]; exact k1
  · rw [mj_uk (by decide)]; exact k2
  · rw [mj_uk (by decide)]; exact k3
  · rw [mj_uk (by decide), sp_u_o (by omega)]; exact b5
  · rw [mj_uk (by decide), sp_u_o (by omega)]; exact b6
  · rw [mj_uk (by decide), sp_u_o (by omega)]; exact b7
  · rw [mj_uk (by decide), sp_u_o (by omega)]; exact b8
  · rw [mj_uk (by decide), sp_u_o (by omega)]; exact h9 i hi
  · by_cases c1 : i = j
    · subst c1; rw [mj_us, sp_u_s]
    · rw [mj_uj c1, sp_u_o (by omega)]; exact h10 i hi
  · rw [mj_uk (by decide), sp_u_o (by omega)]; exact h11 i hi
  · rw [mj_uk (by decide), sp_u_o (by omega)]; exact (h12 i hi).1
  · rw [mj_uk (by decide), sp_u_o (by omega)]; exact (h12 i hi).2
end RL
