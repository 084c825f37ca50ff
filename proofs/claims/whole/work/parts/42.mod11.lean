/-! the reference: the first fault; what a state is as 627 ints, and what the calls make of it (sp_), and that the reference makes just that -/
theorem mt_nx_u {t : Nat → Int32} {L b : Nat} : mt_nx t L b ≤ b + 13 := by
  have h1 := mt_n_b t L (b + 1)
  have h2 := mt_n_b t L ((mt_n t L (b + 1)).1 + 1)
  have h3 : (mt_m2 t L (b + 1)).1 ≤ (mt_n t L (b + 1)).1 + 1 + 4 := h2.2.1
  unfold mt_nx
  split
  · omega
  · split <;> omega
section MY
variable {X : mj_X} {S : List (Nat × Nat)} {f F : mj_F} {g : mj_G} {m L p b r s n : Nat} {c K : Int32}
theorem md_fll (hg0 : g 6 m 0 = some (18, m)) (hg : g 6 m 6 = some (22, m)) (hO : md_O f m r s n) (hL : f 6 m 7 = nI L) (h100 : L ≤ 100) : ∀ (q b : Nat) (F : mj_F) (l1 : Option mj_V), L ≤ b + q → b ≤ 1000 → md_Q m f F → F 6 m 8 = nI b → ∃ f2, mj_g X 143 3 [some (.inr (6, m)), l1] [] (S, F, g) = some (some (.inl (mc_oi (mt_ff (f 22 m) L r n q b))), (S, f2, g)) ∧ md_Q m f f2 := by
  intro q
  induction q with
  | zero =>
    intro b F l1 hk hb hQ hp
    refine ⟨F, ?_, hQ⟩
    have hL2 : F 6 m 7 = nI L := (md_Q_7 hQ).trans hL
    refine Eq.trans mj_g143_3 ?_
    simp (disch := omega) only [mj_g143_4, mj_g143_5, mj_g143_6, mj_g143_7, mj_g143_17, mj_g143_18, ↓reduceIte, Option.bind_some, Option.toList_some, Option.toList_none, List.cons_append, List.nil_append, mj_ixn, mj_add, mj_mul, mj_sub, mj_dv, mj_rmn, mj_ltT, mj_ltF, mj_leT, mj_leF, mj_eqT, mj_eqF, mj_z0T, mj_z0F, mj_bo0, mj_boc, mj_chk10, mj_chk11, hp, hL2]
    rfl
  | succ q ih =>
    intro b F l1 hk hb hQ hp
    have hL2 : F 6 m 7 = nI L := (md_Q_7 hQ).trans hL
    rw [mt_ff_s]
    by_cases c1 : b < L
    · rw [if_pos c1]
      haveI : Decidable (mt_P (F 22 m) L r n b) := Classical.propDecidable _
      obtain ⟨f2, a1, a2, a3, a4⟩ := md_readsLine (X := X) (S := S) (f := F) hg0 hg (md_O_e (md_Q_18 hQ) hO) hL2 h100 hp c1
      have Q2 : md_Q m f f2 := fun k i2 j h => (a2 k i2 j h).trans (hQ k i2 j h)
      have e22 := md_Q_22 hQ
      by_cases c2 : mt_P (F 22 m) L r n b
      · obtain ⟨b1, -, -⟩ := a4 c2
        rw [e22] at b1
        have hx := mt_nx_b (t := f 22 m) (L := L) (b := b)
        have hx2 := mt_nx_u (t := f 22 m) (L := L) (b := b)
        have c2' : mt_P (f 22 m) L r n b := by rw [← e22]; exact c2
        obtain ⟨f3, d1, d2⟩ := ih (mt_nx (f 22 m) L b) f2 (some (.inl (nI b))) (by omega) (by omega) Q2 b1
        refine ⟨f3, ?_, d2⟩
        rw [if_pos c2', ← d1]
        rw [← mj_boT c2] at a1
        refine Eq.trans mj_g143_3 ?_
        simp (disch := omega) only [mj_g143_4, mj_g143_5, mj_g143_6, mj_g143_7, mj_g143_8, mj_g143_9, mj_g143_10, mj_g143_11, mj_g143_12, mj_g143_13, mj_g143_16, ↓reduceIte, Option.bind_some, Option.toList_some, Option.toList_none, List.cons_append, List.nil_append, mj_ixn, mj_add, mj_mul, mj_sub, mj_dv, mj_rmn, mj_ltT, mj_ltF, mj_leT, mj_leF, mj_eqT, mj_eqF, mj_z0T, mj_z0F, mj_bo0, mj_boc, mj_chk10, mj_chk11, hp, hL2, a1]
      · have c2' : ¬ mt_P (f 22 m) L r n b := by rw [← e22]; exact c2
        refine ⟨f2, ?_, Q2⟩
        rw [if_neg c2']
        rw [← mj_boF c2] at a1
        refine Eq.trans mj_g143_3 ?_
        simp (disch := omega) only [mj_g143_4, mj_g143_5, mj_g143_6, mj_g143_7, mj_g143_8, mj_g143_9, mj_g143_10, mj_g143_11, mj_g143_12, mj_g143_13, mj_g143_14, mj_g143_15, ↓reduceIte, Option.bind_some, Option.toList_some, Option.toList_none, List.cons_append, List.nil_append, mj_ixn, mj_add, mj_mul, mj_sub, mj_dv, mj_rmn, mj_ltT, mj_ltF, mj_leT, mj_leF, mj_eqT, mj_eqF, mj_z0T, mj_z0F, mj_bo0, mj_boc, mj_chk10, mj_chk11, hp, hL2, a1]
        rfl
    · refine ⟨F, ?_, hQ⟩
      rw [if_neg c1]
      refine Eq.trans mj_g143_3 ?_
      simp (disch := omega) only [mj_g143_4, mj_g143_5, mj_g143_6, mj_g143_7, mj_g143_17, mj_g143_18, ↓reduceIte, Option.bind_some, Option.toList_some, Option.toList_none, List.cons_append, List.nil_append, mj_ixn, mj_add, mj_mul, mj_sub, mj_dv, mj_rmn, mj_ltT, mj_ltF, mj_leT, mj_leF, mj_eqT, mj_eqF, mj_z0T, mj_z0F, mj_bo0, mj_boc, mj_chk10, mj_chk11, hp, hL2]
      rfl
theorem md_fault (hg0 : g 6 m 0 = some (18, m)) (hg : g 6 m 6 = some (22, m)) (hO : md_O f m r s n) (hL : f 6 m 7 = nI L) (h100 : L ≤ 100) : ∃ f2, mj_x X 143 [.inr (6, m)] (S, f, g) = some (some (.inl (mc_oi (mt_ff (f 22 m) L r n 100 0))), (S, f2, g)) ∧ md_Q m f f2 := by
  obtain ⟨f2, d1, d2⟩ := md_fll (X := X) (S := S) hg0 hg hO hL h100 100 0 (mj_u f 6 m 8 (nI 0)) none (by omega) (by omega) (md_Q_u (fun _ _ _ _ => rfl) (by omega)) mj_us
  refine ⟨f2, ?_, d2⟩
  rw [← d1]
  simp only [mj_x143, mj_g143_0, mj_g143_1, mj_g143_2]
end MY
/-- a state's ints: what is read off them -/
def sp_T (D : Nat → Int32) : Nat → Int32 := fun j => D (22 + j) + D (82 + j)
def sp_W0 (D : Nat → Int32) (s n : Nat) (φ : Int32) (j : Nat) : Int32 := D (6 + j / s) * φ / nI 100 + (if sp_T D j - mc_lb (sp_T D) s n j < D 13 then nI 0 else (sp_T D j - mc_lb (sp_T D) s n j) / D 13)
def sp_W (D : Nat → Int32) (s n : Nat) (φ : Int32) (j : Nat) : Int32 := if 0 ≤ sp_W0 D s n φ j then sp_W0 D s n φ j else nI 0
def sp_x (D : Nat → Int32) (s n : Nat) (φ : Int32) : Int32 := mc_sm (fun j => mp_x (D (22 + j)) (D (82 + j)) (sp_W D s n φ j)) n
def sp_rt (D : Nat → Int32) : Bool := decide (mj_rem (D 3 + nI 1) (D 17) = 0)
def sp_b (D : Nat → Int32) (s n : Nat) (φ : Int32) (j : Nat) : Int32 := mp_b (D (22 + j)) (D (82 + j)) (sp_W D s n φ j)
def sp_l (D : Nat → Int32) (s n : Nat) (φ : Int32) (j : Nat) : Int32 := mp_l (D (82 + j)) (sp_W D s n φ j)
def sp_9 (D : Nat → Int32) (s n : Nat) (φ : Int32) (j : Nat) : Int32 := if sp_rt D = true then sp_l D s n φ j - sp_l D s n φ j / nI 2 else sp_l D s n φ j
abbrev sp_ov (D : Nat → Int32) (s n : Nat) (φ : Int32) : Prop := ∃ j, j < n ∧ sp_b D s n φ j + sp_9 D s n φ j < D 12
def sp_ht (D : Nat → Int32) (s n : Nat) (φ : Int32) : Nat → Int32 := fun i =>
  if i = 2 then D 2 + nI 1 else if i = 3 then D 3 + nI 1 else if i = 5 then (if sp_ov D s n φ then nI 1 else D 5)
  else if i = 20 then D 20 + sp_x D s n φ else if i = 21 then (if sp_rt D = true then D 21 + mc_sm (fun j => sp_l D s n φ j / nI 2) n else D 21)
  else if 22 ≤ i ∧ i < 22 + n then sp_b D s n φ (i - 22) else if 82 ≤ i ∧ i < 82 + n then sp_9 D s n φ (i - 82) else D i
def sp_sy (D : Nat → Int32) (j : Nat) (q : Int32) : Int32 := if mc_tp (D 14) (sp_T D j) < D 15 then q * nI 3 / nI 5 else q * nI 4 / nI 5
def sp_gr (D : Nat → Int32) (j : Nat) (q : Int32) : Int32 :=
  if D 5 = nI 1 then nI 1 else (if sp_T D j + sp_sy D j q ≤ nI 3500 then (if q ≤ D 16 then nI 0 else nI 3) else nI 2)
def sp_po (D : Nat → Int32) (j : Nat) (q : Int32) : Nat → Int32 := fun i =>
  if i = 82 + j then D (82 + j) + sp_sy D j q else if i = 19 then D 19 + sp_sy D j q else if i = 16 then D 16 - q else D i
def sp_lx (D : Nat → Int32) (b c : Nat) : Int32 := mc_sm (fun q => sp_T D (b + q)) c
def sp_lr (D : Nat → Int32) (b c : Nat) : Nat → Int32 := fun i =>
  if i = 18 then D 18 + nI (3000 * c) else if i = 21 then D 21 + sp_lx D b c else if 22 + b ≤ i ∧ i < 22 + b + c then nI 3000 else if 82 + b ≤ i ∧ i < 82 + b + c then nI 0 else D i
def sp_u (D : Nat → Int32) (j : Nat) (v : Int32) : Nat → Int32 := fun i => if i = j then v else D i
def sp_bg (r s n : Nat) : Nat → Int32 := fun i =>
  if i = 0 then nI r else if i = 1 then nI s else if i = 4 then nI 1 else if 6 ≤ i ∧ i < 12 then nI 10
  else if 12 ≤ i ∧ i < 18 then mj_tb 0 (i - 12) else if i = 18 then nI (3000 * n) else if 22 ≤ i ∧ i < 22 + n then nI 3000 else nI 0
def sp_sd (D : Nat → Int32) : Nat → Int32 := fun i =>
  if i = 142 then nI 3 else if 143 ≤ i ∧ i < 146 then D (i + 1) else if 147 ≤ i ∧ i < 327 then D (i + 60) else if 387 ≤ i ∧ i < 567 then D (i + 60) else D i
def sp_st (D : Nat → Int32) (c n : Nat) : Nat → Int32 := fun i =>
  if i = 142 then nI (c + 1) else if i = 143 + c then D 2 else if 147 + 60 * c ≤ i ∧ i < 147 + 60 * c + n then mc_tp (D 14) (sp_T D (i - (147 + 60 * c)))
  else if 387 + 60 * c ≤ i ∧ i < 387 + 60 * c + n then sp_T D (i - (387 + 60 * c)) else D i
def sp_us (D : Nat → Int32) (s n : Nat) (φ : Int32) : Nat → (Nat → Int32) × Nat
  | 0 => (D, if D 5 = 0 then 1 else 0)
  | q + 1 => if D 5 = 0 then ((sp_us (sp_ht D s n φ) s n φ q).1, (sp_us (sp_ht D s n φ) s n φ q).2 + 1) else (D, 0)
section SP
variable {f F : mj_F} {m L p b c r s n j : Nat} {φ q v : Int32} {D : Nat → Int32}
theorem md_ht_8 (h60 : n ≤ 60) (hj : j < n) : md_h1 f m s n φ 18 m (22 + j) = sp_b (f 18 m) s n φ j := by
  unfold md_h1
  rw [md_ws_8 hj h60, mc_fl_e (by decide)]
  rfl
theorem md_ht_9 (h60 : n ≤ 60) (hj : j < n) : md_h1 f m s n φ 18 m (82 + j) = sp_l (f 18 m) s n φ j := by
  unfold md_h1
  rw [md_ws_9 hj h60, mc_fl_e (by decide)]
  rfl
theorem md_h1_o {i : Nat} (h : ¬ ((22 ≤ i ∧ i < 22 + n) ∨ (82 ≤ i ∧ i < 82 + n))) : md_h1 f m s n φ 18 m i = f 18 m i := by
  unfold md_h1
  rw [md_ws_o (by omega), mc_fl_e (by decide)]
theorem md_h2_o {i : Nat} {x : Int32} (h : i ≠ 2 ∧ i ≠ 3 ∧ i ≠ 20) : md_h2 f m x 18 m i = f 18 m i := by
  unfold md_h2
  rw [mj_uj (by omega), mj_uj (by omega), mj_uj (by omega)]
theorem md_h3_e {x : Int32} : md_h3 (md_h2 (md_h1 f m s n φ) m x) m n = if sp_rt (f 18 m) = true then md_rs (md_h2 (md_h1 f m s n φ) m x) m n else md_h2 (md_h1 f m s n φ) m x := by
  have e3 : md_h2 (md_h1 f m s n φ) m x 18 m 3 = f 18 m 3 + nI 1 := by
    unfold md_h2
    rw [mj_us, md_h1_o (by omega)]
  have e17 : md_h2 (md_h1 f m s n φ) m x 18 m 17 = f 18 m 17 := by rw [md_h2_o (by omega), md_h1_o (by omega)]
  unfold md_h3
  rw [e3, e17]
  by_cases c1 : mj_rem (f 18 m 3 + nI 1) (f 18 m 17) = 0
  · rw [if_pos c1, if_pos (show sp_rt (f 18 m) = true from decide_eq_true c1)]
  · rw [if_neg c1, if_neg (show ¬ sp_rt (f 18 m) = true from fun q_ => c1 (of_decide_eq_true q_))]
theorem md_ov_5 {k : Nat} : md_ov F m k 18 m 5 = if (∃ j, j < k ∧ md_T F m j < F 18 m 12) then nI 1 else F 18 m 5 := by
  induction k with
  | zero => rw [if_neg (fun ⟨j, h, _⟩ => by omega)]; rfl
  | succ k ih =>
    show mj_u _ _ _ _ _ _ _ _ = _
    rw [mj_us, ih]
    by_cases c1 : md_T F m k < F 18 m 12
    · rw [if_pos c1, if_pos ⟨k, by omega, c1⟩]
    · rw [if_neg c1]
      by_cases c2 : ∃ j, j < k ∧ md_T F m j < F 18 m 12
      · obtain ⟨j, h1, h2⟩ := c2
        rw [if_pos ⟨j, h1, h2⟩, if_pos ⟨j, by omega, h2⟩]
      · rw [if_neg c2, if_neg (fun ⟨j, h1, h2⟩ => by
          by_cases e_ : j = k
          · rw [e_] at h2; exact c1 h2
          · exact c2 ⟨j, by omega, h2⟩)]
theorem md_ht_sp (h60 : n ≤ 60) : md_ht f m s n φ 18 m = sp_ht (f 18 m) s n φ := by
  have G : ∀ i, i ≠ 5 → md_ht f m s n φ 18 m i = sp_ht (f 18 m) s n φ i ∧ md_h3 (md_h2 (md_h1 f m s n φ) m (md_hx f m s n φ)) m n 18 m i = sp_ht (f 18 m) s n φ i := by
    intro i hi
    have e0 : md_ht f m s n φ 18 m i = md_h3 (md_h2 (md_h1 f m s n φ) m (md_hx f m s n φ)) m n 18 m i := by
      unfold md_ht
      rw [md_ov_o (by omega)]
    rw [e0, and_self, md_h3_e]
    unfold sp_ht
    by_cases c2 : i = 2
    · subst c2
      rw [if_pos rfl]
      have e1 : md_h2 (md_h1 f m s n φ) m (md_hx f m s n φ) 18 m 2 = f 18 m 2 + nI 1 := by
        unfold md_h2
        rw [mj_uj (by decide), mj_us, md_h1_o (by omega)]
      split
      · rw [md_rs_o (by omega), e1]
      · exact e1
    · rw [if_neg c2]
      by_cases c3 : i = 3
      · subst c3
        rw [if_pos rfl]
        have e1 : md_h2 (md_h1 f m s n φ) m (md_hx f m s n φ) 18 m 3 = f 18 m 3 + nI 1 := by
          unfold md_h2
          rw [mj_us, md_h1_o (by omega)]
        split
        · rw [md_rs_o (by omega), e1]
        · exact e1
      · rw [if_neg c3, if_neg hi]
        by_cases c20 : i = 20
        · subst c20
          rw [if_pos rfl]
          have e1 : md_h2 (md_h1 f m s n φ) m (md_hx f m s n φ) 18 m 20 = f 18 m 20 + sp_x (f 18 m) s n φ := by
            unfold md_h2
            rw [mj_uj (by decide), mj_uj (by decide), mj_us, md_h1_o (by omega)]
            rfl
          split
          · rw [md_rs_o (by omega), e1]
          · exact e1
        · rw [if_neg c20]
          by_cases c21 : i = 21
          · subst c21
            rw [if_pos rfl]
            have e1 : md_h2 (md_h1 f m s n φ) m (md_hx f m s n φ) 18 m 21 = f 18 m 21 := by rw [md_h2_o (by omega), md_h1_o (by omega)]
            split
            · rw [md_rs_21, e1]
              rw [mc_sm_congr (u := fun j => sp_l (f 18 m) s n φ j / nI 2) (fun j hj => by rw [md_h2_o (by omega), md_ht_9 h60 hj])]
            · exact e1
          · rw [if_neg c21]
            by_cases cb : 22 ≤ i ∧ i < 22 + n
            · rw [if_pos cb]
              have e1 : md_h2 (md_h1 f m s n φ) m (md_hx f m s n φ) 18 m i = sp_b (f 18 m) s n φ (i - 22) := by
                rw [md_h2_o (by omega), ← md_ht_8 h60 (show i - 22 < n by omega), show 22 + (i - 22) = i by omega]
              split
              · rw [md_rs_o (by omega), e1]
              · exact e1
            · rw [if_neg cb]
              by_cases cl : 82 ≤ i ∧ i < 82 + n
              · rw [if_pos cl]
                have e1 : md_h2 (md_h1 f m s n φ) m (md_hx f m s n φ) 18 m (82 + (i - 82)) = sp_l (f 18 m) s n φ (i - 82) := by
                  rw [md_h2_o (by omega), md_ht_9 h60 (by omega)]
                rw [show i = 82 + (i - 82) by omega]
                unfold sp_9
                rw [show 82 + (i - 82) - 82 = i - 82 by omega]
                split
                · rw [md_rs_9 (by omega), e1]
                · exact e1
              · rw [if_neg cl]
                have e1 : md_h2 (md_h1 f m s n φ) m (md_hx f m s n φ) 18 m i = f 18 m i := by rw [md_h2_o (by omega), md_h1_o (by omega)]
                split
                · rw [md_rs_o (by omega), e1]
                · exact e1
  funext i
  by_cases c5 : i = 5
  · subst c5
    have e5 : sp_ht (f 18 m) s n φ 5 = if sp_ov (f 18 m) s n φ then nI 1 else f 18 m 5 := by
      unfold sp_ht
      rw [if_neg (by decide), if_neg (by decide), if_pos rfl]
    rw [e5]
    show md_ov _ _ _ _ _ _ = _
    rw [md_ov_5]
    have b12 : md_h3 (md_h2 (md_h1 f m s n φ) m (md_hx f m s n φ)) m n 18 m 12 = f 18 m 12 := by
      rw [(G 12 (by omega)).2]
      unfold sp_ht
      rw [if_neg (by decide), if_neg (by decide), if_neg (by decide), if_neg (by decide), if_neg (by decide), if_neg (by omega), if_neg (by omega)]
    have b5 : md_h3 (md_h2 (md_h1 f m s n φ) m (md_hx f m s n φ)) m n 18 m 5 = f 18 m 5 := by
      rw [md_h3_e]
      have e1 : md_h2 (md_h1 f m s n φ) m (md_hx f m s n φ) 18 m 5 = f 18 m 5 := by rw [md_h2_o (by omega), md_h1_o (by omega)]
      split
      · rw [md_rs_o (by omega), e1]
      · exact e1
    have bT : ∀ j, j < n → md_T (md_h3 (md_h2 (md_h1 f m s n φ) m (md_hx f m s n φ)) m n) m j = sp_b (f 18 m) s n φ j + sp_9 (f 18 m) s n φ j := by
      intro j hj
      unfold md_T
      rw [(G (22 + j) (by omega)).2, (G (82 + j) (by omega)).2]
      unfold sp_ht
      rw [if_neg (by omega), if_neg (by omega), if_neg (by omega), if_neg (by omega), if_neg (by omega), if_pos (by omega), if_neg (by omega), if_neg (by omega), if_neg (by omega), if_neg (by omega), if_neg (by omega), if_neg (by omega), if_pos (by omega), show 22 + j - 22 = j by omega, show 82 + j - 82 = j by omega]
    rw [b12, b5]
    have e1 : (∃ j, j < n ∧ md_T (md_h3 (md_h2 (md_h1 f m s n φ) m (md_hx f m s n φ)) m n) m j < f 18 m 12) ↔ sp_ov (f 18 m) s n φ := ⟨fun ⟨j, h1, h2⟩ => ⟨j, h1, by rw [← bT j h1]; exact h2⟩, fun ⟨j, h1, h2⟩ => ⟨j, h1, by rw [bT j h1]; exact h2⟩⟩
    by_cases c1 : sp_ov (f 18 m) s n φ
    · rw [if_pos c1, if_pos (e1.mpr c1)]
    · rw [if_neg c1, if_neg (fun q_ => c1 (e1.mp q_))]
  · exact (G i c5).1
theorem md_us_sp (h60 : n ≤ 60) (k : Nat) : ∀ f, (md_us f m s n φ k).1 18 m = (sp_us (f 18 m) s n φ k).1 ∧ (md_us f m s n φ k).2 = (sp_us (f 18 m) s n φ k).2 := by
  induction k with
  | zero => intro f; exact ⟨rfl, rfl⟩
  | succ k ih =>
    intro f
    have ih2 := ih (md_ht f m s n φ)
    rw [md_ht_sp h60] at ih2
    unfold md_us sp_us
    by_cases c1 : f 18 m 5 = 0
    · rw [if_pos c1, if_pos c1]
      exact ⟨ih2.1, by rw [ih2.2]⟩
    · rw [if_neg c1, if_neg c1]
      exact ⟨rfl, rfl⟩
theorem md_po_sp (hj : j < 60) : md_po f m j q 18 m = sp_po (f 18 m) j q := by
  funext i
  unfold md_po sp_po mj_u
  by_cases c1 : i = 82 + j
  · subst c1
    rw [if_neg (by omega), if_neg (by omega), if_pos ⟨rfl, rfl, rfl⟩, if_pos rfl]
    rfl
  · rw [if_neg c1]
    by_cases c2 : i = 19
    · subst c2
      rw [if_neg (by omega), if_pos ⟨rfl, rfl, rfl⟩, if_pos rfl]
      rfl
    · rw [if_neg c2]
      by_cases c3 : i = 16
      · subst c3
        rw [if_pos ⟨rfl, rfl, rfl⟩, if_pos rfl]
      · rw [if_neg c3, if_neg (by omega), if_neg (by omega), if_neg (by omega)]
theorem md_ly_18 {k : Nat} : md_ly f m b k 18 m 18 = f 18 m 18 + nI (3000 * k) := by
  induction k with
  | zero =>
    show _ = _ + nI 0
    rw [nI_0, Int32.add_zero]
    rfl
  | succ k ih =>
    show mj_u _ _ _ _ _ _ _ _ = _
    rw [mj_us, ih, Int32.add_assoc, mj_add]
    rfl
theorem md_ly_b {k : Nat} (hj : j < k) (hk : b + k ≤ 60) : md_ly f m b k 18 m (22 + b + j) = nI 3000 := by
  induction k with
  | zero => omega
  | succ k ih =>
    show mj_u _ _ _ _ _ _ _ _ = _
    rw [mj_uj (by omega), mj_uj (by omega)]
    by_cases e_ : j = k
    · subst e_
      rw [show 22 + b + j = 22 + (b + j) by omega]
      exact mj_us
    · rw [mj_uj (by omega)]; exact ih (by omega) (by omega)
theorem md_ly_l {k : Nat} (hj : j < k) (hk : b + k ≤ 60) : md_ly f m b k 18 m (82 + b + j) = nI 0 := by
  induction k with
  | zero => omega
  | succ k ih =>
    show mj_u _ _ _ _ _ _ _ _ = _
    rw [mj_uj (by omega)]
    by_cases e_ : j = k
    · subst e_
      rw [show 82 + b + j = 82 + (b + j) by omega]
      exact mj_us
    · rw [mj_uj (by omega), mj_uj (by omega)]; exact ih (by omega) (by omega)
theorem md_lr_sp (hb : b + c ≤ 60) : md_lr f m b c 18 m = sp_lr (f 18 m) b c := by
  funext i
  unfold md_lr sp_lr
  by_cases c1 : i = 18
  · subst c1
    rw [mj_uj (by decide), if_pos rfl, md_ly_18]
  · rw [if_neg c1]
    by_cases c2 : i = 21
    · subst c2
      rw [mj_us, if_pos rfl]
      rfl
    · rw [mj_uj c2, if_neg c2]
      by_cases c3 : 22 + b ≤ i ∧ i < 22 + b + c
      · rw [if_pos c3, show i = 22 + b + (i - 22 - b) by omega, md_ly_b (by omega) hb]
      · rw [if_neg c3]
        by_cases c4 : 82 + b ≤ i ∧ i < 82 + b + c
        · rw [if_pos c4, show i = 82 + b + (i - 82 - b) by omega, md_ly_l (by omega) hb]
        · rw [if_neg c4, md_ly_o (by omega)]
theorem md_bg_sp (h60 : n ≤ 60) : ∀ i, i < 627 → md_bg f m r s n 18 m i = sp_bg r s n i := by
  intro i hi
  unfold md_bg sp_bg
  by_cases c18 : i = 18
  · subst c18
    rw [mj_us]
    rfl
  · rw [mj_uj c18]
    by_cases cb : 22 ≤ i ∧ i < 22 + n
    · rw [md_sf_j cb.1 cb.2, if_neg (by omega), if_neg (by omega), if_neg (by omega), if_neg (by omega), if_neg (by omega), if_neg c18, if_pos cb]
    · rw [md_sf_o (by omega), if_neg cb, if_neg c18]
      unfold md_b2
      by_cases c17 : i = 17
      · subst c17; rw [mj_us]; rfl
      · rw [mj_uj c17]
        by_cases c16 : i = 16
        · subst c16; rw [mj_us]; rfl
        · rw [mj_uj c16]
          by_cases c15 : i = 15
          · subst c15; rw [mj_us]; rfl
          · rw [mj_uj c15]
            by_cases c14 : i = 14
            · subst c14; rw [mj_us]; rfl
            · rw [mj_uj c14]
              by_cases c13 : i = 13
              · subst c13; rw [mj_us]; rfl
              · rw [mj_uj c13]
                by_cases c12 : i = 12
                · subst c12; rw [mj_us]; rfl
                · rw [mj_uj c12]
                  by_cases c6 : 6 ≤ i ∧ i < 12
                  · rw [md_sf_j c6.1 (by omega), if_neg (by omega), if_neg (by omega), if_neg (by omega), if_pos c6]
                  · rw [md_sf_o (by omega), if_neg c6, if_neg (show ¬ (12 ≤ i ∧ i < 18) by omega)]
                    unfold md_b1
                    by_cases c4 : i = 4
                    · subst c4; rw [mj_us]; rfl
                    · rw [mj_uj c4]
                      by_cases c1 : i = 1
                      · subst c1; rw [mj_us]; rfl
                      · rw [mj_uj c1]
                        by_cases c0 : i = 0
                        · subst c0; rw [mj_us]; rfl
                        · rw [mj_uj c0, mc_fl_j hi, if_neg c0, if_neg c1, if_neg c4]
theorem md_sc_sp (hc : c < 4) (h60 : n ≤ 60) : md_sc f m c n 18 m = sp_st (f 18 m) c n := by
  funext i
  unfold md_sc sp_st
  have aT : ∀ j, j < 60 → md_T (mj_u f 18 m (143 + c) (f 18 m 2)) m j = sp_T (f 18 m) j := fun j hj => by
    unfold md_T
    rw [mj_uj (by omega), mj_uj (by omega)]
    rfl
  have a14 : mj_u f 18 m (143 + c) (f 18 m 2) 18 m 14 = f 18 m 14 := mj_uj (by omega)
  by_cases c1 : i = 142
  · subst c1
    rw [mj_us, if_pos rfl]
  · rw [mj_uj c1, if_neg c1]
    by_cases c2 : i = 143 + c
    · subst c2
      rw [if_pos rfl, md_sl_o (by omega), mj_us]
    · rw [if_neg c2]
      by_cases c3 : 147 + 60 * c ≤ i ∧ i < 147 + 60 * c + n
      · rw [if_pos c3]
        have e1 := md_sl_t (f := mj_u f 18 m (143 + c) (f 18 m 2)) (m := m) (j := i - (147 + 60 * c)) (c := c) (n := n) (by omega) hc h60
        rw [show 147 + 60 * c + (i - (147 + 60 * c)) = i by omega, a14, aT _ (by omega)] at e1
        exact e1
      · rw [if_neg c3]
        by_cases c4 : 387 + 60 * c ≤ i ∧ i < 387 + 60 * c + n
        · rw [if_pos c4]
          have e1 := md_sl_h (f := mj_u f 18 m (143 + c) (f 18 m 2)) (m := m) (j := i - (387 + 60 * c)) (c := c) (n := n) (by omega) hc h60
          rw [show 387 + 60 * c + (i - (387 + 60 * c)) = i by omega, aT _ (by omega)] at e1
          exact e1
        · rw [if_neg c4, md_sl_o (by omega), mj_uj c2]
theorem md_si_t {k : Nat} (hj : j < c) (hk : k < 3) (hc : c ≤ 60) : md_si F m k c 18 m (147 + 60 * k + j) = F 18 m (147 + 60 * k + 60 + j) := by
  induction c with
  | zero => omega
  | succ c ih =>
    show mj_u _ _ _ _ _ _ _ _ = _
    rw [mj_uj (by omega)]
    by_cases e_ : j = c
    · subst e_; exact mj_us
    · rw [mj_uj (by omega)]; exact ih (by omega) (by omega)
theorem md_si_h {k : Nat} (hj : j < c) (hk : k < 3) (hc : c ≤ 60) : md_si F m k c 18 m (387 + 60 * k + j) = F 18 m (387 + 60 * k + 60 + j) := by
  induction c with
  | zero => omega
  | succ c ih =>
    show mj_u _ _ _ _ _ _ _ _ = _
    by_cases e_ : j = c
    · subst e_; exact mj_us
    · rw [mj_uj (by omega), mj_uj (by omega)]; exact ih (by omega) (by omega)
theorem md_so_sp {k : Nat} (hk : k ≤ 3) : ∀ i, md_so f m k 18 m i = if 143 ≤ i ∧ i < 143 + k then f 18 m (i + 1) else if 147 ≤ i ∧ i < 147 + 60 * k then f 18 m (i + 60) else if 387 ≤ i ∧ i < 387 + 60 * k then f 18 m (i + 60) else f 18 m i := by
  induction k with
  | zero =>
    intro i
    rw [if_neg (by omega), if_neg (by omega), if_neg (by omega)]
    rfl
  | succ k ih =>
    have ih := ih (by omega)
    intro i
    have e0 : ∀ i2, ¬ i2 = 143 + k → mj_u (md_so f m k) 18 m (143 + k) (md_so f m k 18 m (143 + k + 1)) 18 m i2 = md_so f m k 18 m i2 := fun i2 h => mj_uj h
    show md_si _ m k 60 18 m i = _
    by_cases c1 : 147 + 60 * k ≤ i ∧ i < 147 + 60 * k + 60
    · have e1 := md_si_t (F := mj_u (md_so f m k) 18 m (143 + k) (md_so f m k 18 m (143 + k + 1))) (m := m) (k := k) (c := 60) (j := i - (147 + 60 * k)) (by omega) (by omega) (by omega)
      rw [show 147 + 60 * k + (i - (147 + 60 * k)) = i by omega, show 147 + 60 * k + 60 + (i - (147 + 60 * k)) = i + 60 by omega, e0 _ (by omega), ih (i + 60), if_neg (by omega), if_neg (by omega), if_neg (by omega)] at e1
      rw [e1, if_neg (by omega), if_pos (by omega)]
    · by_cases c2 : 387 + 60 * k ≤ i ∧ i < 387 + 60 * k + 60
      · have e1 := md_si_h (F := mj_u (md_so f m k) 18 m (143 + k) (md_so f m k 18 m (143 + k + 1))) (m := m) (k := k) (c := 60) (j := i - (387 + 60 * k)) (by omega) (by omega) (by omega)
        rw [show 387 + 60 * k + (i - (387 + 60 * k)) = i by omega, show 387 + 60 * k + 60 + (i - (387 + 60 * k)) = i + 60 by omega, e0 _ (by omega), ih (i + 60), if_neg (by omega), if_neg (by omega), if_neg (by omega)] at e1
        rw [e1, if_neg (by omega), if_neg (by omega), if_pos (by omega)]
      · rw [md_si_o (by omega)]
        by_cases c3 : i = 143 + k
        · subst c3
          rw [mj_us, ih, if_neg (by omega), if_neg (by omega), if_neg (by omega), if_pos (by omega)]
        · rw [e0 _ c3, ih]
          by_cases c4 : 143 ≤ i ∧ i < 143 + k
          · rw [if_pos c4, if_pos (show 143 ≤ i ∧ i < 143 + (k + 1) by omega)]
          · rw [if_neg c4, if_neg (show ¬ (143 ≤ i ∧ i < 143 + (k + 1)) by omega)]
            by_cases c5 : 147 ≤ i ∧ i < 147 + 60 * k
            · rw [if_pos c5, if_pos (show 147 ≤ i ∧ i < 147 + 60 * (k + 1) by omega)]
            · rw [if_neg c5, if_neg (show ¬ (147 ≤ i ∧ i < 147 + 60 * (k + 1)) by omega)]
              by_cases c6 : 387 ≤ i ∧ i < 387 + 60 * k
              · rw [if_pos c6, if_pos (show 387 ≤ i ∧ i < 387 + 60 * (k + 1) by omega)]
              · rw [if_neg c6, if_neg (show ¬ (387 ≤ i ∧ i < 387 + 60 * (k + 1)) by omega)]
theorem md_sd_sp : md_sd f m 18 m = sp_sd (f 18 m) := by
  funext i
  unfold md_sd sp_sd
  by_cases c1 : i = 142
  · subst c1
    rw [mj_us, if_pos rfl]
  · rw [mj_uj c1, if_neg c1, md_so_sp (by omega)]
end SP
