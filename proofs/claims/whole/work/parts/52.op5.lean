/-! calls: what scans tell -/
theorem mr_tm {x y : Int} (hy : 0 < y) : (0 ≤ x → 0 ≤ x.tdiv y * y ∧ x.tdiv y * y ≤ x) ∧ (x < 0 → x ≤ x.tdiv y * y ∧ x.tdiv y * y ≤ 0) := by
  have P : ∀ m : Int, 0 ≤ m → 0 ≤ m.tdiv y * y ∧ m.tdiv y * y ≤ m := by
    intro m hm
    rw [Int.tdiv_eq_ediv_of_nonneg hm]
    exact ⟨Int.mul_nonneg (Int.ediv_nonneg hm (by omega)) (by omega), Int.ediv_mul_le m (by omega)⟩
  refine ⟨P x, fun hx => ?_⟩
  have h := P (-x) (by omega)
  rw [Int.neg_tdiv, Int.neg_mul] at h
  omega
theorem mr_msb {x : Int32} : x.toBitVec.msb = decide (x.toInt < 0) := BitVec.msb_eq_toInt
theorem mr_xs {x y : Int32} (hy : 0 < y.toInt) : 0 ≤ x ^^^ y ↔ 0 ≤ x.toInt := by
  rw [Int32.le_iff_toInt_le, Int32.toInt_zero]
  have e1 : (x ^^^ y).toBitVec.msb = decide ((x ^^^ y).toInt < 0) := mr_msb
  have e2 : (x ^^^ y).toBitVec.msb = (x.toBitVec.msb ^^ y.toBitVec.msb) := BitVec.msb_xor
  rw [e1, mr_msb (x := x), mr_msb (x := y)] at e2
  have e3 : decide (y.toInt < 0) = false := decide_eq_false (by omega)
  rw [e3, Bool.xor_false] at e2
  have e4 := decide_eq_decide.mp e2
  omega
theorem mr_fd {x y : Int32} (hx : -400000 ≤ x.toInt) (hx2 : x.toInt ≤ 400000) (hy : 0 < y.toInt) (hy2 : y.toInt ≤ 1000000) : mj_fd x y = md_dn x y ∧ ¬ md_dn x y = -1000001 := by
  have yn : y ≠ -1 := fun q_ => by rw [q_] at hy; exact absurd hy (by decide)
  have ed : (x / y).toInt = x.toInt.tdiv y.toInt := Int32.toInt_div_of_ne_right x y yn
  have hb := Int.natAbs_tdiv_le_natAbs x.toInt y.toInt
  obtain ⟨t1, t2⟩ := mr_tm (x := x.toInt) hy
  have em : (x / y * y).toInt = x.toInt.tdiv y.toInt * y.toInt := by
    rw [Int32.toInt_mul, ed]
    refine Int.bmod_eq_of_le ?_ ?_
    · by_cases c1 : 0 ≤ x.toInt
      · have := t1 c1; omega
      · have := t2 (by omega); omega
    · by_cases c1 : 0 ≤ x.toInt
      · have := t1 c1; omega
      · have := t2 (by omega); omega
  have e1 : (nI 1).toInt = 1 := by decide
  have es : (x / y - nI 1).toInt = x.toInt.tdiv y.toInt - 1 := by
    rw [Int32.toInt_sub, ed, e1]
    exact Int.bmod_eq_of_le (by omega) (by omega)
  have en : (-1000001 : Int32).toInt = -1000001 := by decide
  refine ⟨?_, ?_⟩
  · unfold mj_fd md_dn
    by_cases c1 : 0 ≤ x.toInt
    · have k1 : x / y * y ≤ x := by rw [Int32.le_iff_toInt_le, em]; exact (t1 c1).2
      rw [if_pos ((mr_xs hy).mpr c1), if_pos k1]
    · rw [if_neg (fun q_ => c1 ((mr_xs hy).mp q_))]
      by_cases c2 : x / y * y = x
      · rw [if_pos c2, if_pos (by rw [c2]; exact Int32.le_refl x)]
      · rw [if_neg c2, if_neg (fun q_ => c2 (by
          rw [Int32.le_iff_toInt_le, em] at q_
          apply Int32.toInt_inj.mp
          rw [em]
          have := t2 (by omega)
          omega))]
  · intro q_
    unfold md_dn at q_
    by_cases c1 : x / y * y ≤ x
    · rw [if_pos c1] at q_
      have := congrArg Int32.toInt q_
      rw [ed, en] at this
      omega
    · rw [if_neg c1] at q_
      have := congrArg Int32.toInt q_
      rw [es, en] at this
      omega
theorem mr_subI {p q : Nat} (hp : p < 1073741824) (hq : q < 1073741824) : (nI p - nI q).toInt = (p : Int) - (q : Int) := by
  rw [Int32.toInt_sub, nI_toInt (by omega), nI_toInt (by omega)]
  exact Int.bmod_eq_of_le (by omega) (by omega)
theorem mr_in0 {v : Int32} {n : Nat} (hn : n ≤ 1000) (h : nI 0 ≤ v ∧ v ≤ nI n - nI 1) : ∃ j, j < n ∧ v = nI j := by
  by_cases c1 : n = 0
  · subst c1
    exfalso
    have h1 := Int32.le_trans h.1 h.2
    exact absurd h1 (by decide)
  · exact mr_in (by omega) hn h
theorem mc_na_ne {s n j x : Nat} (hs : 3 ≤ s) (hx : x < mc_nn s n j) : mc_na s j x ≠ j := by
  have hb : mc_pb s j ≠ j := by
    unfold mc_pb
    split
    · omega
    · rename_i h
      have : j ≠ 0 := fun q_ => h (by rw [q_]; exact Nat.zero_mod s)
      omega
  have hf : mc_pf s j ≠ j := by
    unfold mc_pf
    split
    · rename_i h
      by_cases c0 : j + 1 < s
      · rw [Nat.mod_eq_of_lt c0] at h; omega
      · omega
    · omega
  have hm1 : min (mc_pb s j) (mc_pf s j) ≠ j := by omega
  have hm2 : max (mc_pb s j) (mc_pf s j) ≠ j := by omega
  unfold mc_na
  by_cases c1 : j < s
  · rw [if_pos c1]
    split
    · exact hm1
    · split
      · exact hm2
      · omega
  · rw [if_neg c1]
    split
    · omega
    · split
      · exact hm1
      · split
        · exact hm2
        · omega
theorem mc_fi_congr {p q : Nat → Bool} {b n : Nat} (h : ∀ i, b ≤ i → i < b + n → p i = q i) : mc_fi p b n = mc_fi q b n := by
  induction n generalizing b with
  | zero => rfl
  | succ n ih =>
    rw [mc_fi_s, mc_fi_s, h b (by omega) (by omega), ih (fun i h1 h2 => h i (by omega) (by omega))]
theorem mr_pk {t u : Nat → Int32} {h : Int32} {r s n j : Nat} (hG : mc_Ge r s n) (hj : j < n) (e : ∀ i, i < n → t i = u i) (hr : ∀ i, i < n → ∃ w, w ≤ 200000 ∧ u i = nI w) : mc_pk t h s n j = md_pk u h s n j := by
  unfold mc_pk md_pk
  rw [e j hj]
  have e1 : mc_fi (fun x => mc_bt t j (mc_na s j x)) 0 (mc_nn s n j) = mc_fi (fun x => ! md_gd u j (mc_na s j x)) 0 (mc_nn s n j) := by
    refine mc_fi_congr (fun x _ hx => ?_)
    have hx2 : x < mc_nn s n j := by omega
    have h1 := hG.na hj hx2
    have h2 := mc_na_ne hG.2.2.1 hx2
    obtain ⟨p, hp, ep⟩ := hr _ h1
    obtain ⟨q, hq, eq⟩ := hr j hj
    show mc_bt t j (mc_na s j x) = ! md_gd u j (mc_na s j x)
    unfold mc_bt md_gd
    rw [e _ h1, e j hj, ep, eq, ← decide_not]
    refine decide_eq_decide.mpr ?_
    have s1 := mr_subI (p := p) (q := q) (by omega) (by omega)
    have l1 : 0 < nI p - nI q ↔ q < p := by
      rw [Int32.lt_iff_toInt_lt, s1, Int32.toInt_zero]
      omega
    have l2 : nI p - nI q = 0 ↔ p = q := by
      rw [← Int32.toInt_inj, s1, Int32.toInt_zero]
      omega
    rw [l1, l2, mj_lt (by omega) (by omega), mj_eq (by omega) (by omega)]
    omega
  rw [e1]
section O5
variable {X : mj_X} {S : List (Nat × Nat)} {f F F2 : mj_F} {g G : mj_G} {r s n c H H2 z L j k d m : Nat} {sc sp : Nat → Nat} {D E : Nat → Int32} {Ds : Nat → Nat → Int32} {t : Nat → Int32} {w v a b e : Int32} {o2 o3 o4 : Option mj_V}
theorem mr_S_U (h : mr_S f 0 0 sc D r s n H) : ∃ c, c ≤ 4 ∧ D 142 = nI c ∧ f 4 0 2 = nI c ∧ mr_C f sc D c n ∧ mr_U D c n H := by
  obtain ⟨k1, k2, c, k3, k4, k5, k6⟩ := h
  refine ⟨c, k3, k4, k5, k6, ?_⟩
  obtain ⟨-, -, -, -, c2, y1, y2, y3⟩ := k2
  rw [k4] at y2
  have : c = c2 := (mj_eq (by omega) (by omega)).mp y2
  rw [this]
  exact y3
theorem mr_scanned : mr_op X 72 127 [.inl a, .inl b, .inl e] := by
  intro S f g r s n H D z Ds L t w hH hc hm
  have hc0 := hc
  obtain ⟨sc, hg, hS, -⟩ := hc
  have hG := hS.1.1.1
  have h60 := hG.n60
  have hsn := hG.sn
  have hs3 := hG.2.2.1
  have ok0 : sp_ok (f 18 0) r s n H := by rw [hm.1]; exact hS.2.1
  have hO := md_O_ok ok0
  have hgm := hg.2.2.2.2.2.2.1.1
  have hgc := hg.2.1.2.2.1
  have hd : ∀ i, f 18 0 i = D i := fun i => by rw [hm.1]
  obtain ⟨c, u1, u2, u3, u4, u5⟩ := mr_S_U hS
  have hI := mc_hasSpot (X := X) (S := S) (g := g) (v := b) hS.1.2.1.2.2
  have hJ := md_isSpot (X := X) (S := S) (v := b) hgm hO
  have hA := mc_hasScan (X := X) (S := S) (f := f) (g := g) (st := 0) (v := a)
  have hB := md_isScan (X := X) (S := S) (f := f) (v := a) hgm
  rw [u3] at hA
  rw [hd, u2] at hB
  by_cases c0 : nI 0 ≤ a ∧ a ≤ nI c - nI 1
  · rw [← mj_boT c0] at hA hB
    obtain ⟨k, hk, rfl⟩ := mr_in0 (by omega) c0
    by_cases c1 : nI 0 ≤ b ∧ b ≤ nI n - nI 1
    · rw [← mj_boT c1] at hI hJ
      obtain ⟨j, hj, rfl⟩ := mr_in (by omega) (by omega) c1
      obtain ⟨v1, v2⟩ := u4 k hk
      obtain ⟨v3, v4⟩ := v2 j hj
      have t5 := hg.2.1.2.2.2 k (by omega)
      have g1 : mj_x X 72 [.inr (5, 0), .inl (nI k), .inl (nI j), .inl e] (S, f, g) = mj_g X 72 22 [some (.inr (5, 0)), some (.inl (nI k)), some (.inl (nI j)), some (.inl e), some (.inr (1, 0)), some (.inr (3, sc k))] [.inl e] (S, f, g) := by
        simp (disch := omega) only [mj_x72, mj_g72_0, mj_g72_1, mj_g72_2, mj_g72_3, mj_g72_4, mj_g72_5, mj_g72_6, mj_g72_7, mj_g72_8, mj_g72_9, mj_g72_10, mj_g72_11, mj_g72_12, mj_g72_15, mj_g72_16, mj_g72_17, mj_g72_18, mj_g72_19, mj_g72_20, mj_g72_21, ↓reduceIte, Option.bind_some, Option.toList_some, Option.toList_none, List.cons_append, List.nil_append, mj_ixn, mj_add, mj_mul, mj_sub, mj_dv, mj_rmn, mj_ltT, mj_ltF, mj_leT, mj_leF, mj_eqT, mj_eqF, mj_z0T, mj_z0F, mj_bo0, mj_boc, mj_chk10, mj_chk11, and_self, not_true, not_false_eq_true, hI, hA, hg.1.1, hg.2.1.1, hg.2.1.2.1, t5.1]
      have g2 : mj_x X 127 [.inr (6, 0), .inl (nI k), .inl (nI j), .inl e] (S, f, g) = mj_g X 127 11 [some (.inr (6, 0)), some (.inl (nI k)), some (.inl (nI j)), some (.inl e)] [.inl e] (S, f, g) := by
        simp (disch := omega) only [mj_x127, mj_g127_0, mj_g127_1, mj_g127_2, mj_g127_3, mj_g127_4, mj_g127_5, mj_g127_6, mj_g127_7, mj_g127_10, ↓reduceIte, Option.bind_some, Option.toList_some, Option.toList_none, List.cons_append, List.nil_append, mj_ixn, mj_add, mj_mul, mj_sub, mj_dv, mj_rmn, mj_ltT, mj_ltF, mj_leT, mj_leF, mj_eqT, mj_eqF, mj_z0T, mj_z0F, mj_bo0, mj_boc, mj_chk10, mj_chk11, and_self, not_true, not_false_eq_true, hJ, hB]
      by_cases c2 : 0 ≤ e.toInt ∧ e.toInt < ((5 : Nat) : Int)
      · obtain ⟨q, hq, rfl⟩ := mj_nIx c2.1 c2.2
        have hq5 : q = 0 ∨ q = 1 ∨ q = 2 ∨ q = 3 ∨ q = 4 := by omega
        rcases hq5 with rfl | rfl | rfl | rfl | rfl
        · have t1 : mj_tsw 0 4 [23, 28, 33, 42, 51] 54 (nI 0) = 23 := rfl
          have t2 : mj_tsw 0 4 [12, 23, 34, 43, 52] 59 (nI 0) = 12 := rfl
          refine mr_same (v := D (147 + 60 * k + j)) (F := f) (F2 := f) (g1.trans ?_) hc0 (g2.trans ?_) mr_fm_r hm
          · simp (disch := omega) only [mj_g72_22, mj_g72_23, mj_g72_24, mj_g72_25, mj_g72_26, mj_g72_27, ↓reduceIte, Option.bind_some, Option.toList_some, Option.toList_none, List.cons_append, List.nil_append, mj_ixn, mj_add, mj_mul, mj_sub, mj_dv, mj_rmn, mj_ltT, mj_ltF, mj_leT, mj_leF, mj_eqT, mj_eqF, mj_z0T, mj_z0F, mj_bo0, mj_boc, mj_chk10, mj_chk11, and_self, not_true, not_false_eq_true, t1, t5.2.1, v3]
          · simp (disch := omega) only [mj_g127_11, mj_g127_12, mj_g127_13, mj_g127_14, mj_g127_15, mj_g127_16, mj_g127_17, mj_g127_18, mj_g127_19, mj_g127_20, mj_g127_21, mj_g127_22, ↓reduceIte, Option.bind_some, Option.toList_some, Option.toList_none, List.cons_append, List.nil_append, mj_ixn, mj_add, mj_mul, mj_sub, mj_dv, mj_rmn, mj_ltT, mj_ltF, mj_leT, mj_leF, mj_eqT, mj_eqF, mj_z0T, mj_z0F, mj_bo0, mj_boc, mj_chk10, mj_chk11, and_self, not_true, not_false_eq_true, t2, hgm, hd]
        · have t1 : mj_tsw 0 4 [23, 28, 33, 42, 51] 54 (nI 1) = 28 := rfl
          have t2 : mj_tsw 0 4 [12, 23, 34, 43, 52] 59 (nI 1) = 23 := rfl
          refine mr_same (v := D (387 + 60 * k + j)) (F := f) (F2 := f) (g1.trans ?_) hc0 (g2.trans ?_) mr_fm_r hm
          · simp (disch := omega) only [mj_g72_22, mj_g72_28, mj_g72_29, mj_g72_30, mj_g72_31, mj_g72_32, ↓reduceIte, Option.bind_some, Option.toList_some, Option.toList_none, List.cons_append, List.nil_append, mj_ixn, mj_add, mj_mul, mj_sub, mj_dv, mj_rmn, mj_ltT, mj_ltF, mj_leT, mj_leF, mj_eqT, mj_eqF, mj_z0T, mj_z0F, mj_bo0, mj_boc, mj_chk10, mj_chk11, and_self, not_true, not_false_eq_true, t1, t5.2.2, v4]
          · simp (disch := omega) only [mj_g127_11, mj_g127_23, mj_g127_24, mj_g127_25, mj_g127_26, mj_g127_27, mj_g127_28, mj_g127_29, mj_g127_30, mj_g127_31, mj_g127_32, mj_g127_33, ↓reduceIte, Option.bind_some, Option.toList_some, Option.toList_none, List.cons_append, List.nil_append, mj_ixn, mj_add, mj_mul, mj_sub, mj_dv, mj_rmn, mj_ltT, mj_ltF, mj_leT, mj_leF, mj_eqT, mj_eqF, mj_z0T, mj_z0F, mj_bo0, mj_boc, mj_chk10, mj_chk11, and_self, not_true, not_false_eq_true, t2, hgm, hd]
        · have t1 : mj_tsw 0 4 [23, 28, 33, 42, 51] 54 (nI 2) = 33 := rfl
          have t2 : mj_tsw 0 4 [12, 23, 34, 43, 52] 59 (nI 2) = 34 := rfl
          have ih := mc_isHot (X := X) (S := S) (f := f) (j := j) t5.2 hgc (by omega)
          have jh := md_isHot (X := X) (S := S) (f := f) (k := k) (j := j) hgm (by omega) (by omega)
          have e11 : f 11 0 3 = D 15 := mr_L_s hS.1 (by omega)
          rw [mj_boi (Q := ¬ D (147 + 60 * k + j) < D 15) (by rw [v3, e11])] at ih
          rw [mj_boi (Q := ¬ D (147 + 60 * k + j) < D 15) (by rw [hd, hd])] at jh
          by_cases c3 : ¬ D (147 + 60 * k + j) < D 15
          · rw [← mj_boT c3] at ih jh
            refine mr_same (v := nI 1) (F := f) (F2 := f) (g1.trans ?_) hc0 (g2.trans ?_) mr_fm_r hm
            · simp (disch := omega) only [mj_g72_22, mj_g72_33, mj_g72_34, mj_g72_35, mj_g72_36, mj_g72_37, mj_g72_38, mj_g72_39, mj_g72_40, mj_g72_41, ↓reduceIte, Option.bind_some, Option.toList_some, Option.toList_none, List.cons_append, List.nil_append, mj_ixn, mj_add, mj_mul, mj_sub, mj_dv, mj_rmn, mj_ltT, mj_ltF, mj_leT, mj_leF, mj_eqT, mj_eqF, mj_z0T, mj_z0F, mj_bo0, mj_boc, mj_chk10, mj_chk11, and_self, not_true, not_false_eq_true, t1, ih]
            · simp (disch := omega) only [mj_g127_11, mj_g127_34, mj_g127_35, mj_g127_36, mj_g127_37, mj_g127_38, mj_g127_39, mj_g127_40, mj_g127_41, mj_g127_42, ↓reduceIte, Option.bind_some, Option.toList_some, Option.toList_none, List.cons_append, List.nil_append, mj_ixn, mj_add, mj_mul, mj_sub, mj_dv, mj_rmn, mj_ltT, mj_ltF, mj_leT, mj_leF, mj_eqT, mj_eqF, mj_z0T, mj_z0F, mj_bo0, mj_boc, mj_chk10, mj_chk11, and_self, not_true, not_false_eq_true, t2, jh]
          · rw [← mj_boF c3] at ih jh
            refine mr_same (v := nI 0) (F := f) (F2 := f) (g1.trans ?_) hc0 (g2.trans ?_) mr_fm_r hm
            · simp (disch := omega) only [mj_g72_22, mj_g72_33, mj_g72_34, mj_g72_35, mj_g72_36, mj_g72_37, mj_g72_38, mj_g72_39, mj_g72_40, mj_g72_41, ↓reduceIte, Option.bind_some, Option.toList_some, Option.toList_none, List.cons_append, List.nil_append, mj_ixn, mj_add, mj_mul, mj_sub, mj_dv, mj_rmn, mj_ltT, mj_ltF, mj_leT, mj_leF, mj_eqT, mj_eqF, mj_z0T, mj_z0F, mj_bo0, mj_boc, mj_chk10, mj_chk11, and_self, not_true, not_false_eq_true, t1, ih]
            · simp (disch := omega) only [mj_g127_11, mj_g127_34, mj_g127_35, mj_g127_36, mj_g127_37, mj_g127_38, mj_g127_39, mj_g127_40, mj_g127_41, mj_g127_42, ↓reduceIte, Option.bind_some, Option.toList_some, Option.toList_none, List.cons_append, List.nil_append, mj_ixn, mj_add, mj_mul, mj_sub, mj_dv, mj_rmn, mj_ltT, mj_ltF, mj_leT, mj_leF, mj_eqT, mj_eqF, mj_z0T, mj_z0F, mj_bo0, mj_boc, mj_chk10, mj_chk11, and_self, not_true, not_false_eq_true, t2, jh]
        · have t1 : mj_tsw 0 4 [23, 28, 33, 42, 51] 54 (nI 3) = 42 := rfl
          have t2 : mj_tsw 0 4 [12, 23, 34, 43, 52] 59 (nI 3) = 43 := rfl
          have ih := mc_isPeak (X := X) (S := S) t5.2 hgc hG hS.1.2.1.2.1 hS.1.2.1.2.2 hj
          have jh := md_isPeak (X := X) (S := S) (k := k) hgm hO hj (by omega)
          have e11 : f 11 0 3 = D 15 := mr_L_s hS.1 (by omega)
          obtain ⟨hh, ee, x1, x2, x3, x4, x5⟩ := u5
          have ek : mc_pk (fun i => f 15 (sc k) i) (f 11 0 3) s n j = md_pk (fun i => D (147 + 60 * k + i)) (D 15) s n j := by
            rw [e11]
            exact mr_pk hG hj (fun i hi => (v2 i hi).1) (fun i hi => (x5 k hk i hi).1)
          have jk : md_pk (fun i => f 18 0 (147 + 60 * k + i)) (f 18 0 15) s n j = md_pk (fun i => D (147 + 60 * k + i)) (D 15) s n j := by rw [hm.1]
          rw [ek] at ih
          rw [jk] at jh
          by_cases c3 : md_pk (fun i => D (147 + 60 * k + i)) (D 15) s n j = true
          · rw [← mj_boT c3] at ih jh
            refine mr_same (v := nI 1) (F := f) (F2 := f) (g1.trans ?_) hc0 (g2.trans ?_) mr_fm_r hm
            · simp (disch := omega) only [mj_g72_22, mj_g72_42, mj_g72_43, mj_g72_44, mj_g72_45, mj_g72_46, mj_g72_47, mj_g72_48, mj_g72_49, mj_g72_50, ↓reduceIte, Option.bind_some, Option.toList_some, Option.toList_none, List.cons_append, List.nil_append, mj_ixn, mj_add, mj_mul, mj_sub, mj_dv, mj_rmn, mj_ltT, mj_ltF, mj_leT, mj_leF, mj_eqT, mj_eqF, mj_z0T, mj_z0F, mj_bo0, mj_boc, mj_chk10, mj_chk11, and_self, not_true, not_false_eq_true, t1, ih]
            · simp (disch := omega) only [mj_g127_11, mj_g127_43, mj_g127_44, mj_g127_45, mj_g127_46, mj_g127_47, mj_g127_48, mj_g127_49, mj_g127_50, mj_g127_51, ↓reduceIte, Option.bind_some, Option.toList_some, Option.toList_none, List.cons_append, List.nil_append, mj_ixn, mj_add, mj_mul, mj_sub, mj_dv, mj_rmn, mj_ltT, mj_ltF, mj_leT, mj_leF, mj_eqT, mj_eqF, mj_z0T, mj_z0F, mj_bo0, mj_boc, mj_chk10, mj_chk11, and_self, not_true, not_false_eq_true, t2, jh]
          · rw [← mj_boF c3] at ih jh
            refine mr_same (v := nI 0) (F := f) (F2 := f) (g1.trans ?_) hc0 (g2.trans ?_) mr_fm_r hm
            · simp (disch := omega) only [mj_g72_22, mj_g72_42, mj_g72_43, mj_g72_44, mj_g72_45, mj_g72_46, mj_g72_47, mj_g72_48, mj_g72_49, mj_g72_50, ↓reduceIte, Option.bind_some, Option.toList_some, Option.toList_none, List.cons_append, List.nil_append, mj_ixn, mj_add, mj_mul, mj_sub, mj_dv, mj_rmn, mj_ltT, mj_ltF, mj_leT, mj_leF, mj_eqT, mj_eqF, mj_z0T, mj_z0F, mj_bo0, mj_boc, mj_chk10, mj_chk11, and_self, not_true, not_false_eq_true, t1, ih]
            · simp (disch := omega) only [mj_g127_11, mj_g127_43, mj_g127_44, mj_g127_45, mj_g127_46, mj_g127_47, mj_g127_48, mj_g127_49, mj_g127_50, mj_g127_51, ↓reduceIte, Option.bind_some, Option.toList_some, Option.toList_none, List.cons_append, List.nil_append, mj_ixn, mj_add, mj_mul, mj_sub, mj_dv, mj_rmn, mj_ltT, mj_ltF, mj_leT, mj_leF, mj_eqT, mj_eqF, mj_z0T, mj_z0F, mj_bo0, mj_boc, mj_chk10, mj_chk11, and_self, not_true, not_false_eq_true, t2, jh]
        · have t1 : mj_tsw 0 4 [23, 28, 33, 42, 51] 54 (nI 4) = 51 := rfl
          have t2 : mj_tsw 0 4 [12, 23, 34, 43, 52] 59 (nI 4) = 52 := rfl
          refine mr_same (v := D (143 + k)) (F := f) (F2 := f) (g1.trans ?_) hc0 (g2.trans ?_) mr_fm_r hm
          · simp (disch := omega) only [mj_g72_22, mj_g72_51, mj_g72_52, mj_g72_53, ↓reduceIte, Option.bind_some, Option.toList_some, Option.toList_none, List.cons_append, List.nil_append, mj_ixn, mj_add, mj_mul, mj_sub, mj_dv, mj_rmn, mj_ltT, mj_ltF, mj_leT, mj_leF, mj_eqT, mj_eqF, mj_z0T, mj_z0F, mj_bo0, mj_boc, mj_chk10, mj_chk11, and_self, not_true, not_false_eq_true, t1, v1]
          · simp (disch := omega) only [mj_g127_11, mj_g127_52, mj_g127_53, mj_g127_54, mj_g127_55, mj_g127_56, mj_g127_57, mj_g127_58, ↓reduceIte, Option.bind_some, Option.toList_some, Option.toList_none, List.cons_append, List.nil_append, mj_ixn, mj_add, mj_mul, mj_sub, mj_dv, mj_rmn, mj_ltT, mj_ltF, mj_leT, mj_leF, mj_eqT, mj_eqF, mj_z0T, mj_z0F, mj_bo0, mj_boc, mj_chk10, mj_chk11, and_self, not_true, not_false_eq_true, t2, hgm, hd]
      · have t1 : mj_tsw 0 4 [23, 28, 33, 42, 51] 54 e = 54 := mj_tswo (by omega)
        have t2 : mj_tsw 0 4 [12, 23, 34, 43, 52] 59 e = 59 := mj_tswo (by omega)
        refine mr_same (v := (-1000001)) (F := f) (F2 := f) (g1.trans ?_) hc0 (g2.trans ?_) mr_fm_r hm
        · simp (disch := omega) only [mj_g72_22, mj_g72_54, mj_g72_55, ↓reduceIte, Option.bind_some, Option.toList_some, Option.toList_none, List.cons_append, List.nil_append, mj_ixn, mj_add, mj_mul, mj_sub, mj_dv, mj_rmn, mj_ltT, mj_ltF, mj_leT, mj_leF, mj_eqT, mj_eqF, mj_z0T, mj_z0F, mj_bo0, mj_boc, mj_chk10, mj_chk11, and_self, not_true, not_false_eq_true, t1]
        · simp (disch := omega) only [mj_g127_11, mj_g127_59, mj_g127_60, ↓reduceIte, Option.bind_some, Option.toList_some, Option.toList_none, List.cons_append, List.nil_append, mj_ixn, mj_add, mj_mul, mj_sub, mj_dv, mj_rmn, mj_ltT, mj_ltF, mj_leT, mj_leF, mj_eqT, mj_eqF, mj_z0T, mj_z0F, mj_bo0, mj_boc, mj_chk10, mj_chk11, and_self, not_true, not_false_eq_true, t2]
    · rw [← mj_boF c1] at hI hJ
      refine mr_same (v := (-1000001)) (F := f) (F2 := f) ?_ hc0 ?_ mr_fm_r hm
      · simp (disch := omega) only [mj_x72, mj_g72_0, mj_g72_1, mj_g72_2, mj_g72_3, mj_g72_4, mj_g72_5, mj_g72_6, mj_g72_7, mj_g72_8, mj_g72_9, mj_g72_10, mj_g72_11, mj_g72_12, mj_g72_13, mj_g72_14, ↓reduceIte, Option.bind_some, Option.toList_some, Option.toList_none, List.cons_append, List.nil_append, mj_ixn, mj_add, mj_mul, mj_sub, mj_dv, mj_rmn, mj_ltT, mj_ltF, mj_leT, mj_leF, mj_eqT, mj_eqF, mj_z0T, mj_z0F, mj_bo0, mj_boc, mj_chk10, mj_chk11, and_self, not_true, not_false_eq_true, hI, hA, hg.1.1, hg.2.1.1]
      · simp (disch := omega) only [mj_x127, mj_g127_0, mj_g127_1, mj_g127_2, mj_g127_3, mj_g127_4, mj_g127_5, mj_g127_6, mj_g127_7, mj_g127_8, mj_g127_9, ↓reduceIte, Option.bind_some, Option.toList_some, Option.toList_none, List.cons_append, List.nil_append, mj_ixn, mj_add, mj_mul, mj_sub, mj_dv, mj_rmn, mj_ltT, mj_ltF, mj_leT, mj_leF, mj_eqT, mj_eqF, mj_z0T, mj_z0F, mj_bo0, mj_boc, mj_chk10, mj_chk11, and_self, not_true, not_false_eq_true, hJ, hB]
  · rw [← mj_boF c0] at hA hB
    refine mr_same (v := (-1000001)) (F := f) (F2 := f) ?_ hc0 ?_ mr_fm_r hm
    · simp (disch := omega) only [mj_x72, mj_g72_0, mj_g72_1, mj_g72_2, mj_g72_3, mj_g72_4, mj_g72_5, mj_g72_6, mj_g72_7, mj_g72_8, mj_g72_9, mj_g72_10, mj_g72_11, mj_g72_12, mj_g72_13, mj_g72_14, ↓reduceIte, Option.bind_some, Option.toList_some, Option.toList_none, List.cons_append, List.nil_append, mj_ixn, mj_add, mj_mul, mj_sub, mj_dv, mj_rmn, mj_ltT, mj_ltF, mj_leT, mj_leF, mj_eqT, mj_eqF, mj_z0T, mj_z0F, mj_bo0, mj_boc, mj_chk10, mj_chk11, and_self, not_true, not_false_eq_true, hA, hg.1.1, hg.2.1.1]
    · simp (disch := omega) only [mj_x127, mj_g127_0, mj_g127_1, mj_g127_2, mj_g127_3, mj_g127_4, mj_g127_5, mj_g127_6, mj_g127_7, mj_g127_8, mj_g127_9, ↓reduceIte, Option.bind_some, Option.toList_some, Option.toList_none, List.cons_append, List.nil_append, mj_ixn, mj_add, mj_mul, mj_sub, mj_dv, mj_rmn, mj_ltT, mj_ltF, mj_leT, mj_leF, mj_eqT, mj_eqF, mj_z0T, mj_z0F, mj_bo0, mj_boc, mj_chk10, mj_chk11, and_self, not_true, not_false_eq_true, hB]
theorem md_pksl (hg : g 6 0 0 = some (18, 0)) (hO : md_O f 0 r s n) (hd4 : k < 4) : mj_g X 128 6 [some (.inr (6, 0)), some (.inl (nI k)), o2, o3] [] (S, f, g) = some (some (.inl (nI (mc_cn (md_pk (fun i => f 18 0 (147 + 60 * k + i)) (f 18 0 15) s n) n))), (S, f, g)) := by
  have h60 := hO.2.2.n60
  have hl := mj_loop (fun q => mj_g X 128 10 [some (.inr (6, 0)), some (.inl (nI k)), some (.inl (nI (mc_cn (md_pk (fun i => f 18 0 (147 + 60 * k + i)) (f 18 0 15) s n) q))), some (.inl (nI q))] [] (S, f, g)) n (fun q hq => by
    have hh := md_isPeak (X := X) (S := S) (k := k) hg hO hq hd4
    refine Eq.trans mj_g128_10 ?_
    simp (disch := omega) only [mj_g128_11, mj_g128_12, mj_g128_13, mj_g128_14, mj_g128_15, mj_g128_16, mj_g128_17, mj_g128_18, mj_g128_19, mj_g128_20, mj_g128_21, mj_g128_22, mj_g128_23, mj_g128_24, mj_g128_25, mj_g128_26, ↓reduceIte, Option.bind_some, Option.toList_some, Option.toList_none, List.cons_append, List.nil_append, mj_ixn, mj_add, mj_mul, mj_sub, mj_dv, mj_rmn, mj_ltT, mj_ltF, mj_leT, mj_leF, mj_eqT, mj_eqF, mj_z0T, mj_z0F, mj_bo0, mj_boc, mj_chk10, mj_chk11, and_self, not_true, not_false_eq_true, md_spots hg hO, hh, mc_cn]
    by_cases c1 : md_pk (fun i => f 18 0 (147 + 60 * k + i)) (f 18 0 15) s n q = true
    · simp only [c1, not_true, not_false_eq_true, ↓reduceIte, mj_add]
    · simp only [c1, not_true, not_false_eq_true, ↓reduceIte, mj_add, Bool.false_eq_true])
  simp only [mj_g128_6, mj_g128_7, mj_g128_8, mj_g128_9]
  refine Eq.trans ?_ (hl.trans ?_)
  · rfl
  · simp (disch := omega) only [mj_g128_10, mj_g128_11, mj_g128_12, mj_g128_13, mj_g128_27, mj_g128_28, ↓reduceIte, Option.bind_some, Option.toList_some, Option.toList_none, List.cons_append, List.nil_append, mj_ixn, mj_add, mj_mul, mj_sub, mj_dv, mj_rmn, mj_ltT, mj_ltF, mj_leT, mj_leF, mj_eqT, mj_eqF, mj_z0T, mj_z0F, mj_bo0, mj_boc, mj_chk10, mj_chk11, and_self, not_true, not_false_eq_true, md_spots hg hO]
theorem mr_peaks : mr_op X 73 128 [.inl a] := by
  intro S f g r s n H D z Ds L t w hH hc hm
  have hc0 := hc
  obtain ⟨sc, hg, hS, -⟩ := hc
  have hG := hS.1.1.1
  have h60 := hG.n60
  have ok0 : sp_ok (f 18 0) r s n H := by rw [hm.1]; exact hS.2.1
  have hO := md_O_ok ok0
  have hgm := hg.2.2.2.2.2.2.1.1
  have hgc := hg.2.1.2.2.1
  have hd : ∀ i, f 18 0 i = D i := fun i => by rw [hm.1]
  obtain ⟨c, u1, u2, u3, u4, u5⟩ := mr_S_U hS
  have hA := mc_hasScan (X := X) (S := S) (f := f) (g := g) (st := 0) (v := a)
  have hB := md_isScan (X := X) (S := S) (f := f) (v := a) hgm
  rw [u3] at hA
  rw [hd, u2] at hB
  by_cases c0 : nI 0 ≤ a ∧ a ≤ nI c - nI 1
  · rw [← mj_boT c0] at hA hB
    obtain ⟨k, hk, rfl⟩ := mr_in0 (by omega) c0
    obtain ⟨v1, v2⟩ := u4 k hk
    have t5 := hg.2.1.2.2.2 k (by omega)
    have ps := mc_peakSpots (X := X) (S := S) t5.2 hgc hG hS.1.2.1.2.1 hS.1.2.1.2.2
    have e11 : f 11 0 3 = D 15 := mr_L_s hS.1 (by omega)
    obtain ⟨hh, ee, x1, x2, x3, x4, x5⟩ := u5
    have ek : mc_cn (mc_pk (fun i => f 15 (sc k) i) (f 11 0 3) s n) n = mc_cn (md_pk (fun i => D (147 + 60 * k + i)) (D 15) s n) n := mc_cn_congr (fun j hj => by
      rw [e11]
      exact mr_pk hG hj (fun i hi => (v2 i hi).1) (fun i hi => (x5 k hk i hi).1))
    rw [ek] at ps
    have pl := md_pksl (X := X) (S := S) (k := k) (o2 := none) (o3 := none) hgm hO (by omega)
    rw [hm.1] at pl
    refine mr_same (v := nI (mc_cn (md_pk (fun i => D (147 + 60 * k + i)) (D 15) s n) n)) (F := f) (F2 := f) ?_ hc0 ?_ mr_fm_r hm
    · simp (disch := omega) only [mj_x73, mj_g73_0, mj_g73_1, mj_g73_2, mj_g73_3, mj_g73_4, mj_g73_7, mj_g73_8, mj_g73_9, mj_g73_10, mj_g73_11, mj_g73_12, mj_g73_13, mj_g73_14, mj_g73_15, mj_g73_16, ↓reduceIte, Option.bind_some, Option.toList_some, Option.toList_none, List.cons_append, List.nil_append, mj_ixn, mj_add, mj_mul, mj_sub, mj_dv, mj_rmn, mj_ltT, mj_ltF, mj_leT, mj_leF, mj_eqT, mj_eqF, mj_z0T, mj_z0F, mj_bo0, mj_boc, mj_chk10, mj_chk11, and_self, not_true, not_false_eq_true, hA, hg.1.1, hg.2.1.1, hg.2.1.2.1, t5.1, ps]
    · simp (disch := omega) only [mj_x128, mj_g128_0, mj_g128_1, mj_g128_2, mj_g128_3, ↓reduceIte, Option.bind_some, Option.toList_some, Option.toList_none, List.cons_append, List.nil_append, mj_ixn, mj_add, mj_mul, mj_sub, mj_dv, mj_rmn, mj_ltT, mj_ltF, mj_leT, mj_leF, mj_eqT, mj_eqF, mj_z0T, mj_z0F, mj_bo0, mj_boc, mj_chk10, mj_chk11, and_self, not_true, not_false_eq_true, hB]
      exact pl
  · rw [← mj_boF c0] at hA hB
    refine mr_same (v := (-1000001)) (F := f) (F2 := f) ?_ hc0 ?_ mr_fm_r hm
    · simp (disch := omega) only [mj_x73, mj_g73_0, mj_g73_1, mj_g73_2, mj_g73_3, mj_g73_4, mj_g73_5, mj_g73_6, ↓reduceIte, Option.bind_some, Option.toList_some, Option.toList_none, List.cons_append, List.nil_append, mj_ixn, mj_add, mj_mul, mj_sub, mj_dv, mj_rmn, mj_ltT, mj_ltF, mj_leT, mj_leF, mj_eqT, mj_eqF, mj_z0T, mj_z0F, mj_bo0, mj_boc, mj_chk10, mj_chk11, and_self, not_true, not_false_eq_true, hA, hg.1.1]
    · simp (disch := omega) only [mj_x128, mj_g128_0, mj_g128_1, mj_g128_2, mj_g128_3, mj_g128_4, mj_g128_5, ↓reduceIte, Option.bind_some, Option.toList_some, Option.toList_none, List.cons_append, List.nil_append, mj_ixn, mj_add, mj_mul, mj_sub, mj_dv, mj_rmn, mj_ltT, mj_ltF, mj_leT, mj_leF, mj_eqT, mj_eqF, mj_z0T, mj_z0F, mj_bo0, mj_boc, mj_chk10, mj_chk11, and_self, not_true, not_false_eq_true, hB]
def sp_tr (D : Nat → Int32) (c j : Nat) : Int32 := md_dn (nI 100 * (D (387 + 60 * (c - 2) + j) - D (387 + 60 * (c - 1) + j))) (D (143 + (c - 1)) - D (143 + (c - 2)))
theorem mr_tr (hU : mr_U D c n H) (hH : H < 900000) (hc : c ≤ 4) (hc2 : 2 ≤ c) (hj : j < n) (hne : ¬ D (143 + (c - 1)) = D (143 + (c - 2))) : ¬ D (143 + (c - 1)) - D (143 + (c - 2)) = 0 ∧ mj_fd (nI 100 * (D (387 + 60 * (c - 2) + j) - D (387 + 60 * (c - 1) + j))) (D (143 + (c - 1)) - D (143 + (c - 2))) = sp_tr D c j ∧ ¬ sp_tr D c j = -1000001 := by
  obtain ⟨h, e, x1, x2, x3, x4, x5⟩ := hU
  obtain ⟨y1, y2⟩ := x3 (c - 1) (by omega)
  obtain ⟨y3, y4⟩ := x3 (c - 2) (by omega)
  have y5 := x4 (c - 2) (by omega)
  rw [show c - 2 + 1 = c - 1 by omega] at y5
  obtain ⟨-, t0, z1, z2⟩ := x5 (c - 2) (by omega) j hj
  obtain ⟨-, t1, z3, z4⟩ := x5 (c - 1) (by omega) j hj
  unfold sp_tr
  rw [y1, y3, z2, z4]
  rw [y1, y3] at hne
  have hne2 : e (c - 1) ≠ e (c - 2) := fun q_ => hne (by rw [q_])
  have s1 := mr_subI (p := e (c - 1)) (q := e (c - 2)) (by omega) (by omega)
  have s2 := mr_subI (p := t0) (q := t1) (by omega) (by omega)
  have m1 : (nI 100 * (nI t0 - nI t1)).toInt = 100 * ((t0 : Int) - (t1 : Int)) := by
    rw [Int32.toInt_mul, s2, nI_toInt (by omega)]
    exact Int.bmod_eq_of_le (by omega) (by omega)
  refine ⟨fun q_ => ?_, mr_fd (by omega) (by omega) (by omega) (by omega)⟩
  have := congrArg Int32.toInt q_
  rw [s1, Int32.toInt_zero] at this
  omega
theorem md_trend (hg : g 6 0 0 = some (18, 0)) (hO : md_O f 0 r s n) (hj : j < n) (hc : f 18 0 142 = nI c) (hc4 : c ≤ 4) (hz : 2 ≤ c → ¬ f 18 0 (143 + (c - 1)) = f 18 0 (143 + (c - 2)) → ¬ f 18 0 (143 + (c - 1)) - f 18 0 (143 + (c - 2)) = 0) : mj_x X 129 [.inr (6, 0), .inl (nI j)] (S, f, g) = some (some (.inl (if 2 ≤ c ∧ ¬ f 18 0 (143 + (c - 1)) = f 18 0 (143 + (c - 2)) then sp_tr (f 18 0) c j else (-1000004))), (S, f, g)) := by
  have h60 := hO.2.2.n60
  have hsn := hO.2.2.sn
  have hs3 := hO.2.2.2.2.1
  have hJ := md_isSpot (X := X) (S := S) (v := nI j) hg hO
  have c1 : nI 0 ≤ nI j ∧ nI j ≤ nI n - nI 1 := by
    rw [mj_sub (by omega)]
    exact ⟨(mj_le (by omega) (by omega)).mpr (by omega), (mj_le (by omega) (by omega)).mpr (by omega)⟩
  rw [← mj_boT c1] at hJ
  by_cases k1 : 2 ≤ c
  · have i1 : 143 + (c - 1) - 1 = 143 + (c - 2) := by omega
    have i2 : 387 + 60 * (c - 1) - 60 + j = 387 + 60 * (c - 2) + j := by omega
    by_cases k2 : f 18 0 (143 + (c - 1)) = f 18 0 (143 + (c - 2))
    · rw [if_neg (fun q_ => q_.2 k2)]
      simp (disch := omega) only [mj_x129, mj_g129_0, mj_g129_1, mj_g129_2, mj_g129_3, mj_g129_6, mj_g129_7, mj_g129_8, mj_g129_9, mj_g129_10, mj_g129_11, mj_g129_12, mj_g129_13, mj_g129_14, mj_g129_15, mj_g129_16, mj_g129_17, mj_g129_18, mj_g129_19, mj_g129_20, mj_g129_21, mj_g129_22, mj_g129_23, mj_g129_24, mj_g129_25, mj_g129_26, mj_g129_27, mj_g129_28, mj_g129_29, mj_g129_30, mj_g129_31, mj_g129_32, ↓reduceIte, Option.bind_some, Option.toList_some, Option.toList_none, List.cons_append, List.nil_append, mj_ixn, mj_add, mj_mul, mj_sub, mj_dv, mj_rmn, mj_ltT, mj_ltF, mj_leT, mj_leF, mj_eqT, mj_eqF, mj_z0T, mj_z0F, mj_bo0, mj_boc, mj_chk10, mj_chk11, and_self, not_true, not_false_eq_true, hJ, hg, hc, i1, k2]
    · rw [if_pos ⟨k1, k2⟩]
      have dn := md_down (X := X) (S := S) (f := f) (g := g) (x := nI 100 * (f 18 0 (387 + 60 * (c - 2) + j) - f 18 0 (387 + 60 * (c - 1) + j))) (hz k1 k2)
      simp (disch := omega) only [mj_x129, mj_g129_0, mj_g129_1, mj_g129_2, mj_g129_3, mj_g129_6, mj_g129_7, mj_g129_8, mj_g129_9, mj_g129_10, mj_g129_11, mj_g129_12, mj_g129_13, mj_g129_14, mj_g129_15, mj_g129_16, mj_g129_17, mj_g129_18, mj_g129_19, mj_g129_20, mj_g129_21, mj_g129_22, mj_g129_23, mj_g129_24, mj_g129_25, mj_g129_26, mj_g129_27, mj_g129_28, mj_g129_29, mj_g129_30, mj_g129_33, mj_g129_34, mj_g129_35, mj_g129_36, mj_g129_37, mj_g129_38, mj_g129_39, mj_g129_40, mj_g129_41, mj_g129_42, mj_g129_43, mj_g129_44, mj_g129_45, mj_g129_46, mj_g129_47, mj_g129_48, mj_g129_49, mj_g129_50, mj_g129_51, mj_g129_52, mj_g129_53, mj_g129_54, mj_g129_55, mj_g129_56, mj_g129_57, mj_g129_58, mj_g129_59, mj_g129_60, mj_g129_61, mj_g129_62, mj_g129_63, mj_g129_64, mj_g129_65, mj_g129_66, mj_g129_67, mj_g129_68, mj_g129_69, mj_g129_70, mj_g129_71, mj_g129_72, mj_g129_73, mj_g129_74, ↓reduceIte, Option.bind_some, Option.toList_some, Option.toList_none, List.cons_append, List.nil_append, mj_ixn, mj_add, mj_mul, mj_sub, mj_dv, mj_rmn, mj_ltT, mj_ltF, mj_leT, mj_leF, mj_eqT, mj_eqF, mj_z0T, mj_z0F, mj_bo0, mj_boc, mj_chk10, mj_chk11, and_self, not_true, not_false_eq_true, hJ, hg, hc, i1, i2, k2, dn]
      rfl
  · rw [if_neg (fun q_ => k1 q_.1)]
    by_cases k3 : c = 0
    · subst k3
      have m1 : (nI 0 - nI 1 < nI 1) = True := eq_true (by decide)
      simp (disch := omega) only [mj_x129, mj_g129_0, mj_g129_1, mj_g129_2, mj_g129_3, mj_g129_6, mj_g129_7, mj_g129_8, mj_g129_9, mj_g129_10, mj_g129_11, mj_g129_12, mj_g129_13, mj_g129_14, mj_g129_15, mj_g129_31, mj_g129_32, ↓reduceIte, Option.bind_some, Option.toList_some, Option.toList_none, List.cons_append, List.nil_append, mj_ixn, mj_add, mj_mul, mj_sub, mj_dv, mj_rmn, mj_ltT, mj_ltF, mj_leT, mj_leF, mj_eqT, mj_eqF, mj_z0T, mj_z0F, mj_bo0, mj_boc, mj_chk10, mj_chk11, and_self, not_true, not_false_eq_true, hJ, hg, hc, m1]
    · simp (disch := omega) only [mj_x129, mj_g129_0, mj_g129_1, mj_g129_2, mj_g129_3, mj_g129_6, mj_g129_7, mj_g129_8, mj_g129_9, mj_g129_10, mj_g129_11, mj_g129_12, mj_g129_13, mj_g129_14, mj_g129_15, mj_g129_31, mj_g129_32, ↓reduceIte, Option.bind_some, Option.toList_some, Option.toList_none, List.cons_append, List.nil_append, mj_ixn, mj_add, mj_mul, mj_sub, mj_dv, mj_rmn, mj_ltT, mj_ltF, mj_leT, mj_leF, mj_eqT, mj_eqF, mj_z0T, mj_z0F, mj_bo0, mj_boc, mj_chk10, mj_chk11, and_self, not_true, not_false_eq_true, hJ, hg, hc]
theorem mr_knd (hS : mr_S f 0 0 sc D r s n H) (hH : H < 900000) (hc : c ≤ 4) (h142 : D 142 = nI c) (hC : mr_C f sc D c n) (hU : mr_U D c n H) (hg : mr_g g sc) (h4 : f 4 0 2 = nI c) (hj : j < n) : mj_x X 57 [.inr (4, 0)] (S, f, g) = some (some (.inl (mj_bo (2 ≤ c ∧ ¬ D (143 + (c - 1)) = D (143 + (c - 2))))), (S, f, g)) ∧ ((2 ≤ c ∧ ¬ D (143 + (c - 1)) = D (143 + (c - 2))) → mj_x X 58 [.inr (4, 0), .inl (nI j)] (S, f, g) = some (some (.inl (sp_tr D c j)), (S, f, g))) := by
  have h60 := hS.1.1.1.n60
  have kn := mc_trendIsKnown (X := X) (S := S) hg.2.1 h4 hc
  have e1 : 2 ≤ c → mc_dh f sc c = D (143 + (c - 1)) - D (143 + (c - 2)) := fun h => by
    unfold mc_dh
    rw [(hC (c - 1) (by omega)).1, (hC (c - 2) (by omega)).1]
  have e2 : (2 ≤ c ∧ ¬ mc_dh f sc c = 0) ↔ (2 ≤ c ∧ ¬ D (143 + (c - 1)) = D (143 + (c - 2))) := by
    constructor
    · intro ⟨k1, k2⟩
      rw [e1 k1] at k2
      exact ⟨k1, fun q_ => k2 (by rw [q_]; exact Int32.sub_self _)⟩
    · intro ⟨k1, k2⟩
      rw [e1 k1]
      exact ⟨k1, (mr_tr hU hH hc k1 hj k2).1⟩
  rw [mj_boi e2] at kn
  refine ⟨kn, fun ⟨k1, k2⟩ => ?_⟩
  obtain ⟨a1, a2, a3⟩ := mr_tr hU hH hc k1 hj k2
  have tr := mc_trendOf (X := X) (S := S) hg.2.1 h4 hc k1 (show j < 60 by omega) (by rw [e1 k1]; exact a1)
  rw [e1 k1, ((hC (c - 2) (by omega)).2 j hj).2, ((hC (c - 1) (by omega)).2 j hj).2, Int32.mul_comm, a2] at tr
  exact tr
theorem mr_trend : mr_op X 74 129 [.inl a] := by
  intro S f g r s n H D z Ds L t w hH hc hm
  have hc0 := hc
  obtain ⟨sc, hg, hS, -⟩ := hc
  have hG := hS.1.1.1
  have h60 := hG.n60
  have hsn := hG.sn
  have hs3 := hG.2.2.1
  have ok0 : sp_ok (f 18 0) r s n H := by rw [hm.1]; exact hS.2.1
  have hO := md_O_ok ok0
  have hgm := hg.2.2.2.2.2.2.1.1
  have hd : ∀ i, f 18 0 i = D i := fun i => by rw [hm.1]
  obtain ⟨c, u1, u2, u3, u4, u5⟩ := mr_S_U hS
  have hI := mc_hasSpot (X := X) (S := S) (g := g) (v := a) hS.1.2.1.2.2
  have hJ := md_isSpot (X := X) (S := S) (v := a) hgm hO
  by_cases c1 : nI 0 ≤ a ∧ a ≤ nI n - nI 1
  · rw [← mj_boT c1] at hI hJ
    obtain ⟨j, hj, rfl⟩ := mr_in (by omega) (by omega) c1
    obtain ⟨kn, tr⟩ := mr_knd (X := X) (S := S) hS hH u1 u2 u4 u5 hg u3 hj
    have mt := md_trend (X := X) (S := S) hgm hO hj (by rw [hd]; exact u2) u1 (fun k1 k2 => by rw [hd, hd]; rw [hd, hd] at k2; exact (mr_tr u5 hH u1 k1 hj k2).1)
    rw [hm.1] at mt
    by_cases c2 : 2 ≤ c ∧ ¬ D (143 + (c - 1)) = D (143 + (c - 2))
    · rw [if_pos c2] at mt
      rw [← mj_boT c2] at kn
      have tr := tr c2
      refine mr_same (v := sp_tr D c j) (F := f) (F2 := f) ?_ hc0 mt mr_fm_r hm
      simp (disch := omega) only [mj_x74, mj_g74_0, mj_g74_1, mj_g74_2, mj_g74_3, mj_g74_4, mj_g74_5, mj_g74_8, mj_g74_9, mj_g74_10, mj_g74_11, mj_g74_12, mj_g74_13, mj_g74_14, mj_g74_15, mj_g74_16, mj_g74_18, ↓reduceIte, Option.bind_some, Option.toList_some, Option.toList_none, List.cons_append, List.nil_append, mj_ixn, mj_add, mj_mul, mj_sub, mj_dv, mj_rmn, mj_ltT, mj_ltF, mj_leT, mj_leF, mj_eqT, mj_eqF, mj_z0T, mj_z0F, mj_bo0, mj_boc, mj_chk10, mj_chk11, and_self, not_true, not_false_eq_true, hI, hg.1.1, hg.2.1.1, kn, tr]
    · rw [if_neg c2] at mt
      rw [← mj_boF c2] at kn
      refine mr_same (v := (-1000004)) (F := f) (F2 := f) ?_ hc0 mt mr_fm_r hm
      simp (disch := omega) only [mj_x74, mj_g74_0, mj_g74_1, mj_g74_2, mj_g74_3, mj_g74_4, mj_g74_5, mj_g74_8, mj_g74_9, mj_g74_10, mj_g74_11, mj_g74_17, mj_g74_18, ↓reduceIte, Option.bind_some, Option.toList_some, Option.toList_none, List.cons_append, List.nil_append, mj_ixn, mj_add, mj_mul, mj_sub, mj_dv, mj_rmn, mj_ltT, mj_ltF, mj_leT, mj_leF, mj_eqT, mj_eqF, mj_z0T, mj_z0F, mj_bo0, mj_boc, mj_chk10, mj_chk11, and_self, not_true, not_false_eq_true, hI, hg.1.1, hg.2.1.1, kn]
  · rw [← mj_boF c1] at hI hJ
    refine mr_same (v := (-1000001)) (F := f) (F2 := f) ?_ hc0 ?_ mr_fm_r hm
    · simp (disch := omega) only [mj_x74, mj_g74_0, mj_g74_1, mj_g74_2, mj_g74_3, mj_g74_4, mj_g74_5, mj_g74_6, mj_g74_7, ↓reduceIte, Option.bind_some, Option.toList_some, Option.toList_none, List.cons_append, List.nil_append, mj_ixn, mj_add, mj_mul, mj_sub, mj_dv, mj_rmn, mj_ltT, mj_ltF, mj_leT, mj_leF, mj_eqT, mj_eqF, mj_z0T, mj_z0F, mj_bo0, mj_boc, mj_chk10, mj_chk11, and_self, not_true, not_false_eq_true, hI, hg.1.1, hg.2.1.1]
    · simp (disch := omega) only [mj_x129, mj_g129_0, mj_g129_1, mj_g129_2, mj_g129_3, mj_g129_4, mj_g129_5, ↓reduceIte, Option.bind_some, Option.toList_some, Option.toList_none, List.cons_append, List.nil_append, mj_ixn, mj_add, mj_mul, mj_sub, mj_dv, mj_rmn, mj_ltT, mj_ltF, mj_leT, mj_leF, mj_eqT, mj_eqF, mj_z0T, mj_z0F, mj_bo0, mj_boc, mj_chk10, mj_chk11, and_self, not_true, not_false_eq_true, hJ]
theorem mr_heatsByTrend : mr_op X 75 130 [.inl a] := by
  intro S f g r s n H D z Ds L t w hH hc hm
  have hc0 := hc
  obtain ⟨sc, hg, hS, -⟩ := hc
  have hG := hS.1.1.1
  have h60 := hG.n60
  have hsn := hG.sn
  have hs3 := hG.2.2.1
  have ok0 : sp_ok (f 18 0) r s n H := by rw [hm.1]; exact hS.2.1
  have hO := md_O_ok ok0
  have hgm := hg.2.2.2.2.2.2.1.1
  have hgc := hg.2.1.2.2.1
  have hd : ∀ i, f 18 0 i = D i := fun i => by rw [hm.1]
  have hdT : md_T f 0 = sp_T D := by rw [← hm.1]; rfl
  obtain ⟨c, u1, u2, u3, u4, u5⟩ := mr_S_U hS
  have hI := mc_hasSpot (X := X) (S := S) (g := g) (v := a) hS.1.2.1.2.2
  have hJ := md_isSpot (X := X) (S := S) (v := a) hgm hO
  have e11 : f 11 0 0 = D 12 := mr_L_s hS.1 (by omega)
  by_cases c1 : nI 0 ≤ a ∧ a ≤ nI n - nI 1
  · rw [← mj_boT c1] at hI hJ
    obtain ⟨j, hj, rfl⟩ := mr_in (by omega) (by omega) c1
    obtain ⟨kn, tr⟩ := mr_knd (X := X) (S := S) hS hH u1 u2 u4 u5 hg u3 hj
    have mt := md_trend (X := X) (S := S) hgm hO hj (by rw [hd]; exact u2) u1 (fun k1 k2 => by rw [hd, hd]; rw [hd, hd] at k2; exact (mr_tr u5 hH u1 k1 hj k2).1)
    rw [hm.1] at mt
    have eT := mr_L_T hS.1 hj
    by_cases c2 : 2 ≤ c ∧ ¬ D (143 + (c - 1)) = D (143 + (c - 2))
    · rw [if_pos c2] at mt
      rw [← mj_boT c2] at kn
      have tr := tr c2
      have ne := (mr_tr u5 hH u1 c2.1 hj c2.2).2.2
      generalize sp_tr D c j = q at mt tr ne
      by_cases c3 : q ≤ 0
      · refine mr_same (v := (-1000004)) (F := f) (F2 := f) ?_ hc0 ?_ mr_fm_r hm
        · simp (disch := omega) only [mj_x75, mj_g75_0, mj_g75_1, mj_g75_2, mj_g75_3, mj_g75_4, mj_g75_5, mj_g75_6, mj_g75_7, mj_g75_10, mj_g75_11, mj_g75_12, mj_g75_13, mj_g75_16, mj_g75_17, mj_g75_18, mj_g75_19, mj_g75_20, mj_g75_21, mj_g75_22, mj_g75_23, mj_g75_24, mj_g75_25, mj_g75_26, mj_g75_27, mj_g75_28, mj_g75_29, mj_g75_30, mj_g75_31, mj_g75_34, mj_g75_35, ↓reduceIte, Option.bind_some, Option.toList_some, Option.toList_none, List.cons_append, List.nil_append, mj_ixn, mj_add, mj_mul, mj_sub, mj_dv, mj_rmn, mj_ltT, mj_ltF, mj_leT, mj_leF, mj_eqT, mj_eqF, mj_z0T, mj_z0F, mj_bo0, mj_boc, mj_chk10, mj_chk11, and_self, not_true, not_false_eq_true, hI, hg.1.1, hg.2.1.1, kn, tr, mc_thickness hgc, hgc.2.2.2.1, e11, eT, c3]
        · simp (disch := omega) only [mj_x130, mj_g130_0, mj_g130_1, mj_g130_2, mj_g130_3, mj_g130_4, mj_g130_5, mj_g130_6, mj_g130_9, mj_g130_10, mj_g130_11, mj_g130_12, mj_g130_13, mj_g130_14, mj_g130_15, mj_g130_16, mj_g130_17, mj_g130_18, mj_g130_19, mj_g130_22, mj_g130_23, mj_g130_29, ↓reduceIte, Option.bind_some, Option.toList_some, Option.toList_none, List.cons_append, List.nil_append, mj_ixn, mj_add, mj_mul, mj_sub, mj_dv, mj_rmn, mj_ltT, mj_ltF, mj_leT, mj_leF, mj_eqT, mj_eqF, mj_z0T, mj_z0F, mj_bo0, mj_boc, mj_chk10, mj_chk11, and_self, not_true, not_false_eq_true, mt, ne, md_thick hgm, hdT, hgm, hd, c3]
      · have q0 : ¬ q = 0 := fun q_ => c3 (by rw [q_]; exact Int32.le_refl _)
        by_cases c4 : 0 ≤ sp_T D j - D 12
        · refine mr_same (v := nI 100 * (sp_T D j - D 12) / q) (F := f) (F2 := f) ?_ hc0 ?_ mr_fm_r hm
          · simp (disch := omega) only [mj_x75, mj_g75_0, mj_g75_1, mj_g75_2, mj_g75_3, mj_g75_4, mj_g75_5, mj_g75_6, mj_g75_7, mj_g75_10, mj_g75_11, mj_g75_12, mj_g75_13, mj_g75_16, mj_g75_17, mj_g75_18, mj_g75_19, mj_g75_20, mj_g75_21, mj_g75_22, mj_g75_23, mj_g75_24, mj_g75_25, mj_g75_26, mj_g75_27, mj_g75_28, mj_g75_29, mj_g75_30, mj_g75_31, mj_g75_32, mj_g75_33, mj_g75_36, mj_g75_37, mj_g75_38, mj_g75_39, mj_g75_40, mj_g75_41, ↓reduceIte, Option.bind_some, Option.toList_some, Option.toList_none, List.cons_append, List.nil_append, mj_ixn, mj_add, mj_mul, mj_sub, mj_dv, mj_rmn, mj_ltT, mj_ltF, mj_leT, mj_leF, mj_eqT, mj_eqF, mj_z0T, mj_z0F, mj_bo0, mj_boc, mj_chk10, mj_chk11, and_self, not_true, not_false_eq_true, hI, hg.1.1, hg.2.1.1, kn, tr, mc_thickness hgc, hgc.2.2.2.1, e11, eT, c3, c4, q0]
          · simp (disch := omega) only [mj_x130, mj_g130_0, mj_g130_1, mj_g130_2, mj_g130_3, mj_g130_4, mj_g130_5, mj_g130_6, mj_g130_9, mj_g130_10, mj_g130_11, mj_g130_12, mj_g130_13, mj_g130_14, mj_g130_15, mj_g130_16, mj_g130_17, mj_g130_18, mj_g130_19, mj_g130_20, mj_g130_21, mj_g130_24, mj_g130_25, mj_g130_26, mj_g130_27, mj_g130_28, mj_g130_29, ↓reduceIte, Option.bind_some, Option.toList_some, Option.toList_none, List.cons_append, List.nil_append, mj_ixn, mj_add, mj_mul, mj_sub, mj_dv, mj_rmn, mj_ltT, mj_ltF, mj_leT, mj_leF, mj_eqT, mj_eqF, mj_z0T, mj_z0F, mj_bo0, mj_boc, mj_chk10, mj_chk11, and_self, not_true, not_false_eq_true, mt, ne, md_thick hgm, hdT, hgm, hd, c3, c4, q0]
        · refine mr_same (v := (-1000004)) (F := f) (F2 := f) ?_ hc0 ?_ mr_fm_r hm
          · simp (disch := omega) only [mj_x75, mj_g75_0, mj_g75_1, mj_g75_2, mj_g75_3, mj_g75_4, mj_g75_5, mj_g75_6, mj_g75_7, mj_g75_10, mj_g75_11, mj_g75_12, mj_g75_13, mj_g75_16, mj_g75_17, mj_g75_18, mj_g75_19, mj_g75_20, mj_g75_21, mj_g75_22, mj_g75_23, mj_g75_24, mj_g75_25, mj_g75_26, mj_g75_27, mj_g75_28, mj_g75_29, mj_g75_30, mj_g75_31, mj_g75_32, mj_g75_33, mj_g75_34, mj_g75_35, ↓reduceIte, Option.bind_some, Option.toList_some, Option.toList_none, List.cons_append, List.nil_append, mj_ixn, mj_add, mj_mul, mj_sub, mj_dv, mj_rmn, mj_ltT, mj_ltF, mj_leT, mj_leF, mj_eqT, mj_eqF, mj_z0T, mj_z0F, mj_bo0, mj_boc, mj_chk10, mj_chk11, and_self, not_true, not_false_eq_true, hI, hg.1.1, hg.2.1.1, kn, tr, mc_thickness hgc, hgc.2.2.2.1, e11, eT, c3, c4]
          · simp (disch := omega) only [mj_x130, mj_g130_0, mj_g130_1, mj_g130_2, mj_g130_3, mj_g130_4, mj_g130_5, mj_g130_6, mj_g130_9, mj_g130_10, mj_g130_11, mj_g130_12, mj_g130_13, mj_g130_14, mj_g130_15, mj_g130_16, mj_g130_17, mj_g130_18, mj_g130_19, mj_g130_20, mj_g130_21, mj_g130_22, mj_g130_23, mj_g130_29, ↓reduceIte, Option.bind_some, Option.toList_some, Option.toList_none, List.cons_append, List.nil_append, mj_ixn, mj_add, mj_mul, mj_sub, mj_dv, mj_rmn, mj_ltT, mj_ltF, mj_leT, mj_leF, mj_eqT, mj_eqF, mj_z0T, mj_z0F, mj_bo0, mj_boc, mj_chk10, mj_chk11, and_self, not_true, not_false_eq_true, mt, ne, md_thick hgm, hdT, hgm, hd, c3, c4]
    · rw [if_neg c2] at mt
      rw [← mj_boF c2] at kn
      have k1 : ((-1000004 : Int32) = -1000001) = False := eq_false (by decide)
      have k2 : ((-1000004 : Int32) ≤ 0) = True := eq_true (by decide)
      refine mr_same (v := (-1000004)) (F := f) (F2 := f) ?_ hc0 ?_ mr_fm_r hm
      · simp (disch := omega) only [mj_x75, mj_g75_0, mj_g75_1, mj_g75_2, mj_g75_3, mj_g75_4, mj_g75_5, mj_g75_6, mj_g75_7, mj_g75_10, mj_g75_11, mj_g75_12, mj_g75_13, mj_g75_14, mj_g75_15, ↓reduceIte, Option.bind_some, Option.toList_some, Option.toList_none, List.cons_append, List.nil_append, mj_ixn, mj_add, mj_mul, mj_sub, mj_dv, mj_rmn, mj_ltT, mj_ltF, mj_leT, mj_leF, mj_eqT, mj_eqF, mj_z0T, mj_z0F, mj_bo0, mj_boc, mj_chk10, mj_chk11, and_self, not_true, not_false_eq_true, hI, hg.1.1, hg.2.1.1, kn]
      · simp (disch := omega) only [mj_x130, mj_g130_0, mj_g130_1, mj_g130_2, mj_g130_3, mj_g130_4, mj_g130_5, mj_g130_6, mj_g130_9, mj_g130_10, mj_g130_11, mj_g130_12, mj_g130_13, mj_g130_14, mj_g130_15, mj_g130_16, mj_g130_17, mj_g130_18, mj_g130_19, mj_g130_22, mj_g130_23, mj_g130_29, ↓reduceIte, Option.bind_some, Option.toList_some, Option.toList_none, List.cons_append, List.nil_append, mj_ixn, mj_add, mj_mul, mj_sub, mj_dv, mj_rmn, mj_ltT, mj_ltF, mj_leT, mj_leF, mj_eqT, mj_eqF, mj_z0T, mj_z0F, mj_bo0, mj_boc, mj_chk10, mj_chk11, and_self, not_true, not_false_eq_true, mt, k1, k2, md_thick hgm, hgm]
  · rw [← mj_boF c1] at hI hJ
    have mt : mj_x X 129 [.inr (6, 0), .inl a] (S, f, g) = some (some (.inl (-1000001)), (S, f, g)) := by
      simp (disch := omega) only [mj_x129, mj_g129_0, mj_g129_1, mj_g129_2, mj_g129_3, mj_g129_4, mj_g129_5, ↓reduceIte, Option.bind_some, Option.toList_some, Option.toList_none, List.cons_append, List.nil_append, mj_ixn, mj_add, mj_mul, mj_sub, mj_dv, mj_rmn, mj_ltT, mj_ltF, mj_leT, mj_leF, mj_eqT, mj_eqF, mj_z0T, mj_z0F, mj_bo0, mj_boc, mj_chk10, mj_chk11, and_self, not_true, not_false_eq_true, hJ]
    refine mr_same (v := (-1000001)) (F := f) (F2 := f) ?_ hc0 ?_ mr_fm_r hm
    · simp (disch := omega) only [mj_x75, mj_g75_0, mj_g75_1, mj_g75_2, mj_g75_3, mj_g75_4, mj_g75_5, mj_g75_6, mj_g75_7, mj_g75_8, mj_g75_9, ↓reduceIte, Option.bind_some, Option.toList_some, Option.toList_none, List.cons_append, List.nil_append, mj_ixn, mj_add, mj_mul, mj_sub, mj_dv, mj_rmn, mj_ltT, mj_ltF, mj_leT, mj_leF, mj_eqT, mj_eqF, mj_z0T, mj_z0F, mj_bo0, mj_boc, mj_chk10, mj_chk11, and_self, not_true, not_false_eq_true, hI, hg.1.1, hg.2.1.1]
    · simp (disch := omega) only [mj_x130, mj_g130_0, mj_g130_1, mj_g130_2, mj_g130_3, mj_g130_4, mj_g130_5, mj_g130_6, mj_g130_7, mj_g130_8, ↓reduceIte, Option.bind_some, Option.toList_some, Option.toList_none, List.cons_append, List.nil_append, mj_ixn, mj_add, mj_mul, mj_sub, mj_dv, mj_rmn, mj_ltT, mj_ltF, mj_leT, mj_leF, mj_eqT, mj_eqF, mj_z0T, mj_z0F, mj_bo0, mj_boc, mj_chk10, mj_chk11, and_self, not_true, not_false_eq_true, mt]
end O5
