/-! calls: plans -/
theorem md_usK {m s n : Nat} {φ : Int32} (q : Nat) : ∀ f, md_K m f (md_us f m s n φ q).1 := by
  induction q with
  | zero => intro f; exact fun _ _ _ _ => rfl
  | succ q ih =>
    intro f
    unfold md_us
    by_cases c1 : f 18 m 5 = 0
    · rw [if_pos c1]
      intro k i j hn
      rw [ih (md_ht f m s n φ) k i j hn]
      exact md_ht_o (by omega) (by omega)
    · rw [if_neg c1]
      exact fun _ _ _ _ => rfl
theorem sp_us_o {s n i : Nat} {φ : Int32} (h60 : n ≤ 60) (hi : 142 ≤ i) (q : Nat) : ∀ D, (sp_us D s n φ q).1 i = D i := by
  induction q with
  | zero => intro D; rfl
  | succ q ih =>
    intro D
    unfold sp_us
    by_cases c1 : D 5 = 0
    · rw [if_pos c1]
      show (sp_us (sp_ht D s n φ) s n φ q).1 i = D i
      rw [ih, sp_ht_o (by omega)]
    · rw [if_neg c1]
theorem sp_us_le {s n : Nat} {φ : Int32} (q : Nat) : ∀ D, (sp_us D s n φ q).2 ≤ q + 1 := by
  induction q with
  | zero => intro D; show (if _ then 1 else 0) ≤ _; split <;> omega
  | succ q ih =>
    intro D
    have := ih (sp_ht D s n φ)
    unfold sp_us
    split
    · show _ + 1 ≤ _; omega
    · show 0 ≤ _; omega
theorem sp_us_5 {s n : Nat} {φ : Int32} (q : Nat) : ∀ D, ((sp_us D s n φ q).2 = q + 1 ∧ (sp_us D s n φ q).1 5 = 0) ∨ ((sp_us D s n φ q).2 ≤ q ∧ ¬ (sp_us D s n φ q).1 5 = 0) := by
  induction q with
  | zero =>
    intro D
    unfold sp_us
    by_cases c1 : D 5 = 0
    · exact Or.inl ⟨if_pos c1, c1⟩
    · exact Or.inr ⟨by rw [if_neg c1]; exact Nat.le_refl 0, c1⟩
  | succ q ih =>
    intro D
    unfold sp_us
    by_cases c1 : D 5 = 0
    · rw [if_pos c1]
      rcases ih (sp_ht D s n φ) with ⟨h1, h2⟩ | ⟨h1, h2⟩
      · exact Or.inl ⟨by show _ + 1 = _; rw [h1], h2⟩
      · exact Or.inr ⟨by show _ + 1 ≤ _; omega, h2⟩
    · rw [if_neg c1]
      exact Or.inr ⟨by show 0 ≤ _; omega, c1⟩
/-- the best spot from b on, among so many -/
def sp_bs (D : Nat → Int32) (s n : Nat) (m φ : Int32) : Nat → Nat → Int32 → Int32 → Int32
  | 0, _, best, _ => best
  | q + 1, b, best, most => if sp_gr D b m = nI 0 then (if most < nI (sp_us (sp_po D b m) s n φ 300).2 then sp_bs D s n m φ q (b + 1) (nI b) (nI (sp_us (sp_po D b m) s n φ 300).2) else sp_bs D s n m φ q (b + 1) best most) else sp_bs D s n m φ q (b + 1) best most
theorem sp_bs_s (D : Nat → Int32) (s n : Nat) (m φ : Int32) (q b : Nat) (best most : Int32) : sp_bs D s n m φ (q + 1) b best most = if sp_gr D b m = nI 0 then (if most < nI (sp_us (sp_po D b m) s n φ 300).2 then sp_bs D s n m φ q (b + 1) (nI b) (nI (sp_us (sp_po D b m) s n φ 300).2) else sp_bs D s n m φ q (b + 1) best most) else sp_bs D s n m φ q (b + 1) best most := rfl
theorem sp_bs_301 {D : Nat → Int32} {s n : Nat} {m φ : Int32} {best most : Int32} (h : nI 300 < most) : ∀ q b, sp_bs D s n m φ q b best most = best := by
  intro q
  induction q with
  | zero => intro b; rfl
  | succ q ih =>
    intro b
    have hle := sp_us_le (s := s) (n := n) (φ := φ) 300 (sp_po D b m)
    have hn : ¬ most < nI (sp_us (sp_po D b m) s n φ 300).2 := by
      rw [Int32.lt_iff_toInt_lt, nI_toInt (by omega)] at h
      rw [Int32.lt_iff_toInt_lt, nI_toInt (by omega)]
      omega
    rw [sp_bs_s, if_neg hn, ih, ite_self]
section O6
variable {X : mj_X} {S : List (Nat × Nat)} {f F F2 : mj_F} {g G : mj_G} {r s n c H H2 z L j k d m p : Nat} {sc sp : Nat → Nat} {D E : Nat → Int32} {Ds : Nat → Nat → Int32} {t : Nat → Int32} {w v a b e φ : Int32} {o2 o3 o4 : Option mj_V}
theorem mj_m1s {x : Int32} : x + (-1) = x - nI 1 := by
  rw [Int32.sub_eq_add_neg]
  rfl
/-- behind a plan of the reference -/
theorem md_back {R : mj_F} (hm : mr_m f D z Ds L t w) (hK : md_K 0 f F) (h20 : ∀ i, i < 627 → R 20 0 i = D i) (hR : ∀ k i j, ¬ ((k = 18 ∨ k = 20 ∨ k = 21) ∧ i = 0) → R k i j = f k i j) (h18 : ∀ i, 627 ≤ i → R 18 0 i = D i) : mr_m (mc_fl R 18 0 (R 20 0) 627) D z Ds L t w ∧ mr_fm f (mc_fl R 18 0 (R 20 0) 627) := by
  obtain ⟨m1, m2, m3, m4, m5, m6⟩ := hm
  refine ⟨⟨?_, ?_, fun k hk j hj => ?_, ?_, ?_, ?_⟩, fun k i j hn => ?_⟩
  · funext i
    by_cases c1 : i < 627
    · rw [mc_fl_j c1, h20 i c1]
    · rw [mc_fl_o (by omega), h18 i (by omega)]
  · rw [mc_fl_o (by omega), hR _ _ _ (by omega)]; exact m2
  · rw [mc_fl_o (by omega), hR _ _ _ (by omega)]; exact m3 k hk j hj
  · rw [mc_fl_o (by omega), hR _ _ _ (by omega)]; exact m4
  · rw [← m5]; funext j; rw [mc_fl_o (by omega), hR _ _ _ (by omega)]
  · rw [mc_fl_o (by omega), hR _ _ _ (by omega)]; exact m6
  · rw [mc_fl_o (by omega), hR _ _ _ (by omega)]
/-- a plan of the class: the lining copied, heats made -/
theorem mr_plan (hg : mr_g g sc) (hS : mr_S f 0 0 sc D r s n H) (hF : mr_F 1 f F) : mj_x X 5 [.inr (1, 1), .inr (1, 0)] (S, F, g) = some (none, (S, mc_cf F 1 0, g)) ∧ mr_L (mc_cf F 1 0) 1 D r s n ∧ mr_F 1 f (mc_cf F 1 0) := by
  have L0 : mr_L F 0 D r s n := mr_L_e hS.1 (fun k j hk => hF _ _ _ (by omega))
  exact ⟨mc_copyLining hg.2.2.1 hg.2.1.2.2.1 (by omega) (mr_L_ov L0 hS.2.1.2.2.2.1), mr_L_cf L0 (by omega), mr_F_t hF mr_F_cf⟩
theorem mr_lasting (hg : mc_LG g 1) (hL : mr_L F 1 E r s n) (hV : mr_V E n) (hp : p ≤ 200) : ∃ F2, mj_x X 32 [.inr (1, 1), .inl (nI p)] (S, F, g) = some (some (.inl (nI (sp_us E s n (nI p) 300).2)), (S, F2, g)) ∧ mr_L F2 1 (sp_us E s n (nI p) 300).1 r s n ∧ mr_V (sp_us E s n (nI p) 300).1 n ∧ mr_F 1 F F2 := by
  obtain ⟨u1, u2, u3, u4⟩ := mr_us hp 300 F E hL hV
  have hu := mc_heatsUntilOver (X := X) (S := S) (φ := nI p) hg (mr_L_O hL hV)
  rw [u1] at hu
  exact ⟨_, hu, u2, u3, u4⟩
theorem mr_heatsLeft : mr_op X 76 134 [.inl a, .inl b] := by
  intro S f g r s n H D z Ds L t w hH hc hm
  have hc0 := hc
  obtain ⟨sc, hg, hS, -⟩ := hc
  have h60 := hS.1.1.1.n60
  have hV := hS.2.1.2.2.2.1
  have hgm := hg.2.2.2.2.2.2.1.1
  have hg4 := hg.2.2.2.2.2.2.1.2.2.1
  have hg5 := hg.2.2.2.2.2.2.1.2.2.2.1
  haveI : Decidable (mc_iH a b) := Classical.propDecidable _
  have hI := mc_isHeat (X := X) (S := S) (f := f) (g := g) (t := a) (sl := b)
  have hJ := md_isHeat (X := X) (S := S) (f := f) (g := g) (t := a) (sl := b)
  by_cases c1 : mc_iH a b
  · rw [← mj_boT c1] at hI
    obtain ⟨p, hp, ep, ep2⟩ := mr_fo c1
    obtain ⟨k1, k2, k3⟩ := mr_plan (X := X) (S := S) hg hS (mr_F_r (a := 1))
    obtain ⟨F2, l1, l2, l3, l4⟩ := mr_lasting (X := X) (S := S) hg.2.2.1 k2 hV hp
    have fo := mc_factorOf (X := X) (S := S) (f := mc_cf f 1 0) (g := g) (t := a) (sl := b)
    rw [ep] at fo
    have FF := mr_F_t k3 l4
    have C1 := mr_c_p hc0 FF
    have M1 := mr_m_c hm (mr_fc_F FF)
    have hJ2 := md_isHeat (X := X) (S := S) (f := F2) (g := g) (t := a) (sl := b)
    rw [← mj_boT c1] at hJ2
    have kp := md_keeps (X := X) (S := S) (f := F2) hgm hg4
    have e18 : mc_fl F2 20 0 (F2 18 0) 627 18 0 = D := by rw [mc_fl_e (by decide)]; exact M1.1
    have ok1 : sp_ok (mc_fl F2 20 0 (F2 18 0) 627 18 0) r s n H := by rw [e18]; exact hS.2.1
    have la := md_lasts (X := X) (S := S) (t := a) (sl := b) hgm hg5 (md_O_ok ok1) (md_ok_13 ok1) (md_ok_17 ok1)
    rw [ep2] at la
    obtain ⟨us1, us2⟩ := md_us_sp (m := 0) (s := s) (φ := nI p) h60 300 (mc_fl F2 20 0 (F2 18 0) 627)
    rw [e18] at us1 us2
    have uK := md_usK (m := 0) (s := s) (n := n) (φ := nI p) 300 (mc_fl F2 20 0 (F2 18 0) 627)
    rw [us2] at la
    generalize (md_us (mc_fl F2 20 0 (F2 18 0) 627) 0 s n (nI p) 300).1 = R at la us1 uK
    have re := md_restores (X := X) (S := S) (f := R) hgm hg4
    obtain ⟨b1, b2⟩ := md_back (R := R) M1 (F := F2) (fun _ _ _ _ => rfl) (fun i hi => by rw [uK _ _ _ (by omega), mc_fl_j hi, M1.1]) (fun k i j hn => by rw [uK _ _ _ (by omega), mc_fl_o (by omega)]) (fun i hi => by rw [us1, sp_us_o h60 (by omega)])
    have hle := sp_us_le (s := s) (n := n) (φ := nI p) 300 D
    generalize (sp_us D s n (nI p) 300).2 = N at l1 la hle
    by_cases c2 : N ≤ 300
    · refine mr_same (v := nI N) ?_ C1 ?_ b2 b1
      · simp (disch := omega) only [mj_x76, mj_g76_0, mj_g76_1, mj_g76_2, mj_g76_3, mj_g76_6, mj_g76_7, mj_g76_8, mj_g76_9, mj_g76_10, mj_g76_11, mj_g76_12, mj_g76_13, mj_g76_14, mj_g76_15, mj_g76_16, mj_g76_17, mj_g76_18, mj_g76_19, mj_g76_20, mj_g76_21, mj_g76_24, mj_g76_25, ↓reduceIte, Option.bind_some, Option.toList_some, Option.toList_none, List.cons_append, List.nil_append, mj_ixn, mj_add, mj_mul, mj_sub, mj_dv, mj_rmn, mj_ltT, mj_ltF, mj_leT, mj_leF, mj_eqT, mj_eqF, mj_z0T, mj_z0F, mj_bo0, mj_boc, mj_chk10, mj_chk11, and_self, not_true, not_false_eq_true, hI, hg.1.2.1, hg.1.1, hg.2.1.1, k1, fo, l1]
      · simp (disch := omega) only [mj_x134, mj_g134_0, mj_g134_1, mj_g134_2, mj_g134_3, mj_g134_6, mj_g134_7, mj_g134_8, mj_g134_9, mj_g134_10, mj_g134_11, mj_g134_12, mj_g134_13, mj_g134_14, mj_g134_15, mj_g134_16, mj_g134_17, mj_g134_20, mj_g134_21, ↓reduceIte, Option.bind_some, Option.toList_some, Option.toList_none, List.cons_append, List.nil_append, mj_ixn, mj_add, mj_mul, mj_sub, mj_dv, mj_rmn, mj_ltT, mj_ltF, mj_leT, mj_leF, mj_eqT, mj_eqF, mj_z0T, mj_z0F, mj_bo0, mj_boc, mj_chk10, mj_chk11, and_self, not_true, not_false_eq_true, hJ2, kp, la, re]
    · refine mr_same (v := (-1000004)) ?_ C1 ?_ b2 b1
      · simp (disch := omega) only [mj_x76, mj_g76_0, mj_g76_1, mj_g76_2, mj_g76_3, mj_g76_6, mj_g76_7, mj_g76_8, mj_g76_9, mj_g76_10, mj_g76_11, mj_g76_12, mj_g76_13, mj_g76_14, mj_g76_15, mj_g76_16, mj_g76_17, mj_g76_18, mj_g76_19, mj_g76_20, mj_g76_21, mj_g76_22, mj_g76_23, mj_g76_25, ↓reduceIte, Option.bind_some, Option.toList_some, Option.toList_none, List.cons_append, List.nil_append, mj_ixn, mj_add, mj_mul, mj_sub, mj_dv, mj_rmn, mj_ltT, mj_ltF, mj_leT, mj_leF, mj_eqT, mj_eqF, mj_z0T, mj_z0F, mj_bo0, mj_boc, mj_chk10, mj_chk11, and_self, not_true, not_false_eq_true, hI, hg.1.2.1, hg.1.1, hg.2.1.1, k1, fo, l1]
      · simp (disch := omega) only [mj_x134, mj_g134_0, mj_g134_1, mj_g134_2, mj_g134_3, mj_g134_6, mj_g134_7, mj_g134_8, mj_g134_9, mj_g134_10, mj_g134_11, mj_g134_12, mj_g134_13, mj_g134_14, mj_g134_15, mj_g134_16, mj_g134_17, mj_g134_18, mj_g134_19, mj_g134_21, ↓reduceIte, Option.bind_some, Option.toList_some, Option.toList_none, List.cons_append, List.nil_append, mj_ixn, mj_add, mj_mul, mj_sub, mj_dv, mj_rmn, mj_ltT, mj_ltF, mj_leT, mj_leF, mj_eqT, mj_eqF, mj_z0T, mj_z0F, mj_bo0, mj_boc, mj_chk10, mj_chk11, and_self, not_true, not_false_eq_true, hJ2, kp, la, re]
  · rw [← mj_boF c1] at hI hJ
    refine mr_same (v := (-1000001)) (F := f) (F2 := f) ?_ hc0 ?_ mr_fm_r hm
    · simp (disch := omega) only [mj_x76, mj_g76_0, mj_g76_1, mj_g76_2, mj_g76_3, mj_g76_4, mj_g76_5, ↓reduceIte, Option.bind_some, Option.toList_some, Option.toList_none, List.cons_append, List.nil_append, mj_ixn, mj_add, mj_mul, mj_sub, mj_dv, mj_rmn, mj_ltT, mj_ltF, mj_leT, mj_leF, mj_eqT, mj_eqF, mj_z0T, mj_z0F, mj_bo0, mj_boc, mj_chk10, mj_chk11, and_self, not_true, not_false_eq_true, hI]
    · simp (disch := omega) only [mj_x134, mj_g134_0, mj_g134_1, mj_g134_2, mj_g134_3, mj_g134_4, mj_g134_5, ↓reduceIte, Option.bind_some, Option.toList_some, Option.toList_none, List.cons_append, List.nil_append, mj_ixn, mj_add, mj_mul, mj_sub, mj_dv, mj_rmn, mj_ltT, mj_ltF, mj_leT, mj_leF, mj_eqT, mj_eqF, mj_z0T, mj_z0F, mj_bo0, mj_boc, mj_chk10, mj_chk11, and_self, not_true, not_false_eq_true, hJ]
theorem md_thrl (hg : g 6 0 0 = some (18, 0)) (hO : md_O f 0 r s n) (h5 : f 18 0 5 = nI 1) {q1 q2 : mj_V} : mj_g X 135 28 [some (.inr (6, 0)), some q1, some q2, some (.inl (-1000004)), some (.inl (nI (n - 0) - nI 1))] [] (S, f, g) = mj_g X 135 50 [some (.inr (6, 0)), some q1, some q2, some (.inl (mc_oi (mc_fi (fun j => decide (md_T f 0 j < f 18 0 12)) 0 n))), some (.inl (nI 0 - nI 1))] [] (S, f, g) := by
  have h60 := hO.2.2.n60
  have hl := mj_loop (fun k => mj_g X 135 28 [some (.inr (6, 0)), some q1, some q2, some (.inl (mc_oi (mc_fi (fun j => decide (md_T f 0 j < f 18 0 12)) (n - k) k))), some (.inl (nI (n - k) - nI 1))] [] (S, f, g)) n (fun k hk => by
    have e1 : nI (n - k) - nI 1 = nI (n - (k + 1)) := by rw [mj_sub (by omega)]; exact congrArg nI (by omega)
    have e2 : mc_fi (fun j => decide (md_T f 0 j < f 18 0 12)) (n - (k + 1)) (k + 1) = if decide (md_T f 0 (n - (k + 1)) < f 18 0 12) = true then some (n - (k + 1)) else mc_fi (fun j => decide (md_T f 0 j < f 18 0 12)) (n - k) k := by
      rw [mc_fi_s, show n - (k + 1) + 1 = n - k by omega]
    refine Eq.trans mj_g135_28 ?_
    rw [e1, e2]
    by_cases c1 : md_T f 0 (n - (k + 1)) < f 18 0 12
    · rw [if_pos (decide_eq_true c1)]
      simp (disch := omega) only [mj_g135_29, mj_g135_30, mj_g135_31, mj_g135_32, mj_g135_33, mj_g135_34, mj_g135_35, mj_g135_36, mj_g135_37, mj_g135_38, mj_g135_39, mj_g135_40, mj_g135_41, mj_g135_42, mj_g135_43, mj_g135_44, mj_g135_45, mj_g135_46, mj_g135_47, mj_g135_48, mj_g135_49, ↓reduceIte, Option.bind_some, Option.toList_some, Option.toList_none, List.cons_append, List.nil_append, mj_ixn, mj_add, mj_mul, mj_sub, mj_dv, mj_rmn, mj_ltT, mj_ltF, mj_leT, mj_leF, mj_eqT, mj_eqF, mj_z0T, mj_z0F, mj_bo0, mj_boc, mj_chk10, mj_chk11, and_self, not_true, not_false_eq_true, mj_lt0, hg, h5, md_thick hg, eq_false (Int32.not_le.mpr c1), mj_m1s]
      rfl
    · rw [if_neg (fun q_ => c1 (of_decide_eq_true q_))]
      simp (disch := omega) only [mj_g135_29, mj_g135_30, mj_g135_31, mj_g135_32, mj_g135_33, mj_g135_34, mj_g135_35, mj_g135_36, mj_g135_37, mj_g135_38, mj_g135_39, mj_g135_40, mj_g135_41, mj_g135_42, mj_g135_43, mj_g135_44, mj_g135_45, mj_g135_46, mj_g135_47, mj_g135_48, mj_g135_49, ↓reduceIte, Option.bind_some, Option.toList_some, Option.toList_none, List.cons_append, List.nil_append, mj_ixn, mj_add, mj_mul, mj_sub, mj_dv, mj_rmn, mj_ltT, mj_ltF, mj_leT, mj_leF, mj_eqT, mj_eqF, mj_z0T, mj_z0F, mj_bo0, mj_boc, mj_chk10, mj_chk11, and_self, not_true, not_false_eq_true, mj_lt0, hg, h5, md_thick hg, eq_true (Int32.not_lt.mp c1), mj_m1s])
  refine Eq.trans ?_ (hl.trans ?_)
  · rfl
  · have m1 : (nI (n - n) - nI 1 < 0) = True := by rw [Nat.sub_self]; exact eq_true (by decide)
    simp (disch := omega) only [mj_g135_28, mj_g135_29, ↓reduceIte, m1]
    rw [Nat.sub_self]
theorem mr_firstThrough : mr_op X 77 135 [.inl a, .inl b] := by
  intro S f g r s n H D z Ds L t w hH hc hm
  have hc0 := hc
  obtain ⟨sc, hg, hS, -⟩ := hc
  have hG := hS.1.1.1
  have h60 := hG.n60
  have hsn := hG.sn
  have hs3 := hG.2.2.1
  have hV := hS.2.1.2.2.2.1
  have hgm := hg.2.2.2.2.2.2.1.1
  have hg4 := hg.2.2.2.2.2.2.1.2.2.1
  have hg5 := hg.2.2.2.2.2.2.1.2.2.2.1
  haveI : Decidable (mc_iH a b) := Classical.propDecidable _
  have hI := mc_isHeat (X := X) (S := S) (f := f) (g := g) (t := a) (sl := b)
  have hJ := md_isHeat (X := X) (S := S) (f := f) (g := g) (t := a) (sl := b)
  have ov : f 1 0 11 = D 5 := hS.1.2.2.1.2.2.2
  have od : f 18 0 5 = D 5 := by rw [hm.1]
  by_cases c1 : mc_iH a b
  · rw [← mj_boT c1] at hI hJ
    rcases hV.1 with h5 | h5
    · obtain ⟨p, hp, ep, ep2⟩ := mr_fo c1
      obtain ⟨k1, k2, k3⟩ := mr_plan (X := X) (S := S) hg hS (mr_F_r (a := 1))
      obtain ⟨F2, l1, l2, l3, l4⟩ := mr_lasting (X := X) (S := S) hg.2.2.1 k2 hV hp
      have fo := mc_factorOf (X := X) (S := S) (f := mc_cf f 1 0) (g := g) (t := a) (sl := b)
      rw [ep] at fo
      have FF := mr_F_t k3 l4
      have C1 := mr_c_p hc0 FF
      have M1 := mr_m_c hm (mr_fc_F FF)
      have od2 : F2 18 0 5 = nI 0 := by rw [M1.1]; exact h5
      have hJ2 := md_isHeat (X := X) (S := S) (f := F2) (g := g) (t := a) (sl := b)
      rw [← mj_boT c1] at hJ2
      have kp := md_keeps (X := X) (S := S) (f := F2) hgm hg4
      have e18 : mc_fl F2 20 0 (F2 18 0) 627 18 0 = D := by rw [mc_fl_e (by decide)]; exact M1.1
      have ok1 : sp_ok (mc_fl F2 20 0 (F2 18 0) 627 18 0) r s n H := by rw [e18]; exact hS.2.1
      have la := md_lasts (X := X) (S := S) (t := a) (sl := b) hgm hg5 (md_O_ok ok1) (md_ok_13 ok1) (md_ok_17 ok1)
      rw [ep2] at la
      obtain ⟨us1, us2⟩ := md_us_sp (m := 0) (s := s) (φ := nI p) h60 300 (mc_fl F2 20 0 (F2 18 0) 627)
      rw [e18] at us1 us2
      have uK := md_usK (m := 0) (s := s) (n := n) (φ := nI p) 300 (mc_fl F2 20 0 (F2 18 0) 627)
      rw [us2] at la
      have s5 := sp_us_5 (s := s) (n := n) (φ := nI p) 300 D
      have b0 : ∀ i, i < 2 → (sp_us D s n (nI p) 300).1 i = D i := by
        intro i hi
        have y1 := l2.1.2.1
        have y2 := l2.1.2.2
        by_cases q0 : i = 0
        · subst q0; rw [y1]; exact hS.1.1.2.1.symm
        · have q1 : i = 1 := by omega
          subst q1; rw [y2]; exact hS.1.1.2.2.symm
      generalize (md_us (mc_fl F2 20 0 (F2 18 0) 627) 0 s n (nI p) 300).1 = R at la us1 uK
      have re := md_restores (X := X) (S := S) (f := R) hgm hg4
      obtain ⟨b1, b2⟩ := md_back (R := R) M1 (F := F2) (fun _ _ _ _ => rfl) (fun i hi => by rw [uK _ _ _ (by omega), mc_fl_j hi, M1.1]) (fun k i j hn => by rw [uK _ _ _ (by omega), mc_fl_o (by omega)]) (fun i hi => by rw [us1, sp_us_o h60 (by omega)])
      have RO : md_O R 0 r s n := ⟨by rw [us1]; exact l2.1.2.1, by rw [us1]; exact l2.1.2.2, hG⟩
      have hle := sp_us_le (s := s) (n := n) (φ := nI p) 300 D
      have R5 : R 18 0 5 = (sp_us D s n (nI p) 300).1 5 := by rw [us1]
      have g23 : mj_x X 135 [.inr (6, 0), .inl a, .inl b] (S, F2, g) = mj_g X 135 28 [some (.inr (6, 0)), some (.inl a), some (.inl b), some (.inl (-1000004)), some (.inl (nI n - nI 1))] [] (S, R, g) := by
        simp (disch := omega) only [mj_x135, mj_g135_0, mj_g135_1, mj_g135_2, mj_g135_3, mj_g135_6, mj_g135_7, mj_g135_8, mj_g135_9, mj_g135_10, mj_g135_11, mj_g135_14, mj_g135_15, mj_g135_16, mj_g135_17, mj_g135_18, mj_g135_19, mj_g135_20, mj_g135_21, mj_g135_22, mj_g135_23, mj_g135_24, mj_g135_25, mj_g135_26, mj_g135_27, ↓reduceIte, Option.bind_some, Option.toList_some, Option.toList_none, List.cons_append, List.nil_append, mj_ixn, mj_eqF, mj_bo0, and_self, not_true, not_false_eq_true, mj_z0F, hJ2, hgm, od2, kp, la, md_spots hgm RO]
      rcases s5 with ⟨s1, s2⟩ | ⟨s1, s2⟩
      · rw [s1] at l1
        rw [s2] at R5
        have z1 : ((0 : Int32) = nI 1) = False := eq_false (by decide)
        refine mr_same (v := (-1000004)) ?_ C1 (g23.trans ?_) b2 b1
        · simp (disch := omega) only [mj_x77, mj_g77_0, mj_g77_1, mj_g77_2, mj_g77_3, mj_g77_6, mj_g77_7, mj_g77_8, mj_g77_9, mj_g77_10, mj_g77_13, mj_g77_14, mj_g77_15, mj_g77_16, mj_g77_17, mj_g77_18, mj_g77_19, mj_g77_20, mj_g77_21, mj_g77_22, mj_g77_23, mj_g77_24, mj_g77_25, mj_g77_26, mj_g77_27, mj_g77_28, mj_g77_29, mj_g77_30, mj_g77_34, ↓reduceIte, Option.bind_some, Option.toList_some, Option.toList_none, List.cons_append, List.nil_append, mj_ixn, mj_add, mj_mul, mj_sub, mj_dv, mj_rmn, mj_ltT, mj_ltF, mj_leT, mj_leF, mj_eqT, mj_eqF, mj_z0T, mj_z0F, mj_bo0, mj_boc, mj_chk10, mj_chk11, and_self, not_true, not_false_eq_true, hI, ov, h5, hg.1.2.1, hg.1.1, hg.2.1.1, k1, fo, l1]
        · simp (disch := omega) only [mj_g135_28, mj_g135_29, mj_g135_30, mj_g135_31, mj_g135_32, mj_g135_33, mj_g135_34, mj_g135_35, mj_g135_50, mj_g135_51, mj_g135_52, mj_g135_53, ↓reduceIte, Option.bind_some, Option.toList_some, Option.toList_none, List.cons_append, List.nil_append, mj_ixn, mj_sub, mj_lt0, hgm, R5, z1, re]
      · have e1 : (sp_us D s n (nI p) 300).1 5 = nI 1 := l3.1.elim (fun q_ => absurd q_ s2) id
        rw [e1] at R5
        have tl := md_thrl (X := X) (S := S) (q1 := .inl a) (q2 := .inl b) hgm RO R5
        rw [Nat.sub_zero] at tl
        have fb := mc_firstBelowLimit (X := X) (S := S) hg.2.2.1 l2.2.1.2.2 h60
        have ef : mc_fi (fun j => decide (mc_T F2 1 j < F2 11 1 0)) 0 n = mc_fi (fun j => decide (md_T R 0 j < R 18 0 12)) 0 n := mc_fi_congr (fun i h1 h2 => by
          have hj : i < n := by omega
          have q1 : md_T R 0 i = sp_T (sp_us D s n (nI p) 300).1 i := by rw [← us1]; rfl
          have q2 : F2 11 1 0 = (sp_us D s n (nI p) 300).1 12 := mr_L_s l2 (by omega)
          rw [mr_L_T l2 hj, q1, q2, us1])
        rw [ef] at fb
        refine mr_same (v := mc_oi (mc_fi (fun j => decide (md_T R 0 j < R 18 0 12)) 0 n)) ?_ C1 (g23.trans (tl.trans ?_)) b2 b1
        · simp (disch := omega) only [mj_x77, mj_g77_0, mj_g77_1, mj_g77_2, mj_g77_3, mj_g77_6, mj_g77_7, mj_g77_8, mj_g77_9, mj_g77_10, mj_g77_13, mj_g77_14, mj_g77_15, mj_g77_16, mj_g77_17, mj_g77_18, mj_g77_19, mj_g77_20, mj_g77_21, mj_g77_22, mj_g77_23, mj_g77_24, mj_g77_25, mj_g77_26, mj_g77_27, mj_g77_28, mj_g77_31, mj_g77_32, mj_g77_33, mj_g77_34, ↓reduceIte, Option.bind_some, Option.toList_some, Option.toList_none, List.cons_append, List.nil_append, mj_ixn, mj_add, mj_mul, mj_sub, mj_dv, mj_rmn, mj_ltT, mj_ltF, mj_leT, mj_leF, mj_eqT, mj_eqF, mj_z0T, mj_z0F, mj_bo0, mj_boc, mj_chk10, mj_chk11, and_self, not_true, not_false_eq_true, hI, ov, h5, hg.1.2.1, hg.1.1, hg.2.1.1, k1, fo, l1, fb]
        · simp (disch := omega) only [mj_g135_50, mj_g135_51, mj_g135_52, mj_g135_53, ↓reduceIte, Option.bind_some, Option.toList_some, Option.toList_none, List.cons_append, List.nil_append, mj_ixn, mj_add, mj_mul, mj_sub, mj_dv, mj_rmn, mj_ltT, mj_ltF, mj_leT, mj_leF, mj_eqT, mj_eqF, mj_z0T, mj_z0F, mj_bo0, mj_boc, mj_chk10, mj_chk11, and_self, not_true, not_false_eq_true, re]
    · refine mr_same (v := (-1000002)) (F := f) (F2 := f) ?_ hc0 ?_ mr_fm_r hm
      · simp (disch := omega) only [mj_x77, mj_g77_0, mj_g77_1, mj_g77_2, mj_g77_3, mj_g77_6, mj_g77_7, mj_g77_8, mj_g77_9, mj_g77_10, mj_g77_11, mj_g77_12, ↓reduceIte, Option.bind_some, Option.toList_some, Option.toList_none, List.cons_append, List.nil_append, mj_ixn, mj_add, mj_mul, mj_sub, mj_dv, mj_rmn, mj_ltT, mj_ltF, mj_leT, mj_leF, mj_eqT, mj_eqF, mj_z0T, mj_z0F, mj_bo0, mj_boc, mj_chk10, mj_chk11, and_self, not_true, not_false_eq_true, hI, hg.1.1, hg.2.1.1, ov, h5]
      · simp (disch := omega) only [mj_x135, mj_g135_0, mj_g135_1, mj_g135_2, mj_g135_3, mj_g135_6, mj_g135_7, mj_g135_8, mj_g135_9, mj_g135_10, mj_g135_11, mj_g135_12, mj_g135_13, ↓reduceIte, Option.bind_some, Option.toList_some, Option.toList_none, List.cons_append, List.nil_append, mj_ixn, mj_add, mj_mul, mj_sub, mj_dv, mj_rmn, mj_ltT, mj_ltF, mj_leT, mj_leF, mj_eqT, mj_eqF, mj_z0T, mj_z0F, mj_bo0, mj_boc, mj_chk10, mj_chk11, and_self, not_true, not_false_eq_true, hJ, hgm, od, h5]
  · rw [← mj_boF c1] at hI hJ
    refine mr_same (v := (-1000001)) (F := f) (F2 := f) ?_ hc0 ?_ mr_fm_r hm
    · simp (disch := omega) only [mj_x77, mj_g77_0, mj_g77_1, mj_g77_2, mj_g77_3, mj_g77_4, mj_g77_5, ↓reduceIte, Option.bind_some, Option.toList_some, Option.toList_none, List.cons_append, List.nil_append, mj_ixn, mj_add, mj_mul, mj_sub, mj_dv, mj_rmn, mj_ltT, mj_ltF, mj_leT, mj_leF, mj_eqT, mj_eqF, mj_z0T, mj_z0F, mj_bo0, mj_boc, mj_chk10, mj_chk11, and_self, not_true, not_false_eq_true, hI]
    · simp (disch := omega) only [mj_x135, mj_g135_0, mj_g135_1, mj_g135_2, mj_g135_3, mj_g135_4, mj_g135_5, ↓reduceIte, Option.bind_some, Option.toList_some, Option.toList_none, List.cons_append, List.nil_append, mj_ixn, mj_add, mj_mul, mj_sub, mj_dv, mj_rmn, mj_ltT, mj_ltF, mj_leT, mj_leF, mj_eqT, mj_eqF, mj_z0T, mj_z0F, mj_bo0, mj_boc, mj_chk10, mj_chk11, and_self, not_true, not_false_eq_true, hJ]
theorem mr_bsl (hg : mr_g g sc) (hS : mr_S f 0 0 sc D r s n H) (hm : m ≤ 500) (hp : p ≤ 200) (ep : mc_fo b e = nI p) : ∀ (q k : Nat) (best most : Int32) (F : mj_F) (o8 : Option mj_V), k + q = n → mr_F 1 f F → ∃ F2, mj_g X 78 19 [some (.inr (5, 0)), some (.inl (nI m)), some (.inl b), some (.inl e), some (.inr (1, 0)), some (.inl best), some (.inl most), some (.inl (nI k)), o8] [] (S, F, g) = some (some (.inl (sp_bs D s n (nI m) (nI p) q k best most)), (S, F2, g)) ∧ mr_F 1 f F2 := by
  have h60 := hS.1.1.1.n60
  have hV := hS.2.1.2.2.2.1
  intro q
  induction q with
  | zero =>
    intro k best most F o8 hk hF
    have L0 : mr_L F 0 D r s n := mr_L_e hS.1 (fun k j hk => hF _ _ _ (by omega))
    refine ⟨F, ?_, hF⟩
    refine Eq.trans mj_g78_19 ?_
    simp (disch := omega) only [mj_g78_20, mj_g78_21, mj_g78_22, mj_g78_57, mj_g78_58, ↓reduceIte, Option.bind_some, Option.toList_some, Option.toList_none, List.cons_append, List.nil_append, mj_ixn, mj_add, mj_mul, mj_sub, mj_dv, mj_rmn, mj_ltT, mj_ltF, mj_leT, mj_leF, mj_eqT, mj_eqF, mj_z0T, mj_z0F, mj_bo0, mj_boc, mj_chk10, mj_chk11, and_self, not_true, not_false_eq_true, L0.2.1.2.2]
    rfl
  | succ q ih =>
    intro k best most F o8 hk hF
    have hj : k < n := by omega
    have L0 : mr_L F 0 D r s n := mr_L_e hS.1 (fun k j hk => hF _ _ _ (by omega))
    by_cases c0 : nI 300 < most
    · refine ⟨F, ?_, hF⟩
      rw [sp_bs_301 c0]
      refine Eq.trans mj_g78_19 ?_
      simp (disch := omega) only [mj_g78_20, mj_g78_21, mj_g78_22, mj_g78_23, mj_g78_24, mj_g78_25, mj_g78_57, mj_g78_58, ↓reduceIte, Option.bind_some, Option.toList_some, Option.toList_none, List.cons_append, List.nil_append, mj_ixn, mj_add, mj_mul, mj_sub, mj_dv, mj_rmn, mj_ltT, mj_ltF, mj_leT, mj_leF, mj_eqT, mj_eqF, mj_z0T, mj_z0F, mj_bo0, mj_boc, mj_chk10, mj_chk11, and_self, not_true, not_false_eq_true, L0.2.1.2.2, c0]
    · have gr := mc_gunningRefusal (X := X) (S := S) (m := nI m) hg.2.1.2.2.1 (show k < 60 by omega) (mr_L_T0 L0 hV hj)
      rw [mr_L_gr L0 hV hj] at gr
      rw [sp_bs_s]
      by_cases c1 : sp_gr D k (nI m) = nI 0
      · rw [if_pos c1]
        rw [c1] at gr
        obtain ⟨k1, k2, k3⟩ := mr_plan (X := X) (S := S) hg hS hF
        have po := mc_putOn (X := X) (S := S) (m := nI m) hg.2.2.1 (show k < 60 by omega) (mr_L_T0 k2 hV hj)
        have L2 := mr_L_po (q := nI m) k2 hj
        have F2' := mr_F_t k3 (mr_F_po (a := 1) (f := mc_cf F 1 0) (j := k) (q := nI m))
        obtain ⟨F3, l1, l2, l3, l4⟩ := mr_lasting (X := X) (S := S) hg.2.2.1 L2 (mr_V_po hV h60 hj hm c1) hp
        have fo := mc_factorOf (X := X) (S := S) (f := mc_po (mc_cf F 1 0) 1 k (nI m)) (g := g) (t := b) (sl := e)
        rw [ep] at fo
        have hle := sp_us_le (s := s) (n := n) (φ := nI p) 300 (sp_po D k (nI m))
        generalize (sp_us (sp_po D k (nI m)) s n (nI p) 300).2 = N at l1 hle ⊢
        by_cases c2 : most < nI N
        · rw [if_pos c2]
          obtain ⟨F4, i1, i2⟩ := ih (k + 1) (nI k) (nI N) F3 (some (.inl (nI N))) (by omega) (mr_F_t F2' l4)
          refine ⟨F4, ?_, i2⟩
          rw [← i1]
          refine Eq.trans mj_g78_19 ?_
          simp (disch := omega) only [mj_g78_20, mj_g78_21, mj_g78_22, mj_g78_23, mj_g78_24, mj_g78_25, mj_g78_26, mj_g78_27, mj_g78_28, mj_g78_29, mj_g78_30, mj_g78_31, mj_g78_32, mj_g78_33, mj_g78_34, mj_g78_35, mj_g78_36, mj_g78_37, mj_g78_38, mj_g78_39, mj_g78_40, mj_g78_41, mj_g78_42, mj_g78_43, mj_g78_44, mj_g78_45, mj_g78_46, mj_g78_47, mj_g78_48, mj_g78_49, mj_g78_50, mj_g78_51, mj_g78_52, mj_g78_53, mj_g78_54, mj_g78_55, mj_g78_56, ↓reduceIte, Option.bind_some, Option.toList_some, Option.toList_none, List.cons_append, List.nil_append, mj_ixn, mj_add, mj_mul, mj_sub, mj_dv, mj_rmn, mj_ltT, mj_ltF, mj_leT, mj_leF, mj_eqT, mj_eqF, mj_z0T, mj_z0F, mj_bo0, mj_boc, mj_chk10, mj_chk11, and_self, not_true, not_false_eq_true, L0.2.1.2.2, c0, gr, hg.1.2.1, k1, po, fo, l1, eq_false (Int32.not_le.mpr c2)]
        · rw [if_neg c2]
          obtain ⟨F4, i1, i2⟩ := ih (k + 1) best most F3 (some (.inl (nI N))) (by omega) (mr_F_t F2' l4)
          refine ⟨F4, ?_, i2⟩
          rw [← i1]
          refine Eq.trans mj_g78_19 ?_
          simp (disch := omega) only [mj_g78_20, mj_g78_21, mj_g78_22, mj_g78_23, mj_g78_24, mj_g78_25, mj_g78_26, mj_g78_27, mj_g78_28, mj_g78_29, mj_g78_30, mj_g78_31, mj_g78_32, mj_g78_33, mj_g78_34, mj_g78_35, mj_g78_36, mj_g78_37, mj_g78_38, mj_g78_39, mj_g78_40, mj_g78_41, mj_g78_42, mj_g78_43, mj_g78_44, mj_g78_45, mj_g78_46, mj_g78_47, mj_g78_48, mj_g78_49, mj_g78_50, mj_g78_51, mj_g78_52, mj_g78_53, mj_g78_54, mj_g78_55, mj_g78_56, ↓reduceIte, Option.bind_some, Option.toList_some, Option.toList_none, List.cons_append, List.nil_append, mj_ixn, mj_add, mj_mul, mj_sub, mj_dv, mj_rmn, mj_ltT, mj_ltF, mj_leT, mj_leF, mj_eqT, mj_eqF, mj_z0T, mj_z0F, mj_bo0, mj_boc, mj_chk10, mj_chk11, and_self, not_true, not_false_eq_true, L0.2.1.2.2, c0, gr, hg.1.2.1, k1, po, fo, l1, eq_true (Int32.not_lt.mp c2)]
      · rw [if_neg c1]
        obtain ⟨F4, i1, i2⟩ := ih (k + 1) best most F o8 (by omega) hF
        refine ⟨F4, ?_, i2⟩
        rw [← i1]
        have c1' : ¬ sp_gr D k (nI m) = 0 := fun q_ => c1 (q_.trans nI_0.symm)
        refine Eq.trans mj_g78_19 ?_
        simp (disch := omega) only [mj_g78_20, mj_g78_21, mj_g78_22, mj_g78_23, mj_g78_24, mj_g78_25, mj_g78_26, mj_g78_27, mj_g78_28, mj_g78_29, mj_g78_30, mj_g78_55, mj_g78_56, ↓reduceIte, Option.bind_some, Option.toList_some, Option.toList_none, List.cons_append, List.nil_append, mj_ixn, mj_add, mj_mul, mj_sub, mj_dv, mj_rmn, mj_ltT, mj_ltF, mj_leT, mj_leF, mj_eqT, mj_eqF, mj_z0T, mj_z0F, mj_bo0, mj_boc, mj_chk10, mj_chk11, and_self, not_true, not_false_eq_true, L0.2.1.2.2, c0, gr, c1']
theorem md_bestl (hg : g 6 0 0 = some (18, 0)) (hg4 : g 6 0 4 = some (20, 0)) (hg5 : g 6 0 5 = some (21, 0)) (hok : sp_ok D r s n H) (hm : m ≤ 500) (hp : p ≤ 200) (ep : md_fo b e = nI p) : ∀ (q k : Nat) (best most : Int32) (R : mj_F) (o7 : Option mj_V), k + q = n → R 18 0 = D → (∀ i, i < 627 → R 20 0 i = D i) → ∃ R2, mj_g X 136 19 [some (.inr (6, 0)), some (.inl (nI m)), some (.inl b), some (.inl e), some (.inl best), some (.inl most), some (.inl (nI k)), o7] [] (S, R, g) = some (some (.inl (sp_bs D s n (nI m) (nI p) q k best most)), (S, R2, g)) ∧ R2 18 0 = D ∧ md_K 0 R R2 := by
  have h60 := hok.1.n60
  intro q
  induction q with
  | zero =>
    intro k best most R o7 hk h18 h20
    have ok1 : sp_ok (R 18 0) r s n H := by rw [h18]; exact hok
    refine ⟨R, ?_, h18, fun _ _ _ _ => rfl⟩
    refine Eq.trans mj_g136_19 ?_
    simp (disch := omega) only [mj_g136_20, mj_g136_21, mj_g136_22, mj_g136_56, mj_g136_57, ↓reduceIte, Option.bind_some, Option.toList_some, Option.toList_none, List.cons_append, List.nil_append, mj_ixn, mj_add, mj_mul, mj_sub, mj_dv, mj_rmn, mj_ltT, mj_ltF, mj_leT, mj_leF, mj_eqT, mj_eqF, mj_z0T, mj_z0F, mj_bo0, mj_boc, mj_chk10, mj_chk11, and_self, not_true, not_false_eq_true, md_spots hg (md_O_ok ok1)]
    rfl
  | succ q ih =>
    intro k best most R o7 hk h18 h20
    have hj : k < n := by omega
    have ok1 : sp_ok (R 18 0) r s n H := by rw [h18]; exact hok
    have rf := md_refusal (X := X) (S := S) (q := nI m) hg (show k < 60 by omega) (md_ok_T ok1 k hj)
    have eg : md_gr R 0 k (nI m) = sp_gr D k (nI m) := by rw [← h18]; rfl
    rw [eg] at rf
    rw [sp_bs_s]
    by_cases c1 : sp_gr D k (nI m) = nI 0
    · rw [if_pos c1]
      rw [c1] at rf
      have gu := md_guns (X := X) (S := S) (q := nI m) hg (show k < 60 by omega) (md_ok_T ok1 k hj)
      have po18 : md_po R 0 k (nI m) 18 0 = sp_po D k (nI m) := by rw [md_po_sp (by omega), h18]
      have poK : md_K 0 R (md_po R 0 k (nI m)) := fun k2 i j2 hn => by
        unfold md_po
        rw [mj_u_n (by omega), mj_u_n (by omega), mj_u_n (by omega)]
      have ok2 : sp_ok (md_po R 0 k (nI m) 18 0) r s n H := by rw [po18]; exact sp_ok_po hok hj hm c1
      generalize md_po R 0 k (nI m) = R1 at gu po18 poK ok2
      have la := md_lasts (X := X) (S := S) (t := b) (sl := e) hg hg5 (md_O_ok ok2) (md_ok_13 ok2) (md_ok_17 ok2)
      rw [ep] at la
      obtain ⟨us1, us2⟩ := md_us_sp (m := 0) (s := s) (φ := nI p) h60 300 R1
      rw [po18] at us1 us2
      have uK := md_usK (m := 0) (s := s) (n := n) (φ := nI p) 300 R1
      rw [us2] at la
      generalize (md_us R1 0 s n (nI p) 300).1 = R2 at la us1 uK
      have re := md_restores (X := X) (S := S) (f := R2) hg hg4
      have hle := sp_us_le (s := s) (n := n) (φ := nI p) 300 (sp_po D k (nI m))
      have r20 : ∀ i, R2 20 0 i = R 20 0 i := fun i => by rw [uK _ _ _ (by omega), poK _ _ _ (by omega)]
      have r18 : mc_fl R2 18 0 (R2 20 0) 627 18 0 = D := by
        funext i
        by_cases q1 : i < 627
        · rw [mc_fl_j q1, r20, h20 i q1]
        · rw [mc_fl_o (by omega), us1, sp_us_o h60 (by omega), sp_po_o (by omega)]
      have r20b : ∀ i, i < 627 → mc_fl R2 18 0 (R2 20 0) 627 20 0 i = D i := fun i hi => by rw [mc_fl_o (by omega), r20, h20 i hi]
      have rK : md_K 0 R (mc_fl R2 18 0 (R2 20 0) 627) := fun k2 i j hn => by rw [mc_fl_o (by omega), uK _ _ _ hn, poK _ _ _ hn]
      generalize mc_fl R2 18 0 (R2 20 0) 627 = R3 at re r18 r20b rK
      generalize (sp_us (sp_po D k (nI m)) s n (nI p) 300).2 = N at la hle ⊢
      by_cases c2 : most < nI N
      · rw [if_pos c2]
        obtain ⟨R4, i1, i2, i3⟩ := ih (k + 1) (nI k) (nI N) R3 (some (.inl (nI N))) (by omega) r18 r20b
        refine ⟨R4, ?_, i2, fun k2 i j hn => (i3 k2 i j hn).trans (rK k2 i j hn)⟩
        rw [← i1]
        refine Eq.trans mj_g136_19 ?_
        simp (disch := omega) only [mj_g136_20, mj_g136_21, mj_g136_22, mj_g136_23, mj_g136_24, mj_g136_25, mj_g136_26, mj_g136_27, mj_g136_28, mj_g136_29, mj_g136_30, mj_g136_31, mj_g136_32, mj_g136_33, mj_g136_34, mj_g136_35, mj_g136_36, mj_g136_37, mj_g136_38, mj_g136_39, mj_g136_40, mj_g136_41, mj_g136_42, mj_g136_43, mj_g136_44, mj_g136_45, mj_g136_46, mj_g136_47, mj_g136_48, mj_g136_49, mj_g136_50, mj_g136_51, mj_g136_52, mj_g136_53, mj_g136_54, mj_g136_55, ↓reduceIte, Option.bind_some, Option.toList_some, Option.toList_none, List.cons_append, List.nil_append, mj_ixn, mj_add, mj_mul, mj_sub, mj_dv, mj_rmn, mj_ltT, mj_ltF, mj_leT, mj_leF, mj_eqT, mj_eqF, mj_z0T, mj_z0F, mj_bo0, mj_boc, mj_chk10, mj_chk11, and_self, not_true, not_false_eq_true, md_spots hg (md_O_ok ok1), rf, gu, la, re, eq_false (Int32.not_le.mpr c2)]
      · rw [if_neg c2]
        obtain ⟨R4, i1, i2, i3⟩ := ih (k + 1) best most R3 (some (.inl (nI N))) (by omega) r18 r20b
        refine ⟨R4, ?_, i2, fun k2 i j hn => (i3 k2 i j hn).trans (rK k2 i j hn)⟩
        rw [← i1]
        refine Eq.trans mj_g136_19 ?_
        simp (disch := omega) only [mj_g136_20, mj_g136_21, mj_g136_22, mj_g136_23, mj_g136_24, mj_g136_25, mj_g136_26, mj_g136_27, mj_g136_28, mj_g136_29, mj_g136_30, mj_g136_31, mj_g136_32, mj_g136_33, mj_g136_34, mj_g136_35, mj_g136_36, mj_g136_37, mj_g136_38, mj_g136_39, mj_g136_40, mj_g136_41, mj_g136_42, mj_g136_43, mj_g136_44, mj_g136_45, mj_g136_46, mj_g136_47, mj_g136_48, mj_g136_49, mj_g136_50, mj_g136_51, mj_g136_52, mj_g136_53, mj_g136_54, mj_g136_55, ↓reduceIte, Option.bind_some, Option.toList_some, Option.toList_none, List.cons_append, List.nil_append, mj_ixn, mj_add, mj_mul, mj_sub, mj_dv, mj_rmn, mj_ltT, mj_ltF, mj_leT, mj_leF, mj_eqT, mj_eqF, mj_z0T, mj_z0F, mj_bo0, mj_boc, mj_chk10, mj_chk11, and_self, not_true, not_false_eq_true, md_spots hg (md_O_ok ok1), rf, gu, la, re, eq_true (Int32.not_lt.mp c2)]
    · rw [if_neg c1]
      obtain ⟨R4, i1, i2, i3⟩ := ih (k + 1) best most R o7 (by omega) h18 h20
      refine ⟨R4, ?_, i2, i3⟩
      rw [← i1]
      have c1' : ¬ sp_gr D k (nI m) = 0 := fun q_ => c1 (q_.trans nI_0.symm)
      refine Eq.trans mj_g136_19 ?_
      simp (disch := omega) only [mj_g136_20, mj_g136_21, mj_g136_22, mj_g136_23, mj_g136_24, mj_g136_25, mj_g136_26, mj_g136_27, mj_g136_54, mj_g136_55, ↓reduceIte, Option.bind_some, Option.toList_some, Option.toList_none, List.cons_append, List.nil_append, mj_ixn, mj_add, mj_mul, mj_sub, mj_dv, mj_rmn, mj_ltT, mj_ltF, mj_leT, mj_leF, mj_eqT, mj_eqF, mj_z0T, mj_z0F, mj_bo0, mj_boc, mj_chk10, mj_chk11, and_self, not_true, not_false_eq_true, md_spots hg (md_O_ok ok1), rf, c1']
theorem mr_bestSpot : mr_op X 78 136 [.inl a, .inl b, .inl e] := by
  intro S f g r s n H D z Ds L t w hH hc hm
  have hc0 := hc
  obtain ⟨sc, hg, hS, -⟩ := hc
  have h60 := hS.1.1.1.n60
  have hgm := hg.2.2.2.2.2.2.1.1
  have hg4 := hg.2.2.2.2.2.2.1.2.2.1
  have hg5 := hg.2.2.2.2.2.2.1.2.2.2.1
  haveI : Decidable (mc_iH b e) := Classical.propDecidable _
  have hI := mc_isHeat (X := X) (S := S) (f := f) (g := g) (t := b) (sl := e)
  have hJ := md_isHeat (X := X) (S := S) (f := f) (g := g) (t := b) (sl := e)
  have hA := mc_isAmount (X := X) (S := S) (f := f) (g := g) (m := a)
  by_cases c2 : nI 1 ≤ a ∧ a ≤ nI 500
  · rw [← mj_boT c2] at hA
    by_cases c1 : mc_iH b e
    · rw [← mj_boT c1] at hI
      obtain ⟨p, hp, ep, ep2⟩ := mr_fo c1
      obtain ⟨m, hm1, hm5, rfl⟩ := mr_am c2
      obtain ⟨F2, l1, l2⟩ := mr_bsl (X := X) (S := S) (b := b) (e := e) hg hS hm5 hp ep n 0 (-1000002) (-1) f none (Nat.zero_add n) mr_F_r
      have C1 := mr_c_p hc0 l2
      have M1 := mr_m_c hm (mr_fc_F l2)
      have hJ2 := md_isHeat (X := X) (S := S) (f := F2) (g := g) (t := b) (sl := e)
      rw [← mj_boT c1] at hJ2
      have kp := md_keeps (X := X) (S := S) (f := F2) hgm hg4
      have e18 : mc_fl F2 20 0 (F2 18 0) 627 18 0 = D := by rw [mc_fl_e (by decide)]; exact M1.1
      have e20 : ∀ i, i < 627 → mc_fl F2 20 0 (F2 18 0) 627 20 0 i = D i := fun i hi => by rw [mc_fl_j hi, M1.1]
      have eK : ∀ k i j, k ≠ 20 → mc_fl F2 20 0 (F2 18 0) 627 k i j = F2 k i j := fun k i j hk => by rw [mc_fl_o (by omega)]
      generalize mc_fl F2 20 0 (F2 18 0) 627 = R at kp e18 e20 eK
      obtain ⟨R2, b1, b2, b3⟩ := md_bestl (X := X) (S := S) (b := b) (e := e) hgm hg4 hg5 hS.2.1 hm5 hp ep2 n 0 (-1000002) (-1) R none (Nat.zero_add n) e18 e20
      have M2 : mr_m R2 D z Ds L t w := by
        obtain ⟨m1, m2, m3, m4, m5, m6⟩ := M1
        exact ⟨b2, by rw [b3 _ _ _ (by omega), eK _ _ _ (by omega)]; exact m2, fun k hk j hj => by rw [b3 _ _ _ (by omega), eK _ _ _ (by omega)]; exact m3 k hk j hj, by rw [b3 _ _ _ (by omega), eK _ _ _ (by omega)]; exact m4, by rw [← m5]; exact funext (fun j => by rw [b3 _ _ _ (by omega), eK _ _ _ (by omega)]), by rw [b3 _ _ _ (by omega), eK _ _ _ (by omega)]; exact m6⟩
      refine mr_same (v := sp_bs D s n (nI m) (nI p) n 0 (-1000002) (-1)) ?_ C1 ?_ (fun k i j hn => by rw [b3 _ _ _ (by omega), eK _ _ _ (by omega)]) M2
      · rw [← l1]
        simp (disch := omega) only [mj_x78, mj_g78_0, mj_g78_1, mj_g78_2, mj_g78_3, mj_g78_4, mj_g78_5, mj_g78_6, mj_g78_9, mj_g78_10, mj_g78_11, mj_g78_12, mj_g78_13, mj_g78_14, mj_g78_15, mj_g78_16, mj_g78_17, mj_g78_18, ↓reduceIte, Option.bind_some, Option.toList_some, Option.toList_none, List.cons_append, List.nil_append, mj_ixn, mj_add, mj_mul, mj_sub, mj_dv, mj_rmn, mj_ltT, mj_ltF, mj_leT, mj_leF, mj_eqT, mj_eqF, mj_z0T, mj_z0F, mj_bo0, mj_boc, mj_chk10, mj_chk11, and_self, not_true, not_false_eq_true, hI, hA, hg.1.1, hg.2.1.1]
      · rw [← b1]
        simp (disch := omega) only [mj_x136, mj_g136_0, mj_g136_1, mj_g136_2, mj_g136_3, mj_g136_4, mj_g136_5, mj_g136_6, mj_g136_7, mj_g136_8, mj_g136_11, mj_g136_12, mj_g136_13, mj_g136_14, mj_g136_15, mj_g136_16, mj_g136_17, mj_g136_18, ↓reduceIte, Option.bind_some, Option.toList_some, Option.toList_none, List.cons_append, List.nil_append, mj_ixn, mj_add, mj_mul, mj_sub, mj_dv, mj_rmn, mj_ltT, mj_ltF, mj_leT, mj_leF, mj_eqT, mj_eqF, mj_z0T, mj_z0F, mj_bo0, mj_boc, mj_chk10, mj_chk11, and_self, not_true, not_false_eq_true, mc_in, hJ2, kp]
    · rw [← mj_boF c1] at hI hJ
      refine mr_same (v := (-1000001)) (F := f) (F2 := f) ?_ hc0 ?_ mr_fm_r hm
      · simp (disch := omega) only [mj_x78, mj_g78_0, mj_g78_1, mj_g78_2, mj_g78_3, mj_g78_4, mj_g78_5, mj_g78_6, mj_g78_7, mj_g78_8, ↓reduceIte, Option.bind_some, Option.toList_some, Option.toList_none, List.cons_append, List.nil_append, mj_ixn, mj_add, mj_mul, mj_sub, mj_dv, mj_rmn, mj_ltT, mj_ltF, mj_leT, mj_leF, mj_eqT, mj_eqF, mj_z0T, mj_z0F, mj_bo0, mj_boc, mj_chk10, mj_chk11, and_self, not_true, not_false_eq_true, hI, hA]
      · simp (disch := omega) only [mj_x136, mj_g136_0, mj_g136_1, mj_g136_2, mj_g136_3, mj_g136_4, mj_g136_5, mj_g136_6, mj_g136_7, mj_g136_8, mj_g136_9, mj_g136_10, ↓reduceIte, Option.bind_some, Option.toList_some, Option.toList_none, List.cons_append, List.nil_append, mj_ixn, mj_add, mj_mul, mj_sub, mj_dv, mj_rmn, mj_ltT, mj_ltF, mj_leT, mj_leF, mj_eqT, mj_eqF, mj_z0T, mj_z0F, mj_bo0, mj_boc, mj_chk10, mj_chk11, and_self, not_true, not_false_eq_true, mc_in, hJ, eq_true c2]
  · rw [← mj_boF c2] at hA
    refine mr_same (v := (-1000001)) (F := f) (F2 := f) ?_ hc0 ?_ mr_fm_r hm
    · simp (disch := omega) only [mj_x78, mj_g78_0, mj_g78_1, mj_g78_2, mj_g78_3, mj_g78_4, mj_g78_5, mj_g78_6, mj_g78_7, mj_g78_8, ↓reduceIte, Option.bind_some, Option.toList_some, Option.toList_none, List.cons_append, List.nil_append, mj_ixn, mj_add, mj_mul, mj_sub, mj_dv, mj_rmn, mj_ltT, mj_ltF, mj_leT, mj_leF, mj_eqT, mj_eqF, mj_z0T, mj_z0F, mj_bo0, mj_boc, mj_chk10, mj_chk11, and_self, not_true, not_false_eq_true, hA]
    · simp (disch := omega) only [mj_x136, mj_g136_0, mj_g136_1, mj_g136_2, mj_g136_3, mj_g136_4, mj_g136_5, mj_g136_6, mj_g136_7, mj_g136_8, mj_g136_9, mj_g136_10, ↓reduceIte, Option.bind_some, Option.toList_some, Option.toList_none, List.cons_append, List.nil_append, mj_ixn, mj_add, mj_mul, mj_sub, mj_dv, mj_rmn, mj_ltT, mj_ltF, mj_leT, mj_leF, mj_eqT, mj_eqF, mj_z0T, mj_z0F, mj_bo0, mj_boc, mj_chk10, mj_chk11, and_self, not_true, not_false_eq_true, mc_in, eq_false c2]
end O6
