/-! the reference: neighbours, peaks, settings -/
def md_is (s j y : Nat) : Bool := decide ((y / s = j / s ∧ (y % s = (j % s + 1) % s ∨ j % s = (y % s + 1) % s)) ∨ (y % s = j % s ∧ (y / s = j / s + 1 ∨ y / s + 1 = j / s)))
/-- the x-th one from b on, among so many -/
def md_kt (p : Nat → Bool) : Nat → Nat → Nat → Option Nat
  | _, _, 0 => none
  | x, b, n + 1 => if p b = true then (if x = 0 then some b else md_kt p (x - 1) (b + 1) n) else md_kt p x (b + 1) n
theorem md_kt_s (p : Nat → Bool) (x b n : Nat) : md_kt p x b (n + 1) = if p b = true then (if x = 0 then some b else md_kt p (x - 1) (b + 1) n) else md_kt p x (b + 1) n := rfl
def md_fl (p : Nat → Bool) : Nat → Nat → List Nat
  | _, 0 => []
  | b, n + 1 => if p b = true then b :: md_fl p (b + 1) n else md_fl p (b + 1) n
theorem md_kt_l (p : Nat → Bool) : ∀ n x b, md_kt p x b n = (md_fl p b n)[x]? := by
  intro n
  induction n with
  | zero => intro x b; rfl
  | succ n ih =>
    intro x b
    unfold md_kt md_fl
    by_cases c1 : p b = true
    · rw [if_pos c1, if_pos c1]
      cases x with
      | zero => rfl
      | succ x => rw [if_neg (by omega), List.getElem?_cons_succ, Nat.add_sub_cancel]; exact ih x (b + 1)
    · rw [if_neg c1, if_neg c1]
      exact ih x (b + 1)
def md_nl (s n j : Nat) : List Nat := (if j < s then [] else [j - s]) ++ [min (mc_pb s j) (mc_pf s j), max (mc_pb s j) (mc_pf s j)] ++ (if n ≤ j + s then [] else [j + s])
theorem md_nl_chk : ∀ r, r < 7 → ∀ s, s < 11 → 3 ≤ s → ∀ j, j < r * s → md_fl (md_is s j) 0 (r * s) = md_nl s (r * s) j := by decide +kernel
theorem md_nl_get {s n j x : Nat} : (md_nl s n j)[x]? = if x < mc_nn s n j then some (mc_na s j x) else none := by
  unfold md_nl mc_nn mc_na
  by_cases c1 : j < s <;> by_cases c2 : n ≤ j + s <;> simp only [c1, c2, ↓reduceIte, List.nil_append, List.cons_append, List.append_nil] <;> rcases x with _ | _ | _ | _ | x <;> simp
def md_nb (s n j x : Nat) : Int32 := if x < mc_nn s n j then nI (mc_na s j x) else (-1)
def md_gd (t : Nat → Int32) (j o : Nat) : Bool := decide (t o < t j ∨ (t o = t j ∧ j < o))
def md_pk (t : Nat → Int32) (h : Int32) (s n j : Nat) : Bool := decide (¬ t j < h) && (mc_fi (fun x => ! md_gd t j (mc_na s j x)) 0 (mc_nn s n j)).isNone
theorem mj_em {a b : Nat} (h : b = 0) (ha : a < 2147483648) : (nI a = nI b - nI 1) = False := by
  subst h
  refine eq_false (fun q_ => ?_)
  have h1 := (mj_ge0 ha).mpr trivial
  rw [q_] at h1
  exact absurd h1 (by decide)
theorem mj_boB {P : Prop} [Decidable P] : mj_bo (decide P = true) = mj_bo P := by
  unfold mj_bo
  by_cases c1 : P
  · rw [if_pos c1, if_pos (decide_eq_true c1)]
  · rw [if_neg c1, if_neg (fun q_ => c1 (of_decide_eq_true q_))]
section MN
variable {X : mj_X} {S : List (Nat × Nat)} {f : mj_F} {g : mj_G} {m r s n j b x k : Nat} {l2 l5 l7 l8 l9 l6 : Option mj_V} {v w its : Int32}
theorem md_bs_u {A B C D : Nat} {l1 : Option mj_V} (hg : g 6 m 0 = some (18, m)) (h2 : f 18 m 1 = nI s) (hs : 3 ≤ s) (hs2 : s ≤ 10) (hA : A < 100) (hB : B < s) (hC : C < 100) (hD : D < s) [Decidable ((C = A ∧ (D = (B + 1) % s ∨ B = (D + 1) % s)) ∨ (D = B ∧ (C = A + 1 ∨ C + 1 = A)))] : mj_g X 97 36 [some (.inr (6, m)), l1, l2, some (.inl (nI A)), some (.inl (nI B)), l5, l6, some (.inl (nI C)), some (.inl (nI D)), l9] [] (S, f, g) = mj_g X 97 75 [some (.inr (6, m)), l1, l2, some (.inl (nI A)), some (.inl (nI B)), l5, l6, some (.inl (nI C)), some (.inl (nI D)), l9] [.inl (mj_bo ((C = A ∧ (D = (B + 1) % s ∨ B = (D + 1) % s)) ∨ (D = B ∧ (C = A + 1 ∨ C + 1 = A))))] (S, f, g) := by
  have m1 := Nat.mod_lt (B + 1) (show 0 < s by omega)
  have m2 := Nat.mod_lt (D + 1) (show 0 < s by omega)
  have g59 : mj_g X 97 59 [some (.inr (6, m)), l1, l2, some (.inl (nI A)), some (.inl (nI B)), l5, l6, some (.inl (nI C)), some (.inl (nI D)), l9] [] (S, f, g) = mj_g X 97 75 [some (.inr (6, m)), l1, l2, some (.inl (nI A)), some (.inl (nI B)), l5, l6, some (.inl (nI C)), some (.inl (nI D)), l9] [.inl (mj_bo (D = B ∧ (C = A + 1 ∨ C + 1 = A)))] (S, f, g) := by
    by_cases c4 : D = B
    · by_cases c5 : C = A + 1
      · rw [← mj_boT (P := D = B ∧ (C = A + 1 ∨ C + 1 = A)) ⟨c4, Or.inl c5⟩]
        simp (disch := omega) only [mj_g97_59, mj_g97_60, mj_g97_61, mj_g97_62, mj_g97_63, mj_g97_64, mj_g97_65, mj_g97_66, mj_g97_72, mj_g97_73, ↓reduceIte, mj_add, mj_eqT, mj_eqF]
      · have g67 : mj_g X 97 59 [some (.inr (6, m)), l1, l2, some (.inl (nI A)), some (.inl (nI B)), l5, l6, some (.inl (nI C)), some (.inl (nI D)), l9] [] (S, f, g) = mj_g X 97 67 [some (.inr (6, m)), l1, l2, some (.inl (nI A)), some (.inl (nI B)), l5, l6, some (.inl (nI C)), some (.inl (nI D)), l9] [] (S, f, g) := by
          simp (disch := omega) only [mj_g97_59, mj_g97_60, mj_g97_61, mj_g97_62, mj_g97_63, mj_g97_64, mj_g97_65, mj_g97_66, ↓reduceIte, mj_add, mj_eqT, mj_eqF]
        rw [g67]
        by_cases c6 : C + 1 = A
        · rw [← mj_boT (P := D = B ∧ (C = A + 1 ∨ C + 1 = A)) ⟨c4, Or.inr c6⟩]
          have e1 : nI C = nI A - nI 1 := by rw [mj_sub (by omega)]; exact congrArg nI (by omega)
          simp (disch := omega) only [mj_g97_67, mj_g97_68, mj_g97_69, mj_g97_70, mj_g97_71, mj_g97_72, mj_g97_73, ↓reduceIte, ← e1]
        · rw [← mj_boF (P := D = B ∧ (C = A + 1 ∨ C + 1 = A)) (by omega)]
          have e1 : ¬ nI C = nI A - nI 1 := by
            by_cases c7 : A = 0
            · rw [mj_em c7 (by omega)]; exact id
            · rw [mj_sub (by omega), mj_eqF (by omega) (by omega) (by omega)]; exact id
          simp (disch := omega) only [mj_g97_67, mj_g97_68, mj_g97_69, mj_g97_70, mj_g97_71, mj_g97_74, ↓reduceIte, e1]
    · rw [← mj_boF (P := D = B ∧ (C = A + 1 ∨ C + 1 = A)) (fun q_ => c4 q_.1)]
      simp (disch := omega) only [mj_g97_59, mj_g97_60, mj_g97_61, mj_g97_74, ↓reduceIte, mj_eqT, mj_eqF]
  by_cases c1 : C = A
  · by_cases c2 : D = (B + 1) % s
    · rw [← mj_boT (P := (C = A ∧ (D = (B + 1) % s ∨ B = (D + 1) % s)) ∨ (D = B ∧ (C = A + 1 ∨ C + 1 = A))) (Or.inl ⟨c1, Or.inl c2⟩)]
      simp (disch := omega) only [mj_g97_36, mj_g97_37, mj_g97_38, mj_g97_39, mj_g97_40, mj_g97_41, mj_g97_42, mj_g97_43, mj_g97_44, mj_g97_45, mj_g97_46, mj_g97_47, mj_g97_48, mj_g97_72, mj_g97_73, ↓reduceIte, Option.bind_some, mj_ixn, mj_add, mj_rmn, mj_eqT, mj_eqF, mj_z0F, hg, h2]
    · have g49 : mj_g X 97 36 [some (.inr (6, m)), l1, l2, some (.inl (nI A)), some (.inl (nI B)), l5, l6, some (.inl (nI C)), some (.inl (nI D)), l9] [] (S, f, g) = mj_g X 97 49 [some (.inr (6, m)), l1, l2, some (.inl (nI A)), some (.inl (nI B)), l5, l6, some (.inl (nI C)), some (.inl (nI D)), l9] [] (S, f, g) := by
        simp (disch := omega) only [mj_g97_36, mj_g97_37, mj_g97_38, mj_g97_39, mj_g97_40, mj_g97_41, mj_g97_42, mj_g97_43, mj_g97_44, mj_g97_45, mj_g97_46, mj_g97_47, mj_g97_48, ↓reduceIte, Option.bind_some, mj_ixn, mj_add, mj_rmn, mj_eqT, mj_eqF, mj_z0F, hg, h2]
      rw [g49]
      by_cases c3 : B = (D + 1) % s
      · rw [← mj_boT (P := (C = A ∧ (D = (B + 1) % s ∨ B = (D + 1) % s)) ∨ (D = B ∧ (C = A + 1 ∨ C + 1 = A))) (Or.inl ⟨c1, Or.inr c3⟩)]
        simp (disch := omega) only [mj_g97_49, mj_g97_50, mj_g97_51, mj_g97_52, mj_g97_53, mj_g97_54, mj_g97_55, mj_g97_56, mj_g97_57, mj_g97_58, mj_g97_72, mj_g97_73, ↓reduceIte, Option.bind_some, mj_ixn, mj_add, mj_rmn, mj_eqT, mj_eqF, mj_z0F, hg, h2]
      · have g58 : mj_g X 97 49 [some (.inr (6, m)), l1, l2, some (.inl (nI A)), some (.inl (nI B)), l5, l6, some (.inl (nI C)), some (.inl (nI D)), l9] [] (S, f, g) = mj_g X 97 59 [some (.inr (6, m)), l1, l2, some (.inl (nI A)), some (.inl (nI B)), l5, l6, some (.inl (nI C)), some (.inl (nI D)), l9] [] (S, f, g) := by
          simp (disch := omega) only [mj_g97_49, mj_g97_50, mj_g97_51, mj_g97_52, mj_g97_53, mj_g97_54, mj_g97_55, mj_g97_56, mj_g97_57, mj_g97_58, ↓reduceIte, Option.bind_some, mj_ixn, mj_add, mj_rmn, mj_eqT, mj_eqF, mj_z0F, hg, h2]
        rw [g58, g59, mj_boi (P := D = B ∧ (C = A + 1 ∨ C + 1 = A)) (Q := (C = A ∧ (D = (B + 1) % s ∨ B = (D + 1) % s)) ∨ (D = B ∧ (C = A + 1 ∨ C + 1 = A))) ⟨fun h => Or.inr h, fun h => h.elim (fun y_ => y_.2.elim (fun z_ => absurd z_ c2) (fun z_ => absurd z_ c3)) id⟩]
  · have g58 : mj_g X 97 36 [some (.inr (6, m)), l1, l2, some (.inl (nI A)), some (.inl (nI B)), l5, l6, some (.inl (nI C)), some (.inl (nI D)), l9] [] (S, f, g) = mj_g X 97 59 [some (.inr (6, m)), l1, l2, some (.inl (nI A)), some (.inl (nI B)), l5, l6, some (.inl (nI C)), some (.inl (nI D)), l9] [] (S, f, g) := by
      simp (disch := omega) only [mj_g97_36, mj_g97_37, mj_g97_38, ↓reduceIte, mj_eqT, mj_eqF]
    rw [g58, g59, mj_boi (P := D = B ∧ (C = A + 1 ∨ C + 1 = A)) (Q := (C = A ∧ (D = (B + 1) % s ∨ B = (D + 1) % s)) ∨ (D = B ∧ (C = A + 1 ∨ C + 1 = A))) ⟨fun h => Or.inr h, fun h => h.elim (fun y_ => absurd y_.1 c1) id⟩]
theorem md_bs_t (hg : g 6 m 0 = some (18, m)) (hO : md_O f m r s n) (hj : j < n) (hb : b < n) : mj_g X 97 22 [some (.inr (6, m)), some (.inl (nI j)), l2, some (.inl (nI (j / s))), some (.inl (nI (j % s))), l5, some (.inl (nI b)), l7, l8, l9] [] (S, f, g) = mj_g X 97 75 [some (.inr (6, m)), some (.inl (nI j)), l2, some (.inl (nI (j / s))), some (.inl (nI (j % s))), l5, some (.inl (nI b)), some (.inl (nI (b / s))), some (.inl (nI (b % s))), l9] [.inl (mj_bo (md_is s j b = true))] (S, f, g) := by
  obtain ⟨h1, h2, hG⟩ := hO
  have h60 := hG.n60
  obtain ⟨q1, q2, q3, q4⟩ := hG.q hj
  obtain ⟨p1, p2, p3, p4⟩ := hG.q hb
  obtain ⟨b1, b2, b3, b4, b5⟩ := hG
  have e0 : mj_bo (md_is s j b = true) = mj_bo ((b / s = j / s ∧ (b % s = (j % s + 1) % s ∨ j % s = (b % s + 1) % s)) ∨ (b % s = j % s ∧ (b / s = j / s + 1 ∨ b / s + 1 = j / s))) := mj_boB
  rw [e0, ← md_bs_u (X := X) (S := S) (l1 := some (.inl (nI j))) (l2 := l2) (l5 := l5) (l6 := some (.inl (nI b))) (l9 := l9) hg h2 b3 b4 (show j / s < 100 by omega) q3 (show b / s < 100 by omega) p3]
  simp (disch := omega) only [mj_g97_22, mj_g97_23, mj_g97_24, mj_g97_25, mj_g97_26, mj_g97_27, mj_g97_28, mj_g97_29, mj_g97_30, mj_g97_31, mj_g97_32, mj_g97_33, mj_g97_34, mj_g97_35, ↓reduceIte, Option.bind_some, mj_ixn, mj_dv, mj_rmn, mj_z0F, hg, h2]
theorem md_bsl (hg : g 6 m 0 = some (18, m)) (hO : md_O f m r s n) (hj : j < n) : ∀ (q b x : Nat) (l7 l8 l9 : Option mj_V), b + q = n → x < 2147483648 → mj_g X 97 18 [some (.inr (6, m)), some (.inl (nI j)), l2, some (.inl (nI (j / s))), some (.inl (nI (j % s))), some (.inl (nI x)), some (.inl (nI b)), l7, l8, l9] [] (S, f, g) = some (some (.inl (match md_kt (md_is s j) x b q with
    | some y => nI y
    | none => (-1))), (S, f, g)) := by
  have h60 := hO.2.2.n60
  intro q
  induction q with
  | zero =>
    intro b x l7 l8 l9 hb hx
    refine Eq.trans mj_g97_18 ?_
    simp (disch := omega) only [mj_g97_19, mj_g97_20, mj_g97_21, mj_g97_92, mj_g97_93, ↓reduceIte, Option.bind_some, Option.toList_some, Option.toList_none, List.cons_append, List.nil_append, mj_ixn, mj_add, mj_mul, mj_sub, mj_dv, mj_rmn, mj_ltT, mj_ltF, mj_leT, mj_leF, mj_eqT, mj_eqF, mj_z0T, mj_z0F, mj_bo0, mj_boc, mj_chk10, mj_chk11, md_spots hg hO]
    rfl
  | succ q ih =>
    intro b x l7 l8 l9 hb hx
    have h22 := md_bs_t (X := X) (S := S) (l2 := l2) (l5 := some (.inl (nI x))) (l7 := l7) (l8 := l8) (l9 := l9) hg hO hj (show b < n by omega)
    refine Eq.trans mj_g97_18 ?_
    simp (disch := omega) only [mj_g97_19, mj_g97_20, mj_g97_21, ↓reduceIte, Option.bind_some, Option.toList_some, Option.toList_none, List.cons_append, List.nil_append, mj_ixn, mj_add, mj_mul, mj_sub, mj_dv, mj_rmn, mj_ltT, mj_ltF, mj_leT, mj_leF, mj_eqT, mj_eqF, mj_z0T, mj_z0F, mj_bo0, mj_boc, mj_chk10, mj_chk11, md_spots hg hO, h22]
    rw [md_kt_s]
    by_cases c1 : md_is s j b = true
    · rw [if_pos c1, ← mj_boT (P := md_is s j b = true) c1]
      by_cases c2 : x = 0
      · rw [if_pos c2]
        simp (disch := omega) only [mj_g97_75, mj_g97_76, mj_g97_77, mj_g97_78, mj_g97_79, mj_g97_80, mj_g97_81, ↓reduceIte, Option.bind_some, Option.toList_some, Option.toList_none, List.cons_append, List.nil_append, mj_ixn, mj_add, mj_mul, mj_sub, mj_dv, mj_rmn, mj_ltT, mj_ltF, mj_leT, mj_leF, mj_eqT, mj_eqF, mj_z0T, mj_z0F, mj_bo0, mj_boc, mj_chk10, mj_chk11]
      · rw [if_neg c2]
        have ih2 := ih (b + 1) (x - 1) (some (.inl (nI (b / s)))) (some (.inl (nI (b % s)))) (some (.inl (nI 1))) (by omega) (by omega)
        simp (disch := omega) only [mj_g97_75, mj_g97_76, mj_g97_77, mj_g97_78, mj_g97_79, mj_g97_80, mj_g97_81, mj_g97_82, mj_g97_83, mj_g97_84, mj_g97_85, mj_g97_86, mj_g97_87, mj_g97_88, mj_g97_89, mj_g97_90, mj_g97_91, ↓reduceIte, Option.bind_some, Option.toList_some, Option.toList_none, List.cons_append, List.nil_append, mj_ixn, mj_add, mj_mul, mj_sub, mj_dv, mj_rmn, mj_ltT, mj_ltF, mj_leT, mj_leF, mj_eqT, mj_eqF, mj_z0T, mj_z0F, mj_bo0, mj_boc, mj_chk10, mj_chk11, ih2]
    · rw [if_neg c1, ← mj_boF (P := md_is s j b = true) c1]
      have ih2 := ih (b + 1) x (some (.inl (nI (b / s)))) (some (.inl (nI (b % s)))) (some (.inl (nI 0))) (by omega) (by omega)
      simp (disch := omega) only [mj_g97_75, mj_g97_76, mj_g97_77, mj_g97_78, mj_g97_79, mj_g97_80, mj_g97_81, mj_g97_82, mj_g97_83, mj_g97_84, mj_g97_85, mj_g97_86, mj_g97_87, mj_g97_88, mj_g97_89, mj_g97_90, mj_g97_91, ↓reduceIte, Option.bind_some, Option.toList_some, Option.toList_none, List.cons_append, List.nil_append, mj_ixn, mj_add, mj_mul, mj_sub, mj_dv, mj_rmn, mj_ltT, mj_ltF, mj_leT, mj_leF, mj_eqT, mj_eqF, mj_z0T, mj_z0F, mj_bo0, mj_boc, mj_chk10, mj_chk11, Nat.sub_zero, ih2]
theorem md_beside (hg : g 6 m 0 = some (18, m)) (hO : md_O f m r s n) (hj : j < n) (hx : x < 2147483648) : mj_x X 97 [.inr (6, m), .inl (nI j), .inl (nI x)] (S, f, g) = some (some (.inl (md_nb s n j x)), (S, f, g)) := by
  have h60 := hO.2.2.n60
  have z1 := md_bsl (X := X) (S := S) (l2 := some (.inl (nI x))) hg hO hj n 0 x none none none (Nat.zero_add n) hx
  have hG := hO.2.2
  have hn := hG.2.2.2.2
  have k1 := md_nl_chk r (by have := hG.2.1; omega) s (by have := hG.2.2.2.1; omega) hG.2.2.1 j (by omega)
  rw [md_kt_l, hn, k1, md_nl_get, ← hn] at z1
  have e1 : md_nb s n j x = (match (if x < mc_nn s n j then some (mc_na s j x) else none) with
    | some y => nI y
    | none => (-1)) := by
    unfold md_nb
    by_cases c1 : x < mc_nn s n j
    · rw [if_pos c1, if_pos c1]
    · rw [if_neg c1, if_neg c1]
  rw [e1, ← z1]
  have h2 := hO.2.1
  obtain ⟨b1, b2, b3, b4, b5⟩ := hG
  simp (disch := omega) only [mj_x97, mj_g97_0, mj_g97_1, mj_g97_2, mj_g97_3, mj_g97_4, mj_g97_5, mj_g97_6, mj_g97_7, mj_g97_8, mj_g97_9, mj_g97_10, mj_g97_11, mj_g97_12, mj_g97_13, mj_g97_14, mj_g97_15, mj_g97_16, mj_g97_17, ↓reduceIte, Option.bind_some, Option.toList_some, Option.toList_none, List.cons_append, List.nil_append, mj_ixn, mj_add, mj_mul, mj_sub, mj_dv, mj_rmn, mj_ltT, mj_ltF, mj_leT, mj_leF, mj_eqT, mj_eqF, mj_z0T, mj_z0F, mj_bo0, mj_boc, mj_chk10, mj_chk11, hg, h2]
theorem md_pk0 (hg : g 6 m 0 = some (18, m)) (hO : md_O f m r s n) (hj : j < n) (hb : b ≤ 4) {l1 l4 l7 : Option mj_V} : mj_g X 125 18 [some (.inr (6, m)), l1, some (.inl (nI j)), some (.inl (nI 0)), l4, some (.inl (nI b)), l6, l7] [] (S, f, g) = some (some (.inl (nI 0)), (S, f, g)) := by
  have h4 := mc_nn_le (s := s) (n := n) (j := j)
  by_cases c1 : mc_nn s n j ≤ b
  · simp (disch := omega) only [mj_g125_18, mj_g125_19, mj_g125_20, mj_g125_21, mj_g125_22, mj_g125_56, mj_g125_57, ↓reduceIte, Option.bind_some, Option.toList_some, Option.toList_none, List.cons_append, List.nil_append, mj_ixn, mj_add, mj_mul, mj_sub, mj_dv, mj_rmn, mj_ltT, mj_ltF, mj_leT, mj_leF, mj_eqT, mj_eqF, mj_z0T, mj_z0F, mj_bo0, mj_boc, mj_chk10, mj_chk11, md_besides hg hO hj]
  · simp (disch := omega) only [mj_g125_18, mj_g125_19, mj_g125_20, mj_g125_21, mj_g125_22, mj_g125_23, mj_g125_24, mj_g125_56, mj_g125_57, ↓reduceIte, Option.bind_some, Option.toList_some, Option.toList_none, List.cons_append, List.nil_append, mj_ixn, mj_add, mj_mul, mj_sub, mj_dv, mj_rmn, mj_ltT, mj_ltF, mj_leT, mj_leF, mj_eqT, mj_eqF, mj_z0T, mj_z0F, mj_bo0, mj_boc, mj_chk10, mj_chk11, md_besides hg hO hj]
theorem md_pkl (hg : g 6 m 0 = some (18, m)) (hO : md_O f m r s n) (hj : j < n) (hk : k < 4) : ∀ (q b : Nat) (l6 l7 : Option mj_V), b + q = mc_nn s n j → mj_g X 125 18 [some (.inr (6, m)), some (.inl (nI k)), some (.inl (nI j)), some (.inl (nI 1)), some (.inl (f 18 m (147 + 60 * k + j))), some (.inl (nI b)), l6, l7] [] (S, f, g) = some (some (.inl (mj_bo ((mc_fi (fun x => ! md_gd (fun i => f 18 m (147 + 60 * k + i)) j (mc_na s j x)) b q).isNone = true))), (S, f, g)) := by
  have h60 := hO.2.2.n60
  have h4 := mc_nn_le (s := s) (n := n) (j := j)
  intro q
  induction q with
  | zero =>
    intro b l6 l7 hb
    refine Eq.trans mj_g125_18 ?_
    simp (disch := omega) only [mj_g125_19, mj_g125_20, mj_g125_21, mj_g125_22, mj_g125_56, mj_g125_57, ↓reduceIte, Option.bind_some, Option.toList_some, Option.toList_none, List.cons_append, List.nil_append, mj_ixn, mj_add, mj_mul, mj_sub, mj_dv, mj_rmn, mj_ltT, mj_ltF, mj_leT, mj_leF, mj_eqT, mj_eqF, mj_z0T, mj_z0F, mj_bo0, mj_boc, mj_chk10, mj_chk11, md_besides hg hO hj]
    rfl
  | succ q ih =>
    intro b l6 l7 hb
    have hx := hO.2.2.na hj (x := b) (by omega)
    have nb : md_nb s n j b = nI (mc_na s j b) := by unfold md_nb; rw [if_pos (by omega)]
    have sb := md_beside (X := X) (S := S) (x := b) hg hO hj (by omega)
    rw [nb] at sb
    have ih2 := ih (b + 1) (some (.inl (nI (mc_na s j b)))) (some (.inl (f 18 m (147 + 60 * k + mc_na s j b)))) (by omega)
    have z0 := md_pk0 (X := X) (S := S) (b := b + 1) (l1 := some (.inl (nI k))) (l4 := some (.inl (f 18 m (147 + 60 * k + j)))) (l6 := some (.inl (nI (mc_na s j b)))) (l7 := some (.inl (f 18 m (147 + 60 * k + mc_na s j b)))) hg hO hj (by omega)
    refine Eq.trans mj_g125_18 ?_
    rw [mc_fi_s]
    by_cases c1 : f 18 m (147 + 60 * k + mc_na s j b) < f 18 m (147 + 60 * k + j)
    · have z1 : md_gd (fun i => f 18 m (147 + 60 * k + i)) j (mc_na s j b) = true := decide_eq_true (Or.inl c1)
      rw [z1]
      simp (disch := omega) only [mj_g125_19, mj_g125_20, mj_g125_21, mj_g125_22, mj_g125_23, mj_g125_24, mj_g125_25, mj_g125_26, mj_g125_27, mj_g125_28, mj_g125_29, mj_g125_30, mj_g125_31, mj_g125_32, mj_g125_33, mj_g125_34, mj_g125_35, mj_g125_36, mj_g125_37, mj_g125_38, mj_g125_39, mj_g125_40, mj_g125_41, mj_g125_42, mj_g125_43, mj_g125_44, mj_g125_45, mj_g125_46, mj_g125_47, mj_g125_48, mj_g125_49, mj_g125_50, mj_g125_51, mj_g125_52, mj_g125_53, mj_g125_54, mj_g125_55, ↓reduceIte, Option.bind_some, Option.toList_some, Option.toList_none, List.cons_append, List.nil_append, mj_ixn, mj_add, mj_mul, mj_sub, mj_dv, mj_rmn, mj_ltT, mj_ltF, mj_leT, mj_leF, mj_eqT, mj_eqF, mj_z0T, mj_z0F, mj_bo0, mj_boc, mj_chk10, mj_chk11, md_besides hg hO hj, sb, hg, c1, ih2, Bool.not_true, Bool.false_eq_true]
    · by_cases c2 : f 18 m (147 + 60 * k + mc_na s j b) = f 18 m (147 + 60 * k + j)
      · by_cases c3 : j < mc_na s j b
        · have z1 : md_gd (fun i => f 18 m (147 + 60 * k + i)) j (mc_na s j b) = true := decide_eq_true (Or.inr ⟨c2, c3⟩)
          rw [z1]
          rw [c2] at ih2 c1
          simp (disch := omega) only [mj_g125_19, mj_g125_20, mj_g125_21, mj_g125_22, mj_g125_23, mj_g125_24, mj_g125_25, mj_g125_26, mj_g125_27, mj_g125_28, mj_g125_29, mj_g125_30, mj_g125_31, mj_g125_32, mj_g125_33, mj_g125_34, mj_g125_35, mj_g125_36, mj_g125_37, mj_g125_38, mj_g125_39, mj_g125_40, mj_g125_41, mj_g125_42, mj_g125_43, mj_g125_44, mj_g125_45, mj_g125_46, mj_g125_47, mj_g125_48, mj_g125_49, mj_g125_50, mj_g125_51, mj_g125_52, mj_g125_53, mj_g125_54, mj_g125_55, ↓reduceIte, Option.bind_some, Option.toList_some, Option.toList_none, List.cons_append, List.nil_append, mj_ixn, mj_add, mj_mul, mj_sub, mj_dv, mj_rmn, mj_ltT, mj_ltF, mj_leT, mj_leF, mj_eqT, mj_eqF, mj_z0T, mj_z0F, mj_bo0, mj_boc, mj_chk10, mj_chk11, md_besides hg hO hj, sb, hg, c1, c2, ih2, Bool.not_true, Bool.false_eq_true]
        · have z1 : md_gd (fun i => f 18 m (147 + 60 * k + i)) j (mc_na s j b) = false := decide_eq_false (fun q_ => q_.elim c1 (fun y_ => c3 y_.2))
          rw [z1]
          rw [c2] at z0 c1
          simp (disch := omega) only [mj_g125_19, mj_g125_20, mj_g125_21, mj_g125_22, mj_g125_23, mj_g125_24, mj_g125_25, mj_g125_26, mj_g125_27, mj_g125_28, mj_g125_29, mj_g125_30, mj_g125_31, mj_g125_32, mj_g125_33, mj_g125_34, mj_g125_35, mj_g125_36, mj_g125_37, mj_g125_38, mj_g125_39, mj_g125_40, mj_g125_41, mj_g125_42, mj_g125_43, mj_g125_44, mj_g125_45, mj_g125_46, mj_g125_47, mj_g125_48, mj_g125_49, mj_g125_50, mj_g125_51, mj_g125_52, mj_g125_53, mj_g125_54, mj_g125_55, ↓reduceIte, Option.bind_some, Option.toList_some, Option.toList_none, List.cons_append, List.nil_append, mj_ixn, mj_add, mj_mul, mj_sub, mj_dv, mj_rmn, mj_ltT, mj_ltF, mj_leT, mj_leF, mj_eqT, mj_eqF, mj_z0T, mj_z0F, mj_bo0, mj_boc, mj_chk10, mj_chk11, md_besides hg hO hj, sb, hg, c1, c2, z0, Bool.not_false]
          rfl
      · have z1 : md_gd (fun i => f 18 m (147 + 60 * k + i)) j (mc_na s j b) = false := decide_eq_false (fun q_ => q_.elim c1 (fun y_ => c2 y_.1))
        rw [z1]
        simp (disch := omega) only [mj_g125_19, mj_g125_20, mj_g125_21, mj_g125_22, mj_g125_23, mj_g125_24, mj_g125_25, mj_g125_26, mj_g125_27, mj_g125_28, mj_g125_29, mj_g125_30, mj_g125_31, mj_g125_32, mj_g125_33, mj_g125_34, mj_g125_35, mj_g125_36, mj_g125_37, mj_g125_38, mj_g125_39, mj_g125_40, mj_g125_41, mj_g125_42, mj_g125_43, mj_g125_44, mj_g125_45, mj_g125_46, mj_g125_47, mj_g125_48, mj_g125_49, mj_g125_50, mj_g125_51, mj_g125_52, mj_g125_53, mj_g125_54, mj_g125_55, ↓reduceIte, Option.bind_some, Option.toList_some, Option.toList_none, List.cons_append, List.nil_append, mj_ixn, mj_add, mj_mul, mj_sub, mj_dv, mj_rmn, mj_ltT, mj_ltF, mj_leT, mj_leF, mj_eqT, mj_eqF, mj_z0T, mj_z0F, mj_bo0, mj_boc, mj_chk10, mj_chk11, md_besides hg hO hj, sb, hg, c1, c2, z0, Bool.not_false]
        rfl
theorem md_isPeak (hg : g 6 m 0 = some (18, m)) (hO : md_O f m r s n) (hj : j < n) (hk : k < 4) : mj_x X 125 [.inr (6, m), .inl (nI k), .inl (nI j)] (S, f, g) = some (some (.inl (mj_bo (md_pk (fun i => f 18 m (147 + 60 * k + i)) (f 18 m 15) s n j = true))), (S, f, g)) := by
  have h60 := hO.2.2.n60
  unfold md_pk
  by_cases c1 : f 18 m (147 + 60 * k + j) < f 18 m 15
  · have z0 := md_pk0 (X := X) (S := S) (b := 0) (l1 := some (.inl (nI k))) (l4 := some (.inl (f 18 m (147 + 60 * k + j)))) (l6 := none) (l7 := none) hg hO hj (by omega)
    have hh := md_isHot (X := X) (S := S) hg hk (show j < 60 by omega) (f := f)
    rw [← mj_boF (P := ¬ f 18 m (147 + 60 * k + j) < f 18 m 15) (fun q_ => q_ c1)] at hh
    rw [← mj_boF (fun q_ => by rw [Bool.and_eq_true] at q_; exact of_decide_eq_true q_.1 c1), ← z0]
    simp (disch := omega) only [mj_x125, mj_g125_0, mj_g125_1, mj_g125_2, mj_g125_3, mj_g125_4, mj_g125_5, mj_g125_6, mj_g125_7, mj_g125_8, mj_g125_9, mj_g125_10, mj_g125_11, mj_g125_12, mj_g125_13, mj_g125_14, mj_g125_15, mj_g125_16, mj_g125_17, ↓reduceIte, Option.bind_some, Option.toList_some, Option.toList_none, List.cons_append, List.nil_append, mj_ixn, mj_add, mj_mul, mj_sub, mj_dv, mj_rmn, mj_ltT, mj_ltF, mj_leT, mj_leF, mj_eqT, mj_eqF, mj_z0T, mj_z0F, mj_bo0, mj_boc, mj_chk10, mj_chk11, hh, hg]
  · have e1 : mj_bo ((decide (¬ f 18 m (147 + 60 * k + j) < f 18 m 15) && (mc_fi (fun x => ! md_gd (fun i => f 18 m (147 + 60 * k + i)) j (mc_na s j x)) 0 (mc_nn s n j)).isNone) = true) = mj_bo ((mc_fi (fun x => ! md_gd (fun i => f 18 m (147 + 60 * k + i)) j (mc_na s j x)) 0 (mc_nn s n j)).isNone = true) := by
      rw [decide_eq_true c1, Bool.true_and]
    have hh := md_isHot (X := X) (S := S) hg hk (show j < 60 by omega) (f := f)
    rw [← mj_boT (P := ¬ f 18 m (147 + 60 * k + j) < f 18 m 15) c1] at hh
    have z1 := md_pkl (X := X) (S := S) hg hO hj hk (mc_nn s n j) 0 none none (Nat.zero_add _)
    rw [e1, ← z1]
    simp (disch := omega) only [mj_x125, mj_g125_0, mj_g125_1, mj_g125_2, mj_g125_3, mj_g125_4, mj_g125_5, mj_g125_6, mj_g125_7, mj_g125_8, mj_g125_9, mj_g125_10, mj_g125_11, mj_g125_12, mj_g125_13, mj_g125_14, mj_g125_15, mj_g125_16, mj_g125_17, ↓reduceIte, Option.bind_some, Option.toList_some, Option.toList_none, List.cons_append, List.nil_append, mj_ixn, mj_add, mj_mul, mj_sub, mj_dv, mj_rmn, mj_ltT, mj_ltF, mj_leT, mj_leF, mj_eqT, mj_eqF, mj_z0T, mj_z0F, mj_bo0, mj_boc, mj_chk10, mj_chk11, hh, hg]
/-- a setting's range -/
def mr_is (w v : Int32) : Prop := (w = nI 0 ∧ nI 0 ≤ v ∧ v ≤ nI 2000) ∨ (w = nI 1 ∧ nI 1 ≤ v ∧ v ≤ nI 500) ∨ (w = nI 2 ∧ nI 1000 ≤ v ∧ v ≤ nI 100000) ∨ (w = nI 3 ∧ nI 50 ≤ v ∧ v ≤ nI 1000) ∨ (w = nI 4 ∧ nI 0 ≤ v ∧ v ≤ nI 100000) ∨ (w = nI 5 ∧ nI 1 ≤ v ∧ v ≤ nI 100)
theorem mj_nIx {w : Int32} {N : Nat} (h : 0 ≤ w.toInt) (h2 : w.toInt < (N : Int)) : ∃ k, k < N ∧ w = nI k := by
  have h3 : w.toInt < 2147483648 := Int32.toInt_lt w
  refine ⟨w.toInt.toNat, by omega, ?_⟩
  apply Int32.toInt_inj.mp
  rw [nI_toInt (by omega)]
  omega
theorem mj_tswo {lo hi : Int} {ts : List Nat} {d : Nat} {x : Int32} (h : x.toInt < lo ∨ hi < x.toInt) : mj_tsw lo hi ts d x = d := by
  unfold mj_tsw
  rw [if_pos h]
theorem md_isSetting {σ : mj_H} [Decidable (mr_is w v)] : mj_x X 111 [.inl w, .inl v] σ = some (some (.inl (mj_bo (mr_is w v))), σ) := by
  by_cases c1 : 0 ≤ w.toInt ∧ w.toInt < ((6 : Nat) : Int)
  · obtain ⟨k, hk, rfl⟩ := mj_nIx c1.1 c1.2
    have e6 : ∀ i, i < 6 → (nI k = nI i ↔ k = i) := fun i hi => mj_eq (by omega) (by omega)
    have hk6 : k = 0 ∨ k = 1 ∨ k = 2 ∨ k = 3 ∨ k = 4 ∨ k = 5 := by omega
    have eP : mr_is (nI k) v ↔ ((k = 0 ∧ nI 0 ≤ v ∧ v ≤ nI 2000) ∨ (k = 1 ∧ nI 1 ≤ v ∧ v ≤ nI 500) ∨ (k = 2 ∧ nI 1000 ≤ v ∧ v ≤ nI 100000) ∨ (k = 3 ∧ nI 50 ≤ v ∧ v ≤ nI 1000) ∨ (k = 4 ∧ nI 0 ≤ v ∧ v ≤ nI 100000) ∨ (k = 5 ∧ nI 1 ≤ v ∧ v ≤ nI 100)) := by
      unfold mr_is
      rw [e6 0 (by omega), e6 1 (by omega), e6 2 (by omega), e6 3 (by omega), e6 4 (by omega), e6 5 (by omega)]
    rcases hk6 with rfl | rfl | rfl | rfl | rfl | rfl
    · have t : mj_tsw 0 5 [2, 7, 12, 17, 22, 27] 32 (nI 0) = 2 := rfl
      rw [mj_boi (Q := nI 0 ≤ v ∧ v ≤ nI 2000) (eP.trans (by simp))]
      simp only [mj_x111, mj_g111_0, mj_g111_1, mj_g111_2, mj_g111_3, mj_g111_4, mj_g111_5, mj_g111_6, mj_g111_7, mj_g111_8, mj_g111_9, mj_g111_10, mj_g111_11, mj_g111_12, mj_g111_13, mj_g111_14, mj_g111_15, mj_g111_16, mj_g111_17, mj_g111_18, mj_g111_19, mj_g111_20, mj_g111_21, mj_g111_22, mj_g111_23, mj_g111_24, mj_g111_25, mj_g111_26, mj_g111_27, mj_g111_28, mj_g111_29, mj_g111_30, mj_g111_31, mj_g111_32, mj_g111_33, t, mc_in, Option.bind_some, Option.toList_some, List.cons_append, List.nil_append, mj_boc, ↓reduceIte]
    · have t : mj_tsw 0 5 [2, 7, 12, 17, 22, 27] 32 (nI 1) = 7 := rfl
      rw [mj_boi (Q := nI 1 ≤ v ∧ v ≤ nI 500) (eP.trans (by simp))]
      simp only [mj_x111, mj_g111_0, mj_g111_1, mj_g111_2, mj_g111_3, mj_g111_4, mj_g111_5, mj_g111_6, mj_g111_7, mj_g111_8, mj_g111_9, mj_g111_10, mj_g111_11, mj_g111_12, mj_g111_13, mj_g111_14, mj_g111_15, mj_g111_16, mj_g111_17, mj_g111_18, mj_g111_19, mj_g111_20, mj_g111_21, mj_g111_22, mj_g111_23, mj_g111_24, mj_g111_25, mj_g111_26, mj_g111_27, mj_g111_28, mj_g111_29, mj_g111_30, mj_g111_31, mj_g111_32, mj_g111_33, t, mc_in, Option.bind_some, Option.toList_some, List.cons_append, List.nil_append, mj_boc, ↓reduceIte]
    · have t : mj_tsw 0 5 [2, 7, 12, 17, 22, 27] 32 (nI 2) = 12 := rfl
      rw [mj_boi (Q := nI 1000 ≤ v ∧ v ≤ nI 100000) (eP.trans (by simp))]
      simp only [mj_x111, mj_g111_0, mj_g111_1, mj_g111_2, mj_g111_3, mj_g111_4, mj_g111_5, mj_g111_6, mj_g111_7, mj_g111_8, mj_g111_9, mj_g111_10, mj_g111_11, mj_g111_12, mj_g111_13, mj_g111_14, mj_g111_15, mj_g111_16, mj_g111_17, mj_g111_18, mj_g111_19, mj_g111_20, mj_g111_21, mj_g111_22, mj_g111_23, mj_g111_24, mj_g111_25, mj_g111_26, mj_g111_27, mj_g111_28, mj_g111_29, mj_g111_30, mj_g111_31, mj_g111_32, mj_g111_33, t, mc_in, Option.bind_some, Option.toList_some, List.cons_append, List.nil_append, mj_boc, ↓reduceIte]
    · have t : mj_tsw 0 5 [2, 7, 12, 17, 22, 27] 32 (nI 3) = 17 := rfl
      rw [mj_boi (Q := nI 50 ≤ v ∧ v ≤ nI 1000) (eP.trans (by simp))]
      simp only [mj_x111, mj_g111_0, mj_g111_1, mj_g111_2, mj_g111_3, mj_g111_4, mj_g111_5, mj_g111_6, mj_g111_7, mj_g111_8, mj_g111_9, mj_g111_10, mj_g111_11, mj_g111_12, mj_g111_13, mj_g111_14, mj_g111_15, mj_g111_16, mj_g111_17, mj_g111_18, mj_g111_19, mj_g111_20, mj_g111_21, mj_g111_22, mj_g111_23, mj_g111_24, mj_g111_25, mj_g111_26, mj_g111_27, mj_g111_28, mj_g111_29, mj_g111_30, mj_g111_31, mj_g111_32, mj_g111_33, t, mc_in, Option.bind_some, Option.toList_some, List.cons_append, List.nil_append, mj_boc, ↓reduceIte]
    · have t : mj_tsw 0 5 [2, 7, 12, 17, 22, 27] 32 (nI 4) = 22 := rfl
      rw [mj_boi (Q := nI 0 ≤ v ∧ v ≤ nI 100000) (eP.trans (by simp))]
      simp only [mj_x111, mj_g111_0, mj_g111_1, mj_g111_2, mj_g111_3, mj_g111_4, mj_g111_5, mj_g111_6, mj_g111_7, mj_g111_8, mj_g111_9, mj_g111_10, mj_g111_11, mj_g111_12, mj_g111_13, mj_g111_14, mj_g111_15, mj_g111_16, mj_g111_17, mj_g111_18, mj_g111_19, mj_g111_20, mj_g111_21, mj_g111_22, mj_g111_23, mj_g111_24, mj_g111_25, mj_g111_26, mj_g111_27, mj_g111_28, mj_g111_29, mj_g111_30, mj_g111_31, mj_g111_32, mj_g111_33, t, mc_in, Option.bind_some, Option.toList_some, List.cons_append, List.nil_append, mj_boc, ↓reduceIte]
    · have t : mj_tsw 0 5 [2, 7, 12, 17, 22, 27] 32 (nI 5) = 27 := rfl
      rw [mj_boi (Q := nI 1 ≤ v ∧ v ≤ nI 100) (eP.trans (by simp))]
      simp only [mj_x111, mj_g111_0, mj_g111_1, mj_g111_2, mj_g111_3, mj_g111_4, mj_g111_5, mj_g111_6, mj_g111_7, mj_g111_8, mj_g111_9, mj_g111_10, mj_g111_11, mj_g111_12, mj_g111_13, mj_g111_14, mj_g111_15, mj_g111_16, mj_g111_17, mj_g111_18, mj_g111_19, mj_g111_20, mj_g111_21, mj_g111_22, mj_g111_23, mj_g111_24, mj_g111_25, mj_g111_26, mj_g111_27, mj_g111_28, mj_g111_29, mj_g111_30, mj_g111_31, mj_g111_32, mj_g111_33, t, mc_in, Option.bind_some, Option.toList_some, List.cons_append, List.nil_append, mj_boc, ↓reduceIte]
  · have t : mj_tsw 0 5 [2, 7, 12, 17, 22, 27] 32 w = 32 := mj_tswo (by omega)
    have no : ∀ i, i < 6 → w ≠ nI i := fun i hi q_ => c1 (by rw [q_, nI_toInt (by omega)]; omega)
    rw [← mj_boF (P := mr_is w v) (fun q_ => by
      rcases q_ with q_ | q_ | q_ | q_ | q_ | q_
      · exact no 0 (by omega) q_.1
      · exact no 1 (by omega) q_.1
      · exact no 2 (by omega) q_.1
      · exact no 3 (by omega) q_.1
      · exact no 4 (by omega) q_.1
      · exact no 5 (by omega) q_.1)]
    simp only [mj_x111, mj_g111_0, mj_g111_1, mj_g111_2, mj_g111_3, mj_g111_4, mj_g111_5, mj_g111_6, mj_g111_7, mj_g111_8, mj_g111_9, mj_g111_10, mj_g111_11, mj_g111_12, mj_g111_13, mj_g111_14, mj_g111_15, mj_g111_16, mj_g111_17, mj_g111_18, mj_g111_19, mj_g111_20, mj_g111_21, mj_g111_22, mj_g111_23, mj_g111_24, mj_g111_25, mj_g111_26, mj_g111_27, mj_g111_28, mj_g111_29, mj_g111_30, mj_g111_31, mj_g111_32, mj_g111_33, t, mj_chk10, ↓reduceIte]
end MN
