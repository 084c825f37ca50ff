/-! the small machine is the machine -/
section SND
variable {D : va_G} {cA : Nat → ClassId} {A : Nat → Prop} {el : Nat → Nat} {X : mj_X} {J : mj_J} {mm : Nat} {p : Program} {l : Launch} {e : Env} {R : Room} {s : State} {m : MethodId} {args : Array Value} {below : List Frame} {meth : Method} {c : Code} {Q : State → Prop} {L0 Lf : List (Nat × Nat)} {loc0 : Nat × Nat → Nat}
variable {ls : mj_L} {st : List mj_V} {σ : mj_H} {k pc0 : Nat} {H : Heap} {locs : List Loc} {cells slots : Nat} {loc : Nat × Nat → Nat} {lj : Array Slot}
theorem mj_bin_inv {o : Int32 → Int32 → Int32} {d : mj_C} (h : mj_bin k ls st σ o = some (.inl d)) : ∃ x y r, st = .inl y :: .inl x :: r ∧ d = (k + 1, ls, .inl (o x y) :: r, σ) := by
  unfold mj_bin at h
  split at h
  · cases h; exact ⟨_, _, _, rfl, rfl⟩
  · cases h
theorem mj_div_inv {o : Int32 → Int32 → Int32} {d : mj_C} (h : mj_div k ls st σ o = some (.inl d)) : ∃ x y r, st = .inl y :: .inl x :: r ∧ ¬ y = 0 ∧ d = (k + 1, ls, .inl (o x y) :: r, σ) := by
  unfold mj_div at h
  split at h
  · split at h
    · cases h
    · cases h; exact ⟨_, _, _, rfl, ‹_›, rfl⟩
  · cases h
theorem mj_nxt {t : Nat} (h : mj_nx (mj_cd mj_Y mm) k t = true) : mj_pc mm (k + 1) = some t := of_decide_eq_true h
theorem mj_tgt {a : Nat} {t : Int} (h : mj_tg (mj_cd mj_Y mm) a t = true) : ∃ n : Nat, mj_pc mm a = some n ∧ t = (n : Int) := mj_tg_of h
set_option maxHeartbeats 4000000 in
theorem mj_step_c {len : Nat} {ins : Instr} {a b cc : Nat} {v : Int32} {ts : List Nat} {d : mj_C} (hA : mj_At D cA A el X J mm p R s m args meth c L0 Lf) (hk : mj_pc mm k = some pc0) (hok : mj_okE J (mj_cd mj_Y mm) k (pc0, len, ins, a, b, cc, v, ts) = true) (hs : mj_do mj_Y X k (pc0, len, ins, a, b, cc, v, ts) ls st σ = some (.inl d)) (hf1 : d.2.2.2.1.length ≤ Lf.length) (hf2 : mj_sl d.2.2.2.1 ≤ mj_sl Lf) (h : mj_Sim D cA A el mm p l e R s m args below meth c Q L0 loc0 d.1 d.2.1 d.2.2.1 d.2.2.2) : mj_Sim D cA A el mm p l e R s m args below meth c Q L0 loc0 k ls st σ := by
  cases ins with
  | iconst n =>
    unfold mj_okE at hok
    simp only [Bool.and_eq_true, decide_eq_true_eq] at hok
    obtain ⟨hd, ⟨rfl, hv⟩, hn⟩ := hok
    cases hs
    exact mj_s_iconst hA hk hd hv (mj_nxt hn) h
  | bipush n =>
    unfold mj_okE at hok
    simp only [Bool.and_eq_true, decide_eq_true_eq] at hok
    obtain ⟨hd, ⟨rfl, hv⟩, hn⟩ := hok
    cases hs
    exact mj_s_bipush hA hk hd hv (mj_nxt hn) h
  | sipush n =>
    unfold mj_okE at hok
    simp only [Bool.and_eq_true, decide_eq_true_eq] at hok
    obtain ⟨hd, ⟨rfl, hv⟩, hn⟩ := hok
    cases hs
    exact mj_s_sipush hA hk hd hv (mj_nxt hn) h
  | ldc i =>
    unfold mj_okE at hok
    simp only [Bool.and_eq_true, decide_eq_true_eq] at hok
    obtain ⟨hd, ⟨rfl, hv⟩, hn⟩ := hok
    cases hs
    exact mj_s_ldc hA hk hd hv (mj_nxt hn) h
  | iload_n i =>
    unfold mj_okE at hok
    simp only [Bool.and_eq_true, decide_eq_true_eq] at hok
    obtain ⟨hd, rfl, hn⟩ := hok
    exact mj_s_ld hA hk hd (Or.inl ⟨rfl, Or.inl ⟨_, rfl, rfl, rfl⟩⟩) (mj_nxt hn) hs h
  | iload i =>
    unfold mj_okE at hok
    simp only [Bool.and_eq_true, decide_eq_true_eq] at hok
    obtain ⟨hd, rfl, hn⟩ := hok
    exact mj_s_ld hA hk hd (Or.inl ⟨rfl, Or.inr ⟨rfl, rfl⟩⟩) (mj_nxt hn) hs h
  | aload_n i =>
    unfold mj_okE at hok
    simp only [Bool.and_eq_true, decide_eq_true_eq] at hok
    obtain ⟨hd, rfl, hn⟩ := hok
    exact mj_s_ld hA hk hd (Or.inr ⟨rfl, Or.inl ⟨_, rfl, rfl, rfl⟩⟩) (mj_nxt hn) hs h
  | aload i =>
    unfold mj_okE at hok
    simp only [Bool.and_eq_true, decide_eq_true_eq] at hok
    obtain ⟨hd, rfl, hn⟩ := hok
    exact mj_s_ld hA hk hd (Or.inr ⟨rfl, Or.inr ⟨rfl, rfl⟩⟩) (mj_nxt hn) hs h
  | istore_n i =>
    unfold mj_okE at hok
    simp only [Bool.and_eq_true, decide_eq_true_eq] at hok
    obtain ⟨hd, rfl, hn⟩ := hok
    exact mj_s_st hA hk hd (Or.inl ⟨rfl, Or.inl ⟨_, rfl, rfl, rfl⟩⟩) (mj_nxt hn) hs h
  | istore i =>
    unfold mj_okE at hok
    simp only [Bool.and_eq_true, decide_eq_true_eq] at hok
    obtain ⟨hd, rfl, hn⟩ := hok
    exact mj_s_st hA hk hd (Or.inl ⟨rfl, Or.inr ⟨rfl, rfl⟩⟩) (mj_nxt hn) hs h
  | astore_n i =>
    unfold mj_okE at hok
    simp only [Bool.and_eq_true, decide_eq_true_eq] at hok
    obtain ⟨hd, rfl, hn⟩ := hok
    exact mj_s_st hA hk hd (Or.inr ⟨rfl, Or.inl ⟨_, rfl, rfl, rfl⟩⟩) (mj_nxt hn) hs h
  | astore i =>
    unfold mj_okE at hok
    simp only [Bool.and_eq_true, decide_eq_true_eq] at hok
    obtain ⟨hd, rfl, hn⟩ := hok
    exact mj_s_st hA hk hd (Or.inr ⟨rfl, Or.inr ⟨rfl, rfl⟩⟩) (mj_nxt hn) hs h
  | iinc i n =>
    unfold mj_okE at hok
    simp only [Bool.and_eq_true, decide_eq_true_eq] at hok
    obtain ⟨hd, ⟨rfl, hv⟩, hn⟩ := hok
    have hs' : (match ls[i]? with
          | some (some (.inl x)) => some (Sum.inl (k + 1, ls.set i (some (.inl (x + v))), st, σ))
          | _ => none) = some (Sum.inl d : mj_R) := hs
    split at hs'
    · cases hs'
      exact mj_s_iinc hA hk hd hv (mj_nxt hn) ‹_› h
    · cases hs' 
  | iadd =>
    unfold mj_okE at hok
    simp only [Bool.and_eq_true, decide_eq_true_eq] at hok
    obtain ⟨hd, rfl, hn⟩ := hok
    obtain ⟨x, y, r, rfl, rfl⟩ := mj_bin_inv hs
    exact mj_s_iadd hA hk hd (mj_nxt hn) h
  | isub =>
    unfold mj_okE at hok
    simp only [Bool.and_eq_true, decide_eq_true_eq] at hok
    obtain ⟨hd, rfl, hn⟩ := hok
    obtain ⟨x, y, r, rfl, rfl⟩ := mj_bin_inv hs
    exact mj_s_isub hA hk hd (mj_nxt hn) h
  | imul =>
    unfold mj_okE at hok
    simp only [Bool.and_eq_true, decide_eq_true_eq] at hok
    obtain ⟨hd, rfl, hn⟩ := hok
    obtain ⟨x, y, r, rfl, rfl⟩ := mj_bin_inv hs
    exact mj_s_imul hA hk hd (mj_nxt hn) h
  | iand =>
    unfold mj_okE at hok
    simp only [Bool.and_eq_true, decide_eq_true_eq] at hok
    obtain ⟨hd, rfl, hn⟩ := hok
    obtain ⟨x, y, r, rfl, rfl⟩ := mj_bin_inv hs
    exact mj_s_iand hA hk hd (mj_nxt hn) h
  | ixor =>
    unfold mj_okE at hok
    simp only [Bool.and_eq_true, decide_eq_true_eq] at hok
    obtain ⟨hd, rfl, hn⟩ := hok
    obtain ⟨x, y, r, rfl, rfl⟩ := mj_bin_inv hs
    exact mj_s_ixor hA hk hd (mj_nxt hn) h
  | ishr =>
    unfold mj_okE at hok
    simp only [Bool.and_eq_true, decide_eq_true_eq] at hok
    obtain ⟨hd, rfl, hn⟩ := hok
    obtain ⟨x, y, r, rfl, rfl⟩ := mj_bin_inv hs
    exact mj_s_ishr hA hk hd (mj_nxt hn) h
  | idiv =>
    unfold mj_okE at hok
    simp only [Bool.and_eq_true, decide_eq_true_eq] at hok
    obtain ⟨hd, rfl, hn⟩ := hok
    obtain ⟨x, y, r, rfl, hne, rfl⟩ := mj_div_inv hs
    exact mj_s_idiv hne hA hk hd (mj_nxt hn) h
  | irem =>
    unfold mj_okE at hok
    simp only [Bool.and_eq_true, decide_eq_true_eq] at hok
    obtain ⟨hd, rfl, hn⟩ := hok
    obtain ⟨x, y, r, rfl, hne, rfl⟩ := mj_div_inv hs
    exact mj_s_irem hne hA hk hd (mj_nxt hn) h
  | dup =>
    unfold mj_okE at hok
    simp only [Bool.and_eq_true, decide_eq_true_eq] at hok
    obtain ⟨hd, rfl, hn⟩ := hok
    cases st with
    | nil => cases hs
    | cons x r =>
      cases hs
      exact mj_s_dup hA hk hd (mj_nxt hn) h
  | dup2 =>
    unfold mj_okE at hok
    simp only [Bool.and_eq_true, decide_eq_true_eq] at hok
    obtain ⟨hd, rfl, hn⟩ := hok
    cases st with
    | nil => cases hs
    | cons x r =>
      cases r with
      | nil => cases hs
      | cons y r =>
        cases hs
        exact mj_s_dup2 hA hk hd (mj_nxt hn) h
  | pop =>
    unfold mj_okE at hok
    simp only [Bool.and_eq_true, decide_eq_true_eq] at hok
    obtain ⟨hd, rfl, hn⟩ := hok
    cases st with
    | nil => cases hs
    | cons x r =>
      cases hs
      exact mj_s_pop hA hk hd (mj_nxt hn) h
  | i2c =>
    unfold mj_okE at hok
    simp only [Bool.and_eq_true, decide_eq_true_eq] at hok
    obtain ⟨hd, rfl, hn⟩ := hok
    cases st with
    | nil => cases hs
    | cons x r =>
      cases x with
      | inr q => cases hs
      | inl x =>
        cases hs
        exact mj_s_i2c hA hk hd (mj_nxt hn) h
  | ifCond o off =>
    unfold mj_okE at hok
    simp only [Bool.and_eq_true, decide_eq_true_eq] at hok
    obtain ⟨hd, ⟨rfl, hn⟩, ht⟩ := hok
    obtain ⟨t, e1, e2⟩ := mj_tgt ht
    cases st with
    | nil => cases hs
    | cons x r =>
      cases x with
      | inr q => cases hs
      | inl x =>
        cases hs
        exact mj_s_if hA hk hd (mj_nxt hn) e1 e2 h
  | if_icmp o off =>
    unfold mj_okE at hok
    simp only [Bool.and_eq_true, decide_eq_true_eq] at hok
    obtain ⟨hd, ⟨rfl, hn⟩, ht⟩ := hok
    obtain ⟨t, e1, e2⟩ := mj_tgt ht
    cases st with
    | nil => cases hs
    | cons y r =>
      cases y with
      | inr q => cases hs
      | inl y =>
        cases r with
        | nil => cases hs
        | cons x r =>
          cases x with
          | inr q => cases hs
          | inl x =>
            cases hs
            exact mj_s_icmp hA hk hd (mj_nxt hn) e1 e2 h
  | goto off =>
    unfold mj_okE at hok
    simp only [Bool.and_eq_true, decide_eq_true_eq] at hok
    obtain ⟨hd, rfl, ht⟩ := hok
    obtain ⟨t, e1, e2⟩ := mj_tgt ht
    cases hs
    exact mj_s_goto hA hk hd e1 e2 h
  | tableswitch df lo hi offs =>
    unfold mj_okE at hok
    simp only [Bool.and_eq_true, decide_eq_true_eq] at hok
    obtain ⟨hd, ⟨⟨h1, h2⟩, h3⟩, h4⟩ := hok
    cases st with
    | nil => cases hs
    | cons x r =>
      cases x with
      | inr q => cases hs
      | inl x =>
        cases hs
        exact mj_s_tsw hA hk hd h1 h2 h3 h4 h
  | lookupswitch df ps =>
    unfold mj_okE at hok
    simp only [Bool.and_eq_true, decide_eq_true_eq] at hok
    obtain ⟨hd, ⟨⟨h1, h3⟩, h4⟩, h5⟩ := hok
    cases st with
    | nil => cases hs
    | cons x r =>
      cases x with
      | inr q => cases hs
      | inl x =>
        cases hs
        exact mj_s_lsw hA hk hd h1 h3 h4 h5 h
  | getfield i =>
    unfold mj_okE at hok
    simp only [Bool.and_eq_true, decide_eq_true_eq] at hok
    obtain ⟨hd, ⟨rfl, hn⟩, hw⟩ := hok
    cases st with
    | nil => cases hs
    | cons x r =>
      cases x with
      | inl q => cases hs
      | inr x =>
        obtain ⟨c1, q⟩ := x
        have hs' : (if c1 = a then (if mj_ft mj_Y a b = 3 then (match σ.2.2 a q b with
                  | some q => some (Sum.inl (k + 1, ls, .inr q :: r, σ))
                  | none => none) else some (Sum.inl (k + 1, ls, .inl (σ.2.1 a q b) :: r, σ))) else none) = some (Sum.inl d : mj_R) := hs
        by_cases g : c1 = a
        · subst g
          rw [if_pos rfl] at hs'
          by_cases g3 : mj_ft mj_Y c1 b = 3
          · rw [if_pos g3] at hs'
            cases hz : σ.2.2 c1 q b with
            | none => rw [hz] at hs'; cases hs'
            | some z =>
              rw [hz] at hs'
              cases hs'
              exact mj_getf hA hk hd hw (mj_nxt hn) (Or.inl ⟨g3, z, hz, rfl⟩) h
          · rw [if_neg g3] at hs'
            cases hs'
            exact mj_getf hA hk hd hw (mj_nxt hn) (Or.inr ⟨g3, rfl⟩) h
        · rw [if_neg g] at hs'; cases hs' 
  | putfield i =>
    unfold mj_okE at hok
    simp only [Bool.and_eq_true, decide_eq_true_eq] at hok
    obtain ⟨hd, ⟨⟨rfl, hn⟩, hw⟩, hf⟩ := hok
    cases st with
    | nil => cases hs
    | cons x r =>
      cases x with
      | inl x =>
        cases r with
        | nil => cases hs
        | cons y r =>
          cases y with
          | inl y => cases hs
          | inr y =>
            obtain ⟨c1, q⟩ := y
            have hs' : (if c1 = a ∧ ¬ mj_ft mj_Y a b = 3 ∧ mj_chk (mj_ft mj_Y a b) x = true then some (Sum.inl (k + 1, ls, r, (σ.1, mj_u σ.2.1 a q b x, σ.2.2))) else none) = some (Sum.inl d : mj_R) := hs
            by_cases g : c1 = a ∧ ¬ mj_ft mj_Y a b = 3 ∧ mj_chk (mj_ft mj_Y a b) x = true
            · rw [if_pos g] at hs'
              obtain ⟨rfl, g3, gc⟩ := g
              cases hs'
              exact mj_putf hA hk hd hw hf (mj_nxt hn) (Or.inr ⟨g3, x, rfl, gc, rfl, rfl⟩) h
            · rw [if_neg g] at hs'; cases hs'
      | inr x =>
        cases r with
        | nil => cases hs
        | cons y r =>
          cases y with
          | inl y => cases hs
          | inr y =>
            obtain ⟨c1, q⟩ := y
            have hs' : (if c1 = a ∧ mj_ft mj_Y a b = 3 then some (Sum.inl (k + 1, ls, r, (σ.1, σ.2.1, mj_w σ.2.2 a q b (some x)))) else none) = some (Sum.inl d : mj_R) := hs
            by_cases g : c1 = a ∧ mj_ft mj_Y a b = 3
            · rw [if_pos g] at hs'
              obtain ⟨rfl, g3⟩ := g
              cases hs'
              exact mj_putf hA hk hd hw hf (mj_nxt hn) (Or.inl ⟨g3, x, rfl, rfl, rfl⟩) h
            · rw [if_neg g] at hs'; cases hs' 
  | getstatic i =>
    unfold mj_okE at hok
    simp only [Bool.and_eq_true, decide_eq_true_eq] at hok
    obtain ⟨hd, ⟨rfl, hn⟩, hw⟩ := hok
    cases hq : mj_ext.find? (fun q => q.1 == a) with
    | none => rw [hq] at hw; cases hw
    | some q =>
      rw [hq] at hw
      simp only [Bool.or_eq_true, decide_eq_true_eq] at hw
      cases hs
      exact mj_gets hA hk hd (mj_nxt hn) (List.mem_of_find?_eq_some hq) (by simpa using List.find?_some hq) hw h
  | iaload =>
    unfold mj_okE at hok
    simp only [Bool.and_eq_true, decide_eq_true_eq] at hok
    obtain ⟨hd, rfl, hn⟩ := hok
    cases st with
    | nil => cases hs
    | cons x r =>
      cases x with
      | inr x => cases hs
      | inl j =>
        cases r with
        | nil => cases hs
        | cons y r =>
          cases y with
          | inl y => cases hs
          | inr y =>
            obtain ⟨c1, q⟩ := y
            have hs' : (if mj_isI mj_Y c1 = true then (match mj_ix j (mj_len mj_Y X c1) with
                      | some z => some (Sum.inl (k + 1, ls, .inl (mj_rd mj_Y X σ.2.1 c1 q z) :: r, σ))
                      | none => none) else none) = some (Sum.inl d : mj_R) := hs
            by_cases g : mj_isI mj_Y c1 = true
            · rw [if_pos g] at hs'
              cases hz : mj_ix j (mj_len mj_Y X c1) with
              | none => rw [hz] at hs'; cases hs'
              | some z =>
                rw [hz] at hs'
                cases hs'
                exact mj_iald hA hk hd (mj_nxt hn) g hz h
            · rw [if_neg g] at hs'; cases hs' 
  | caload =>
    unfold mj_okE at hok
    simp only [Bool.and_eq_true, decide_eq_true_eq] at hok
    obtain ⟨hd, rfl, hn⟩ := hok
    cases st with
    | nil => cases hs
    | cons x r =>
      cases x with
      | inr x => cases hs
      | inl j =>
        cases r with
        | nil => cases hs
        | cons y r =>
          cases y with
          | inl y => cases hs
          | inr y =>
            obtain ⟨c1, q⟩ := y
            have hs' : (if mj_isA mj_Y 2 c1 = true then (match mj_ix j (mj_len mj_Y X c1) with
                      | some z => some (Sum.inl (k + 1, ls, .inl (σ.2.1 c1 q z) :: r, σ))
                      | none => none) else none) = some (Sum.inl d : mj_R) := hs
            by_cases g : mj_isA mj_Y 2 c1 = true
            · rw [if_pos g] at hs'
              cases hz : mj_ix j (mj_len mj_Y X c1) with
              | none => rw [hz] at hs'; cases hs'
              | some z =>
                rw [hz] at hs'
                cases hs'
                exact mj_cald hA hk hd (mj_nxt hn) g hz h
            · rw [if_neg g] at hs'; cases hs' 
  | aaload =>
    unfold mj_okE at hok
    simp only [Bool.and_eq_true, decide_eq_true_eq] at hok
    obtain ⟨hd, rfl, hn⟩ := hok
    cases st with
    | nil => cases hs
    | cons x r =>
      cases x with
      | inr x => cases hs
      | inl j =>
        cases r with
        | nil => cases hs
        | cons y r =>
          cases y with
          | inl y => cases hs
          | inr y =>
            obtain ⟨c1, q⟩ := y
            have hs' : (if mj_isQ mj_Y c1 = true then (match mj_ix j (mj_len mj_Y X c1) with
                      | some z => (match σ.2.2 c1 q z with
                        | some y => some (Sum.inl (k + 1, ls, .inr y :: r, σ))
                        | none => none)
                      | none => none) else none) = some (Sum.inl d : mj_R) := hs
            by_cases g : mj_isQ mj_Y c1 = true
            · rw [if_pos g] at hs'
              cases hz : mj_ix j (mj_len mj_Y X c1) with
              | none => rw [hz] at hs'; cases hs'
              | some z =>
                rw [hz] at hs'
                dsimp only at hs'
                cases hy : σ.2.2 c1 q z with
                | none => rw [hy] at hs'; cases hs'
                | some y =>
                  rw [hy] at hs'
                  cases hs'
                  exact mj_aald hA hk hd (mj_nxt hn) g hz hy h
            · rw [if_neg g] at hs'; cases hs' 
  | iastore =>
    unfold mj_okE at hok
    simp only [Bool.and_eq_true, decide_eq_true_eq] at hok
    obtain ⟨hd, rfl, hn⟩ := hok
    cases st with
    | nil => cases hs
    | cons x r =>
      cases x with
      | inr x => cases hs
      | inl x =>
        cases r with
        | nil => cases hs
        | cons j r =>
          cases j with
          | inr j => cases hs
          | inl j =>
            cases r with
            | nil => cases hs
            | cons y r =>
              cases y with
              | inl y => cases hs
              | inr y =>
                obtain ⟨c1, q⟩ := y
                have hs' : (if mj_isA mj_Y 0 c1 = true then (match mj_ix j (mj_len mj_Y X c1) with
                          | some z => some (Sum.inl (k + 1, ls, r, (σ.1, mj_u σ.2.1 c1 q z x, σ.2.2)))
                          | none => none) else none) = some (Sum.inl d : mj_R) := hs
                by_cases g : mj_isA mj_Y 0 c1 = true
                · rw [if_pos g] at hs'
                  cases hz : mj_ix j (mj_len mj_Y X c1) with
                  | none => rw [hz] at hs'; cases hs'
                  | some z =>
                    rw [hz] at hs'
                    cases hs'
                    exact mj_iast hA hk hd (mj_nxt hn) g hz h
                · rw [if_neg g] at hs'; cases hs' 
  | castore =>
    unfold mj_okE at hok
    simp only [Bool.and_eq_true, decide_eq_true_eq] at hok
    obtain ⟨hd, rfl, hn⟩ := hok
    cases st with
    | nil => cases hs
    | cons x r =>
      cases x with
      | inr x => cases hs
      | inl x =>
        cases r with
        | nil => cases hs
        | cons j r =>
          cases j with
          | inr j => cases hs
          | inl j =>
            cases r with
            | nil => cases hs
            | cons y r =>
              cases y with
              | inl y => cases hs
              | inr y =>
                obtain ⟨c1, q⟩ := y
                have hs' : (if mj_isA mj_Y 2 c1 = true ∧ mj_chk 2 x = true then (match mj_ix j (mj_len mj_Y X c1) with
                          | some z => some (Sum.inl (k + 1, ls, r, (σ.1, mj_u σ.2.1 c1 q z x, σ.2.2)))
                          | none => none) else none) = some (Sum.inl d : mj_R) := hs
                by_cases g : mj_isA mj_Y 2 c1 = true ∧ mj_chk 2 x = true
                · rw [if_pos g] at hs'
                  cases hz : mj_ix j (mj_len mj_Y X c1) with
                  | none => rw [hz] at hs'; cases hs'
                  | some z =>
                    rw [hz] at hs'
                    cases hs'
                    exact mj_cast g.2 hA hk hd (mj_nxt hn) g.1 hz h
                · rw [if_neg g] at hs'; cases hs' 
  | aastore =>
    unfold mj_okE at hok
    simp only [Bool.and_eq_true, decide_eq_true_eq] at hok
    obtain ⟨hd, rfl, hn⟩ := hok
    cases st with
    | nil => cases hs
    | cons x r =>
      cases x with
      | inl x => cases hs
      | inr x =>
        cases r with
        | nil => cases hs
        | cons j r =>
          cases j with
          | inr j => cases hs
          | inl j =>
            cases r with
            | nil => cases hs
            | cons y r =>
              cases y with
              | inl y => cases hs
              | inr y =>
                obtain ⟨c1, q⟩ := y
                have hs' : (if mj_isQ mj_Y c1 = true ∧ x.1 = (mj_kd mj_Y c1).2.1 then (match mj_ix j (mj_len mj_Y X c1) with
                          | some z => some (Sum.inl (k + 1, ls, r, (σ.1, σ.2.1, mj_w σ.2.2 c1 q z (some x))))
                          | none => none) else none) = some (Sum.inl d : mj_R) := hs
                by_cases g : mj_isQ mj_Y c1 = true ∧ x.1 = (mj_kd mj_Y c1).2.1
                · rw [if_pos g] at hs'
                  cases hz : mj_ix j (mj_len mj_Y X c1) with
                  | none => rw [hz] at hs'; cases hs'
                  | some z =>
                    rw [hz] at hs'
                    cases hs'
                    exact mj_aast hA hk hd (mj_nxt hn) g.1 g.2 hz h
                · rw [if_neg g] at hs'; cases hs' 
  | new i =>
    unfold mj_okE at hok
    simp only [Bool.and_eq_true, decide_eq_true_eq] at hok
    obtain ⟨hd, ⟨rfl, hn⟩, hw⟩ := hok
    cases hc : mj_cl[a]? with
    | none => rw [hc] at hw; cases hw
    | some q =>
      obtain ⟨C, T, N⟩ := q
      rw [hc] at hw
      have hs' : (if (a, mj_cnt a σ.1) ∈ σ.1 then none else some (Sum.inl (k + 1, ls, .inr (a, mj_cnt a σ.1) :: st, (σ.1 ++ [(a, mj_cnt a σ.1)], mj_z σ.2.1 a (mj_cnt a σ.1), mj_n σ.2.2 a (mj_cnt a σ.1))))) = some (Sum.inl d : mj_R) := hs
      by_cases g : (a, mj_cnt a σ.1) ∈ σ.1
      · rw [if_pos g] at hs'; cases hs'
      · rw [if_neg g] at hs'
        cases hs'
        exact mj_new hA hk hd (mj_nxt hn) hc (of_decide_eq_true hw) g hf1 hf2 h
  | newarray t =>
    unfold mj_okE at hok
    simp only [Bool.and_eq_true, decide_eq_true_eq] at hok
    obtain ⟨hd, ⟨rfl, hn⟩, hw⟩ := hok
    cases st with
    | nil => cases hs
    | cons x r =>
      cases x with
      | inr q => cases hs
      | inl x =>
        have hs' : (if (a, mj_cnt a σ.1) ∈ σ.1 ∨ ¬ x = Int32.ofNat (mj_kd mj_Y a).2.2 then none else some (Sum.inl (k + 1, ls, .inr (a, mj_cnt a σ.1) :: r, (σ.1 ++ [(a, mj_cnt a σ.1)], mj_z σ.2.1 a (mj_cnt a σ.1), mj_n σ.2.2 a (mj_cnt a σ.1))))) = some (Sum.inl d : mj_R) := hs
        by_cases g : (a, mj_cnt a σ.1) ∈ σ.1 ∨ ¬ x = Int32.ofNat (mj_kd mj_Y a).2.2
        · rw [if_pos g] at hs'; cases hs'
        · rw [if_neg g] at hs'
          cases hs'
          have g1 : (a, mj_cnt a σ.1) ∉ σ.1 := fun z => g (Or.inl z)
          have g2 : x = Int32.ofNat (mj_kd mj_Y a).2.2 := Decidable.of_not_not (fun z => g (Or.inr z))
          rcases hkd : mj_kd mj_Y a with ⟨s0, u, N⟩
          rw [hkd] at hw g2
          split at hw
          · rename_i e
            cases e
            simp only [Bool.or_eq_true, Bool.and_eq_true, decide_eq_true_eq] at hw
            exact mj_newa hA hk hd (mj_nxt hn) hkd hw g2 g1 hf1 hf2 h
          · cases hw
  | anewarray i =>
    unfold mj_okE at hok
    simp only [Bool.and_eq_true, decide_eq_true_eq] at hok
    obtain ⟨hd, ⟨rfl, hn⟩, hw⟩ := hok
    cases st with
    | nil => cases hs
    | cons x r =>
      cases x with
      | inr q => cases hs
      | inl x =>
        have hs' : (if (a, mj_cnt a σ.1) ∈ σ.1 ∨ ¬ x = Int32.ofNat (mj_kd mj_Y a).2.2 then none else some (Sum.inl (k + 1, ls, .inr (a, mj_cnt a σ.1) :: r, (σ.1 ++ [(a, mj_cnt a σ.1)], mj_z σ.2.1 a (mj_cnt a σ.1), mj_n σ.2.2 a (mj_cnt a σ.1))))) = some (Sum.inl d : mj_R) := hs
        by_cases g : (a, mj_cnt a σ.1) ∈ σ.1 ∨ ¬ x = Int32.ofNat (mj_kd mj_Y a).2.2
        · rw [if_pos g] at hs'; cases hs'
        · rw [if_neg g] at hs'
          cases hs'
          have g1 : (a, mj_cnt a σ.1) ∉ σ.1 := fun z => g (Or.inl z)
          have g2 : x = Int32.ofNat (mj_kd mj_Y a).2.2 := Decidable.of_not_not (fun z => g (Or.inr z))
          rcases hkd : mj_kd mj_Y a with ⟨s0, u, N⟩
          rw [hkd] at hw g2
          split at hw
          · rename_i e
            cases e
            cases hc : mj_cl[u]? with
            | none => rw [hc] at hw; cases hw
            | some q =>
              obtain ⟨C, T, N2⟩ := q
              rw [hc] at hw
              simp only [Bool.or_eq_true, Bool.and_eq_true, decide_eq_true_eq] at hw
              exact mj_newq hA hk hd (mj_nxt hn) hkd hw.2 hc hw.1 g2 g1 hf1 hf2 h
          · cases hw
  | arraylength =>
    unfold mj_okE at hok
    simp only [Bool.and_eq_true, decide_eq_true_eq] at hok
    obtain ⟨hd, rfl, hn⟩ := hok
    cases st with
    | nil => cases hs
    | cons x r =>
      cases x with
      | inl q => cases hs
      | inr x =>
        obtain ⟨c1, q⟩ := x
        have hs' : (if (mj_kd mj_Y c1).1 = 3 then some (Sum.inl (k + 1, ls, .inl (Int32.ofNat X.1) :: r, σ)) else none) = some (Sum.inl d : mj_R) := hs
        by_cases g : (mj_kd mj_Y c1).1 = 3
        · rw [if_pos g] at hs'
          cases hs'
          exact mj_alen hA hk hd (mj_nxt hn) g h
        · rw [if_neg g] at hs'; cases hs' 
  | invokevirtual i =>
    unfold mj_okE at hok
    simp only [Bool.and_eq_true, decide_eq_true_eq] at hok
    obtain ⟨hd, ⟨⟨⟨⟨rfl, hn⟩, h9⟩, -⟩, -⟩, -⟩ := hok
    exfalso
    have hs' : mj_call k a b ts ls st σ = some (.inl d) := hs
    unfold mj_call at hs'
    rw [if_neg h9] at hs'
    split at hs'
    · split at hs' <;> cases hs'
    · cases hs' 
  | invokespecial i =>
    unfold mj_okE at hok
    simp only [Bool.and_eq_true, decide_eq_true_eq] at hok
    obtain ⟨hd, ⟨rfl, hn⟩, hw⟩ := hok
    by_cases h9 : a = 999
    · subst h9
      rw [if_pos rfl] at hw
      simp only [Bool.and_eq_true, decide_eq_true_eq] at hw
      have hs' : mj_call k 999 b ts ls st σ = some (.inl d) := hs
      unfold mj_call at hs'
      rw [if_pos rfl] at hs'
      split at hs'
      · cases hs'
        exact mj_oini hA hk hd (mj_nxt hn) hw.1.1 hw.1.2 hw.2 h
      · cases hs'
    · exfalso
      have hs' : mj_call k a b ts ls st σ = some (.inl d) := hs
      unfold mj_call at hs'
      rw [if_neg h9] at hs'
      split at hs'
      · split at hs' <;> cases hs'
      · cases hs'
  | invokestatic i =>
    unfold mj_okE at hok
    simp only [Bool.and_eq_true, decide_eq_true_eq] at hok
    obtain ⟨hd, ⟨⟨rfl, hn⟩, h9⟩, hw⟩ := hok
    by_cases h8 : a = 998
    · subst h8
      rw [if_pos rfl] at hw
      simp only [Bool.and_eq_true, decide_eq_true_eq] at hw
      have hs' : mj_copy mj_Y X k ls st σ = some (.inl d) := hs
      unfold mj_copy at hs'
      split at hs'
      · split at hs'
        · rename_i g
          cases hs'
          obtain ⟨g1, g2, rfl, rfl, g3, g4, g5⟩ := g
          exact mj_acpy hA hk hd (mj_nxt hn) hw.1.1 hw.1.2 hw.2 g1 g2 g3 g4 g5 h
        · cases hs'
      · cases hs'
    · exfalso
      have hs' : (if a = 998 then mj_copy mj_Y X k ls st σ else mj_call k a b ts ls st σ) = some (.inl d) := hs
      rw [if_neg h8] at hs'
      unfold mj_call at hs'
      rw [if_neg h9] at hs'
      split at hs'
      · split at hs' <;> cases hs'
      · cases hs' 
  | ireturn =>
    exfalso
    simp only [mj_do] at hs
    (repeat' split at hs) <;> (cases hs; done)
  | areturn =>
    exfalso
    simp only [mj_do] at hs
    (repeat' split at hs) <;> (cases hs; done)
  | return_ =>
    exfalso
    simp only [mj_do] at hs
    (repeat' split at hs) <;> (cases hs; done)
  | _ =>
    have hs' : (none : Option mj_R) = some (.inl d) := hs
    cases hs' 
end SND
