/-! rows: arrays, statics -/
section SND
variable {D : va_G} {cA : Nat → ClassId} {A : Nat → Prop} {el : Nat → Nat} {X : mj_X} {J : mj_J} {mm : Nat} {p : Program} {l : Launch} {e : Env} {R : Room} {s : State} {m : MethodId} {args : Array Value} {below : List Frame} {meth : Method} {c : Code} {Q : State → Prop} {L0 Lf : List (Nat × Nat)} {loc0 : Nat × Nat → Nat}
variable {ls : mj_L} {st : List mj_V} {σ : mj_H} {k pc0 : Nat} {H : Heap} {locs : List Loc} {cells slots : Nat} {loc : Nat × Nat → Nat} {lj : Array Slot}
theorem mj_arr {a q t n : Nat} (hkd : mj_kd mj_Y a = (1, t, n)) (h : (a, q) ∈ σ.1) : ∃ q0 : Nat, σ.1[q0]? = some (a, q) ∧ (mj_ws cA loc σ)[q0]? = some (loc (a, q), .inl (cA t, n, .inl (fun j => σ.2.1 a q j))) := by
  obtain ⟨q0, h1, h2⟩ := mj_ws_get (cA := cA) (loc := loc) h
  refine ⟨q0, h1, ?_⟩
  rw [h2]
  unfold mj_ce
  dsimp only
  rw [hkd]
  rfl
theorem mj_qrr {a q u n : Nat} (hkd : mj_kd mj_Y a = (2, u, n)) (h : (a, q) ∈ σ.1) : ∃ q0 : Nat, σ.1[q0]? = some (a, q) ∧ (mj_ws cA loc σ)[q0]? = some (loc (a, q), .inl (cA (10 + u), n, .inr (.inr (.inr (.inr (fun j => (σ.2.2 a q j).map loc)))))) := by
  obtain ⟨q0, h1, h2⟩ := mj_ws_get (cA := cA) (loc := loc) h
  refine ⟨q0, h1, ?_⟩
  rw [h2]
  unfold mj_ce
  dsimp only
  rw [hkd]
  rfl
theorem mj_ce1 {a q t n : Nat} (hkd : mj_kd mj_Y a = (1, t, n)) (f : mj_F) (g : mj_G) : mj_ce cA loc f g (a, q) = .inl (cA t, n, .inl (fun j => f a q j)) := by
  unfold mj_ce
  dsimp only
  rw [hkd]
  rfl
theorem mj_ce2 {a q u n : Nat} (hkd : mj_kd mj_Y a = (2, u, n)) (f : mj_F) (g : mj_G) : mj_ce cA loc f g (a, q) = .inl (cA (10 + u), n, .inr (.inr (.inr (.inr (fun j => (g a q j).map loc))))) := by
  unfold mj_ce
  dsimp only
  rw [hkd]
  rfl
theorem mj_qcl {a u n : Nat} (hkd : mj_kd mj_Y a = (2, u, n)) : ∃ t0 : Nat, ∃ (C : String) (T : u_T) (N : Nat), mj_cl[u]? = some (C, T, N) ∧ (mj_tyl cA)[t0]? = some (cA (10 + u), .object C) := by
  have h := mj_kds_u a (mj_kd_lt (by rw [hkd]; exact Nat.le_of_ble_eq_true rfl)) (by rw [hkd])
  rw [hkd] at h
  rcases h with h | h
  · have h : u = 3 := h
    subst h
    exact ⟨2, mj_R3, mj_T3, 3, rfl, rfl⟩
  · have h : u = 4 := h
    subst h
    exact ⟨3, mj_R4, mj_T4, 3, rfl, rfl⟩
theorem mj_iald {j : Int32} {a q z : Nat} {r : List mj_V} (hA : mj_At D cA A el X J mm p R s m args meth c L0 Lf) (hk : mj_pc mm k = some pc0) (hd : decode J.2.1 pc0 = .ok (.iaload, 1)) (hn : mj_pc mm (k + 1) = some (pc0 + 1)) (h1 : mj_isI mj_Y a = true) (h2 : mj_ix j (mj_len mj_Y X a) = some z) (h : mj_Sim D cA A el mm p l e R s m args below meth c Q L0 loc0 (k + 1) ls (.inl (mj_rd mj_Y X σ.2.1 a q z) :: r) σ) : mj_Sim D cA A el mm p l e R s m args below meth c Q L0 loc0 k ls (.inl j :: .inr (a, q) :: r) σ := by
  intro pc H locs cells slots loc lj hpc hI
  cases hk.symm.trans hpc
  have htl : ∀ u ∈ r, mj_lv σ.1 u := fun u hu => hI.tl u (List.mem_cons_of_mem _ hu)
  have hlv := hI.tl _ List.mem_cons_self
  have hgo := h _ _ _ _ _ _ _ hn (hI.stk (mj_lvc (mj_lvi _ _) htl))
  obtain ⟨hin, hz⟩ := mj_ix_in h2
  subst hz
  rcases hkd : mj_kd mj_Y a with ⟨s0, u, n⟩
  have hlt : s0 ≤ 4 ∧ (s0 = 1 ∧ u = 0 ∨ s0 = 3 ∨ s0 = 4) := by
    unfold mj_isI at h1
    rw [hkd] at h1
    try dsimp only at h1
    split at h1
    · rename_i g; cases g; exact ⟨by decide, Or.inl ⟨rfl, rfl⟩⟩
    · rename_i g; cases g; exact ⟨by decide, Or.inr (Or.inl rfl)⟩
    · rename_i g; cases g; exact ⟨by decide, Or.inr (Or.inr rfl)⟩
    · cases h1
  have hl27 : a < 27 := mj_kd_lt (by rw [hkd]; exact Nat.le_trans hlt.1 (by decide))
  unfold mj_len at hin
  unfold mj_rd at hgo
  rw [hkd] at hin hgo
  rcases hlt.2 with ⟨rfl, rfl⟩ | rfl | rfl
  · obtain ⟨q0, -, hq⟩ := mj_arr (cA := cA) (loc := loc) hkd (mj_live hlv (by rw [hkd]; exact Nat.le_of_ble_eq_true rfl))
    exact va_iald hA.1 hA.2.1 hA.2.2.2.2.2.1.1 hI.1.1 q0 0 hq rfl hin hd hgo
  · have e := mj_kds_3 a hl27 (by rw [hkd])
    subst e
    have hq : q = 0 := by
      rcases hlv with g | g
      · exact absurd (hI.1.2.2.1 _ g) (by show ¬ (mj_kd mj_Y 23).1 ≤ 2; rw [hkd]; exact (by decide : ¬ 3 ≤ 2))
      · exact g.1
    subst hq
    have hX := hA.2.2.2.2.2.1.2.2.2.2.2.2
    have hb : el 23 < s.heap.size := by obtain ⟨scr, g1, -⟩ := hX.1; exact (Array.getElem?_eq_some_iff.mp g1).1
    have hlo : loc (23, 0) = el 23 := hI.1.2.2.2.2 23 (by rw [hkd]; exact Nat.le_of_ble_eq_true rfl) (by rw [hkd]; exact Nat.le_of_ble_eq_true rfl)
    show W p l e R s m args below meth c H locs cells slots Q (F0 m pc0 lj (.int j :: .ref (loc (23, 0)) :: r.map (mj_vc loc)))
    rw [hlo]
    exact va_sld hA.1 hA.2.1 hX.1 hb hX.2 hI.2.1 hin hd hgo
  · have hq : q = 0 := by
      rcases hlv with g | g
      · exact absurd (hI.1.2.2.1 _ g) (by show ¬ (mj_kd mj_Y a).1 ≤ 2; rw [hkd]; exact (by decide : ¬ (4 ≤ 2)))
      · exact g.1
    subst hq
    have hT := hA.2.2.2.2.2.1.2.2.2.2.2.1 a u n hkd
    have hlo : loc (a, 0) = el a := hI.1.2.2.2.2 a (by rw [hkd]; exact (by decide : 3 ≤ 4)) (by rw [hkd]; exact Nat.le_refl _)
    show W p l e R s m args below meth c H locs cells slots Q (F0 m pc0 lj (.int j :: .ref (loc (a, 0)) :: r.map (mj_vc loc)))
    rw [hlo]
    exact va_ti hA.1 hA.2.1 hT hI.2.1 hin rfl hd hgo
theorem mj_isA_of {t a : Nat} (h : mj_isA mj_Y t a = true) : ∃ n, mj_kd mj_Y a = (1, t, n) := by
  unfold mj_isA at h
  rcases hkd : mj_kd mj_Y a with ⟨s0, u, n⟩
  rw [hkd] at h
  try dsimp only at h
  split at h
  · rename_i g; cases g
    exact ⟨n, by rw [of_decide_eq_true h]⟩
  · cases h
theorem mj_isQ_of {a : Nat} (h : mj_isQ mj_Y a = true) : ∃ u n, mj_kd mj_Y a = (2, u, n) := by
  unfold mj_isQ at h
  rcases hkd : mj_kd mj_Y a with ⟨s0, u, n⟩
  rw [hkd] at h
  try dsimp only at h
  split at h
  · rename_i g; cases g
    exact ⟨u, n, rfl⟩
  · cases h
theorem mj_cald {j : Int32} {a q z : Nat} {r : List mj_V} (hA : mj_At D cA A el X J mm p R s m args meth c L0 Lf) (hk : mj_pc mm k = some pc0) (hd : decode J.2.1 pc0 = .ok (.caload, 1)) (hn : mj_pc mm (k + 1) = some (pc0 + 1)) (h1 : mj_isA mj_Y 2 a = true) (h2 : mj_ix j (mj_len mj_Y X a) = some z) (h : mj_Sim D cA A el mm p l e R s m args below meth c Q L0 loc0 (k + 1) ls (.inl (σ.2.1 a q z) :: r) σ) : mj_Sim D cA A el mm p l e R s m args below meth c Q L0 loc0 k ls (.inl j :: .inr (a, q) :: r) σ := by
  intro pc H locs cells slots loc lj hpc hI
  cases hk.symm.trans hpc
  have htl : ∀ u ∈ r, mj_lv σ.1 u := fun u hu => hI.tl u (List.mem_cons_of_mem _ hu)
  have hlv := hI.tl _ List.mem_cons_self
  have hgo := h _ _ _ _ _ _ _ hn (hI.stk (mj_lvc (mj_lvi _ _) htl))
  obtain ⟨hin, hz⟩ := mj_ix_in h2
  subst hz
  obtain ⟨n, hkd⟩ := mj_isA_of h1
  unfold mj_len at hin
  rw [hkd] at hin
  obtain ⟨q0, -, hq⟩ := mj_arr (cA := cA) (loc := loc) hkd (mj_live hlv (by rw [hkd]; exact (by decide : 1 ≤ 2)))
  exact va_cald hA.1 hA.2.1 hA.2.2.2.2.2.1.1 hI.1.1 q0 1 hq rfl hin hd hgo
theorem mj_aald {j : Int32} {a q z : Nat} {y : Nat × Nat} {r : List mj_V} (hA : mj_At D cA A el X J mm p R s m args meth c L0 Lf) (hk : mj_pc mm k = some pc0) (hd : decode J.2.1 pc0 = .ok (.aaload, 1)) (hn : mj_pc mm (k + 1) = some (pc0 + 1)) (h1 : mj_isQ mj_Y a = true) (h2 : mj_ix j (mj_len mj_Y X a) = some z) (h3 : σ.2.2 a q z = some y) (h : mj_Sim D cA A el mm p l e R s m args below meth c Q L0 loc0 (k + 1) ls (.inr y :: r) σ) : mj_Sim D cA A el mm p l e R s m args below meth c Q L0 loc0 k ls (.inl j :: .inr (a, q) :: r) σ := by
  intro pc H locs cells slots loc lj hpc hI
  cases hk.symm.trans hpc
  have htl : ∀ u ∈ r, mj_lv σ.1 u := fun u hu => hI.tl u (List.mem_cons_of_mem _ hu)
  have hlv := hI.tl _ List.mem_cons_self
  obtain ⟨u, n, hkd⟩ := mj_isQ_of h1
  have hmem := mj_live hlv (by rw [hkd]; exact (by decide : 2 ≤ 2))
  have hgo := h _ _ _ _ _ _ _ hn (hI.stk (mj_lvc (hI.1.2.2.2.1 _ hmem _ _ h3) htl))
  obtain ⟨hin, hz⟩ := mj_ix_in h2
  subst hz
  unfold mj_len at hin
  rw [hkd] at hin
  obtain ⟨q0, -, hq⟩ := mj_qrr (cA := cA) (loc := loc) hkd hmem
  obtain ⟨t0, C, T, N, -, ht⟩ := mj_qcl (cA := cA) hkd
  refine va_aldq hA.1 hA.2.1 hA.2.2.2.2.2.1.1 hI.1.1 q0 t0 hq ht hin hd ?_
  rw [h3]
  exact hgo
theorem mj_iast {x j : Int32} {a q z : Nat} {r : List mj_V} (hA : mj_At D cA A el X J mm p R s m args meth c L0 Lf) (hk : mj_pc mm k = some pc0) (hd : decode J.2.1 pc0 = .ok (.iastore, 1)) (hn : mj_pc mm (k + 1) = some (pc0 + 1)) (h1 : mj_isA mj_Y 0 a = true) (h2 : mj_ix j (mj_len mj_Y X a) = some z) (h : mj_Sim D cA A el mm p l e R s m args below meth c Q L0 loc0 (k + 1) ls r (σ.1, mj_u σ.2.1 a q z x, σ.2.2)) : mj_Sim D cA A el mm p l e R s m args below meth c Q L0 loc0 k ls (.inl x :: .inl j :: .inr (a, q) :: r) σ := by
  intro pc H locs cells slots loc lj hpc hI
  cases hk.symm.trans hpc
  have htl : ∀ u ∈ r, mj_lv σ.1 u := fun u hu => hI.tl u (List.mem_cons_of_mem _ (List.mem_cons_of_mem _ hu))
  have hlv := hI.tl _ (List.mem_cons_of_mem _ List.mem_cons_self)
  obtain ⟨hin, hz⟩ := mj_ix_in h2
  subst hz
  obtain ⟨n, hkd⟩ := mj_isA_of h1
  unfold mj_len at hin
  rw [hkd] at hin
  obtain ⟨q0, hq1, hq⟩ := mj_arr (cA := cA) (loc := loc) hkd (mj_live hlv (by rw [hkd]; exact (by decide : 1 ≤ 2)))
  refine va_iast hA.1 hA.2.1 hA.2.2.2.2.2.1.1 hI.1.1 hI.1.2.1 hI.2.1 q0 0 hq rfl hin hd (fun H1 locs1 hP hD hS => ?_)
  have hws : (mj_ws cA loc σ).set q0 (loc (a, q), .inl (cA 0, n, .inl (upd (fun j => σ.2.1 a q j) j.toNatClampNeg x))) = mj_ws cA loc (σ.1, mj_u σ.2.1 a q j.toNatClampNeg x, σ.2.2) := by
    refine mj_ws_set hI.1.2.1 hq1 ?_ (fun y hy => mj_ce_congr (fun s => by unfold mj_u; rw [if_neg (mj_ne hy s _)]) (fun _ => rfl))
    rw [mj_ce1 hkd]
    congr 4
    funext s
    unfold upd mj_u
    simp
  rw [hws] at hP hD
  exact h _ _ _ _ _ _ _ hn (hI.put (hI.1.put hP hD hI.1.2.2.2.1) hS htl)
theorem mj_cast {x j : Int32} {a q z : Nat} {r : List mj_V} (hx : mj_chk 2 x = true) (hA : mj_At D cA A el X J mm p R s m args meth c L0 Lf) (hk : mj_pc mm k = some pc0) (hd : decode J.2.1 pc0 = .ok (.castore, 1)) (hn : mj_pc mm (k + 1) = some (pc0 + 1)) (h1 : mj_isA mj_Y 2 a = true) (h2 : mj_ix j (mj_len mj_Y X a) = some z) (h : mj_Sim D cA A el mm p l e R s m args below meth c Q L0 loc0 (k + 1) ls r (σ.1, mj_u σ.2.1 a q z x, σ.2.2)) : mj_Sim D cA A el mm p l e R s m args below meth c Q L0 loc0 k ls (.inl x :: .inl j :: .inr (a, q) :: r) σ := by
  intro pc H locs cells slots loc lj hpc hI
  cases hk.symm.trans hpc
  have htl : ∀ u ∈ r, mj_lv σ.1 u := fun u hu => hI.tl u (List.mem_cons_of_mem _ (List.mem_cons_of_mem _ hu))
  have hlv := hI.tl _ (List.mem_cons_of_mem _ List.mem_cons_self)
  obtain ⟨hin, hz⟩ := mj_ix_in h2
  subst hz
  obtain ⟨n, hkd⟩ := mj_isA_of h1
  unfold mj_len at hin
  rw [hkd] at hin
  obtain ⟨q0, hq1, hq⟩ := mj_arr (cA := cA) (loc := loc) hkd (mj_live hlv (by rw [hkd]; exact (by decide : 1 ≤ 2)))
  refine va_cast hA.1 hA.2.1 hA.2.2.2.2.2.1.1 hI.1.1 hI.1.2.1 hI.2.1 q0 1 hq rfl hin hd (fun H1 locs1 hP hD hS => ?_)
  have hc : vp_nar .char x = x := by
    have g := (mj_narrow (c := 2) (t := .char) rfl (by decide) hx).1
    unfold vp_nar
    rw [g]
  rw [hc] at hP hD
  have hws : (mj_ws cA loc σ).set q0 (loc (a, q), .inl (cA 2, n, .inl (upd (fun j => σ.2.1 a q j) j.toNatClampNeg x))) = mj_ws cA loc (σ.1, mj_u σ.2.1 a q j.toNatClampNeg x, σ.2.2) := by
    refine mj_ws_set hI.1.2.1 hq1 ?_ (fun y hy => mj_ce_congr (fun s => by unfold mj_u; rw [if_neg (mj_ne hy s _)]) (fun _ => rfl))
    rw [mj_ce1 hkd]
    congr 4
    funext s
    unfold upd mj_u
    simp
  rw [hws] at hP hD
  exact h _ _ _ _ _ _ _ hn (hI.put (hI.1.put hP hD hI.1.2.2.2.1) hS htl)
theorem mj_aast {j : Int32} {a q z : Nat} {y : Nat × Nat} {r : List mj_V} (hA : mj_At D cA A el X J mm p R s m args meth c L0 Lf) (hk : mj_pc mm k = some pc0) (hd : decode J.2.1 pc0 = .ok (.aastore, 1)) (hn : mj_pc mm (k + 1) = some (pc0 + 1)) (h1 : mj_isQ mj_Y a = true) (h3 : y.1 = (mj_kd mj_Y a).2.1) (h2 : mj_ix j (mj_len mj_Y X a) = some z) (h : mj_Sim D cA A el mm p l e R s m args below meth c Q L0 loc0 (k + 1) ls r (σ.1, σ.2.1, mj_w σ.2.2 a q z (some y))) : mj_Sim D cA A el mm p l e R s m args below meth c Q L0 loc0 k ls (.inr y :: .inl j :: .inr (a, q) :: r) σ := by
  intro pc H locs cells slots loc lj hpc hI
  cases hk.symm.trans hpc
  have htl : ∀ u ∈ r, mj_lv σ.1 u := fun u hu => hI.tl u (List.mem_cons_of_mem _ (List.mem_cons_of_mem _ hu))
  have hlv := hI.tl _ (List.mem_cons_of_mem _ List.mem_cons_self)
  have hly := hI.lv _ List.mem_cons_self
  obtain ⟨u, n, hkd⟩ := mj_isQ_of h1
  have hmem := mj_live hlv (by rw [hkd]; exact (by decide : 2 ≤ 2))
  obtain ⟨hin, hz⟩ := mj_ix_in h2
  subst hz
  unfold mj_len at hin
  rw [hkd] at hin h3
  obtain ⟨q0, hq1, hq⟩ := mj_qrr (cA := cA) (loc := loc) hkd hmem
  obtain ⟨t0, C, T, N, hcl, ht⟩ := mj_qcl (cA := cA) hkd
  obtain ⟨ty, hC⟩ := mj_cls hcl
  obtain ⟨y1, y2⟩ := y
  have h3 : y1 = u := h3
  subst h3
  have hymem := mj_live hly (by rw [hC.2.2.2.2.1]; exact Nat.zero_le _)
  obtain ⟨qk, -, hqk⟩ := mj_obj (cA := cA) (loc := loc) hC hymem
  refine va_astq hA.1 hA.2.1 hA.2.2.2.2.2.1.1 hI.1.1 hI.1.2.1 hI.2.1 q0 t0 qk y1 hq ht hqk hcl hin hd (fun H1 locs1 hP hD hS => ?_)
  have hws : (mj_ws cA loc σ).set q0 (loc (a, q), .inl (cA (10 + y1), n, .inr (.inr (.inr (.inr (va_up (fun j => (σ.2.2 a q j).map loc) j.toNatClampNeg (some (loc (y1, y2))))))))) = mj_ws cA loc (σ.1, σ.2.1, mj_w σ.2.2 a q j.toNatClampNeg (some (y1, y2))) := by
    refine mj_ws_set hI.1.2.1 hq1 ?_ (fun x hx => mj_ce_congr (fun _ => rfl) (fun s => by unfold mj_w; rw [if_neg (mj_ne hx s _)]))
    rw [mj_ce2 hkd]
    congr 7
    funext s
    unfold va_up mj_w
    by_cases hs : s = j.toNatClampNeg
    · simp [hs]
    · simp [hs]
  rw [hws] at hP hD
  refine h _ _ _ _ _ _ _ hn (hI.put (hI.1.put hP hD (fun x hx s z hz => ?_)) hS htl)
  unfold mj_w at hz
  split at hz
  · cases hz
    exact Or.inl hymem
  · exact hI.1.2.2.2.1 x hx s z hz
theorem mj_gets {i a pos : Nat} {q : Nat × String × String} (hA : mj_At D cA A el X J mm p R s m args meth c L0 Lf) (hk : mj_pc mm k = some pc0) (hd : decode J.2.1 pc0 = .ok (.getstatic i, 3)) (hn : mj_pc mm (k + 1) = some (pc0 + 3)) (hq : q ∈ mj_ext) (hqa : q.1 = a) (hw : lw_tbl[pos]? = some (Jvm.Cond.fieldLink J.1.cls i q.2.1 q.2.2 "[I") ∨ lw_tbl[pos]? = some (Jvm.Cond.fieldLinkNest J.1.cls i q.2.1 q.2.2 "[I" mj_host)) (h : mj_Sim D cA A el mm p l e R s m args below meth c Q L0 loc0 (k + 1) ls (.inr (a, 0) :: st) σ) : mj_Sim D cA A el mm p l e R s m args below meth c Q L0 loc0 k ls st σ := by
  intro pc H locs cells slots loc lj hpc hI
  cases hk.symm.trans hpc
  have h4 : (mj_kd mj_Y a).1 = 4 := by
    rw [← hqa]
    rcases List.mem_cons.mp hq with rfl | hq
    · decide
    · rcases List.mem_cons.mp hq with rfl | hq
      · decide
      · rw [List.mem_singleton.mp hq]; decide
  have hlv : mj_lv σ.1 (.inr (a, 0)) := Or.inr ⟨rfl, by rw [h4]; decide, by rw [h4]; exact Nat.le_refl _⟩
  have hgo := h _ _ _ _ _ _ _ hn (hI.stk (mj_lvc hlv hI.lv))
  have hlo : loc (a, 0) = el a := hI.1.2.2.2.2 a (by rw [h4]; decide) (by rw [h4]; exact Nat.le_refl _)
  have hgo : W p l e R s m args below meth c H locs cells slots Q (F0 m (pc0 + 3) lj (.ref (loc (a, 0)) :: st.map (mj_vc loc))) := hgo
  rw [hlo] at hgo
  have hZ := hA.2.2.2.2.2.1.2.2.2.2.1 q hq
  rw [hqa] at hZ
  rcases hw with hl | hl
  · exact va_gets hA.1 hA.2.1 hZ hI.2.1 hA.2.2.2.1 (hA.2.2.2.2.1 _ (mj_gd hl rfl)) (fun _ z => z) hd hgo
  · exact va_getsN hA.1 hA.2.1 hZ hI.2.1 hA.2.2.2.1 (va_Nw.use rfl (hA.2.2.2.2.2.1.2.1 _ (mj_nd hl rfl))) (fun _ z => z) hd hgo
theorem mj_alen {a q : Nat} {r : List mj_V} (hA : mj_At D cA A el X J mm p R s m args meth c L0 Lf) (hk : mj_pc mm k = some pc0) (hd : decode J.2.1 pc0 = .ok (.arraylength, 1)) (hn : mj_pc mm (k + 1) = some (pc0 + 1)) (h3 : (mj_kd mj_Y a).1 = 3) (h : mj_Sim D cA A el mm p l e R s m args below meth c Q L0 loc0 (k + 1) ls (.inl (Int32.ofNat X.1) :: r) σ) : mj_Sim D cA A el mm p l e R s m args below meth c Q L0 loc0 k ls (.inr (a, q) :: r) σ := by
  intro pc H locs cells slots loc lj hpc hI
  cases hk.symm.trans hpc
  have hlv := hI.lv _ List.mem_cons_self
  have hgo := h _ _ _ _ _ _ _ hn (hI.stk (mj_lvc (mj_lvi _ _) hI.tl))
  have e := mj_kds_3 a (mj_kd_lt (by rw [h3]; decide)) h3
  subst e
  have hq : q = 0 := by
    rcases hlv with g | g
    · exact absurd (hI.1.2.2.1 _ g) (by show ¬ (mj_kd mj_Y 23).1 ≤ 2; rw [h3]; decide)
    · exact g.1
  subst hq
  have hX := hA.2.2.2.2.2.1.2.2.2.2.2.2
  have hb : el 23 < s.heap.size := by obtain ⟨scr, g1, -⟩ := hX.1; exact (Array.getElem?_eq_some_iff.mp g1).1
  have hlo : loc (23, 0) = el 23 := hI.1.2.2.2.2 23 (by rw [h3]; decide) (by rw [h3]; decide)
  show W p l e R s m args below meth c H locs cells slots Q (F0 m pc0 lj (.ref (loc (23, 0)) :: r.map (mj_vc loc)))
  rw [hlo]
  exact va_slen hA.1 hA.2.1 hX.1 hb hX.2 hI.2.1 hd hgo
end SND
