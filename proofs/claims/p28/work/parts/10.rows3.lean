/-! rows: fields, arrays -/
section SND
variable {D : va_G} {cA : Nat → ClassId} {A : Nat → Prop} {el : Nat → Nat} {X : mj_X} {J : mj_J} {mm : Nat} {p : Program} {l : Launch} {e : Env} {R : Room} {s : State} {m : MethodId} {args : Array Value} {below : List Frame} {meth : Method} {c : Code} {Q : State → Prop} {L0 Lf : List (Nat × Nat)} {loc0 : Nat × Nat → Nat}
variable {ls : mj_L} {st : List mj_V} {σ : mj_H} {k pc0 : Nat} {H : Heap} {locs : List Loc} {cells slots : Nat} {loc : Nat × Nat → Nat} {lj : Array Slot}
theorem mj_fw_of {own : String} {i pos a b : Nat} (h : mj_fw own i pos a b = true) : ∃ (C : String) (T : u_T) (N : Nat), mj_cl[a]? = some (C, T, N) ∧ b < N ∧ (lw_tbl[pos]? = some (Jvm.Cond.fieldLink own i (T b).1 (T b).2.1 (T b).2.2.1) ∨ lw_tbl[pos]? = some (Jvm.Cond.fieldLinkNest own i (T b).1 (T b).2.1 (T b).2.2.1 mj_host)) := by
  unfold mj_fw at h
  cases hc : mj_cl[a]? with
  | none => rw [hc] at h; cases h
  | some r =>
    obtain ⟨C, T, N⟩ := r
    rw [hc] at h
    simp only [Bool.and_eq_true, Bool.or_eq_true, decide_eq_true_eq] at h
    exact ⟨C, T, N, rfl, h.1, h.2⟩
theorem mj_fs {n : Nat} {F : Nat → Value} {b : Nat} (hb : b < n) : ((List.range n).map F)[b]? = some (F b) := by
  rw [List.getElem?_map, List.getElem?_range hb]
  rfl
/-- a live cell of a kind that is no fixed one is one of ours -/
theorem mj_live {L : List (Nat × Nat)} {a q : Nat} (h : mj_lv L (.inr (a, q))) (h2 : (mj_kd mj_Y a).1 ≤ 2) : (a, q) ∈ L := by
  rcases h with h | ⟨-, h3, -⟩
  · exact h
  · exact absurd h3 (by show ¬ 3 ≤ (mj_kd mj_Y a).1; omega)
/-- a cell of an object, by its place -/
theorem mj_obj {a q : Nat} {C : String} {T : u_T} {N : Nat} {ty : Nat → FieldType} (hC : mj_clP a C T N ty) (h : (a, q) ∈ σ.1) : ∃ q0 : Nat, σ.1[q0]? = some (a, q) ∧ (mj_ws cA loc σ)[q0]? = some (loc (a, q), .inr (a, (List.range N).map (fun s => if mj_ft mj_Y a s = 3 then va_rf ((σ.2.2 a q s).map loc) else .int (σ.2.1 a q s)))) := by
  obtain ⟨q0, h1, h2⟩ := mj_ws_get (cA := cA) (loc := loc) h
  refine ⟨q0, h1, ?_⟩
  rw [h2]
  unfold mj_ce
  have hkd : mj_kd mj_Y a = (0, a, N) := hC.2.2.2.2.1
  dsimp only
  rw [hkd]
  rfl
/-- getfield: with any value that the cell holds -/
theorem mj_getf {i a b pos q : Nat} {r : List mj_V} {v : mj_V} (hA : mj_At D cA A el X J mm p R s m args meth c L0 Lf) (hk : mj_pc mm k = some pc0) (hd : decode J.2.1 pc0 = .ok (.getfield i, 3)) (hw : mj_fw J.1.cls i pos a b = true) (hn : mj_pc mm (k + 1) = some (pc0 + 3)) (hv : (mj_ft mj_Y a b = 3 ∧ ∃ z, σ.2.2 a q b = some z ∧ v = .inr z) ∨ (¬ mj_ft mj_Y a b = 3 ∧ v = .inl (σ.2.1 a q b))) (h : mj_Sim D cA A el mm p l e R s m args below meth c Q L0 loc0 (k + 1) ls (v :: r) σ) : mj_Sim D cA A el mm p l e R s m args below meth c Q L0 loc0 k ls (.inr (a, q) :: r) σ := by
  intro pc H locs cells slots loc lj hpc hI
  cases hk.symm.trans hpc
  obtain ⟨C, T, N, hc, hb, hl⟩ := mj_fw_of hw
  obtain ⟨ty, hC⟩ := mj_cls hc
  have hin := mj_live (hI.lv _ List.mem_cons_self) (by rw [hC.2.2.2.2.1]; exact Nat.zero_le _)
  obtain ⟨q0, -, hq⟩ := mj_obj (cA := cA) (loc := loc) hC hin
  have hlv : mj_lv σ.1 v := by
    rcases hv with ⟨-, z, hz, rfl⟩ | ⟨-, rfl⟩
    · exact hI.1.2.2.2.1 _ hin _ _ hz
    · exact trivial
  have hfs : ((List.range N).map (fun s => if mj_ft mj_Y a s = 3 then va_rf ((σ.2.2 a q s).map loc) else Value.int (σ.2.1 a q s)))[b]? = some (mj_vc loc v) := by
    rw [mj_fs hb]
    rcases hv with ⟨h3, z, hz, rfl⟩ | ⟨h3, rfl⟩
    · rw [if_pos h3, hz]; rfl
    · rw [if_neg h3]; rfl
  have hgo := h _ _ _ _ _ _ _ hn (hI.stk (mj_lvc hlv hI.tl))
  rcases hl with hl | hl
  · exact va_get (ci := a) hA.1 hA.2.1 hA.2.2.2.2.1 (mj_clg hC) hA.2.2.2.1 hA.2.2.2.2.2.1.1 hI.1.1 q0 hq hc b hb (hA.2.2.2.2.1 _ (mj_gd hl rfl)) (fun _ z => z) hfs hd hgo
  · exact va_getN (ci := a) hA.1 hA.2.1 hA.2.2.2.2.1 (mj_clg hC) hA.2.2.2.1 hA.2.2.2.2.2.1.1 hI.1.1 q0 hq hc b hb (va_Nw.use rfl (hA.2.2.2.2.2.1.2.1 _ (mj_nd hl rfl))) (fun _ z => z) hfs hd hgo
theorem mj_Wd.put {f' : mj_F} {g' : mj_G} {H1 : Heap} (h : mj_Wd D cA A el loc σ H) (hP : va_P D mj_cl (mj_ws cA loc (σ.1, f', g')) H1) (hD : va_D A (mj_ws cA loc (σ.1, f', g'))) (hg : ∀ c ∈ σ.1, ∀ s r, g' c.1 c.2 s = some r → mj_lv σ.1 (.inr r)) : mj_Wd D cA A el loc (σ.1, f', g') H1 := ⟨hP, hD, h.2.2.1, hg, h.2.2.2.2⟩
theorem mj_Iv.put {f' : mj_F} {g' : mj_G} {H1 : Heap} {locs1 : List Loc} {r : List mj_V} (hI : mj_Iv D cA A el mm s L0 loc0 ls st σ H locs cells slots loc lj) (hW : mj_Wd D cA A el loc (σ.1, f', g') H1) (hS : va_S A s.heap H1 locs1) (hr : ∀ v ∈ r, mj_lv σ.1 v) : mj_Iv D cA A el mm s L0 loc0 ls r (σ.1, f', g') H1 locs1 cells slots loc lj := ⟨hW, hS, hI.2.2.1, hI.2.2.2.1, hr, hI.2.2.2.2.2⟩
theorem mj_fset {N b : Nat} {F G : Nat → Value} {v : Value} (h1 : G b = v) (h2 : ∀ s, s ≠ b → G s = F s) : ((List.range N).map F).set b v = (List.range N).map G := by
  apply List.ext_getElem
  · simp
  · intro j g1 g2
    rw [List.getElem_set]
    by_cases hj : b = j
    · subst hj
      rw [if_pos rfl]
      simp [h1]
    · rw [if_neg hj]
      simp [h2 j (fun q => hj q.symm)]
/-- putfield -/
theorem mj_putf {i a b pos q : Nat} {r : List mj_V} {v : mj_V} {f' : mj_F} {g' : mj_G} (hA : mj_At D cA A el X J mm p R s m args meth c L0 Lf) (hk : mj_pc mm k = some pc0) (hd : decode J.2.1 pc0 = .ok (.putfield i, 3)) (hw : mj_fw J.1.cls i pos a b = true) (hf : mj_fin J.1.cls (decide (J.1.name = "<init>")) i pos a b = true) (hn : mj_pc mm (k + 1) = some (pc0 + 3)) (hv : (mj_ft mj_Y a b = 3 ∧ ∃ z, v = .inr z ∧ f' = σ.2.1 ∧ g' = mj_w σ.2.2 a q b (some z)) ∨ (¬ mj_ft mj_Y a b = 3 ∧ ∃ x, v = .inl x ∧ mj_chk (mj_ft mj_Y a b) x = true ∧ f' = mj_u σ.2.1 a q b x ∧ g' = σ.2.2)) (h : mj_Sim D cA A el mm p l e R s m args below meth c Q L0 loc0 (k + 1) ls r (σ.1, f', g')) : mj_Sim D cA A el mm p l e R s m args below meth c Q L0 loc0 k ls (v :: .inr (a, q) :: r) σ := by
  intro pc H locs cells slots loc lj hpc hI
  cases hk.symm.trans hpc
  obtain ⟨C, T, N, hc, hb, hl⟩ := mj_fw_of hw
  obtain ⟨ty, hC⟩ := mj_cls hc
  have hin := mj_live (hI.tl _ List.mem_cons_self) (by rw [hC.2.2.2.2.1]; exact Nat.zero_le _)
  obtain ⟨q0, hq1, hq⟩ := mj_obj (cA := cA) (loc := loc) hC hin
  have hlv : mj_lv σ.1 v := hI.lv _ List.mem_cons_self
  have htl : ∀ u ∈ r, mj_lv σ.1 u := fun u hu => hI.tl u (List.mem_cons_of_mem _ hu)
  have hnf : narrow (ty b) (mj_vc loc v) = mj_vc loc v ∧ fits (ty b) (mj_vc loc v) = true := by
    rcases hv with ⟨h3, z, rfl, -, -⟩ | ⟨h3, x, rfl, hx, -, -⟩
    · exact mj_narrowQ (hC.2.2.1 b hb) h3
    · exact mj_narrow (hC.2.2.1 b hb) h3 hx
  have hset : ((List.range N).map (fun s => if mj_ft mj_Y a s = 3 then va_rf ((σ.2.2 a q s).map loc) else Value.int (σ.2.1 a q s))).set b (mj_vc loc v) = (List.range N).map (fun s => if mj_ft mj_Y a s = 3 then va_rf ((g' a q s).map loc) else Value.int (f' a q s)) := by
    refine mj_fset ?_ (fun s hs => ?_)
    · rcases hv with ⟨h3, z, rfl, rfl, rfl⟩ | ⟨h3, x, rfl, hx, rfl, rfl⟩
      · rw [if_pos h3]; simp [mj_w, mj_vc, va_rf]
      · rw [if_neg h3]; simp [mj_u, mj_vc]
    · rcases hv with ⟨h3, z, rfl, rfl, rfl⟩ | ⟨h3, x, rfl, hx, rfl, rfl⟩
      · simp [mj_w, hs]
      · simp [mj_u, hs]
  have hce : (Sum.inr (a, (List.range N).map (fun s => if mj_ft mj_Y a s = 3 then va_rf ((g' a q s).map loc) else Value.int (f' a q s))) : va_E) = mj_ce cA loc f' g' (a, q) := by
    unfold mj_ce
    have hkd : mj_kd mj_Y a = (0, a, N) := hC.2.2.2.2.1
    dsimp only
    rw [hkd]
    rfl
  have hoth : ∀ x : Nat × Nat, x ≠ (a, q) → mj_ce cA loc f' g' x = mj_ce cA loc σ.2.1 σ.2.2 x := by
    intro x hx
    rcases hv with ⟨h3, z, rfl, rfl, rfl⟩ | ⟨h3, y, rfl, hy, rfl, rfl⟩
    · exact mj_ce_congr (fun _ => rfl) (fun s => by unfold mj_w; rw [if_neg (mj_ne hx s b)])
    · exact mj_ce_congr (fun s => by unfold mj_u; rw [if_neg (mj_ne hx s b)]) (fun _ => rfl)
  have hws := mj_ws_set (f' := f') (g' := g') (v := .inr (a, ((List.range N).map (fun s => if mj_ft mj_Y a s = 3 then va_rf ((σ.2.2 a q s).map loc) else Value.int (σ.2.1 a q s))).set b (mj_vc loc v))) hI.1.2.1 hq1 (by rw [hset]; exact hce) hoth
  have hcl : ∀ x ∈ σ.1, ∀ s z, g' x.1 x.2 s = some z → mj_lv σ.1 (.inr z) := by
    intro x hx s z hz
    rcases hv with ⟨h3, y, rfl, rfl, rfl⟩ | ⟨h3, y, rfl, hy, rfl, rfl⟩
    · unfold mj_w at hz
      split at hz
      · cases hz
        exact hlv
      · exact hI.1.2.2.2.1 x hx s z hz
    · exact hI.1.2.2.2.1 x hx s z hz
  have hgo : ∀ (H1 : Heap) (locs1 : List Loc), va_P D mj_cl ((mj_ws cA loc σ).set q0 (loc (a, q), .inr (a, ((List.range N).map (fun s => if mj_ft mj_Y a s = 3 then va_rf ((σ.2.2 a q s).map loc) else Value.int (σ.2.1 a q s))).set b (mj_vc loc v)))) H1 → va_D A ((mj_ws cA loc σ).set q0 (loc (a, q), .inr (a, ((List.range N).map (fun s => if mj_ft mj_Y a s = 3 then va_rf ((σ.2.2 a q s).map loc) else Value.int (σ.2.1 a q s))).set b (mj_vc loc v)))) → va_S A s.heap H1 locs1 → W p l e R s m args below meth c H1 locs1 cells slots Q (F0 m (pc0 + 3) lj (r.map (mj_vc loc))) := by
    intro H1 locs1 hP hD hS
    have hws' : (mj_ws cA loc σ).set q0 (loc (a, q), .inr (a, ((List.range N).map (fun s => if mj_ft mj_Y a s = 3 then va_rf ((σ.2.2 a q s).map loc) else Value.int (σ.2.1 a q s))).set b (mj_vc loc v))) = mj_ws cA loc (σ.1, f', g') := hws
    rw [hws'] at hP hD
    exact h _ _ _ _ _ _ _ hn (hI.put (hI.1.put hP hD hcl) hS htl)
  have hlen : b < ((List.range N).map (fun s => if mj_ft mj_Y a s = 3 then va_rf ((σ.2.2 a q s).map loc) else Value.int (σ.2.1 a q s))).length := by
    rw [List.length_map, List.length_range]; exact hb
  unfold mj_fin at hf
  rw [hc] at hf
  simp only [Bool.and_eq_true, Bool.or_eq_true, decide_eq_true_eq] at hf
  rcases hf with hf | ⟨⟨⟨hf, hini⟩, hown⟩, hl2⟩
  · rcases hl with hl | hl
    · exact va_put (ci := a) hA.1 hA.2.1 hA.2.2.2.2.1 (mj_clg hC) ty hC.2.1 hC.2.2.2.1 hA.2.2.2.1 hA.2.2.2.2.2.1.1 hI.1.1 hI.1.2.1 hI.2.1 q0 hq hc b hb (hA.2.2.2.2.1 _ (mj_gd hl rfl)) (fun _ z => z) hf (hC.2.1 b hb) hnf.1 hnf.2 hlen hd hgo
    · exact va_putN (ci := a) hA.1 hA.2.1 hA.2.2.2.2.1 (mj_clg hC) ty hC.2.1 hC.2.2.2.1 hA.2.2.2.1 hA.2.2.2.2.2.1.1 hI.1.1 hI.1.2.1 hI.2.1 q0 hq hc b hb (va_Nw.use rfl (hA.2.2.2.2.2.1.2.1 _ (mj_nd hl rfl))) (fun _ z => z) hf (hC.2.1 b hb) hnf.1 hnf.2 hlen hd hgo
  · exact va_putF (ci := a) hA.1 hA.2.1 hA.2.2.2.2.1 (mj_clg hC) ty hC.2.1 hC.2.2.2.1 hA.2.2.2.1 hA.2.2.2.2.2.1.1 hI.1.1 hI.1.2.1 hI.2.1 q0 hq hc b hb (hA.2.2.2.2.1 _ (mj_gd hl2 rfl)) (fun _ z => z) hf (hA.2.2.2.2.2.2.2.1 hini) hown (hC.2.1 b hb) hnf.1 hnf.2 hlen hd hgo
end SND
