/-! rows: new cells, Object.<init>, arraycopy -/
section SND
variable {D : va_G} {cA : Nat → ClassId} {A : Nat → Prop} {el : Nat → Nat} {X : mj_X} {J : mj_J} {mm : Nat} {p : Program} {l : Launch} {e : Env} {R : Room} {s : State} {m : MethodId} {args : Array Value} {below : List Frame} {meth : Method} {c : Code} {Q : State → Prop} {L0 Lf : List (Nat × Nat)} {loc0 : Nat × Nat → Nat}
variable {ls : mj_L} {st : List mj_V} {σ : mj_H} {k pc0 : Nat} {H : Heap} {locs : List Loc} {cells slots : Nat} {loc : Nat × Nat → Nat} {lj : Array Slot}
def mj_up (loc : Nat × Nat → Nat) (c : Nat × Nat) (q : Nat) : Nat × Nat → Nat := fun x => if x = c then q else loc x
theorem mj_up_ne (loc : Nat × Nat → Nat) {c x : Nat × Nat} (q : Nat) (h : x ≠ c) : mj_up loc c q x = loc x := if_neg h
theorem mj_up_eq (loc : Nat × Nat → Nat) (c : Nat × Nat) (q : Nat) : mj_up loc c q c = q := if_pos rfl
theorem mj_ne_live {L : List (Nat × Nat)} {c x : Nat × Nat} (hc : c ∉ L) (hk : (mj_kd mj_Y c.1).1 ≤ 2) (h : mj_lv L (.inr x)) : x ≠ c := by
  rintro rfl
  rcases h with h | ⟨-, h, -⟩
  · exact hc h
  · omega
theorem mj_vc_up {L : List (Nat × Nat)} {c : Nat × Nat} {q : Nat} (hc : c ∉ L) (hk : (mj_kd mj_Y c.1).1 ≤ 2) {v : mj_V} (h : mj_lv L v) : mj_vc (mj_up loc c q) v = mj_vc loc v := by
  cases v with
  | inl x => rfl
  | inr x =>
    show Value.ref _ = Value.ref _
    rw [mj_up_ne loc q (mj_ne_live hc hk h)]
theorem mj_lv_more {L : List (Nat × Nat)} {c : Nat × Nat} {v : mj_V} (h : mj_lv L v) : mj_lv (L ++ [c]) v := by
  cases v with
  | inl x => trivial
  | inr x => exact h.elim (fun g => Or.inl (List.mem_append_left _ g)) Or.inr
theorem mj_ws_new {c0 : Nat × Nat} {q : Nat} {v : va_E} (hc : c0 ∉ σ.1) (hk : (mj_kd mj_Y c0.1).1 ≤ 2) (hcl : ∀ c ∈ σ.1, ∀ s r, σ.2.2 c.1 c.2 s = some r → mj_lv σ.1 (.inr r)) (hv : v = mj_ce cA (mj_up loc c0 q) (mj_z σ.2.1 c0.1 c0.2) (mj_n σ.2.2 c0.1 c0.2) c0) :
    mj_ws cA loc σ ++ [(q, v)] = mj_ws cA (mj_up loc c0 q) (σ.1 ++ [c0], mj_z σ.2.1 c0.1 c0.2, mj_n σ.2.2 c0.1 c0.2) := by
  unfold mj_ws
  rw [List.map_append]
  congr 1
  · refine List.map_congr_left (fun x hx => ?_)
    have hne : x ≠ c0 := fun e => hc (e ▸ hx)
    rw [mj_up_ne loc q hne]
    congr 1
    have e1 : mj_z σ.2.1 c0.1 c0.2 x.1 x.2 = σ.2.1 x.1 x.2 := by
      funext s
      unfold mj_z
      rw [if_neg (fun g => hne (Prod.ext g.1 g.2))]
    have e2 : ∀ s, (mj_n σ.2.2 c0.1 c0.2 x.1 x.2 s).map (mj_up loc c0 q) = (σ.2.2 x.1 x.2 s).map loc := by
      intro s
      unfold mj_n
      rw [if_neg (fun g => hne (Prod.ext g.1 g.2))]
      cases hr : σ.2.2 x.1 x.2 s with
      | none => rfl
      | some r => exact congrArg some (mj_up_ne loc q (mj_ne_live hc hk (hcl x hx s r hr)))
    unfold mj_ce
    simp only [e1, e2]
  · show [(q, v)] = [(mj_up loc c0 q c0, _)]
    rw [mj_up_eq, hv]
theorem mj_Iv.more {c0 : Nat × Nat} {q : Nat} {v : va_E} {H1 : Heap} {r : List mj_V} (hI : mj_Iv D cA A el mm s L0 loc0 ls st σ H locs cells slots loc lj) (hc : c0 ∉ σ.1) (hk : (mj_kd mj_Y c0.1).1 ≤ 2) (hr : ∀ v ∈ r, mj_lv σ.1 v)
    (hv : v = mj_ce cA (mj_up loc c0 q) (mj_z σ.2.1 c0.1 c0.2) (mj_n σ.2.2 c0.1 c0.2) c0) (hP : va_P D mj_cl (mj_ws cA loc σ ++ [(q, v)]) H1) (hD : va_D A (mj_ws cA loc σ ++ [(q, v)])) (hS : va_S A s.heap H1 locs) :
    mj_Iv D cA A el mm s L0 loc0 ls (.inr c0 :: r) (σ.1 ++ [c0], mj_z σ.2.1 c0.1 c0.2, mj_n σ.2.2 c0.1 c0.2) H1 locs (cells + 1) (slots + (mj_kd mj_Y c0.1).2.2) (mj_up loc c0 q) lj := by
  rw [mj_ws_new hc hk hI.1.2.2.2.1 hv] at hP hD
  refine ⟨⟨hP, hD, fun x hx => ?_, fun x hx s z hz => ?_, fun k h1 h2 => ?_⟩, hS, ⟨hI.2.2.1.1, hI.2.2.1.2.1, hI.2.2.1.2.2.1, fun i u hu => ?_⟩, fun u hu => mj_lv_more (hI.2.2.2.1 u hu), mj_lvc (Or.inl (List.mem_append_right _ List.mem_cons_self)) (fun u hu => mj_lv_more (hr u hu)), ?_, fun x hx => ⟨List.mem_append_left _ (hI.2.2.2.2.2.2 x hx).1, ?_⟩⟩
  · rcases List.mem_append.mp hx with g | g
    · exact hI.1.2.2.1 x g
    · rw [List.mem_singleton.mp g]; exact hk
  · show mj_lv (σ.1 ++ [c0]) (.inr z)
    have hz : mj_n σ.2.2 c0.1 c0.2 x.1 x.2 s = some z := hz
    unfold mj_n at hz
    split at hz
    · cases hz
    · rename_i g
      rcases List.mem_append.mp hx with hx | hx
      · exact mj_lv_more (hI.1.2.2.2.1 x hx s z hz)
      · rw [List.mem_singleton.mp hx] at g
        exact absurd ⟨rfl, rfl⟩ g
  · rw [mj_up_ne loc q (fun g => by rw [← g] at hk; have hk : (mj_kd mj_Y k).1 ≤ 2 := hk; omega)]
    exact hI.1.2.2.2.2 k h1 h2
  · rw [mj_vc_up hc hk (hI.2.2.2.1 u (List.mem_of_getElem? hu))]
    exact hI.2.2.1.2.2.2 i u hu
  · obtain ⟨h1, h2⟩ := hI.2.2.2.2.2.1
    constructor
    · rw [List.length_append, List.length_singleton]; omega
    · show _ = mj_sl (σ.1 ++ [c0])
      unfold mj_sl at h2 ⊢
      rw [List.map_append, List.sum_append]
      simp only [List.map_cons, List.map_nil, List.sum_cons, List.sum_nil]
      omega
  · have g := hI.2.2.2.2.2.2 x hx
    have hxe : x ≠ c0 := fun e => hc (by rw [← e]; exact g.1)
    rw [mj_up_ne loc q hxe]
    exact g.2
theorem mj_sl_one (L : List (Nat × Nat)) (c0 : Nat × Nat) : mj_sl (L ++ [c0]) = mj_sl L + (mj_kd mj_Y c0.1).2.2 := by
  unfold mj_sl
  rw [List.map_append, List.sum_append]
  simp
theorem mj_map_up {c0 : Nat × Nat} {q : Nat} {r : List mj_V} (hc : c0 ∉ σ.1) (hk : (mj_kd mj_Y c0.1).1 ≤ 2) (hr : ∀ v ∈ r, mj_lv σ.1 v) : r.map (mj_vc (mj_up loc c0 q)) = r.map (mj_vc loc) := List.map_congr_left (fun v hv => mj_vc_up hc hk (hr v hv))
theorem mj_kinf {a : Nat} {C : String} {T : u_T} {N : Nat} {ty : Nat → FieldType} (hC : mj_clP a C T N ty) : ∀ j, j < N → defaultValue (ty j) = vp_V ((List.range N).map (fun s => if mj_ft mj_Y a s = 3 then Value.null else Value.int 0)) j := by
  intro j hj
  have h := hC.2.2.1 j hj
  have e : vp_V ((List.range N).map (fun s => if mj_ft mj_Y a s = 3 then Value.null else Value.int 0)) j = if mj_ft mj_Y a j = 3 then Value.null else Value.int 0 := by
    unfold vp_V
    rw [List.getD_eq_getElem?_getD, mj_fs hj]
    rfl
  rw [e]
  unfold mj_tyk at h
  split at h
  · rename_i g _; rw [if_neg (by rw [g]; decide)]; rename_i t; rw [t]; rfl
  · rename_i g _; rw [if_neg (by rw [g]; decide)]; rename_i t; rw [t]; rfl
  · rename_i g _; rw [if_neg (by rw [g]; decide)]; rename_i t; rw [t]; rfl
  · rename_i g _; rw [if_pos g]; rename_i t; rw [t]; rfl
  · rename_i g _; rw [if_pos g]; rename_i t; rw [t]; rfl
  · cases h
theorem mj_new {i a n pos : Nat} {C : String} {T : u_T} {N : Nat} (hA : mj_At D cA A el X J mm p R s m args meth c L0 Lf) (hk : mj_pc mm k = some pc0) (hd : decode J.2.1 pc0 = .ok (.new i, 3)) (hn : mj_pc mm (k + 1) = some (pc0 + 3)) (hcl : mj_cl[a]? = some (C, T, N)) (hw : lw_tbl[pos]? = some (Jvm.Cond.classLink J.1.cls i C)) (hnew : (a, n) ∉ σ.1) (hf1 : (σ.1 ++ [(a, n)]).length ≤ Lf.length) (hf2 : mj_sl (σ.1 ++ [(a, n)]) ≤ mj_sl Lf) (h : mj_Sim D cA A el mm p l e R s m args below meth c Q L0 loc0 (k + 1) ls (.inr (a, n) :: st) (σ.1 ++ [(a, n)], mj_z σ.2.1 a n, mj_n σ.2.2 a n)) : mj_Sim D cA A el mm p l e R s m args below meth c Q L0 loc0 k ls st σ := by
  intro pc H locs cells slots loc lj hpc hI
  cases hk.symm.trans hpc
  obtain ⟨ty, hC⟩ := mj_cls hcl
  have hkd : mj_kd mj_Y a = (0, a, N) := hC.2.2.2.2.1
  have hk2 : (mj_kd mj_Y (a, n).1).1 ≤ 2 := by show (mj_kd mj_Y a).1 ≤ 2; rw [hkd]; exact Nat.zero_le _
  obtain ⟨c1, c2⟩ := hI.2.2.2.2.2.1
  rw [List.length_append, List.length_singleton] at hf1
  rw [mj_sl_one] at hf2
  have hf2 : mj_sl σ.1 + (mj_kd mj_Y a).2.2 ≤ mj_sl Lf := hf2
  rw [hkd] at hf2
  have hf2 : mj_sl σ.1 + N ≤ mj_sl Lf := hf2
  have r1 := hA.2.2.2.2.2.2.2.2.2.2.1
  have r2 := hA.2.2.2.2.2.2.2.2.2.2.2
  refine va_new (ci := a) (fs := (List.range N).map (fun s => if mj_ft mj_Y a s = 3 then Value.null else Value.int 0)) hA.1 hA.2.1 hA.2.2.2.2.1 (mj_clg hC) ty hC.2.1 hA.2.2.2.1 (hA.2.2.2.2.1 _ (mj_gd hw rfl)) (hA.2.2.2.2.1 _ (List.mem_filter.mpr ⟨hC.2.2.2.2.2.1, rfl⟩)) (hA.2.2.2.2.1 _ (List.mem_filter.mpr ⟨hC.2.2.2.2.2.2, rfl⟩)) hA.2.2.2.2.2.1.1 hI.1.1 hI.1.2.1 hI.2.1 hA.2.2.2.2.2.2.2.2.2.1 hcl (mj_kinf hC) (by omega) (by omega) hd (fun q H1 hP hD hS => ?_)
  have hv : (Sum.inr (a, (List.range N).map (fun s => if mj_ft mj_Y a s = 3 then Value.null else Value.int 0)) : va_E) = mj_ce cA (mj_up loc (a, n) q) (mj_z σ.2.1 a n) (mj_n σ.2.2 a n) (a, n) := by
    unfold mj_ce
    dsimp only
    rw [hkd]
    show _ = Sum.inr (a, List.map _ (List.range N))
    congr 2
    refine List.map_congr_left (fun s _ => ?_)
    by_cases h3 : mj_ft mj_Y a s = 3
    · rw [if_pos h3, if_pos h3]; unfold mj_n; simp [va_rf]
    · rw [if_neg h3, if_neg h3]; unfold mj_z; simp
  have hgo := h _ _ _ _ _ _ _ hn (hI.more (c0 := (a, n)) hnew hk2 hI.lv hv hP hD hS)
  have e1 : (Sum.inr (a, n) :: st).map (mj_vc (mj_up loc (a, n) q)) = Value.ref q :: st.map (mj_vc loc) := by
    rw [List.map_cons, mj_map_up hnew hk2 hI.lv]
    show Value.ref (mj_up loc (a, n) q (a, n)) :: _ = _
    rw [mj_up_eq]
  rw [e1] at hgo
  have e2 : (mj_kd mj_Y (a, n).1).2.2 = N := by show (mj_kd mj_Y a).2.2 = N; rw [hkd]
  rw [e2] at hgo
  exact hgo
theorem mj_wd_int : Jvm.Cond.arrayClass .int ∈ mj_goods := by
  refine List.mem_filter.mpr ⟨by decide +kernel, rfl⟩
theorem mj_wd_char : Jvm.Cond.arrayClass .char ∈ mj_goods := by
  refine List.mem_filter.mpr ⟨by decide +kernel, rfl⟩
theorem mj_newa {i : ArrayType} {a n t N : Nat} {z : Int32} {r : List mj_V} (hA : mj_At D cA A el X J mm p R s m args meth c L0 Lf) (hk : mj_pc mm k = some pc0) (hd : decode J.2.1 pc0 = .ok (.newarray i, 2)) (hn : mj_pc mm (k + 1) = some (pc0 + 2)) (hkd : mj_kd mj_Y a = (1, t, N)) (ht : (t = 0 ∧ i = .int) ∨ (t = 2 ∧ i = .char)) (hz : z = Int32.ofNat N) (hnew : (a, n) ∉ σ.1) (hf1 : (σ.1 ++ [(a, n)]).length ≤ Lf.length) (hf2 : mj_sl (σ.1 ++ [(a, n)]) ≤ mj_sl Lf) (h : mj_Sim D cA A el mm p l e R s m args below meth c Q L0 loc0 (k + 1) ls (.inr (a, n) :: r) (σ.1 ++ [(a, n)], mj_z σ.2.1 a n, mj_n σ.2.2 a n)) : mj_Sim D cA A el mm p l e R s m args below meth c Q L0 loc0 k ls (.inl z :: r) σ := by
  intro pc H locs cells slots loc lj hpc hI
  cases hk.symm.trans hpc
  subst hz
  have hk2 : (mj_kd mj_Y (a, n).1).1 ≤ 2 := by show (mj_kd mj_Y a).1 ≤ 2; rw [hkd]; exact (by decide : 1 ≤ 2)
  have hN : N < 3000 := by
    have g := mj_kds_n a (mj_kd_lt (by rw [hkd]; exact (by decide : 1 ≤ 8)))
    rw [hkd] at g
    exact g
  have hN0 : ¬ Int32.ofNat N < 0 := nI_pos (n := N) (by omega)
  have hN1 : (Int32.ofNat N).toNatClampNeg = N := nI_clamp (n := N) (by omega)
  obtain ⟨c1, c2⟩ := hI.2.2.2.2.2.1
  rw [List.length_append, List.length_singleton] at hf1
  rw [mj_sl_one] at hf2
  have hf2 : mj_sl σ.1 + (mj_kd mj_Y a).2.2 ≤ mj_sl Lf := hf2
  rw [hkd] at hf2
  have hf2 : mj_sl σ.1 + N ≤ mj_sl Lf := hf2
  have r1 := hA.2.2.2.2.2.2.2.2.2.2.1
  have r2 := hA.2.2.2.2.2.2.2.2.2.2.2
  have hK := hA.2.2.2.2.2.1.1
  have e2 : (mj_kd mj_Y (a, n).1).2.2 = N := by show (mj_kd mj_Y a).2.2 = N; rw [hkd]
  have e1 : ∀ q, (Sum.inr (a, n) :: r).map (mj_vc (mj_up loc (a, n) q)) = Value.ref q :: r.map (mj_vc loc) := by
    intro q
    rw [List.map_cons, mj_map_up hnew hk2 hI.tl]
    show Value.ref (mj_up loc (a, n) q (a, n)) :: _ = _
    rw [mj_up_eq]
  have hv : ∀ q, (Sum.inl (cA t, N, Sum.inl (fun _ => (0 : Int32))) : va_E) = mj_ce cA (mj_up loc (a, n) q) (mj_z σ.2.1 a n) (mj_n σ.2.2 a n) (a, n) := by
    intro q
    rw [mj_ce1 hkd]
    congr 4
    funext s
    unfold mj_z
    simp
  rcases ht with ⟨rfl, rfl⟩ | ⟨rfl, rfl⟩
  · refine va_newa (ty := .int) (atype := .int) (a0 := (N, .inl (fun _ => 0))) hA.1 hA.2.1 (hA.2.2.2.2.1 _ mj_wd_int) rfl hK hI.1.1 hI.1.2.1 hI.2.1 hA.2.2.2.2.2.2.2.2.2.1 (fun _ => rfl) hN0 hN1 (by show N * 4 ≤ 536870912; omega) (by omega) (by omega) hd (fun q cA' H1 hK1 hP hD hS => ?_)
    have hc : cA' = cA 0 := by
      have g1 : s.vm.findClass ("[" ++ FieldType.int.toString) = some cA' := (hK1.2 4 (cA', .int) rfl).2
      have g2 : s.vm.findClass ("[" ++ FieldType.int.toString) = some (cA 0) := (hK.2 0 (cA 0, .int) rfl).2
      exact Option.some.inj (g1.symm.trans g2)
    rw [hc] at hP hD
    have hgo := h _ _ _ _ _ _ _ hn (hI.more (c0 := (a, n)) hnew hk2 hI.tl (hv q) hP hD hS)
    rw [e1, e2] at hgo
    exact hgo
  · refine va_newa (ty := .char) (atype := .char) (a0 := (N, .inl (fun _ => 0))) hA.1 hA.2.1 (hA.2.2.2.2.1 _ mj_wd_char) rfl hK hI.1.1 hI.1.2.1 hI.2.1 hA.2.2.2.2.2.2.2.2.2.1 (fun _ => rfl) hN0 hN1 (by show N * 2 ≤ 536870912; omega) (by omega) (by omega) hd (fun q cA' H1 hK1 hP hD hS => ?_)
    have hc : cA' = cA 2 := by
      have g1 : s.vm.findClass ("[" ++ FieldType.char.toString) = some cA' := (hK1.2 4 (cA', .char) rfl).2
      have g2 : s.vm.findClass ("[" ++ FieldType.char.toString) = some (cA 2) := (hK.2 1 (cA 2, .char) rfl).2
      exact Option.some.inj (g1.symm.trans g2)
    rw [hc] at hP hD
    have hgo := h _ _ _ _ _ _ _ hn (hI.more (c0 := (a, n)) hnew hk2 hI.tl (hv q) hP hD hS)
    rw [e1, e2] at hgo
    exact hgo
theorem mj_newq {i a n u N pos : Nat} {C : String} {T : u_T} {N2 : Nat} {z : Int32} {r : List mj_V} (hA : mj_At D cA A el X J mm p R s m args meth c L0 Lf) (hk : mj_pc mm k = some pc0) (hd : decode J.2.1 pc0 = .ok (.anewarray i, 3)) (hn : mj_pc mm (k + 1) = some (pc0 + 3)) (hkd : mj_kd mj_Y a = (2, u, N)) (hu : u = 3 ∨ u = 4) (hcl : mj_cl[u]? = some (C, T, N2)) (hw : lw_tbl[pos]? = some (Jvm.Cond.classLink J.1.cls i C)) (hz : z = Int32.ofNat N) (hnew : (a, n) ∉ σ.1) (hf1 : (σ.1 ++ [(a, n)]).length ≤ Lf.length) (hf2 : mj_sl (σ.1 ++ [(a, n)]) ≤ mj_sl Lf) (h : mj_Sim D cA A el mm p l e R s m args below meth c Q L0 loc0 (k + 1) ls (.inr (a, n) :: r) (σ.1 ++ [(a, n)], mj_z σ.2.1 a n, mj_n σ.2.2 a n)) : mj_Sim D cA A el mm p l e R s m args below meth c Q L0 loc0 k ls (.inl z :: r) σ := by
  intro pc H locs cells slots loc lj hpc hI
  cases hk.symm.trans hpc
  subst hz
  have hk2 : (mj_kd mj_Y (a, n).1).1 ≤ 2 := by show (mj_kd mj_Y a).1 ≤ 2; rw [hkd]; exact (by decide : 2 ≤ 2)
  have hN : N < 3000 := by
    have g := mj_kds_n a (mj_kd_lt (by rw [hkd]; exact (by decide : 2 ≤ 8)))
    rw [hkd] at g
    exact g
  have hN0 : ¬ Int32.ofNat N < 0 := nI_pos (n := N) (by omega)
  have hN1 : (Int32.ofNat N).toNatClampNeg = N := nI_clamp (n := N) (by omega)
  obtain ⟨c1, c2⟩ := hI.2.2.2.2.2.1
  rw [List.length_append, List.length_singleton] at hf1
  rw [mj_sl_one] at hf2
  have hf2 : mj_sl σ.1 + (mj_kd mj_Y a).2.2 ≤ mj_sl Lf := hf2
  rw [hkd] at hf2
  have hf2 : mj_sl σ.1 + N ≤ mj_sl Lf := hf2
  have r1 := hA.2.2.2.2.2.2.2.2.2.2.1
  have r2 := hA.2.2.2.2.2.2.2.2.2.2.2
  have hK := hA.2.2.2.2.2.1.1
  have e2 : (mj_kd mj_Y (a, n).1).2.2 = N := by show (mj_kd mj_Y a).2.2 = N; rw [hkd]
  have e1 : ∀ q, (Sum.inr (a, n) :: r).map (mj_vc (mj_up loc (a, n) q)) = Value.ref q :: r.map (mj_vc loc) := by
    intro q
    rw [List.map_cons, mj_map_up hnew hk2 hI.tl]
    show Value.ref (mj_up loc (a, n) q (a, n)) :: _ = _
    rw [mj_up_eq]
  have hv : ∀ q, (Sum.inl (cA (10 + u), N, Sum.inr (Sum.inr (Sum.inr (Sum.inr (fun _ => (none : Option Nat)))))) : va_E) = mj_ce cA (mj_up loc (a, n) q) (mj_z σ.2.1 a n) (mj_n σ.2.2 a n) (a, n) := by
    intro q
    rw [mj_ce2 hkd]
    congr 7
    funext s
    unfold mj_n
    simp
  have hAO : va_AO C s := by
    rcases hu with rfl | rfl
    · cases hcl; exact hA.2.2.2.2.2.1.2.2.2.1
    · cases hcl; exact hA.2.2.2.2.2.1.2.2.1
  refine va_newq (C := C) hA.1 hA.2.1 hA.2.2.2.1 (hA.2.2.2.2.1 _ (mj_gd hw rfl)) hAO hK hI.1.1 hI.1.2.1 hI.2.1 hA.2.2.2.2.2.2.2.2.2.1 hN0 hN1 (by omega) (by omega) (by omega) hd (fun q cA' H1 hK1 hP hD hS => ?_)
  have hc : cA' = cA (10 + u) := by
    obtain ⟨_, _, -, -, -, g1⟩ := (hK1.2 4 (cA', .object C) rfl).2
    rcases hu with rfl | rfl
    · cases hcl
      obtain ⟨_, _, -, -, -, g2⟩ := (hK.2 2 (cA 13, .object "LiningLog$Scan") rfl).2
      exact Option.some.inj (g1.symm.trans g2)
    · cases hcl
      obtain ⟨_, _, -, -, -, g2⟩ := (hK.2 3 (cA 14, .object "LiningLog$State") rfl).2
      exact Option.some.inj (g1.symm.trans g2)
  rw [hc] at hP hD
  have hgo := h _ _ _ _ _ _ _ hn (hI.more (c0 := (a, n)) hnew hk2 hI.tl (hv q) hP hD hS)
  rw [e1, e2] at hgo
  exact hgo
theorem mj_wd_oi : Jvm.Cond.instanceMethod Lib.objectInit ∈ mj_goods := by
  refine List.mem_filter.mpr ⟨by decide +kernel, rfl⟩
theorem mj_wd_oc : Jvm.Cond.code Lib.objectInit ⟨#[0xb1]⟩ 1 none ∈ mj_goods := by
  refine List.mem_filter.mpr ⟨by decide +kernel, rfl⟩
theorem mj_wd_an : Jvm.Cond.native arraycopyName ∈ mj_goods := by
  refine List.mem_filter.mpr ⟨by decide +kernel, rfl⟩
theorem mj_wd_as : Jvm.Cond.static arraycopyName ∈ mj_goods := by
  refine List.mem_filter.mpr ⟨by decide +kernel, rfl⟩
theorem mj_wd_ai : Jvm.Cond.initialized "java/lang/System" ∈ mj_goods := by
  refine List.mem_filter.mpr ⟨by decide +kernel, rfl⟩
theorem mj_oini {i pos : Nat} {x : Nat × Nat} (hA : mj_At D cA A el X J mm p R s m args meth c L0 Lf) (hk : mj_pc mm k = some pc0) (hd : decode J.2.1 pc0 = .ok (.invokespecial i, 3)) (hn : mj_pc mm (k + 1) = some (pc0 + 3)) (hw : lw_tbl[pos]? = some (Jvm.Cond.methodLink J.1.cls i Lib.objectInit)) (h1 : 1 ≤ J.2.2.2.1) (h2 : 12 ≤ J.2.2.2.2.1) (h : mj_Sim D cA A el mm p l e R s m args below meth c Q L0 loc0 (k + 1) ls [] σ) : mj_Sim D cA A el mm p l e R s m args below meth c Q L0 loc0 k ls [.inr x] σ := by
  intro pc H locs cells slots loc lj hpc hI
  cases hk.symm.trans hpc
  obtain ⟨r1, r2⟩ := hA.2.2.2.2.2.2.2.2.1
  exact W.objInit (g := F0 m pc0 lj [.ref (loc x)]) (rest := []) hA.1 hA.2.1 hA.2.2.2.1 (hA.2.2.2.2.1 _ (mj_gd hw rfl)) (hA.2.2.2.2.1 _ mj_wd_oi) (hA.2.2.2.2.1 _ mj_wd_oc) rfl (hI.2.2.1.1.trans hA.2.2.1.symm) rfl hd (Nat.le_trans h1 r1) (Nat.le_trans (by exact h2) r2) (h _ _ _ _ _ _ _ hn (hI.stk (fun v hv => by cases hv)))
theorem mj_acpy {i pos : Nat} {n : Int32} {a0 q0 a1 q1 : Nat} (hA : mj_At D cA A el X J mm p R s m args meth c L0 Lf) (hk : mj_pc mm k = some pc0) (hd : decode J.2.1 pc0 = .ok (.invokestatic i, 3)) (hn : mj_pc mm (k + 1) = some (pc0 + 3)) (hw : lw_tbl[pos]? = some (Jvm.Cond.methodLink J.1.cls i arraycopyName)) (h1 : 1 ≤ J.2.2.2.1) (h2 : 18 ≤ J.2.2.2.2.1) (hk0 : mj_isA mj_Y 0 a0 = true) (hk1 : mj_isA mj_Y 0 a1 = true) (h3 : 0 ≤ n.toInt) (h4 : n.toInt ≤ (mj_len mj_Y X a0 : Int)) (h5 : n.toInt ≤ (mj_len mj_Y X a1 : Int)) (h : mj_Sim D cA A el mm p l e R s m args below meth c Q L0 loc0 (k + 1) ls [] (σ.1, mj_cp σ.2.1 a0 q0 a1 q1 n.toNatClampNeg, σ.2.2)) : mj_Sim D cA A el mm p l e R s m args below meth c Q L0 loc0 k ls [.inl n, .inl 0, .inr (a1, q1), .inl 0, .inr (a0, q0)] σ := by
  intro pc H locs cells slots loc lj hpc hI
  cases hk.symm.trans hpc
  obtain ⟨r1, r2⟩ := hA.2.2.2.2.2.2.2.2.1
  obtain ⟨n0, hkd0⟩ := mj_isA_of hk0
  obtain ⟨n1, hkd1⟩ := mj_isA_of hk1
  unfold mj_len at h4 h5
  rw [hkd0] at h4
  rw [hkd1] at h5
  have h4 : n.toInt ≤ (n0 : Int) := h4
  have h5 : n.toInt ≤ (n1 : Int) := h5
  have hl1 := hI.tl _ (List.mem_cons_of_mem _ List.mem_cons_self)
  have hl0 := hI.tl _ (List.mem_cons_of_mem _ (List.mem_cons_of_mem _ (List.mem_cons_of_mem _ List.mem_cons_self)))
  obtain ⟨p0, hp0, hq0⟩ := mj_arr (cA := cA) (loc := loc) hkd0 (mj_live hl0 (by rw [hkd0]; exact (by decide : 1 ≤ 2)))
  obtain ⟨p1, hp1, hq1⟩ := mj_arr (cA := cA) (loc := loc) hkd1 (mj_live hl1 (by rw [hkd1]; exact (by decide : 1 ≤ 2)))
  have hn0 : ¬ n < 0 := by
    intro g
    have g2 := Int32.lt_iff_toInt_lt.mp g
    have e : (0 : Int32).toInt = 0 := by decide
    omega
  have hcl : (n.toNatClampNeg : Int) = n.toInt := by
    show ((n.toInt.toNat : Nat) : Int) = n.toInt
    omega
  have z0 : (0 : Int32).toNatClampNeg = 0 := by decide
  refine va_copyi (ty := .int) (sp := 0) (dp := 0) (n := n) hA.1 hA.2.1 (hA.2.2.1.trans hI.2.2.1.1.symm) hA.2.2.2.1 (hA.2.2.2.2.1 _ (mj_gd hw rfl)) (hA.2.2.2.2.1 _ mj_wd_an) (hA.2.2.2.2.1 _ mj_wd_as) (hA.2.2.2.2.1 _ mj_wd_ai) hA.2.2.2.2.2.1.1 hI.1.1 hI.1.2.1 hI.2.1 p0 p1 0 0 hq0 hq1 rfl rfl rfl (by decide) (by decide) hn0 (by rw [z0]; omega) (by rw [z0]; omega) (fun _ _ => rfl) (Nat.le_trans h1 r1) (Nat.le_trans (by exact h2) r2) hd (fun H1 locs1 hP hD hS => ?_)
  have hws : (mj_ws cA loc σ).set p1 (loc (a1, q1), .inl (cA 0, n1, .inl (va_cpy (fun j => σ.2.1 a0 q0 j) (fun j => σ.2.1 a1 q1 j) (0 : Int32).toNatClampNeg (0 : Int32).toNatClampNeg n.toNatClampNeg))) = mj_ws cA loc (σ.1, mj_cp σ.2.1 a0 q0 a1 q1 n.toNatClampNeg, σ.2.2) := by
    refine mj_ws_set hI.1.2.1 hp1 ?_ (fun y hy => mj_ce_congr (fun s => by unfold mj_cp; rw [if_neg (fun g => hy (Prod.ext g.1 g.2.1))]) (fun _ => rfl))
    rw [mj_ce1 hkd1]
    congr 4
    funext s
    unfold va_cpy mj_cp
    rw [z0]
    simp
  rw [hws] at hP hD
  exact h _ _ _ _ _ _ _ hn (hI.put (hI.1.put hP hD hI.1.2.2.2.1) hS (fun v hv => by cases hv))
end SND
