def mj_Pc (D : va_G) (cA : Nat → ClassId) (A : Nat → Prop) (el : Nat → Nat) (X : mj_X) (loc : Nat × Nat → Nat) (σ : mj_H) : State → Prop := fun U => mj_Fx D cA A el X U U.heap ∧ mj_Wd D cA A el loc σ U.heap ∧ ∀ q, U.heap.size ≤ q → A q
def mj_Qc (D : va_G) (cA : Nat → ClassId) (A : Nat → Prop) (el : Nat → Nat) (loc : Nat × Nat → Nat) (σ : mj_H) (r : Option mj_V) (σ' : mj_H) : Array Value → State → Outcome → State → Prop := fun _ st o t => (∃ loc', o = .returned (r.map (mj_vc loc')) ∧ mj_Wd D cA A el loc' σ' t.heap ∧ (∀ q ∈ σ.1, q ∈ σ'.1 ∧ loc' q = loc q) ∧ ∀ v, r = some v → mj_lv σ'.1 v) ∧ va_F A st t
def mj_wsm (J : mj_J) (m : Nat) : List Jvm.Cond := Jvm.Cond.code J.1 J.2.1 (mj_mx mj_Y m) J.2.2.1 :: mj_goods
def mj_rm (J : mj_J) (mc ms : Nat) : Jvm.Room := { frames := J.2.2.2.1, cells := mc, slots := ms, locals := J.2.2.2.2.1 }
def mj_Met (D : va_G) (cA : Nat → ClassId) (A : Nat → Prop) (el : Nat → Nat) (X : mj_X) (l : Launch) (m : Nat) (J : mj_J) (loc : Nat × Nat → Nat) (as : List mj_V) (σ : mj_H) (r : Option mj_V) (σ' : mj_H) : Prop :=
  Met l J.1 (mj_wsm J m) (mj_rm J (σ'.1.length - σ.1.length) (mj_sl σ'.1 - mj_sl σ.1)) (va_Pc (as.map (mj_vc loc)) (mj_Pc D cA A el X loc σ)) (mj_Qc D cA A el loc σ r σ') (σ'.1.length - σ.1.length) (mj_sl σ'.1 - mj_sl σ.1) A
theorem mj_Fx.same {D : va_G} {cA : Nat → ClassId} {A : Nat → Prop} {el : Nat → Nat} {X : mj_X} {U V : State} {H : Heap} (hvm : U.vm = V.vm) (h : mj_Fx D cA A el X U H) : mj_Fx D cA A el X V H := by
  have hal : U.vm.Alike V.vm := hvm ▸ Vm.Alike.refl _
  obtain ⟨h1, h2, h3, h4, h5, h6, h7, h8⟩ := h
  refine ⟨h1.moved hal, fun w hw => ?_, h3.moved hal, h4.moved hal, fun q hq => (h5 q hq).moved hal, fun k t n hk => (h6 k t n hk).moved hal, h7.moved hal, h8⟩
  have hz := h2 w hw
  have hn := (List.mem_filter.mp hw).2
  cases w <;> first | exact va_Nw.same rfl hvm hz | cases hn
theorem mj_good_in {w : Jvm.Cond} (h : w ∈ mj_goods) : (w.onTables && w.keeps) = true ∨ ∃ ty, w = .arrayClass ty := good_of_word (List.mem_filter.mp h).2
theorem mj_goodIn {J : mj_J} {a : Nat} (h : Jvm.Cond.code J.1 J.2.1 (mj_mx mj_Y a) J.2.2.1 ∈ mj_goods) : GoodIn mj_goods (mj_wsm J a) := by
  intro w hw
  rcases List.mem_cons.mp hw with rfl | hw
  · exact ⟨h, mj_good_in h⟩
  · exact ⟨hw, mj_good_in hw⟩
theorem mj_rcv_of {k0 : Nat} {ts : List Nat} {as : List mj_V} (h : mj_rcv (k0 :: ts) as = true) : ∃ (i : Nat) (As : List mj_V), as = .inr (k0, i) :: As := by
  cases as with
  | nil => cases h
  | cons v As =>
    cases v with
    | inl x => cases h
    | inr x =>
      obtain ⟨a, i⟩ := x
      have e : a = k0 := of_decide_eq_true h
      subst e
      exact ⟨i, As, rfl⟩
section SND
variable {D : va_G} {cA : Nat → ClassId} {A : Nat → Prop} {el : Nat → Nat} {X : mj_X} {J : mj_J} {mm : Nat} {p : Program} {l : Launch} {e : Env} {R : Room} {s : State} {m : MethodId} {args : Array Value} {below : List Frame} {meth : Method} {c : Code} {Q : State → Prop} {L0 Lf : List (Nat × Nat)} {loc0 : Nat × Nat → Nat}
variable {ls : mj_L} {st : List mj_V} {σ : mj_H} {k pc0 : Nat} {H : Heap} {locs : List Loc} {cells slots : Nat} {loc : Nat × Nat → Nat} {lj : Array Slot}
theorem mj_runW {mc ms : Nat} {st0 rest : List Value} {Qa : State → Outcome → State → Prop} {pc : Nat} (hr : va_Run p l e R s m args below meth c H locs cells slots mc ms (F0 m pc lj st0) rest Qa A) (hS : va_S A s.heap H locs)
    (kk : ∀ (v : Option Value) (st₀ t : State) (H1 : Heap) (locs1 : List Loc), st₀.heap = H → Qa st₀ (.returned v) t → t.heap = H1 → (va_F A st₀ t → va_S A s.heap H1 locs1) → W p l e R s m args below meth c H1 locs1 (cells + mc) (slots + ms) Q (F0 m (pc + 3) lj (v.toList ++ rest))) : W p l e R s m args below meth c H locs cells slots Q (F0 m pc lj st0) := by
  intro T hT X
  obtain ⟨v, st₀, t, T', L, h0, X', hL, e1, e2, hq, st⟩ := hr T hT X
  obtain ⟨t2, a1, b1⟩ := kk v st₀ t T'.heap (locs ++ L) h0 hq e1.symm (fun hF => by
    obtain ⟨hz, hk⟩ := hF
    rw [h0] at hz hk
    refine ⟨Nat.le_trans hS.1 (by rw [e1]; exact hz), fun q h1 h2 => ?_, fun q hq => ?_⟩
    · rw [e1, hk q (Nat.lt_of_lt_of_le h1 hS.1) h2]
      exact hS.2.1 q h1 h2
    · rcases List.mem_append.mp hq with g | g
      · exact hS.2.2 q g
      · exact hL q g) T' rfl X'
  exact ⟨t2, st t2 a1, b1⟩
theorem mj_lk_of {own : String} {i pos : Nat} {y : MethodName} (h : mj_lk own i pos y = true) : lw_tbl[pos]? = some (Jvm.Cond.methodLink own i y) ∨ lw_tbl[pos]? = some (Jvm.Cond.methodLinkNest own i y mj_host) := by
  unfold mj_lk at h
  simp only [Bool.or_eq_true, decide_eq_true_eq] at h
  exact h
theorem mj_blind (loc : Nat × Nat → Nat) (as : List Value) (σ : mj_H) : FrameBlind (va_Pc as (mj_Pc D cA A el X loc σ)) := fun a U g mk q => ⟨q.1, mj_Fx.same (U := U) (V := U.calling g mk a) (H := U.heap) rfl q.2.1, q.2.2⟩
theorem mj_pcU {as : List mj_V} (hA : mj_At D cA A el X J mm p R s m args meth c L0 Lf) (hI : mj_Iv D cA A el mm s L0 loc0 ls st σ H locs cells slots loc lj) : ∀ U : State, U.heap = H → s.WarmedH U.vm → va_Pc (as.map (mj_vc loc)) (mj_Pc D cA A el X loc σ) (as.map (mj_vc loc)).toArray U := by
  intro U hU hW
  refine ⟨rfl, ?_, by rw [hU]; exact hI.1, fun q hq => hA.2.2.2.2.2.2.2.2.2.1 q (Nat.le_trans hI.2.1.1 (by rw [← hU]; exact hq))⟩
  rw [hU]
  exact hA.2.2.2.2.2.1.moved hW hI.2.1.2.1
theorem mj_okC_of {i a b pos sta : Nat} {ts : List Nat} (h : mj_okC J i a b pos sta ts = true) : ∃ K, mj_ms[a]? = some K ∧ mj_okT ts K.1.cls sta = true ∧ ¬ a = 71 ∧ mj_lk J.1.cls i pos K.1 = true ∧ K.2.2.2.1 + 1 ≤ J.2.2.2.1 ∧ 8 + (mj_mx mj_Y a + 11) + K.2.2.2.2.1 ≤ J.2.2.2.2.1 ∧ K.2.2.2.2.2 = sta ∧ (parseMethodDescriptor K.1.desc).map (fun d => d.parameters.length + (1 - sta)) = some b ∧ b ≤ mj_mx mj_Y a := by
  unfold mj_okC at h
  cases hK : mj_ms[a]? with
  | none => rw [hK] at h; cases h
  | some K =>
    rw [hK] at h
    simp only [Bool.and_eq_true, decide_eq_true_eq] at h
    obtain ⟨⟨⟨⟨⟨⟨⟨h1, h2⟩, h3⟩, h4⟩, h5⟩, h6⟩, h7⟩, h8⟩ := h
    exact ⟨K, rfl, h1, h2, h3, h4, h5, h6, h7, h8⟩
theorem mj_opm {α : Type} {F : α → Nat} {o : Option α} {b t : Nat} (h : o.map (fun d => F d + t) = some b) : o.map F = some (b - t) := by
  cases o with
  | none => cases h
  | some d =>
    have h : some (F d + t) = some b := h
    have h2 := Option.some.inj h
    show some _ = some _
    congr 1
    omega
/-- a call of any of the kinds -/
theorem mj_s_call {ins : Instr} {i a b pos sta : Nat} {ts : List Nat} {K : mj_J} {as rest : List mj_V} {r1 : Option mj_V} {σ1 : mj_H} (hA : mj_At D cA A el X J mm p R s m args meth c L0 Lf) (hk : mj_pc mm k = some pc0) (hd : decode J.2.1 pc0 = .ok (ins, 3)) (hn : mj_pc mm (k + 1) = some (pc0 + 3)) (hok : mj_okC J i a b pos sta ts = true) (hK : mj_ms[a]? = some K)
    (hins : (ins = .invokevirtual i ∧ sta = 0 ∧ ¬ K.1.name = "<init>") ∨ (ins = .invokespecial i ∧ sta = 0 ∧ K.1.name = "<init>" ∧ K.2.2.1 = none) ∨ (ins = .invokestatic i ∧ sta = 1)) (hb : as.length = b) (hr8 : rest.length ≤ 8) (hrc : mj_rcv ts as = true)
    (hM : ∀ loc, (∀ v ∈ as, mj_lv σ.1 v) → mj_Met D cA A el X l a K loc as σ r1 σ1) (hm : σ.1.length ≤ σ1.1.length ∧ mj_sl σ.1 ≤ mj_sl σ1.1) (hf1 : σ1.1.length ≤ Lf.length) (hf2 : mj_sl σ1.1 ≤ mj_sl Lf)
    (h : mj_Sim D cA A el mm p l e R s m args below meth c Q L0 loc0 (k + 1) ls (r1.toList ++ rest) σ1) : mj_Sim D cA A el mm p l e R s m args below meth c Q L0 loc0 k ls (as.reverse ++ rest) σ := by
  intro pc H locs cells slots loc lj hpc hI
  cases hk.symm.trans hpc
  obtain ⟨K', hK', hT, ha, hlk, hfr, hlo, hsta, hprm, hbm⟩ := mj_okC_of hok
  cases hK.symm.trans hK'
  obtain ⟨j1, j2, j3, j4, j5⟩ := mj_Jw hK ha
  have hlas : ∀ v ∈ as, mj_lv σ.1 v := fun v hv => hI.lv v (List.mem_append_left _ (List.mem_reverse.mpr hv))
  have hlrest : ∀ v ∈ rest, mj_lv σ.1 v := fun v hv => hI.lv v (List.mem_append_right _ hv)
  have hM1 := hM loc hlas
  unfold mj_Met at hM1
  obtain ⟨c1, c2⟩ := hI.2.2.2.2.2.1
  have r1' := hA.2.2.2.2.2.2.2.2.2.2.1
  have r2' := hA.2.2.2.2.2.2.2.2.2.2.2
  obtain ⟨rr1, rr2⟩ := hA.2.2.2.2.2.2.2.2.1
  have hcc : cells + (σ1.1.length - σ.1.length) ≤ R.cells ∧ slots + (mj_sl σ1.1 - mj_sl σ.1) ≤ R.slots := by
    constructor <;> omega
  have hRoom : (mj_rm K (σ1.1.length - σ.1.length) (mj_sl σ1.1 - mj_sl σ.1)).frames + 1 ≤ R.frames ∧ 8 + (mj_mx mj_Y a + 11) + (mj_rm K (σ1.1.length - σ.1.length) (mj_sl σ1.1 - mj_sl σ.1)).locals ≤ R.locals := ⟨Nat.le_trans hfr rr1, Nat.le_trans hlo rr2⟩
  have hfix : CallFix p m c J.2.1 (mj_mx mj_Y mm) s args mj_goods J.1.cls := ⟨hA.1, hA.2.1, hA.2.2.1, hA.2.2.2.1, hA.2.2.2.2.1⟩
  have hw8 : 2 * (F0 m pc0 lj ((as.reverse ++ rest).map (mj_vc loc))).monitorRoom + ((rest.map (mj_vc loc)).map fun v => v.category).sum ≤ 8 := by
    refine lv_room (rest := (as.reverse ++ rest).map (mj_vc loc)) ?_
    have e : ∀ q : List mj_V, ((q.map (mj_vc loc)).map fun v => v.category).sum = q.length := by
      intro q
      induction q with
      | nil => rfl
      | cons x q ih =>
        rw [List.map_cons, List.map_cons, List.sum_cons, ih, mj_cat, List.length_cons]
        omega
    rw [e]
    exact hr8
  have hpar := mj_opm (F := fun d : MethodDescriptor => d.parameters.length) hprm
  have hini := hA.2.2.2.2.1 _ j4
  have hrun : va_Run p l e R s m args below meth c H locs cells slots (σ1.1.length - σ.1.length) (mj_sl σ1.1 - mj_sl σ.1) (F0 m pc0 lj ((as.reverse ++ rest).map (mj_vc loc))) (rest.map (mj_vc loc)) (mj_Qc D cA A el loc σ r1 σ1 (as.map (mj_vc loc)).toArray) A := by
    rcases hins with ⟨rfl, rfl, hname⟩ | ⟨rfl, rfl, hname, hrt⟩ | ⟨rfl, rfl⟩
    · cases ts with
      | nil =>
        have hT' : false = true := hT
        cases hT'
      | cons k0 ts =>
        obtain ⟨i0, As, rfl⟩ := mj_rcv_of hrc
        have hT : (decide ((0 : Nat) = 0) && (match mj_cl[k0]? with
          | some (C', _, _) => decide (C' = K.1.cls)
          | none => false)) = true := hT
        cases hc0 : mj_cl[k0]? with
        | none => rw [hc0] at hT; simp at hT
        | some q =>
          obtain ⟨C, T, N⟩ := q
          rw [hc0] at hT
          simp only [Bool.and_eq_true, decide_eq_true_eq] at hT
          obtain ⟨-, rfl⟩ := hT
          obtain ⟨ty, hC⟩ := mj_cls hc0
          have hin := mj_live (hlas _ List.mem_cons_self) (by rw [hC.2.2.2.2.1]; exact Nat.zero_le _)
          obtain ⟨q0, -, hq⟩ := mj_obj (cA := cA) (loc := loc) hC hin
          have hrecv := va_recv hA.2.2.2.2.2.1.1 hI.1.1 hc0 hq
          rcases j5 with ⟨g, -⟩ | ⟨-, j6, j7⟩
          · rw [hsta] at g; cases g
          · have j8 := j7.resolve_left hname
            have hst : (F0 m pc0 lj (((Sum.inr (k0, i0) :: As).reverse ++ rest).map (mj_vc loc))).stack = (As.map (mj_vc loc)).reverse ++ .ref (loc (k0, i0)) :: rest.map (mj_vc loc) := by
              show ((Sum.inr (k0, i0) :: As).reverse ++ rest).map (mj_vc loc) = _
              simp [mj_vc]
            have hnl : (As.map (mj_vc loc)).length = b - 1 := by rw [List.length_map, ← hb, List.length_cons]; omega
            rcases mj_lk_of hlk with hl | hl
            · exact va_runV hfix hM1 ⟨callB_of (b - 1) hA.2.2.2.2.1 (mj_goodIn j3) rfl rfl rfl hini (hA.2.2.2.2.1 _ (mj_gd hl rfl)) ⟨j2.1, j2.2, hpar⟩ hRoom, hA.2.2.2.2.1 _ j6, hA.2.2.2.2.1 _ j8⟩ ⟨mj_blind _ _ _, hrecv, mj_pcU hA hI⟩ rfl hnl hI.2.2.1.1 hst hw8 hd hcc
            · exact va_runVN hfix hM1 ⟨va_cnB (b - 1) hA.2.2.2.2.1 (mj_goodIn j3) rfl rfl rfl (hA.2.2.2.2.2.1.2.1 _ (mj_nd hl rfl)) hini ⟨j2.1, j2.2, hpar⟩ hRoom, hA.2.2.2.2.1 _ j6, hA.2.2.2.2.1 _ j8⟩ ⟨mj_blind _ _ _, hrecv, mj_pcU hA hI⟩ rfl hnl hI.2.2.1.1 hst hw8 hd hcc
    · cases ts with
      | nil =>
        have hT' : false = true := hT
        cases hT'
      | cons k0 ts =>
        obtain ⟨i0, As, rfl⟩ := mj_rcv_of hrc
        rcases j5 with ⟨g, -⟩ | ⟨-, j6, j7⟩
        · rw [hsta] at g; cases g
        · have hst : (F0 m pc0 lj (((Sum.inr (k0, i0) :: As).reverse ++ rest).map (mj_vc loc))).stack = (As.map (mj_vc loc)).reverse ++ .ref (loc (k0, i0)) :: rest.map (mj_vc loc) := by
            show ((Sum.inr (k0, i0) :: As).reverse ++ rest).map (mj_vc loc) = _
            simp [mj_vc]
          have hnl : (As.map (mj_vc loc)).length = b - 1 := by rw [List.length_map, ← hb, List.length_cons]; omega
          have hwsm : mj_wsm K a = Jvm.Cond.code K.1 K.2.1 (mj_mx mj_Y a) none :: mj_goods := by unfold mj_wsm; rw [hrt]
          rcases mj_lk_of hlk with hl | hl
          · exact va_runI hfix hM1 ⟨callB_of (b - 1) hA.2.2.2.2.1 (mj_goodIn j3) hwsm rfl rfl hini (hA.2.2.2.2.1 _ (mj_gd hl rfl)) ⟨j2.1, j2.2, hpar⟩ hRoom, hname, hA.2.2.2.2.1 _ j6⟩ ⟨mj_blind _ _ _, mj_pcU (as := Sum.inr (k0, i0) :: As) hA hI⟩ rfl hnl hI.2.2.1.1 hst hw8 hd hcc
          · exact va_runIN hfix hM1 ⟨va_cnB (b - 1) hA.2.2.2.2.1 (mj_goodIn j3) hwsm rfl rfl (hA.2.2.2.2.2.1.2.1 _ (mj_nd hl rfl)) hini ⟨j2.1, j2.2, hpar⟩ hRoom, hname, hA.2.2.2.2.1 _ j6⟩ ⟨mj_blind _ _ _, mj_pcU (as := Sum.inr (k0, i0) :: As) hA hI⟩ rfl hnl hI.2.2.1.1 hst hw8 hd hcc
    · rcases j5 with ⟨-, j6⟩ | ⟨g, -⟩
      · have hst : (F0 m pc0 lj ((as.reverse ++ rest).map (mj_vc loc))).stack = (as.map (mj_vc loc)).reverse ++ rest.map (mj_vc loc) := by
          show (as.reverse ++ rest).map (mj_vc loc) = _
          simp
        have hnl : (as.map (mj_vc loc)).length = b := by rw [List.length_map, hb]
        rcases mj_lk_of hlk with hl | hl
        · exact va_runS hfix hM1 ⟨callB_of b hA.2.2.2.2.1 (mj_goodIn j3) rfl rfl rfl hini (hA.2.2.2.2.1 _ (mj_gd hl rfl)) ⟨j2.1, j2.2, hpar⟩ hRoom, hA.2.2.2.2.1 _ j6⟩ ⟨mj_blind _ _ _, mj_pcU hA hI⟩ rfl hnl hI.2.2.1.1 hst hw8 hd hcc
        · exact va_runSN hfix hM1 ⟨va_cnB b hA.2.2.2.2.1 (mj_goodIn j3) rfl rfl rfl (hA.2.2.2.2.2.1.2.1 _ (mj_nd hl rfl)) hini ⟨j2.1, j2.2, hpar⟩ hRoom, hA.2.2.2.2.1 _ j6, trivial⟩ ⟨mj_blind _ _ _, mj_pcU hA hI⟩ rfl hnl hI.2.2.1.1 hst hw8 hd hcc
      · exact absurd hsta g
  refine mj_runW hrun hI.2.1 (fun v st₀ t H1 locs1 h0 hq ht hS => ?_)
  obtain ⟨⟨loc', hv, hW, hex, hlr⟩, hF⟩ := hq
  rw [ht] at hW
  have hv : v = r1.map (mj_vc loc') := by injection hv
  subst hv
  have hsame : ∀ v, mj_lv σ.1 v → mj_vc loc' v = mj_vc loc v := by
    intro v hv
    cases v with
    | inl x => rfl
    | inr x =>
      show Value.ref _ = Value.ref _
      rcases hv with g | ⟨g1, g2, g3⟩
      · rw [(hex x g).2]
      · obtain ⟨x1, x2⟩ := x
        have g1 : x2 = 0 := g1
        subst g1
        rw [hW.2.2.2.2 x1 g2 g3, hI.1.2.2.2.2 x1 g2 g3]
  have hmore : ∀ v, mj_lv σ.1 v → mj_lv σ1.1 v := by
    intro v hv
    cases v with
    | inl x => trivial
    | inr x => exact hv.imp (fun g => (hex x g).1) id
  have hgo := h _ H1 locs1 (cells + (σ1.1.length - σ.1.length)) (slots + (mj_sl σ1.1 - mj_sl σ.1)) loc' lj hn ⟨hW, hS hF, ⟨hI.2.2.1.1, hI.2.2.1.2.1, hI.2.2.1.2.2.1, fun i u hu => by rw [hsame u (hI.2.2.2.1 u (List.mem_of_getElem? hu))]; exact hI.2.2.1.2.2.2 i u hu⟩, fun u hu => hmore u (hI.2.2.2.1 u hu), fun u hu => by
      rcases List.mem_append.mp hu with g | g
      · cases r1 with
        | none => cases g
        | some z => rw [List.mem_singleton.mp g]; exact hlr z rfl
      · exact hmore u (hlrest u g), ⟨by omega, by omega⟩, fun q hq => ⟨(hex q (hI.2.2.2.2.2.2 q hq).1).1, by rw [(hex q (hI.2.2.2.2.2.2 q hq).1).2]; exact (hI.2.2.2.2.2.2 q hq).2⟩⟩
  have e2 : (r1.toList ++ rest).map (mj_vc loc') = (r1.map (mj_vc loc')).toList ++ rest.map (mj_vc loc) := by
    rw [List.map_append, List.map_congr_left (fun v hv => hsame v (hlrest v hv))]
    congr 1
    cases r1 <;> rfl
  rw [e2] at hgo
  exact hgo
end SND
