/-! a frame's whole run; a method's contract -/
section SND
variable {D : va_G} {cA : Nat → ClassId} {A : Nat → Prop} {el : Nat → Nat} {X : mj_X} {J : mj_J} {mm : Nat} {p : Program} {l : Launch} {e : Env} {R : Room} {s : State} {m : MethodId} {args : Array Value} {below : List Frame} {meth : Method} {c : Code} {Q : State → Prop} {L0 Lf : List (Nat × Nat)} {loc0 : Nat × Nat → Nat}
variable {ls : mj_L} {st : List mj_V} {σ : mj_H} {k pc0 : Nat} {H : Heap} {locs : List Loc} {cells slots : Nat} {loc : Nat × Nat → Nat} {lj : Array Slot}
theorem mj_pop_of : ∀ (n : Nat) (st as r : List mj_V), mj_pop n st = some (as, r) → st = as.reverse ++ r ∧ as.length = n
  | 0, st, as, r, h => by cases h; exact ⟨rfl, rfl⟩
  | n + 1, [], as, r, h => by cases h
  | n + 1, x :: st, as, r, h => by
    unfold mj_pop at h
    cases hp : mj_pop n st with
    | none => rw [hp] at h; cases h
    | some q =>
      obtain ⟨as', r'⟩ := q
      rw [hp] at h
      cases h
      obtain ⟨h1, h2⟩ := mj_pop_of n st as' r hp
      refine ⟨?_, by rw [List.length_append, h2]; rfl⟩
      rw [h1]
      simp
set_option maxHeartbeats 4000000 in
theorem mj_do_mono {en : mj_E} {d : mj_C} (hs : mj_do mj_Y X k en ls st σ = some (.inl d)) : ∃ t, d.2.2.2.1 = σ.1 ++ t := by
  obtain ⟨pc1, len, ins, a, b, cc, v, ts⟩ := en
  cases ins <;> first
    | (have hs' : (none : Option mj_R) = some (.inl d) := hs; cases hs'; done)
    | (simp only [mj_do, mj_ld, mj_st, mj_bin, mj_div, mj_call, mj_copy] at hs
       (repeat' split at hs) <;> first
         | (cases hs; done)
         | (cases hs; exact ⟨[], (List.append_nil _).symm⟩)
         | (cases hs; exact ⟨_, rfl⟩))
theorem mj_stp_ent {d : mj_R} (h : mj_stp mj_Y X mm k ls st σ = some d) : ∃ en, mj_ent mj_Y mm k = some en ∧ mj_do mj_Y X k en ls st σ = some d := by
  unfold mj_stp at h
  cases he : mj_ent mj_Y mm k with
  | none => rw [he] at h; cases h
  | some en => rw [he] at h; exact ⟨en, rfl, h⟩
theorem mj_run_grow : ∀ (n : Nat) (mm k : Nat) (ls : mj_L) (st : List mj_V) (σ : mj_H) (r : Option mj_V) (σ' : mj_H), mj_run mj_Y X n mm k ls st σ = some (r, σ') → ∃ t, σ'.1 = σ.1 ++ t := by
  intro n
  induction n with
  | zero => intro mm k ls st σ r σ' h; cases h
  | succ n ih =>
    intro mm k ls st σ r σ' h
    unfold mj_run at h
    cases hc : mj_stp mj_Y X mm k ls st σ with
    | none => rw [hc] at h; cases h
    | some d =>
      rw [hc] at h
      cases d with
      | inl d =>
        obtain ⟨en, -, h2⟩ := mj_stp_ent hc
        obtain ⟨t1, e1⟩ := mj_do_mono h2
        obtain ⟨t2, e2⟩ := ih _ _ _ _ _ _ _ h
        exact ⟨t1 ++ t2, by rw [e2, e1, List.append_assoc]⟩
      | inr d =>
        cases d with
        | inl d => cases h; exact ⟨[], (List.append_nil _).symm⟩
        | inr d =>
          dsimp only at h
          cases hr : mj_run mj_Y X n d.1 0 (mj_in mj_Y d.1 d.2.1) [] σ with
          | none => rw [hr] at h; cases h
          | some r1 =>
            rw [hr] at h
            obtain ⟨t1, e1⟩ := ih _ _ _ _ _ _ _ hr
            obtain ⟨t2, e2⟩ := ih _ _ _ _ _ _ _ h
            exact ⟨t1 ++ t2, by rw [e2, e1, List.append_assoc]⟩
theorem mj_grow_le {L L' : List (Nat × Nat)} (h : ∃ t, L' = L ++ t) : L.length ≤ L'.length ∧ mj_sl L ≤ mj_sl L' := by
  obtain ⟨t, rfl⟩ := h
  constructor
  · rw [List.length_append]; omega
  · unfold mj_sl; rw [List.map_append, List.sum_append]; omega
/-- how a frame ends -/
def mj_End (D : va_G) (cA : Nat → ClassId) (A : Nat → Prop) (el : Nat → Nat) (J : mj_J) (mm : Nat) (p : Program) (l : Launch) (e : Env) (R : Room) (s : State) (m : MethodId) (args : Array Value) (below : List Frame) (meth : Method) (c : Code) (Q : State → Prop) (L0 : List (Nat × Nat)) (loc0 : Nat × Nat → Nat) (r : Option mj_V) (σ : mj_H) : Prop :=
  ∀ (pc : Nat) (H : Heap) (locs : List Loc) (cells slots : Nat) (loc : Nat × Nat → Nat) (lj : Array Slot) (ls : mj_L), mj_Iv D cA A el mm s L0 loc0 ls r.toList σ H locs cells slots loc lj →
    ((∃ x ty, r = some (.inl x) ∧ decode J.2.1 pc = .ok (.ireturn, 1) ∧ J.2.2.1 = some ty ∧ narrow ty (.int x) = .int x) ∨ (∃ x n, r = some (.inr x) ∧ decode J.2.1 pc = .ok (.areturn, 1) ∧ J.2.2.1 = some (.object n)) ∨ (r = none ∧ decode J.2.1 pc = .ok (.return_, 1) ∧ J.2.2.1 = none)) →
    W p l e R s m args below meth c H locs cells slots Q (F0 m pc lj (r.toList.map (mj_vc loc)))
set_option maxHeartbeats 4000000 in
theorem mj_step_r {len : Nat} {ins : Instr} {a b cc : Nat} {v : Int32} {ts : List Nat} {r : Option mj_V} (hk : mj_pc mm k = some pc0) (hok : mj_okE J (mj_cd mj_Y mm) k (pc0, len, ins, a, b, cc, v, ts) = true) (hs : mj_do mj_Y X k (pc0, len, ins, a, b, cc, v, ts) ls st σ = some (.inr (.inl r))) (h : mj_End D cA A el J mm p l e R s m args below meth c Q L0 loc0 r σ) : mj_Sim D cA A el mm p l e R s m args below meth c Q L0 loc0 k ls st σ := by
  intro pc H locs cells slots loc lj hpc hI
  cases hk.symm.trans hpc
  cases ins with
  | ireturn =>
    unfold mj_okE at hok
    simp only [Bool.and_eq_true, Bool.or_eq_true, decide_eq_true_eq] at hok
    obtain ⟨hd, rfl, hrt⟩ := hok
    have hs' := hs
    simp only [mj_do] at hs'
    split at hs'
    · rename_i x
      split at hs'
      · rename_i g
        cases hs'
        rcases hrt with ⟨h1, h2⟩ | ⟨h1, rfl⟩
        · exact h _ _ _ _ _ _ _ _ hI (Or.inl ⟨x, _, rfl, hd, h1, rfl⟩)
        · exact h _ _ _ _ _ _ _ _ hI (Or.inl ⟨x, _, rfl, hd, h1, (mj_narrow (c := 1) (t := .boolean) rfl (by decide) g).1⟩)
      · cases hs'
    · cases hs'
  | areturn =>
    unfold mj_okE at hok
    simp only [Bool.and_eq_true, decide_eq_true_eq] at hok
    obtain ⟨hd, rfl, hrt⟩ := hok
    have hs' := hs
    simp only [mj_do] at hs'
    split at hs'
    · rename_i x
      cases hs'
      split at hrt
      · rename_i n hn
        exact h _ _ _ _ _ _ _ _ hI (Or.inr (Or.inl ⟨x, n, rfl, hd, hn⟩))
      · cases hrt
    · cases hs'
  | return_ =>
    unfold mj_okE at hok
    simp only [Bool.and_eq_true, decide_eq_true_eq] at hok
    obtain ⟨hd, rfl, hrt⟩ := hok
    have hs' := hs
    simp only [mj_do] at hs'
    split at hs'
    · cases hs'
      exact h _ _ _ _ _ _ _ _ hI (Or.inr (Or.inr ⟨rfl, hd, hrt⟩))
    · cases hs'
  | _ =>
    exfalso
    first
    | (have hs' : (none : Option mj_R) = some (.inr (.inl r)) := hs; cases hs'; done)
    | (simp only [mj_do, mj_ld, mj_st, mj_bin, mj_div, mj_call, mj_copy] at hs
       (repeat' split at hs) <;> (cases hs; done))
set_option maxHeartbeats 4000000 in
theorem mj_step_l {len : Nat} {ins : Instr} {a b cc : Nat} {v : Int32} {ts : List Nat} {q : Nat × List mj_V × List mj_V} (hok : mj_okE J (mj_cd mj_Y mm) k (pc0, len, ins, a, b, cc, v, ts) = true) (hs : mj_do mj_Y X k (pc0, len, ins, a, b, cc, v, ts) ls st σ = some (.inr (.inr q))) : q.1 = a ∧ st = q.2.1.reverse ++ q.2.2 ∧ q.2.1.length = b ∧ q.2.2.length ≤ 8 ∧ mj_rcv ts q.2.1 = true ∧ mj_nx (mj_cd mj_Y mm) k (pc0 + 3) = true ∧ decode J.2.1 pc0 = .ok (ins, 3) ∧
    ∃ (i sta : Nat) (K : mj_J), mj_okC J i a b cc sta ts = true ∧ mj_ms[a]? = some K ∧ ((ins = .invokevirtual i ∧ sta = 0 ∧ ¬ K.1.name = "<init>") ∨ (ins = .invokespecial i ∧ sta = 0 ∧ K.1.name = "<init>" ∧ K.2.2.1 = none) ∨ (ins = .invokestatic i ∧ sta = 1)) := by
  have hcall : ∀ q, ¬ a = 999 → mj_call k a b ts ls st σ = some (.inr (.inr q)) → q.1 = a ∧ st = q.2.1.reverse ++ q.2.2 ∧ q.2.1.length = b ∧ q.2.2.length ≤ 8 ∧ mj_rcv ts q.2.1 = true := by
    intro q h9 hq
    unfold mj_call at hq
    rw [if_neg h9] at hq
    split at hq
    · rename_i as r hp
      split at hq
      · rename_i g
        cases hq
        obtain ⟨h1, h2⟩ := mj_pop_of _ _ _ _ hp
        exact ⟨rfl, h1, h2, g.1, g.2⟩
      · cases hq
    · cases hq
  cases ins with
  | invokevirtual i =>
    unfold mj_okE at hok
    simp only [Bool.and_eq_true, decide_eq_true_eq] at hok
    obtain ⟨hd, ⟨⟨⟨⟨rfl, hn⟩, h9⟩, hC⟩, h1⟩, hK⟩ := hok
    obtain ⟨g1, g2, g3, g4, g5⟩ := hcall q h9 hs
    refine ⟨g1, g2, g3, g4, g5, hn, hd, i, 0, ?_⟩
    cases hms : mj_ms[a]? with
    | none => rw [hms] at hK; cases hK
    | some K =>
      rw [hms] at hK
      exact ⟨K, hC, rfl, Or.inl ⟨rfl, rfl, of_decide_eq_true hK⟩⟩
  | invokespecial i =>
    unfold mj_okE at hok
    simp only [Bool.and_eq_true, decide_eq_true_eq] at hok
    obtain ⟨hd, ⟨rfl, hn⟩, hw⟩ := hok
    by_cases h9 : a = 999
    · exfalso
      subst h9
      have hs' : mj_call k 999 b ts ls st σ = some (.inr (.inr q)) := hs
      unfold mj_call at hs'
      rw [if_pos rfl] at hs'
      split at hs' <;> cases hs'
    · rw [if_neg h9] at hw
      simp only [Bool.and_eq_true, decide_eq_true_eq] at hw
      obtain ⟨⟨hC, h1⟩, hK⟩ := hw
      obtain ⟨g1, g2, g3, g4, g5⟩ := hcall q h9 hs
      refine ⟨g1, g2, g3, g4, g5, hn, hd, i, 0, ?_⟩
      cases hms : mj_ms[a]? with
      | none => rw [hms] at hK; cases hK
      | some K =>
        rw [hms] at hK
        simp only [Bool.and_eq_true, decide_eq_true_eq] at hK
        exact ⟨K, hC, rfl, Or.inr (Or.inl ⟨rfl, rfl, hK⟩)⟩
  | invokestatic i =>
    unfold mj_okE at hok
    simp only [Bool.and_eq_true, decide_eq_true_eq] at hok
    obtain ⟨hd, ⟨⟨rfl, hn⟩, h9⟩, hw⟩ := hok
    by_cases h8 : a = 998
    · exfalso
      subst h8
      have hs' : mj_copy mj_Y X k ls st σ = some (.inr (.inr q)) := hs
      unfold mj_copy at hs'
      split at hs'
      · split at hs' <;> cases hs'
      · cases hs'
    · rw [if_neg h8] at hw
      have hs' : (if a = 998 then mj_copy mj_Y X k ls st σ else mj_call k a b ts ls st σ) = some (.inr (.inr q)) := hs
      rw [if_neg h8] at hs'
      obtain ⟨g1, g2, g3, g4, g5⟩ := hcall q h9 hs'
      obtain ⟨K, hms, -⟩ := mj_okC_of hw
      exact ⟨g1, g2, g3, g4, g5, hn, hd, i, 1, K, hw, hms, Or.inr (Or.inr ⟨rfl, rfl⟩)⟩
  | _ =>
    exfalso
    first
    | (have hs' : (none : Option mj_R) = some (.inr (.inr q)) := hs; cases hs'; done)
    | (simp only [mj_do, mj_ld, mj_st, mj_bin, mj_div, mj_copy] at hs
       (repeat' split at hs) <;> (cases hs; done))
end SND
def mj_FrS (D : va_G) (cA : Nat → ClassId) (A : Nat → Prop) (el : Nat → Nat) (X : mj_X) (l : Launch) (n : Nat) : Prop :=
  ∀ (mm k : Nat) (J : mj_J) (ls : mj_L) (st : List mj_V) (σ : mj_H) (r : Option mj_V) (σf : mj_H) (p : Program) (e : Env) (R : Room) (s : State) (m : MethodId) (args : Array Value) (below : List Frame) (meth : Method) (c : Code) (Q : State → Prop) (L0 : List (Nat × Nat)) (loc0 : Nat × Nat → Nat),
    mj_run mj_Y X n mm k ls st σ = some (r, σf) → mj_ms[mm]? = some J → mj_At D cA A el X J mm p R s m args meth c L0 σf.1 → mj_End D cA A el J mm p l e R s m args below meth c Q L0 loc0 r σf → mj_Sim D cA A el mm p l e R s m args below meth c Q L0 loc0 k ls st σ
theorem mj_pc_0 : ∀ m, m < 72 → mj_pc m 0 = some 0 := by decide +kernel
theorem mj_args_in {vs : List Value} (hc : ∀ v ∈ vs, v.category = 1) : ∀ (i0 i : Nat) (w : Value), vs[i]? = some w → (i0 + i, w) ∈ lv_args i0 vs := by
  induction vs with
  | nil => intro i0 i w h; cases h
  | cons v vs ih =>
    intro i0 i w h
    have h1 : ¬ v.category = 2 := by rw [hc v List.mem_cons_self]; decide
    cases i with
    | zero =>
      cases h
      exact List.mem_cons_self
    | succ i =>
      unfold lv_args
      rw [if_neg h1]
      refine List.mem_cons_of_mem _ ?_
      have := ih (fun u hu => hc u (List.mem_cons_of_mem _ hu)) (i0 + 1) i w h
      rw [show i0 + (i + 1) = i0 + 1 + i by omega]
      exact this
theorem mj_sl_len {vs : List Value} (hc : ∀ v ∈ vs, v.category = 1) : (lg_sl vs).length = vs.length := by
  induction vs with
  | nil => rfl
  | cons v vs ih =>
    have h1 : ¬ v.category = 2 := by rw [hc v List.mem_cons_self]; decide
    have h2 := ih (fun u hu => hc u (List.mem_cons_of_mem _ hu))
    unfold lg_sl at h2 ⊢
    rw [List.flatMap_cons, if_neg h1, List.length_append, h2, List.length_cons]
    simp
    omega
theorem mj_catm (loc : Nat × Nat → Nat) (as : List mj_V) : ∀ v ∈ as.map (mj_vc loc), v.category = 1 := by
  intro v hv
  obtain ⟨u, -, rfl⟩ := List.mem_map.mp hv
  exact mj_cat loc u
/-- the locals with which a method begins -/
theorem mj_lr_in {loc : Nat × Nat → Nat} {a : Nat} {as : List mj_V} (ha : as.length ≤ mj_mx mj_Y a) : mj_lr loc (mj_in mj_Y a as) ((lg_sl (as.map (mj_vc loc)) ++ List.replicate (mj_mx mj_Y a - (lg_sl (as.map (mj_vc loc))).length) Slot.unset).toArray) (mj_mx mj_Y a) := by
  have hlen := mj_sl_len (mj_catm loc as)
  rw [List.length_map] at hlen
  have hl := lv_entry (as.map (mj_vc loc)) (n := mj_mx mj_Y a) (by rw [hlen]; exact ha)
  refine ⟨hl.1, ?_, hl.2.1, fun i v hv => ?_⟩
  · unfold mj_in
    rw [List.length_append, List.length_map, List.length_replicate]
    omega
  · unfold mj_in at hv
    have hi : as[i]? = some v := by
      by_cases hlt : i < as.length
      · rw [List.getElem?_append_left (by rw [List.length_map]; exact hlt), List.getElem?_map] at hv
        cases hx : as[i]? with
        | none => rw [hx] at hv; cases hv
        | some u => rw [hx] at hv; cases hv; rfl
      · rw [List.getElem?_append_right (by rw [List.length_map]; omega)] at hv
        have := List.eq_of_mem_replicate (List.mem_of_getElem? hv)
        cases this
    have h2 := mj_args_in (mj_catm loc as) 0 i (mj_vc loc v) (by rw [List.getElem?_map, hi]; rfl)
    rw [Nat.zero_add] at h2
    exact hl.2.2 _ h2
theorem mj_in_live {L : List (Nat × Nat)} {a : Nat} {as : List mj_V} (h : ∀ v ∈ as, mj_lv L v) : ∀ v, some v ∈ mj_in mj_Y a as → mj_lv L v := by
  intro v hv
  unfold mj_in at hv
  rcases List.mem_append.mp hv with g | g
  · obtain ⟨u, hu, e⟩ := List.mem_map.mp g
    cases e
    exact h _ hu
  · have := List.eq_of_mem_replicate g
    cases this
theorem mj_ms_lt {m : Nat} {J : mj_J} (h : mj_ms[m]? = some J) : m < 72 := by
  have := (List.getElem?_eq_some_iff.mp h).1
  rw [mj_ms_len] at this
  exact this
theorem mj_ofW {l : Launch} {y : MethodName} {ws ws' : List Jvm.Cond} {rm : Jvm.Room} {Pc : Array Value → State → Prop} {Qc : Array Value → State → Outcome → State → Prop} {mc ms : Nat} {free : Addr → Prop} {cc : ByteArray} {maxL : Nat} {ret : Option FieldType}
    (hy : plainFor y = true) (hw : ws = Jvm.Cond.code y cc maxL ret :: ws')
    (body : ∀ p e s m args below meth c s₁, BodyLoose p l y (headSpec ws rm) cc maxL ret e s m args below meth c s₁ → c.maxLocals = maxL → Pc args s →
      W p l e (headSpec ws rm).room s m args below meth c s.heap [] 0 0 (MQ below Qc args s mc ms free) (entryFrame m args maxL)) : Met l y ws rm Pc Qc mc ms free := by
  refine MetFree.of_bodySF (code := cc) (maxLocals := maxL) (ret := ret) hy ?_ ?_
  · intro args s m h hn
    obtain ⟨meth, c, h1, h2, h3, h4, h5, h6, -, -⟩ := Cond.code_spec hn (atoms_spec (ws := ws) h _ (by rw [hw]; exact List.mem_cons_self))
    exact ⟨meth, c, h1, h2, h3, h4, h5, h6⟩
  · intro p e s m args below meth c s₁ B hml hP _
    have hh0 : s₁.heap = s.heap := by rw [B.state]; rfl
    obtain ⟨t, a1, o, b1, b2, b3⟩ := body p e s m args below meth c s₁ B hml hP s₁ hh0 (Stand.of_body B)
    exact ⟨t, o, a1, b1, b2, ⟨b3.1, b3.2⟩⟩
theorem mj_met_of {D : va_G} {cA : Nat → ClassId} {A : Nat → Prop} {el : Nat → Nat} {X : mj_X} {l : Launch} {n a : Nat} {K : mj_J} {as : List mj_V} {σ σ1 : mj_H} {r1 : Option mj_V} (hF : mj_FrS D cA A el X l n) (hr : mj_run mj_Y X n a 0 (mj_in mj_Y a as) [] σ = some (r1, σ1)) (hK : mj_ms[a]? = some K) (ha : ¬ a = 71) (hmx : as.length ≤ mj_mx mj_Y a) (loc : Nat × Nat → Nat) (hl : ∀ v ∈ as, mj_lv σ.1 v) : mj_Met D cA A el X l a K loc as σ r1 σ1 := by
  have hg := mj_grow_le (mj_run_grow _ _ _ _ _ _ _ _ hr)
  unfold mj_Met
  refine mj_ofW (cc := K.2.1) (maxL := mj_mx mj_Y a) (ret := K.2.2.1) (mj_Jw hK ha).1 rfl ?_
  intro p e s m args below meth c s₁ B hml hv
  obtain ⟨rfl, hFx, hWd, hAup⟩ := hv
  have hts := atoms_spec (ws := mj_wsm K a) B.pre
  have hAt : mj_At D cA A el X K a p (headSpec (mj_wsm K a) (mj_rm K (σ1.1.length - σ.1.length) (mj_sl σ1.1 - mj_sl σ.1))).room s m (as.map (mj_vc loc)).toArray meth c σ.1 σ1.1 := by
    refine ⟨B.exec, B.bytes, hml, findClass_of_methodNamed B.named, fun w hw => hts w (List.mem_cons_of_mem _ hw), hFx, B.notSynchronized, fun hn => (name_of_methodNamed B.named B.method).1.trans hn, ⟨Nat.le_refl _, Nat.le_refl _⟩, hAup, ?_, ?_⟩
    · show σ1.1.length ≤ (σ1.1.length - σ.1.length) + σ.1.length
      omega
    · show mj_sl σ1.1 ≤ (mj_sl σ1.1 - mj_sl σ.1) + mj_sl σ.1
      omega
  rw [lg_entry_eq]
  have hlr := mj_lr_in (loc := loc) hmx
  generalize (lg_sl (as.map (mj_vc loc)) ++ List.replicate (mj_mx mj_Y a - (lg_sl (as.map (mj_vc loc))).length) Slot.unset).toArray = lj at hlr ⊢
  refine hF a 0 K _ [] σ r1 σ1 p e _ s m _ below meth c _ σ.1 loc hr hK hAt ?_ 0 s.heap [] 0 0 loc lj (mj_pc_0 a (mj_ms_lt hK)) ⟨hWd, va_S.rf, hlr, mj_in_live hl, (fun v hv => by cases hv), ⟨by omega, by omega⟩, fun q hq => ⟨hq, rfl⟩⟩
  intro pc H locs cells slots loc' lj' ls' hI hend
  obtain ⟨c1, c2⟩ := hI.2.2.2.2.2.1
  have e1 : σ1.1.length - σ.1.length = cells := by omega
  have e2 : mj_sl σ1.1 - mj_sl σ.1 = slots := by omega
  rw [e1, e2]
  have hQ : ∀ t : State, t.heap = H → mj_Qc D cA A el loc σ r1 σ1 (as.map (mj_vc loc)).toArray s (.returned (r1.map (mj_vc loc'))) t := by
    intro t ht
    exact ⟨⟨loc', rfl, by rw [ht]; exact hI.1, hI.2.2.2.2.2.2, fun v hv => hI.2.2.2.2.1 v (by rw [hv]; exact List.mem_cons_self)⟩, hI.2.1.F ht⟩
  have hlk := B.notSynchronized
  rcases hend with ⟨x, ty, rfl, hd, hrt, hnr⟩ | ⟨x, nm, rfl, hd, hrt⟩ | ⟨rfl, hd, hrt⟩
  · exact W.zret B.exec B.bytes (B.returns.trans hrt) hnr (fun t ht _ => hQ t ht) hI.2.1.2.2 hd
  · exact W.aret B.exec B.bytes (B.returns.trans hrt) (Or.inl ⟨nm, rfl⟩) (Or.inr ⟨_, rfl⟩) (fun t ht _ => hQ t ht) hI.2.1.2.2 hd
  · exact W.vret B.exec B.bytes (B.returns.trans hrt) (fun t ht _ => hQ t ht) hI.2.1.2.2 hd
/-- EVERY RUN OF THE SMALL MACHINE IS ONE OF THE MACHINE -/
theorem mj_frame (D : va_G) (cA : Nat → ClassId) (A : Nat → Prop) (el : Nat → Nat) (X : mj_X) (l : Launch) : ∀ n, mj_FrS D cA A el X l n := by
  intro n
  induction n with
  | zero => intro mm k J ls st σ r σf p e R s m args below meth c Q L0 loc0 h; cases h
  | succ n ih =>
    intro mm k J ls st σ r σf p e R s m args below meth c Q L0 loc0 h hJ hA hE
    unfold mj_run at h
    cases hst : mj_stp mj_Y X mm k ls st σ with
    | none => rw [hst] at h; cases h
    | some d =>
      rw [hst] at h
      obtain ⟨en, he, hdo⟩ := mj_stp_ent hst
      obtain ⟨J', hJ', hok⟩ := mj_ok he
      cases hJ.symm.trans hJ'
      obtain ⟨pc0, len, ins, a, b, cc, v, ts⟩ := en
      have hk : mj_pc mm k = some pc0 := by
        unfold mj_pc
        have he' : (mj_cd mj_Y mm)[k]? = some (pc0, len, ins, a, b, cc, v, ts) := he
        rw [he']
        rfl
      cases d with
      | inl d =>
        have hg := mj_grow_le (mj_run_grow _ _ _ _ _ _ _ _ h)
        exact mj_step_c hA hk hok hdo hg.1 hg.2 (ih mm d.1 J d.2.1 d.2.2.1 d.2.2.2 r σf p e R s m args below meth c Q L0 loc0 h hJ hA hE)
      | inr d =>
        cases d with
        | inl r' =>
          cases h
          exact mj_step_r hk hok hdo hE
        | inr q =>
          dsimp only at h
          cases h1 : mj_run mj_Y X n q.1 0 (mj_in mj_Y q.1 q.2.1) [] σ with
          | none => rw [h1] at h; cases h
          | some r1 =>
            obtain ⟨r1, σ1⟩ := r1
            rw [h1] at h
            obtain ⟨rfl, hst2, hb, hr8, hrc, hn, hd, i, sta, K, hC, hK, hins⟩ := mj_step_l hok hdo
            obtain ⟨q1, as, rest⟩ := q
            have hst2 : st = as.reverse ++ rest := hst2
            subst hst2
            have hg := mj_grow_le (mj_run_grow _ _ _ _ _ _ _ _ h)
            have hg1 := mj_grow_le (mj_run_grow _ _ _ _ _ _ _ _ h1)
            obtain ⟨K', hK', -, ha, -, -, -, -, -, hbm⟩ := mj_okC_of hC
            exact mj_s_call hA hk hd (mj_nxt hn) hC hK hins hb hr8 hrc (fun loc hl => mj_met_of ih h1 hK ha (by rw [hb]; exact hbm) loc hl) hg1 hg.1 hg.2 (ih mm (k + 1) J ls (r1.toList ++ rest) σ1 r σf p e R s m args below meth c Q L0 loc0 h hJ hA hE)
