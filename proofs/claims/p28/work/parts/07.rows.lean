/-! a row an instruction -/
def mj_At (D : va_G) (cA : Nat → ClassId) (A : Nat → Prop) (el : Nat → Nat) (X : mj_X) (J : mj_J) (mm : Nat) (p : Program) (R : Room) (s : State) (m : MethodId) (args : Array Value) (meth : Method) (c : Code) (L0 Lf : List (Nat × Nat)) : Prop :=
  p.tables.exec = Jvm.exec ∧ c.code = J.2.1 ∧ c.maxLocals = mj_mx mj_Y mm ∧ s.vm.findClass J.1.cls = some m.cls ∧ (∀ w ∈ mj_goods, w.before args s = true) ∧ mj_Fx D cA A el X s s.heap ∧ meth.locks = false ∧ (J.1.name = "<init>" → meth.name = "<init>") ∧ (J.2.2.2.1 ≤ R.frames ∧ J.2.2.2.2.1 ≤ R.locals) ∧ (∀ q, s.heap.size ≤ q → A q) ∧ Lf.length ≤ R.cells + L0.length ∧ mj_sl Lf ≤ R.slots + mj_sl L0
def mj_Iv (D : va_G) (cA : Nat → ClassId) (A : Nat → Prop) (el : Nat → Nat) (mm : Nat) (s : State) (L0 : List (Nat × Nat)) (loc0 : Nat × Nat → Nat) (ls : mj_L) (st : List mj_V) (σ : mj_H) (H : Heap) (locs : List Loc) (cells slots : Nat) (loc : Nat × Nat → Nat) (lj : Array Slot) : Prop :=
  mj_Wd D cA A el loc σ H ∧ va_S A s.heap H locs ∧ mj_lr loc ls lj (mj_mx mj_Y mm) ∧ (∀ v, some v ∈ ls → mj_lv σ.1 v) ∧ (∀ v ∈ st, mj_lv σ.1 v) ∧ (cells + L0.length = σ.1.length ∧ slots + mj_sl L0 = mj_sl σ.1) ∧ (∀ q ∈ L0, q ∈ σ.1 ∧ loc q = loc0 q)
def mj_pc (mm k : Nat) : Option Nat := ((mj_cd mj_Y mm)[k]?).map (fun e => e.1)
def mj_Sim (D : va_G) (cA : Nat → ClassId) (A : Nat → Prop) (el : Nat → Nat) (mm : Nat) (p : Program) (l : Launch) (e : Env) (R : Room) (s : State) (m : MethodId) (args : Array Value) (below : List Frame) (meth : Method) (c : Code) (Q : State → Prop) (L0 : List (Nat × Nat)) (loc0 : Nat × Nat → Nat) (k : Nat) (ls : mj_L) (st : List mj_V) (σ : mj_H) : Prop :=
  ∀ (pc : Nat) (H : Heap) (locs : List Loc) (cells slots : Nat) (loc : Nat × Nat → Nat) (lj : Array Slot), mj_pc mm k = some pc → mj_Iv D cA A el mm s L0 loc0 ls st σ H locs cells slots loc lj → W p l e R s m args below meth c H locs cells slots Q (F0 m pc lj (st.map (mj_vc loc)))
section SND
variable {D : va_G} {cA : Nat → ClassId} {A : Nat → Prop} {el : Nat → Nat} {X : mj_X} {J : mj_J} {mm : Nat} {p : Program} {l : Launch} {e : Env} {R : Room} {s : State} {m : MethodId} {args : Array Value} {below : List Frame} {meth : Method} {c : Code} {Q : State → Prop} {L0 Lf : List (Nat × Nat)} {loc0 : Nat × Nat → Nat}
variable {ls : mj_L} {st : List mj_V} {σ : mj_H} {k pc0 : Nat} {H : Heap} {locs : List Loc} {cells slots : Nat} {loc : Nat × Nat → Nat} {lj : Array Slot}
theorem mj_Iv.stk {st' : List mj_V} (h : mj_Iv D cA A el mm s L0 loc0 ls st σ H locs cells slots loc lj) (hs : ∀ v ∈ st', mj_lv σ.1 v) : mj_Iv D cA A el mm s L0 loc0 ls st' σ H locs cells slots loc lj :=
  ⟨h.1, h.2.1, h.2.2.1, h.2.2.2.1, hs, h.2.2.2.2.2⟩
theorem mj_Iv.lv (h : mj_Iv D cA A el mm s L0 loc0 ls st σ H locs cells slots loc lj) : ∀ v ∈ st, mj_lv σ.1 v := h.2.2.2.2.1
theorem mj_Iv.tl {x : mj_V} {r : List mj_V} (h : mj_Iv D cA A el mm s L0 loc0 ls (x :: r) σ H locs cells slots loc lj) : ∀ v ∈ r, mj_lv σ.1 v := fun v hv => h.lv v (List.mem_cons_of_mem _ hv)
theorem mj_lvc {L : List (Nat × Nat)} {x : mj_V} {r : List mj_V} (h1 : mj_lv L x) (h2 : ∀ v ∈ r, mj_lv L v) : ∀ v ∈ x :: r, mj_lv L v := fun v hv => (List.mem_cons.mp hv).elim (fun q => q ▸ h1) (h2 v)
theorem mj_lvi (L : List (Nat × Nat)) (x : Int32) : mj_lv L (.inl x) := trivial
theorem mj_s_iconst {n : Int} {v : Int32} (hA : mj_At D cA A el X J mm p R s m args meth c L0 Lf) (hk : mj_pc mm k = some pc0) (hd : decode J.2.1 pc0 = .ok (.iconst n, 1)) (hv : Int32.ofInt n = v) (hn : mj_pc mm (k + 1) = some (pc0 + 1)) (h : mj_Sim D cA A el mm p l e R s m args below meth c Q L0 loc0 (k + 1) ls (.inl v :: st) σ) : mj_Sim D cA A el mm p l e R s m args below meth c Q L0 loc0 k ls st σ := by
  intro pc H locs cells slots loc lj hpc hI
  cases hk.symm.trans hpc
  exact lv_iconst hA.1 hA.2.1 hd hv (h _ _ _ _ _ _ _ hn (hI.stk (mj_lvc (mj_lvi _ _) hI.lv)))
theorem mj_s_bipush {n : Int} {v : Int32} (hA : mj_At D cA A el X J mm p R s m args meth c L0 Lf) (hk : mj_pc mm k = some pc0) (hd : decode J.2.1 pc0 = .ok (.bipush n, 2)) (hv : (Int8.ofInt n).toInt32 = v) (hn : mj_pc mm (k + 1) = some (pc0 + 2)) (h : mj_Sim D cA A el mm p l e R s m args below meth c Q L0 loc0 (k + 1) ls (.inl v :: st) σ) : mj_Sim D cA A el mm p l e R s m args below meth c Q L0 loc0 k ls st σ := by
  intro pc H locs cells slots loc lj hpc hI
  cases hk.symm.trans hpc
  exact lv_bipush hA.1 hA.2.1 hd hv (h _ _ _ _ _ _ _ hn (hI.stk (mj_lvc (mj_lvi _ _) hI.lv)))
theorem mj_s_sipush {n : Int} {v : Int32} (hA : mj_At D cA A el X J mm p R s m args meth c L0 Lf) (hk : mj_pc mm k = some pc0) (hd : decode J.2.1 pc0 = .ok (.sipush n, 3)) (hv : (Int16.ofInt n).toInt32 = v) (hn : mj_pc mm (k + 1) = some (pc0 + 3)) (h : mj_Sim D cA A el mm p l e R s m args below meth c Q L0 loc0 (k + 1) ls (.inl v :: st) σ) : mj_Sim D cA A el mm p l e R s m args below meth c Q L0 loc0 k ls st σ := by
  intro pc H locs cells slots loc lj hpc hI
  cases hk.symm.trans hpc
  exact lv_sipush hA.1 hA.2.1 hd hv (h _ _ _ _ _ _ _ hn (hI.stk (mj_lvc (mj_lvi _ _) hI.lv)))
theorem mj_s_ldc {i pos : Nat} {v : Int32} (hA : mj_At D cA A el X J mm p R s m args meth c L0 Lf) (hk : mj_pc mm k = some pc0) (hd : decode J.2.1 pc0 = .ok (.ldc i, 2)) (hv : lw_tbl[pos]? = some (Jvm.Cond.constant J.1.cls i v)) (hn : mj_pc mm (k + 1) = some (pc0 + 2)) (h : mj_Sim D cA A el mm p l e R s m args below meth c Q L0 loc0 (k + 1) ls (.inl v :: st) σ) : mj_Sim D cA A el mm p l e R s m args below meth c Q L0 loc0 k ls st σ := by
  intro pc H locs cells slots loc lj hpc hI
  cases hk.symm.trans hpc
  exact lv_ldc hA.1 hA.2.1 hA.2.2.2.1 (hA.2.2.2.2.1 _ (mj_gd hv rfl)) hd (h _ _ _ _ _ _ _ hn (hI.stk (mj_lvc (mj_lvi _ _) hI.lv)))
theorem mj_s_ld {ins : Instr} {len i : Nat} {isI : Bool} {k' : Nat} {ls' : mj_L} {st' : List mj_V} {σ' : mj_H} (hA : mj_At D cA A el X J mm p R s m args meth c L0 Lf) (hk : mj_pc mm k = some pc0) (hd : decode J.2.1 pc0 = .ok (ins, len))
    (hi : (isI = true ∧ ((∃ q : Fin 4, (q : Nat) = i ∧ ins = .iload_n q ∧ len = 1) ∨ (ins = .iload i ∧ len = 2))) ∨ (isI = false ∧ ((∃ q : Fin 4, (q : Nat) = i ∧ ins = .aload_n q ∧ len = 1) ∨ (ins = .aload i ∧ len = 2)))) (hn : mj_pc mm (k + 1) = some (pc0 + len)) (hs : mj_ld k ls st σ isI i = some (.inl (k', ls', st', σ'))) (h : mj_Sim D cA A el mm p l e R s m args below meth c Q L0 loc0 k' ls' st' σ') : mj_Sim D cA A el mm p l e R s m args below meth c Q L0 loc0 k ls st σ := by
  intro pc H locs cells slots loc lj hpc hI
  cases hk.symm.trans hpc
  unfold mj_ld at hs
  cases hl : ls[i]? with
  | none => rw [hl] at hs; cases hs
  | some o =>
    cases o with
    | none => rw [hl] at hs; cases hs
    | some v =>
      have hlv := hI.2.2.2.1 v (List.mem_of_getElem? hl)
      have hlj := hI.2.2.1.2.2.2 i v hl
      cases v with
      | inl x =>
        rw [hl] at hs
        dsimp only at hs
        rcases hi with ⟨rfl, hi⟩ | ⟨rfl, hi⟩
        · rw [if_pos rfl] at hs
          cases hs
          rcases hi with ⟨q, hq, rfl, rfl⟩ | ⟨rfl, rfl⟩
          · exact lv_iload_n hA.1 hA.2.1 hd hq hlj (h _ _ _ _ _ _ _ hn (hI.stk (mj_lvc hlv hI.lv)))
          · exact lv_iload hA.1 hA.2.1 hd hlj (h _ _ _ _ _ _ _ hn (hI.stk (mj_lvc hlv hI.lv)))
        · rw [if_neg (by decide)] at hs; cases hs
      | inr x =>
        rw [hl] at hs
        dsimp only at hs
        rcases hi with ⟨rfl, hi⟩ | ⟨rfl, hi⟩
        · rw [if_pos rfl] at hs; cases hs
        · rw [if_neg (by decide)] at hs
          cases hs
          rcases hi with ⟨q, hq, rfl, rfl⟩ | ⟨rfl, rfl⟩
          · exact lv_aload_n hA.1 hA.2.1 hd hq hlj (h _ _ _ _ _ _ _ hn (hI.stk (mj_lvc hlv hI.lv)))
          · exact lv_aload hA.1 hA.2.1 hd hlj (h _ _ _ _ _ _ _ hn (hI.stk (mj_lvc hlv hI.lv)))
theorem mj_Iv.set {i : Nat} {v : mj_V} {r : List mj_V} {w : Value} {lj' : Array Slot} (hI : mj_Iv D cA A el mm s L0 loc0 ls st σ H locs cells slots loc lj) (hw : w = mj_vc loc v) (hv : mj_lv σ.1 v) (hr : ∀ v ∈ r, mj_lv σ.1 v) (h' : lv_has lj' (mj_mx mj_Y mm) ((i, w) :: (mj_lvl loc ls).filter (fun q => !(q.1 == i) && !(q.1 + 1 == i && q.2.category == 2)))) : mj_Iv D cA A el mm s L0 loc0 (ls.set i (some v)) r σ H locs cells slots loc lj' := by
  refine ⟨hI.1, hI.2.1, hI.2.2.1.set hw h', fun u hu => ?_, hr, hI.2.2.2.2.2⟩
  rcases List.mem_or_eq_of_mem_set hu with g | g
  · exact hI.2.2.2.1 u g
  · cases g; exact hv
theorem mj_s_st {ins : Instr} {len i : Nat} {isI : Bool} {k' : Nat} {ls' : mj_L} {st' : List mj_V} {σ' : mj_H} (hA : mj_At D cA A el X J mm p R s m args meth c L0 Lf) (hk : mj_pc mm k = some pc0) (hd : decode J.2.1 pc0 = .ok (ins, len))
    (hi : (isI = true ∧ ((∃ q : Fin 4, (q : Nat) = i ∧ ins = .istore_n q ∧ len = 1) ∨ (ins = .istore i ∧ len = 2))) ∨ (isI = false ∧ ((∃ q : Fin 4, (q : Nat) = i ∧ ins = .astore_n q ∧ len = 1) ∨ (ins = .astore i ∧ len = 2)))) (hn : mj_pc mm (k + 1) = some (pc0 + len)) (hs : mj_st k ls st σ isI i = some (.inl (k', ls', st', σ'))) (h : mj_Sim D cA A el mm p l e R s m args below meth c Q L0 loc0 k' ls' st' σ') : mj_Sim D cA A el mm p l e R s m args below meth c Q L0 loc0 k ls st σ := by
  intro pc H locs cells slots loc lj hpc hI
  cases hk.symm.trans hpc
  unfold mj_st at hs
  cases st with
  | nil => cases hs
  | cons v r =>
    have hlv := hI.lv v List.mem_cons_self
    cases v with
    | inl x =>
      dsimp only at hs
      rcases hi with ⟨rfl, hi⟩ | ⟨rfl, hi⟩
      · by_cases hlt : i < ls.length
        · rw [if_pos ⟨rfl, hlt⟩] at hs
          cases hs
          rw [hI.2.2.1.2.1] at hlt
          rcases hi with ⟨q, hq, rfl, rfl⟩ | ⟨rfl, rfl⟩
          · exact lv_istore_n hA.1 hA.2.1 hd hq hI.2.2.1.has hlt rfl (fun lj' h' => h _ _ _ _ _ _ _ hn (hI.set rfl hlv hI.tl h'))
          · exact lv_istore hA.1 hA.2.1 hd hI.2.2.1.has hlt rfl (fun lj' h' => h _ _ _ _ _ _ _ hn (hI.set rfl hlv hI.tl h'))
        · rw [if_neg (fun z => hlt z.2)] at hs; cases hs
      · rw [if_neg (fun z => by cases z.1)] at hs; cases hs
    | inr x =>
      dsimp only at hs
      rcases hi with ⟨rfl, hi⟩ | ⟨rfl, hi⟩
      · rw [if_neg (fun z => by cases z.1)] at hs; cases hs
      · by_cases hlt : i < ls.length
        · rw [if_pos ⟨rfl, hlt⟩] at hs
          cases hs
          rw [hI.2.2.1.2.1] at hlt
          rcases hi with ⟨q, hq, rfl, rfl⟩ | ⟨rfl, rfl⟩
          · exact lv_astore_n hA.1 hA.2.1 hd hq hI.2.2.1.has hlt rfl (fun lj' h' => h _ _ _ _ _ _ _ hn (hI.set rfl hlv hI.tl h'))
          · exact lv_astore hA.1 hA.2.1 hd hI.2.2.1.has hlt rfl (fun lj' h' => h _ _ _ _ _ _ _ hn (hI.set rfl hlv hI.tl h'))
        · rw [if_neg (fun z => hlt z.2)] at hs; cases hs
theorem mj_s_iinc {i : Nat} {n : Int} {v x : Int32} (hA : mj_At D cA A el X J mm p R s m args meth c L0 Lf) (hk : mj_pc mm k = some pc0) (hd : decode J.2.1 pc0 = .ok (.iinc i n, 3)) (hv : Int32.ofInt n = v) (hn : mj_pc mm (k + 1) = some (pc0 + 3)) (hl : ls[i]? = some (some (.inl x))) (h : mj_Sim D cA A el mm p l e R s m args below meth c Q L0 loc0 (k + 1) (ls.set i (some (.inl (x + v)))) st σ) : mj_Sim D cA A el mm p l e R s m args below meth c Q L0 loc0 k ls st σ := by
  intro pc H locs cells slots loc lj hpc hI
  cases hk.symm.trans hpc
  have hlt : i < mj_mx mj_Y mm := by rw [← hI.2.2.1.2.1]; exact (List.getElem?_eq_some_iff.mp hl).1
  obtain ⟨j, hj⟩ := List.getElem?_of_mem (mj_lvl_in (loc := loc) (q := (i, .int x)).mpr ⟨_, hl, rfl⟩)
  exact lv_iinc (k := j) hA.1 hA.2.1 hd hI.2.2.1.has hj (by rw [hv]) hlt rfl (fun lj' h' => h _ _ _ _ _ _ _ hn (hI.set rfl (mj_lvi _ _) hI.lv h'))
end SND
