/-! THE SMALL MACHINE IS THE MACHINE: what holds of a frame; then a row an instruction -/
def mj_goods : List Jvm.Cond := lw_tbl.filter goodWord
def mj_isN : Jvm.Cond → Bool
  | .fieldLinkNest _ _ _ _ _ _ => true
  | .methodLinkNest _ _ _ _ => true
  | _ => false
def mj_nst : List Jvm.Cond := lw_tbl.filter mj_isN
theorem mj_gd {w : Jvm.Cond} {i : Nat} (h : lw_tbl[i]? = some w) (hg : goodWord w = true) : w ∈ mj_goods := List.mem_filter.mpr ⟨List.mem_of_getElem? h, hg⟩
theorem mj_nd {w : Jvm.Cond} {i : Nat} (h : lw_tbl[i]? = some w) (hg : mj_isN w = true) : w ∈ mj_nst := List.mem_filter.mpr ⟨List.mem_of_getElem? h, hg⟩
/-- the array classes -/
def mj_tyl (cA : Nat → ClassId) : List (ClassId × FieldType) := [(cA 0, .int), (cA 2, .char), (cA 13, .object "LiningLog$Scan"), (cA 14, .object "LiningLog$State")]
def mj_vc (loc : Nat × Nat → Nat) : mj_V → Value
  | .inl x => .int x
  | .inr c => .ref (loc c)
/-- what a cell holds -/
def mj_ce (cA : Nat → ClassId) (loc : Nat × Nat → Nat) (f : mj_F) (g : mj_G) (c : Nat × Nat) : va_E := match mj_kd mj_Y c.1 with
  | (0, u, n) => .inr (u, (List.range n).map (fun s => if mj_ft mj_Y c.1 s = 3 then va_rf ((g c.1 c.2 s).map loc) else .int (f c.1 c.2 s)))
  | (1, t, n) => .inl (cA t, n, .inl (fun j => f c.1 c.2 j))
  | (_, u, n) => .inl (cA (10 + u), n, .inr (.inr (.inr (.inr (fun j => (g c.1 c.2 j).map loc)))))
def mj_ws (cA : Nat → ClassId) (loc : Nat × Nat → Nat) (σ : mj_H) : va_W := σ.1.map (fun c => (loc c, mj_ce cA loc σ.2.1 σ.2.2 c))
def mj_lv (L : List (Nat × Nat)) : mj_V → Prop
  | .inl _ => True
  | .inr c => c ∈ L ∨ (c.2 = 0 ∧ 3 ≤ (mj_kd mj_Y c.1).1 ∧ (mj_kd mj_Y c.1).1 ≤ 4)
def mj_Wd (D : va_G) (cA : Nat → ClassId) (A : Nat → Prop) (el : Nat → Nat) (loc : Nat × Nat → Nat) (σ : mj_H) (H : Heap) : Prop :=
  va_P D mj_cl (mj_ws cA loc σ) H ∧ va_D A (mj_ws cA loc σ) ∧ (∀ c ∈ σ.1, (mj_kd mj_Y c.1).1 ≤ 2) ∧ (∀ c ∈ σ.1, ∀ s r, σ.2.2 c.1 c.2 s = some r → mj_lv σ.1 (.inr r)) ∧ (∀ k, 3 ≤ (mj_kd mj_Y k).1 → (mj_kd mj_Y k).1 ≤ 4 → loc (k, 0) = el k)
/-- what stays as it was at the start -/
def mj_Fx (D : va_G) (cA : Nat → ClassId) (A : Nat → Prop) (el : Nat → Nat) (X : mj_X) (U : State) (H : Heap) : Prop :=
  va_K D mj_cl (mj_tyl cA) U ∧ (∀ w ∈ mj_nst, va_Nw w U) ∧ va_AO "LiningLog$State" U ∧ va_AO "LiningLog$Scan" U ∧ (∀ q ∈ mj_ext, va_Z q.2.1 q.2.2 "[I" (.ref (el q.1)) A U H) ∧
  (∀ k t n, mj_kd mj_Y k = (4, t, n) → va_T .int (el k) n (fun j => .int (((mj_tbs[t]?.getD [])[j]?).getD 0)) A U H) ∧ va_X (el 23) X.1 X.2 U H ∧ ¬ A (el 23)
theorem mj_Fx.moved {D : va_G} {cA : Nat → ClassId} {A : Nat → Prop} {el : Nat → Nat} {X : mj_X} {s U : State} {H : Heap} (hW : s.WarmedH U.vm) (h : mj_Fx D cA A el X s s.heap) (hH : ∀ q : Nat, q < s.heap.size → ¬ A q → H[q]? = s.heap[q]?) : mj_Fx D cA A el X U H := by
  obtain ⟨h1, h2, h3, h4, h5, h6, h7, h8⟩ := h
  refine ⟨h1.moved hW.alike, fun w hw => ?_, h3.moved hW.alike, h4.moved hW.alike, fun q hq => ((h5 q hq).kept hH).moved hW.alike, fun k t n hk => ((h6 k t n hk).kept hH).moved hW.alike, ?_, h8⟩
  · have hz := h2 w hw
    have hn := (List.mem_filter.mp hw).2
    cases w <;> first | exact va_Nw.warmF hW hz | exact va_Nw.warmM hW hz | cases hn
  · refine (h7.kept (hH _ ?_ h8)).moved hW.alike
    obtain ⟨scr, g1, -⟩ := h7
    exact (Array.getElem?_eq_some_iff.mp g1).1
/-- the locals -/
def mj_lr (loc : Nat × Nat → Nat) (ls : mj_L) (lj : Array Slot) (n : Nat) : Prop := lj.size = n ∧ ls.length = n ∧ lv_wf lj ∧ ∀ (i : Nat) (v : mj_V), ls[i]? = some (some v) → lj[i]? = some (Slot.val (mj_vc loc v))
def mj_lvl (loc : Nat × Nat → Nat) (ls : mj_L) : List (Nat × Value) := (List.range ls.length).filterMap (fun i => match ls[i]? with
  | some (some v) => some (i, mj_vc loc v)
  | _ => none)
theorem mj_cat (loc : Nat × Nat → Nat) (v : mj_V) : (mj_vc loc v).category = 1 := by
  cases v <;> rfl
theorem mj_lvl_in {loc : Nat × Nat → Nat} {ls : mj_L} {q : Nat × Value} : q ∈ mj_lvl loc ls ↔ ∃ v, ls[q.1]? = some (some v) ∧ q.2 = mj_vc loc v := by
  unfold mj_lvl
  rw [List.mem_filterMap]
  constructor
  · rintro ⟨i, -, h⟩
    cases h1 : ls[i]? with
    | none => rw [h1] at h; cases h
    | some o =>
      cases o with
      | none => rw [h1] at h; cases h
      | some v =>
        rw [h1] at h
        cases h
        exact ⟨v, h1, rfl⟩
  · rintro ⟨v, h1, h2⟩
    refine ⟨q.1, List.mem_range.mpr (List.getElem?_eq_some_iff.mp h1).1, ?_⟩
    rw [h1]
    show some (q.1, mj_vc loc v) = some q
    rw [← h2]
theorem mj_lr.has {loc : Nat × Nat → Nat} {ls : mj_L} {lj : Array Slot} {n : Nat} (h : mj_lr loc ls lj n) : lv_has lj n (mj_lvl loc ls) := by
  refine ⟨h.1, h.2.2.1, fun q hq => ?_⟩
  obtain ⟨v, h1, h2⟩ := mj_lvl_in.mp hq
  rw [h2]
  exact h.2.2.2 _ _ h1
theorem mj_lr.set {loc : Nat × Nat → Nat} {ls : mj_L} {lj : Array Slot} {n i : Nat} {v : mj_V} {w : Value} (h : mj_lr loc ls lj n) (hw : w = mj_vc loc v) {lj' : Array Slot} (h' : lv_has lj' n ((i, w) :: (mj_lvl loc ls).filter (fun q => !(q.1 == i) && !(q.1 + 1 == i && q.2.category == 2)))) : mj_lr loc (ls.set i (some v)) lj' n := by
  refine ⟨h'.1, by rw [List.length_set]; exact h.2.1, h'.2.1, fun j u hj => ?_⟩
  by_cases hji : i = j
  · subst hji
    rw [List.getElem?_set_self'] at hj
    cases hl : ls[i]? with
    | none => rw [hl] at hj; cases hj
    | some o =>
      rw [hl] at hj
      cases hj
      have := h'.2.2 (i, w) List.mem_cons_self
      rw [hw] at this
      exact this
  · rw [List.getElem?_set_ne hji] at hj
    refine h'.2.2 (j, mj_vc loc u) (List.mem_cons_of_mem _ (List.mem_filter.mpr ⟨mj_lvl_in.mpr ⟨u, hj, rfl⟩, ?_⟩))
    have e1 : (j == i) = false := by simp; omega
    have e2 : ((mj_vc loc u).category == 2) = false := by rw [mj_cat]; rfl
    simp [e1, e2]
def mj_sl (L : List (Nat × Nat)) : Nat := (L.map (fun c => (mj_kd mj_Y c.1).2.2)).sum
