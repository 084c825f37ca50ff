/-! the cells: what is known of the classes, of a cell, of a cell that changes -/
def mj_tyk (c : Nat) (t : FieldType) : Bool := match c, t with
  | 0, .int => true
  | 1, .boolean => true
  | 2, .char => true
  | 3, .object _ => true
  | 3, .array _ => true
  | _, _ => false
def mj_clP (a : Nat) (C : String) (T : u_T) (N : Nat) (ty : Nat → FieldType) : Prop :=
  (∀ w ∈ u_ws C T N, w ∈ lw_tbl ∧ goodWord w = true) ∧ (∀ k, k < N → parseFieldDescriptor (T k).2.2.1 = some (ty k)) ∧ (∀ k, k < N → mj_tyk (mj_ft mj_Y a k) (ty k) = true) ∧ (∀ a, a < N → ∀ b, b < N → a ≠ b → (T a).2.1 ≠ (T b).2.1) ∧ mj_kd mj_Y a = (0, a, N) ∧ (Jvm.Cond.instantiable C N ∈ lw_tbl ∧ Jvm.Cond.initialized C ∈ lw_tbl)
theorem mj_cl0 : mj_clP 0 mj_R0 mj_T0 3 mj_ty0 := ⟨by decide +kernel, by decide +kernel, by decide +kernel, by decide +kernel, by decide +kernel, by decide +kernel, by decide +kernel⟩
theorem mj_cl1 : mj_clP 1 mj_R1 mj_T1 13 mj_ty1 := ⟨by decide +kernel, by decide +kernel, by decide +kernel, by decide +kernel, by decide +kernel, by decide +kernel, by decide +kernel⟩
theorem mj_cl2 : mj_clP 2 mj_R2 mj_T2 6 mj_ty2 := ⟨by decide +kernel, by decide +kernel, by decide +kernel, by decide +kernel, by decide +kernel, by decide +kernel, by decide +kernel⟩
theorem mj_cl3 : mj_clP 3 mj_R3 mj_T3 3 mj_ty3 := ⟨by decide +kernel, by decide +kernel, by decide +kernel, by decide +kernel, by decide +kernel, by decide +kernel, by decide +kernel⟩
theorem mj_cl4 : mj_clP 4 mj_R4 mj_T4 3 mj_ty4 := ⟨by decide +kernel, by decide +kernel, by decide +kernel, by decide +kernel, by decide +kernel, by decide +kernel, by decide +kernel⟩
theorem mj_cl5 : mj_clP 5 mj_R5 mj_T5 5 mj_ty5 := ⟨by decide +kernel, by decide +kernel, by decide +kernel, by decide +kernel, by decide +kernel, by decide +kernel, by decide +kernel⟩
theorem mj_cls {a : Nat} {C : String} {T : u_T} {N : Nat} (h : mj_cl[a]? = some (C, T, N)) : ∃ ty, mj_clP a C T N ty := by
  match a, h with
  | 0, h => cases h; exact ⟨_, mj_cl0⟩
  | 1, h => cases h; exact ⟨_, mj_cl1⟩
  | 2, h => cases h; exact ⟨_, mj_cl2⟩
  | 3, h => cases h; exact ⟨_, mj_cl3⟩
  | 4, h => cases h; exact ⟨_, mj_cl4⟩
  | 5, h => cases h; exact ⟨_, mj_cl5⟩
  | a + 6, h => exact absurd h (by simp [mj_cl])
theorem mj_clg {a : Nat} {C : String} {T : u_T} {N : Nat} {ty : Nat → FieldType} (h : mj_clP a C T N ty) : ∀ w ∈ u_ws C T N, w ∈ mj_goods := fun w hw => List.mem_filter.mpr (h.1 w hw)
theorem mj_kds_u : ∀ k, k < 27 → (mj_kd mj_Y k).1 = 2 → ((mj_kd mj_Y k).2.1 = 3 ∨ (mj_kd mj_Y k).2.1 = 4) := by decide +kernel
theorem mj_kds_t : ∀ k, k < 27 → (mj_kd mj_Y k).1 = 1 → ((mj_kd mj_Y k).2.1 = 0 ∨ (mj_kd mj_Y k).2.1 = 2) := by decide +kernel
theorem mj_kds_3 : ∀ k, k < 27 → (mj_kd mj_Y k).1 = 3 → k = 23 := by decide +kernel
theorem mj_kds_n : ∀ k, k < 27 → (mj_kd mj_Y k).2.2 < 3000 := by decide +kernel
theorem mj_kds_0 : ∀ k, k < 27 → (mj_kd mj_Y k).1 = 0 → (mj_kd mj_Y k).2.1 = k ∧ k < 7 := by decide +kernel
theorem mj_kd_lt {k : Nat} (h : (mj_kd mj_Y k).1 ≤ 8) : k < 27 := by
  rcases Nat.lt_or_ge k 27 with g | g
  · exact g
  · exfalso
    have e : mj_kd mj_Y k = (9, 0, 0) := by
      show ((mj_kds[k]?).getD (9, 0, 0)) = (9, 0, 0)
      rw [List.getElem?_eq_none (Nat.le_trans (Nat.le_of_ble_eq_true (by decide +kernel)) g)]
      rfl
    rw [e] at h
    exact absurd h (by decide)
theorem mj_narrow {c : Nat} {t : FieldType} {x : Int32} (h1 : mj_tyk c t = true) (h3 : ¬ c = 3) (h2 : mj_chk c x = true) : narrow t (.int x) = .int x ∧ fits t (.int x) = true := by
  unfold mj_tyk at h1
  split at h1
  · exact ⟨rfl, rfl⟩
  · have h4 : x = 0 ∨ x = 1 := of_decide_eq_true h2
    rcases h4 with rfl | rfl <;> exact ⟨rfl, rfl⟩
  · have h4 : 0 ≤ x.toInt ∧ x.toInt < 65536 := of_decide_eq_true h2
    have h5 : ¬ x < 0 := by
      intro q
      have := Int32.lt_iff_toInt_lt.mp q
      have e : (0 : Int32).toInt = 0 := by decide
      omega
    obtain ⟨j, hj, rfl⟩ := nI_of h5
    have e := nI_toInt hj
    exact pk_charN (by omega)
  · exact absurd rfl h3
  · exact absurd rfl h3
  · cases h1
theorem mj_narrowQ {c : Nat} {t : FieldType} {q : Nat} (h1 : mj_tyk c t = true) (h3 : c = 3) : narrow t (.ref q) = .ref q ∧ fits t (.ref q) = true := by
  subst h3
  unfold mj_tyk at h1
  split at h1
  · rename_i g; cases g
  · rename_i g; cases g
  · rename_i g; cases g
  · exact ⟨rfl, rfl⟩
  · exact ⟨rfl, rfl⟩
  · cases h1
theorem mj_ce_congr {cA : Nat → ClassId} {loc : Nat × Nat → Nat} {f f' : mj_F} {g g' : mj_G} {c : Nat × Nat} (h1 : ∀ s, f' c.1 c.2 s = f c.1 c.2 s) (h2 : ∀ s, g' c.1 c.2 s = g c.1 c.2 s) : mj_ce cA loc f' g' c = mj_ce cA loc f g c := by
  have e1 : f' c.1 c.2 = f c.1 c.2 := funext h1
  have e2 : g' c.1 c.2 = g c.1 c.2 := funext h2
  unfold mj_ce
  rw [e1, e2]
theorem mj_ws_get {cA : Nat → ClassId} {loc : Nat × Nat → Nat} {σ : mj_H} {c : Nat × Nat} (h : c ∈ σ.1) : ∃ q0 : Nat, σ.1[q0]? = some c ∧ (mj_ws cA loc σ)[q0]? = some (loc c, mj_ce cA loc σ.2.1 σ.2.2 c) := by
  obtain ⟨q0, hq⟩ := List.getElem?_of_mem h
  refine ⟨q0, hq, ?_⟩
  unfold mj_ws
  rw [List.getElem?_map, hq]
  rfl
theorem mj_ws_set {cA : Nat → ClassId} {A : Nat → Prop} {loc : Nat × Nat → Nat} {L : List (Nat × Nat)} {f f' : mj_F} {g g' : mj_G} {c : Nat × Nat} {q0 : Nat} {v : va_E} (hD : va_D A (mj_ws cA loc (L, f, g))) (hq : L[q0]? = some c) (hv : v = mj_ce cA loc f' g' c) (ho : ∀ x : Nat × Nat, x ≠ c → mj_ce cA loc f' g' x = mj_ce cA loc f g x) : (mj_ws cA loc (L, f, g)).set q0 (loc c, v) = mj_ws cA loc (L, f', g') := by
  apply List.ext_getElem?
  intro j
  by_cases hj : q0 = j
  · subst hj
    rw [List.getElem?_set_self']
    unfold mj_ws
    rw [List.getElem?_map, List.getElem?_map]
    show Functor.map _ (Option.map _ L[q0]?) = Option.map _ L[q0]?
    rw [hq, hv]
    rfl
  · rw [List.getElem?_set_ne hj]
    unfold mj_ws
    rw [List.getElem?_map, List.getElem?_map]
    show Option.map _ L[j]? = Option.map _ L[j]?
    cases hx : L[j]? with
    | none => rfl
    | some x =>
      show some (loc x, mj_ce cA loc f g x) = some (loc x, mj_ce cA loc f' g' x)
      rw [ho x]
      intro e
      subst e
      refine hj (hD.1 q0 j (loc x, mj_ce cA loc f g x) (loc x, mj_ce cA loc f g x) ?_ ?_ rfl)
      · unfold mj_ws
        rw [List.getElem?_map]
        show Option.map _ L[q0]? = _
        rw [hq]
        rfl
      · unfold mj_ws
        rw [List.getElem?_map]
        show Option.map _ L[j]? = _
        rw [hx]
        rfl
theorem mj_ne {x c : Nat × Nat} (h : x ≠ c) (s j : Nat) : ¬ (x.1 = c.1 ∧ x.2 = c.2 ∧ s = j) := fun q => h (Prod.ext q.1 q.2.1)
/-- an index of the kit's -/
theorem mj_ix_in {x : Int32} {n q : Nat} (h : mj_ix x n = some q) : vp_in x n ∧ x.toNatClampNeg = q := by
  unfold mj_ix at h
  split at h
  · rename_i g
    cases h
    exact ⟨vp_in_iff.mpr g, rfl⟩
  · cases h
