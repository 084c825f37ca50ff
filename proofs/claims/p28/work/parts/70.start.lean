/-! THE CLAIM OUT OF ONE WALK OF THE LAW'S BODY. Your part is whole_start (and what it stands on); all else here is the same for every law, but numbers. -/
def R_law : String := "LiningLogLaw"
def lw_P (b : Addr) (xs : List Int32) (args : Array Value) (s : State) : Prop := args = #[.ref b] ∧ s.IntsAt b xs ∧ xs.length ≤ 260 ∧ (Jvm.Cond.and given_1 narrow_1).before args s = true
def lw_Q (_ : Array Value) (s : State) (o : Outcome) (t : State) : Prop := o = .returned (some (.int 1)) ∧ Framed s o t [] 600000 7302250
def lw_Z (below : List Frame) (a : Array Value) (s : State) : State → Prop := fun t => ∃ o, t.status = .running ∧ Ended t below o ∧ lw_Q a s o t
/-- the law's own end, with 1 on the stack, nothing written that was there before, its room as the claim has it -/
theorem lw_ret {p : Program} {l : Launch} {e : Env} {s : State} {m : MethodId} {below : List Frame} {meth : Method} {c : Code} {b : Nat} (hx : p.tables.exec = Jvm.exec) (hb : c.code = code) (hr : meth.sig.returnType = ret) (hlocks : meth.locks = false) {pc : Nat} {H : Heap} {ls : Array Slot} (hdg : decode code pc = .ok (.ireturn, 1)) : W p l e room_1 s m #[Value.ref b] below meth c H [] 600000 7302250 (lw_Z below #[Value.ref b] s) (F0 m pc ls [.int 1]) := by
  intro T hT X
  obtain ⟨fs, hret, hrun, hended, hW, hframe⟩ := X.leave (v := some (.int 1)) (hlocks := hlocks) (fun h => by rw [hr] at h; cases h)
  have hmeth' : T.vm.method? m = some meth := X.method'
  refine ⟨T.setFrames fs, ?_, .returned (some (.int 1)), hrun, hended, rfl, ⟨_, rfl⟩, hW, hframe⟩
  jvm_step X.here [X.here.top, hx, hb, hdg, hmeth', hr, ret, narrow_b1]
  (try refine ⟨rfl, ?_⟩); (try refine ⟨rfl, ?_⟩)
  first | (intro acts; rw [hret _ acts rfl rfl rfl]) | rw [hret _ _ rfl rfl rfl]
  exact Steps.refl _
/-- what holds at the law's entry: the machine, the code, the tables' words (any of lw_tbl by 'hts w (by decide +kernel)'), the script of L ints xs at the cell b, what the Statement gives of the start (any of its parts by flat_of_before) -/
def lw_At (p : Program) (s : State) (m : MethodId) (meth : Method) (c : Code) (b L : Nat) (xs : Nat → Int32) : Prop :=
  p.tables.exec = Jvm.exec ∧ c.code = code ∧ meth.sig.returnType = ret ∧ c.maxLocals = 15 ∧ s.vm.findClass R_law = some m.cls ∧ (∀ w ∈ lw_tbl, w.before #[Value.ref b] s = true) ∧ va_X b L xs s s.heap ∧ b < s.heap.size ∧ meth.locks = false ∧ (Jvm.Cond.and given_1 narrow_1).before #[Value.ref b] s = true
/-! the start: what the small machine's world holds there; the walk of the law's body -/
theorem ws_arr {s : State} {cA : ClassId} {ty : FieldType} (h : ∃ k comp, s.vm.classes[cA]? = some k ∧ k.kind = .array comp ty) : ArrOfT s cA ty := by
  obtain ⟨k, comp, h2, h3⟩ := h
  exact fun n z => ⟨fun k h => (by cases h), k, h2, comp, h3⟩
theorem ws_tab {s : State} {args : Array Value} {C n : String} {t : Nat} {vs : List Int32} (hlen6 : vs.length = 6) (h0 : (Cond.arrayOf (.static C n "[I") .int).before args s = true) (h1 : (Cond.eq (.length (.static C n "[I")) (.int 6)).before args s = true) (h2 : ∀ j : Nat, j < 6 → (Cond.eq (.elem (.static C n "[I") (.int (Int32.ofNat j))) (.int ((vs[j]?).getD 0))).before args s = true) : ∃ a : Nat, (Term.static C n "[I").eval args s none [] s = some (.ref a) ∧ va_T .int a 6 (fun j => .int ((vs[j]?).getD 0)) (fun q : Nat => s.heap.size ≤ q) s s.heap :=
  va_Tof (by decide) h0 (va_eqt h1) (fun j hj => va_eqt (h2 j hj)) (fun a ha => Nat.not_le.mpr ha)
theorem ws_kd4 : ∀ k, k < 27 → (mj_kd mj_Y k).1 = 4 → (k = 24 ∧ mj_kd mj_Y k = (4, 0, 6)) ∨ (k = 25 ∧ mj_kd mj_Y k = (4, 1, 6)) ∨ (k = 26 ∧ mj_kd mj_Y k = (4, 2, 6)) := by decide +kernel
theorem ws_t0 : Jvm.Cond.arrayOver (.object "LiningLog$State") ∈ lw_tbl := by decide +kernel
theorem ws_t1 : Jvm.Cond.arrayOver (.object "LiningLog$Scan") ∈ lw_tbl := by decide +kernel
theorem ws_t2 : Jvm.Cond.initialized "LiningLog" ∈ lw_tbl := by decide +kernel
theorem ws_t3 : Jvm.Cond.laysStatic "LiningLog" "FIRST_SETTING" "[I" ∈ lw_tbl := by decide +kernel
theorem ws_t4 : Jvm.Cond.laysStatic "LiningLog" "LOWEST_SETTING" "[I" ∈ lw_tbl := by decide +kernel
theorem ws_t5 : Jvm.Cond.laysStatic "LiningLog" "HIGHEST_SETTING" "[I" ∈ lw_tbl := by decide +kernel
theorem ws_t6 : Jvm.Cond.arrayClass .int ∈ lw_tbl := by decide +kernel
theorem ws_t7 : Jvm.Cond.arrayClass .char ∈ lw_tbl := by decide +kernel
theorem ws_f0 : ∀ w ∈ [Jvm.Cond.arrayOf (.static "LiningLog" "FIRST_SETTING" "[I") .int, Jvm.Cond.eq (.length (.static "LiningLog" "FIRST_SETTING" "[I")) (.int 6), Jvm.Cond.arrayOf (.static "LiningLog" "LOWEST_SETTING" "[I") .int, Jvm.Cond.eq (.length (.static "LiningLog" "LOWEST_SETTING" "[I")) (.int 6), Jvm.Cond.arrayOf (.static "LiningLog" "HIGHEST_SETTING" "[I") .int, Jvm.Cond.eq (.length (.static "LiningLog" "HIGHEST_SETTING" "[I")) (.int 6)], w ∈ flatC (Jvm.Cond.and given_1 narrow_1) := by decide +kernel
theorem ws_f1 : ∀ j : Nat, j < 6 → Jvm.Cond.eq (.elem (.static "LiningLog" "FIRST_SETTING" "[I") (.int (Int32.ofNat j))) (.int ((((mj_tbs[0]?).getD [])[j]?).getD 0)) ∈ flatC (Jvm.Cond.and given_1 narrow_1) := by decide +kernel
theorem ws_f2 : ∀ j : Nat, j < 6 → Jvm.Cond.eq (.elem (.static "LiningLog" "LOWEST_SETTING" "[I") (.int (Int32.ofNat j))) (.int ((((mj_tbs[1]?).getD [])[j]?).getD 0)) ∈ flatC (Jvm.Cond.and given_1 narrow_1) := by decide +kernel
theorem ws_f3 : ∀ j : Nat, j < 6 → Jvm.Cond.eq (.elem (.static "LiningLog" "HIGHEST_SETTING" "[I") (.int (Int32.ofNat j))) (.int ((((mj_tbs[2]?).getD [])[j]?).getD 0)) ∈ flatC (Jvm.Cond.and given_1 narrow_1) := by decide +kernel
theorem ws_J : mj_ms[71]? = some (⟨"LiningLogLaw", "law", "([I)Z"⟩, code, some .boolean, 6, 144, 1) := by rfl
theorem ws_nI1 : nI 1 = 1 := by decide
theorem ws_mx : mj_mx mj_Y 71 = 15 := by rfl
theorem ws_Fx {p : Program} {s : State} {m : MethodId} {meth : Method} {c : Code} {b L : Nat} {xs : Nat → Int32} (C0 : lw_At p s m meth c b L xs) : ∃ (D : va_G) (cA : Nat → ClassId) (el : Nat → Nat), el 23 = b ∧ mj_Fx D cA (fun q : Nat => s.heap.size ≤ q) el (L, xs) s s.heap := by
  obtain ⟨hx, hb, hr, hml, hown, hts, hX, hbl, hlocks, hgv⟩ := C0
  have hs := flat_of_before _ hgv
  have hA : ∀ a : Nat, a < s.heap.size → ¬ s.heap.size ≤ a := fun a ha => Nat.not_le.mpr ha
  obtain ⟨a1, e1, t1⟩ := ws_tab (s := s) (args := #[Value.ref b]) (C := "LiningLog") (n := "FIRST_SETTING") (t := 0) (vs := (mj_tbs[0]?).getD []) rfl (hs _ (ws_f0 _ (by simp))) (hs _ (ws_f0 _ (by simp))) (fun j hj => hs _ (ws_f1 j hj))
  obtain ⟨a2, e2, t2⟩ := ws_tab (s := s) (args := #[Value.ref b]) (C := "LiningLog") (n := "LOWEST_SETTING") (t := 1) (vs := (mj_tbs[1]?).getD []) rfl (hs _ (ws_f0 _ (by simp))) (hs _ (ws_f0 _ (by simp))) (fun j hj => hs _ (ws_f2 j hj))
  obtain ⟨a3, e3, t3⟩ := ws_tab (s := s) (args := #[Value.ref b]) (C := "LiningLog") (n := "HIGHEST_SETTING") (t := 2) (vs := (mj_tbs[2]?).getD []) rfl (hs _ (ws_f0 _ (by simp))) (hs _ (ws_f0 _ (by simp))) (fun j hj => hs _ (ws_f3 j hj))
  have z1 := va_Zref (hts _ ws_t3) (hts _ ws_t2) e1 hA
  have z2 := va_Zref (hts _ ws_t4) (hts _ ws_t2) e2 hA
  have z3 := va_Zref (hts _ ws_t5) (hts _ ws_t2) e3 hA
  obtain ⟨ci, ki, pi, i1, i2, i3⟩ := Cond.arrayClass_spec (hts _ ws_t6)
  obtain ⟨cc, kc, pc, c1, c2, c3⟩ := Cond.arrayClass_spec (hts _ ws_t7)
  obtain ⟨ps, cs, ks, s1, -, s2, s3, s4⟩ := Cond.arrayOver_spec (hts _ ws_t1)
  obtain ⟨pt, ct, kt, u1, -, u2, u3, u4⟩ := Cond.arrayOver_spec (hts _ ws_t0)
  have hcl : ∀ k : Nat, ∃ (cC : ClassId) (iS : Nat → Nat), ∀ q : vw_C, mj_cl[k]? = some q → u_Kn s q.1 q.2.1 q.2.2 cC iS := by
    intro k
    cases hq : mj_cl[k]? with
    | none => exact ⟨ci, fun _ => 0, fun q h => by cases h⟩
    | some q =>
      obtain ⟨C, T, N⟩ := q
      obtain ⟨ty, hp⟩ := mj_cls hq
      obtain ⟨cC, iS, h⟩ := u_known (C := C) (T := T) (N := N) (n := N) hts (fun w hw => (hp.1 w hw).1) (hts _ hp.2.2.2.2.2.1)
      exact ⟨cC, iS, fun q h2 => by cases h2; exact h⟩
  refine ⟨(fun k => Classical.choose (hcl k), fun k => Classical.choose (Classical.choose_spec (hcl k))), fun k => if k = 0 then ci else if k = 2 then cc else if k = 13 then cs else ct, fun k => if k = 23 then b else if k = 24 then a1 else if k = 25 then a2 else a3, rfl, ?_⟩
  refine ⟨⟨fun k q hq => Classical.choose_spec (Classical.choose_spec (hcl k)) q hq, fun k q hq => ?_⟩, fun w hw => ?_, va_AO.of (hts _ ws_t0), va_AO.of (hts _ ws_t1), fun q hq => ?_, fun k t n hk => ?_, hX, Nat.not_le.mpr hbl⟩
  · match k, hq with
    | 0, hq => cases hq; exact ⟨ws_arr ⟨ki, pi, i2, i3⟩, i1⟩
    | 1, hq => cases hq; exact ⟨ws_arr ⟨kc, pc, c2, c3⟩, c1⟩
    | 2, hq => cases hq; exact ⟨ws_arr ⟨ks, ps, s2, s3⟩, ks, ps, s2, s3, s1, s4⟩
    | 3, hq => cases hq; exact ⟨ws_arr ⟨kt, pt, u2, u3⟩, kt, pt, u2, u3, u1, u4⟩
    | k + 4, hq => exact absurd hq (by simp [mj_tyl])
  · have hn := (List.mem_filter.mp hw).2
    have hw2 := hts w (List.mem_filter.mp hw).1
    cases w <;> first | exact va_Nw.of rfl hw2 | cases hn
  · have hq3 : q = (24, "LiningLog", "FIRST_SETTING") ∨ q = (25, "LiningLog", "LOWEST_SETTING") ∨ q = (26, "LiningLog", "HIGHEST_SETTING") := by simpa [mj_ext] using hq
    rcases hq3 with rfl | rfl | rfl
    · exact z1
    · exact z2
    · exact z3
  · have hlt := mj_kd_lt (k := k) (by rw [hk]; exact (by decide : 4 ≤ 8))
    rcases ws_kd4 k hlt (by rw [hk]) with ⟨rfl, h⟩ | ⟨rfl, h⟩ | ⟨rfl, h⟩
    · rw [h] at hk
      cases hk
      exact t1
    · rw [h] at hk
      cases hk
      exact t2
    · rw [h] at hk
      cases hk
      exact t3
set_option maxHeartbeats 4000000 in
theorem whole_start {p : Program} {e : Env} {s : State} {m : MethodId} {below : List Frame} {meth : Method} {c : Code} (l : Launch) (hflags : l.flags = flags0) {b L : Nat} {xs : Nat → Int32} (hL : L ≤ 260) (C0 : lw_At p s m meth c b L xs) : W p l e room_1 s m #[Value.ref b] below meth c s.heap [] 0 0 (lw_Z below #[Value.ref b] s) (entryFrame m ([Value.ref b] : List Value).toArray 15) := by
  obtain ⟨D, cA, el, hel, hFx⟩ := ws_Fx C0
  obtain ⟨hx, hb, hr, hml, hown, hts, hX, hbl, hlocks, hgv⟩ := C0
  obtain ⟨S2, F, G, hw, hbd⟩ := mq_law (X := (L, xs)) hL (fun _ _ _ => 0) (fun _ _ _ => none)
  obtain ⟨n, hrun⟩ := mj_go_some hw
  have hS2 : S2.length = 117 := by have := hbd.1; rw [List.length_nil] at this; omega
  have hM2 : mj_sl S2 = 3867 := by
    have h1 := hbd.2
    have h0 : mj_sl [] = 0 := rfl
    omega
  have hAt : mj_At D cA (fun q : Nat => s.heap.size ≤ q) el (L, xs) (⟨"LiningLogLaw", "law", "([I)Z"⟩, code, some .boolean, 6, 144, 1) 71 p room_1 s m #[Value.ref b] meth c [] S2 := by
    refine ⟨hx, hb, hml.trans ws_mx.symm, hown, fun w hw => hts w (List.mem_filter.mp hw).1, hFx, hlocks, fun h => absurd h (by decide), ⟨by decide, by decide⟩, fun q hq => hq, ?_, ?_⟩
    · rw [hS2]; exact (by decide : 117 ≤ 600000 + 0)
    · rw [hM2]; exact (Nat.le_of_ble_eq_true rfl : 3867 ≤ 7302250 + 0)
  have hEnd : mj_End D cA (fun q : Nat => s.heap.size ≤ q) el (⟨"LiningLogLaw", "law", "([I)Z"⟩, code, some .boolean, 6, 144, 1) 71 p l e room_1 s m #[Value.ref b] below meth c (lw_Z below #[Value.ref b] s) [] (fun q => el q.1) (some (.inl (nI 1))) (S2, F, G) := by
    intro pc H locs cells slots loc lj ls hI hend
    obtain ⟨q1, q2⟩ := hI.2.2.2.2.2.1
    have hc0 : cells = 117 := by
      have h1 : cells + ([] : List (Nat × Nat)).length = S2.length := q1
      rw [hS2, List.length_nil] at h1
      exact h1
    have hs0 : slots = 3867 := by
      have h1 : slots + mj_sl [] = mj_sl S2 := q2
      rw [hM2] at h1
      exact h1
    rcases hend with ⟨x1, ty, h1, hd, hrt, hnr⟩ | ⟨x1, nm, h1, hd, hrt⟩ | ⟨h1, hd, hrt⟩
    · cases h1
      refine va_forget (fun q hq => hI.2.1.2.2 q hq) ?_
      refine W.widen (k := 600000) (n := 7302250) (by rw [hc0]; exact Nat.le_of_ble_eq_true rfl) (by rw [hs0]; exact Nat.le_of_ble_eq_true rfl) ?_
      show W p l e room_1 s m #[Value.ref b] below meth c H [] 600000 7302250 (lw_Z below #[Value.ref b] s) (F0 m pc lj [.int (nI 1)])
      rw [ws_nI1]
      exact lw_ret hx hb hr hlocks hd
    · cases h1
    · cases h1
  have hSim := mj_frame D cA (fun q : Nat => s.heap.size ≤ q) el (L, xs) l n 71 0 _ _ [] _ _ _ p e room_1 s m #[Value.ref b] below meth c _ [] (fun q => el q.1) hrun ws_J hAt hEnd
  rw [lg_entry_eq]
  have hlr := mj_lr_in (loc := fun q => el q.1) (a := 71) (as := [.inr (23, 0)]) (Nat.le_of_ble_eq_true rfl)
  have e0 : ([Sum.inr (23, 0)] : List mj_V).map (mj_vc (fun q => el q.1)) = [Value.ref b] := by
    show [Value.ref (el 23)] = _
    rw [hel]
  rw [e0, ws_mx] at hlr
  generalize (lg_sl [Value.ref b] ++ List.replicate (15 - (lg_sl [Value.ref b]).length) Slot.unset).toArray = lj at hlr ⊢
  refine hSim 0 s.heap [] 0 0 (fun q => el q.1) lj (mj_pc_0 71 (by decide)) ⟨⟨fun k q h => ?_, ⟨fun i j p q h => ?_, fun k q h => ?_⟩, fun c hc => absurd hc List.not_mem_nil, fun c hc => absurd hc List.not_mem_nil, fun k _ _ => rfl⟩, va_S.rf, ?_, mj_in_live (fun v hv => ?_), fun v hv => absurd hv List.not_mem_nil, ⟨rfl, rfl⟩, fun q hq => absurd hq List.not_mem_nil⟩
  · cases h
  · cases h
  · cases h
  · rw [ws_mx]; exact hlr
  · have hv2 := List.mem_singleton.mp hv
    rw [hv2]
    exact Or.inr ⟨rfl, (by decide : 3 ≤ 3), (by decide : 3 ≤ 4)⟩
