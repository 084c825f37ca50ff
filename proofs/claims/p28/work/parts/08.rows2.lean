/-! rows: numbers, the stack, branches -/
section SND
variable {D : va_G} {cA : Nat → ClassId} {A : Nat → Prop} {el : Nat → Nat} {X : mj_X} {J : mj_J} {mm : Nat} {p : Program} {l : Launch} {e : Env} {R : Room} {s : State} {m : MethodId} {args : Array Value} {below : List Frame} {meth : Method} {c : Code} {Q : State → Prop} {L0 Lf : List (Nat × Nat)} {loc0 : Nat × Nat → Nat}
variable {ls : mj_L} {st : List mj_V} {σ : mj_H} {k pc0 : Nat} {H : Heap} {locs : List Loc} {cells slots : Nat} {loc : Nat × Nat → Nat} {lj : Array Slot}
theorem mj_s_iadd {x y : Int32} {r : List mj_V} (hA : mj_At D cA A el X J mm p R s m args meth c L0 Lf) (hk : mj_pc mm k = some pc0) (hd : decode J.2.1 pc0 = .ok (.iadd, 1)) (hn : mj_pc mm (k + 1) = some (pc0 + 1)) (h : mj_Sim D cA A el mm p l e R s m args below meth c Q L0 loc0 (k + 1) ls (.inl (x + y) :: r) σ) : mj_Sim D cA A el mm p l e R s m args below meth c Q L0 loc0 k ls (.inl y :: .inl x :: r) σ := by
  intro pc H locs cells slots loc lj hpc hI
  cases hk.symm.trans hpc
  exact lv_iadd hA.1 hA.2.1 hd (h _ _ _ _ _ _ _ hn (hI.stk (mj_lvc (mj_lvi _ _) (fun v hv => hI.tl v (List.mem_cons_of_mem _ hv)))))
theorem mj_s_isub {x y : Int32} {r : List mj_V} (hA : mj_At D cA A el X J mm p R s m args meth c L0 Lf) (hk : mj_pc mm k = some pc0) (hd : decode J.2.1 pc0 = .ok (.isub, 1)) (hn : mj_pc mm (k + 1) = some (pc0 + 1)) (h : mj_Sim D cA A el mm p l e R s m args below meth c Q L0 loc0 (k + 1) ls (.inl (x - y) :: r) σ) : mj_Sim D cA A el mm p l e R s m args below meth c Q L0 loc0 k ls (.inl y :: .inl x :: r) σ := by
  intro pc H locs cells slots loc lj hpc hI
  cases hk.symm.trans hpc
  exact lv_isub hA.1 hA.2.1 hd (h _ _ _ _ _ _ _ hn (hI.stk (mj_lvc (mj_lvi _ _) (fun v hv => hI.tl v (List.mem_cons_of_mem _ hv)))))
theorem mj_s_imul {x y : Int32} {r : List mj_V} (hA : mj_At D cA A el X J mm p R s m args meth c L0 Lf) (hk : mj_pc mm k = some pc0) (hd : decode J.2.1 pc0 = .ok (.imul, 1)) (hn : mj_pc mm (k + 1) = some (pc0 + 1)) (h : mj_Sim D cA A el mm p l e R s m args below meth c Q L0 loc0 (k + 1) ls (.inl (x * y) :: r) σ) : mj_Sim D cA A el mm p l e R s m args below meth c Q L0 loc0 k ls (.inl y :: .inl x :: r) σ := by
  intro pc H locs cells slots loc lj hpc hI
  cases hk.symm.trans hpc
  exact lv_imul hA.1 hA.2.1 hd (h _ _ _ _ _ _ _ hn (hI.stk (mj_lvc (mj_lvi _ _) (fun v hv => hI.tl v (List.mem_cons_of_mem _ hv)))))
theorem mj_s_iand {x y : Int32} {r : List mj_V} (hA : mj_At D cA A el X J mm p R s m args meth c L0 Lf) (hk : mj_pc mm k = some pc0) (hd : decode J.2.1 pc0 = .ok (.iand, 1)) (hn : mj_pc mm (k + 1) = some (pc0 + 1)) (h : mj_Sim D cA A el mm p l e R s m args below meth c Q L0 loc0 (k + 1) ls (.inl (x &&& y) :: r) σ) : mj_Sim D cA A el mm p l e R s m args below meth c Q L0 loc0 k ls (.inl y :: .inl x :: r) σ := by
  intro pc H locs cells slots loc lj hpc hI
  cases hk.symm.trans hpc
  exact lv_iand hA.1 hA.2.1 hd (h _ _ _ _ _ _ _ hn (hI.stk (mj_lvc (mj_lvi _ _) (fun v hv => hI.tl v (List.mem_cons_of_mem _ hv)))))
theorem mj_s_ixor {x y : Int32} {r : List mj_V} (hA : mj_At D cA A el X J mm p R s m args meth c L0 Lf) (hk : mj_pc mm k = some pc0) (hd : decode J.2.1 pc0 = .ok (.ixor, 1)) (hn : mj_pc mm (k + 1) = some (pc0 + 1)) (h : mj_Sim D cA A el mm p l e R s m args below meth c Q L0 loc0 (k + 1) ls (.inl (x ^^^ y) :: r) σ) : mj_Sim D cA A el mm p l e R s m args below meth c Q L0 loc0 k ls (.inl y :: .inl x :: r) σ := by
  intro pc H locs cells slots loc lj hpc hI
  cases hk.symm.trans hpc
  exact lv_ixor hA.1 hA.2.1 hd (h _ _ _ _ _ _ _ hn (hI.stk (mj_lvc (mj_lvi _ _) (fun v hv => hI.tl v (List.mem_cons_of_mem _ hv)))))
theorem mj_s_ishr {x y : Int32} {r : List mj_V} (hA : mj_At D cA A el X J mm p R s m args meth c L0 Lf) (hk : mj_pc mm k = some pc0) (hd : decode J.2.1 pc0 = .ok (.ishr, 1)) (hn : mj_pc mm (k + 1) = some (pc0 + 1)) (h : mj_Sim D cA A el mm p l e R s m args below meth c Q L0 loc0 (k + 1) ls (.inl (x >>> (y &&& 31)) :: r) σ) : mj_Sim D cA A el mm p l e R s m args below meth c Q L0 loc0 k ls (.inl y :: .inl x :: r) σ := by
  intro pc H locs cells slots loc lj hpc hI
  cases hk.symm.trans hpc
  exact lv_ishr hA.1 hA.2.1 hd (h _ _ _ _ _ _ _ hn (hI.stk (mj_lvc (mj_lvi _ _) (fun v hv => hI.tl v (List.mem_cons_of_mem _ hv)))))
theorem mj_s_idiv {x y : Int32} {r : List mj_V} (hne : ¬ y = 0) (hA : mj_At D cA A el X J mm p R s m args meth c L0 Lf) (hk : mj_pc mm k = some pc0) (hd : decode J.2.1 pc0 = .ok (.idiv, 1)) (hn : mj_pc mm (k + 1) = some (pc0 + 1)) (h : mj_Sim D cA A el mm p l e R s m args below meth c Q L0 loc0 (k + 1) ls (.inl (x / y) :: r) σ) : mj_Sim D cA A el mm p l e R s m args below meth c Q L0 loc0 k ls (.inl y :: .inl x :: r) σ := by
  intro pc H locs cells slots loc lj hpc hI
  cases hk.symm.trans hpc
  exact lv_idiv hA.1 hA.2.1 hd hne (h _ _ _ _ _ _ _ hn (hI.stk (mj_lvc (mj_lvi _ _) (fun v hv => hI.tl v (List.mem_cons_of_mem _ hv)))))
theorem mj_s_irem {x y : Int32} {r : List mj_V} (hne : ¬ y = 0) (hA : mj_At D cA A el X J mm p R s m args meth c L0 Lf) (hk : mj_pc mm k = some pc0) (hd : decode J.2.1 pc0 = .ok (.irem, 1)) (hn : mj_pc mm (k + 1) = some (pc0 + 1)) (h : mj_Sim D cA A el mm p l e R s m args below meth c Q L0 loc0 (k + 1) ls (.inl (x - x / y * y) :: r) σ) : mj_Sim D cA A el mm p l e R s m args below meth c Q L0 loc0 k ls (.inl y :: .inl x :: r) σ := by
  intro pc H locs cells slots loc lj hpc hI
  cases hk.symm.trans hpc
  exact lv_irem hA.1 hA.2.1 hd hne (h _ _ _ _ _ _ _ hn (hI.stk (mj_lvc (mj_lvi _ _) (fun v hv => hI.tl v (List.mem_cons_of_mem _ hv)))))
theorem mj_s_dup {x : mj_V} {r : List mj_V} (hA : mj_At D cA A el X J mm p R s m args meth c L0 Lf) (hk : mj_pc mm k = some pc0) (hd : decode J.2.1 pc0 = .ok (.dup, 1)) (hn : mj_pc mm (k + 1) = some (pc0 + 1)) (h : mj_Sim D cA A el mm p l e R s m args below meth c Q L0 loc0 (k + 1) ls (x :: x :: r) σ) : mj_Sim D cA A el mm p l e R s m args below meth c Q L0 loc0 k ls (x :: r) σ := by
  intro pc H locs cells slots loc lj hpc hI
  cases hk.symm.trans hpc
  exact lv_dup hA.1 hA.2.1 hd (mj_cat loc x) (h _ _ _ _ _ _ _ hn (hI.stk (mj_lvc (hI.lv x List.mem_cons_self) hI.lv)))
theorem mj_s_dup2 {x y : mj_V} {r : List mj_V} (hA : mj_At D cA A el X J mm p R s m args meth c L0 Lf) (hk : mj_pc mm k = some pc0) (hd : decode J.2.1 pc0 = .ok (.dup2, 1)) (hn : mj_pc mm (k + 1) = some (pc0 + 1)) (h : mj_Sim D cA A el mm p l e R s m args below meth c Q L0 loc0 (k + 1) ls (x :: y :: x :: y :: r) σ) : mj_Sim D cA A el mm p l e R s m args below meth c Q L0 loc0 k ls (x :: y :: r) σ := by
  intro pc H locs cells slots loc lj hpc hI
  cases hk.symm.trans hpc
  exact lv_dup2_11 hA.1 hA.2.1 hd (mj_cat loc x) (mj_cat loc y) (h _ _ _ _ _ _ _ hn (hI.stk (mj_lvc (hI.lv x List.mem_cons_self) (mj_lvc (hI.tl y List.mem_cons_self) hI.lv))))
theorem mj_s_pop {x : mj_V} {r : List mj_V} (hA : mj_At D cA A el X J mm p R s m args meth c L0 Lf) (hk : mj_pc mm k = some pc0) (hd : decode J.2.1 pc0 = .ok (.pop, 1)) (hn : mj_pc mm (k + 1) = some (pc0 + 1)) (h : mj_Sim D cA A el mm p l e R s m args below meth c Q L0 loc0 (k + 1) ls r σ) : mj_Sim D cA A el mm p l e R s m args below meth c Q L0 loc0 k ls (x :: r) σ := by
  intro pc H locs cells slots loc lj hpc hI
  cases hk.symm.trans hpc
  exact lv_pop hA.1 hA.2.1 hd (mj_cat loc x) (h _ _ _ _ _ _ _ hn (hI.stk hI.tl))
theorem mj_s_i2c {x : Int32} {r : List mj_V} (hA : mj_At D cA A el X J mm p R s m args meth c L0 Lf) (hk : mj_pc mm k = some pc0) (hd : decode J.2.1 pc0 = .ok (.i2c, 1)) (hn : mj_pc mm (k + 1) = some (pc0 + 1)) (h : mj_Sim D cA A el mm p l e R s m args below meth c Q L0 loc0 (k + 1) ls (.inl (x.toUInt32 % 65536).toInt32 :: r) σ) : mj_Sim D cA A el mm p l e R s m args below meth c Q L0 loc0 k ls (.inl x :: r) σ := by
  intro pc H locs cells slots loc lj hpc hI
  cases hk.symm.trans hpc
  exact lv_i2c hA.1 hA.2.1 hd rfl (h _ _ _ _ _ _ _ hn (hI.stk (mj_lvc (mj_lvi _ _) hI.tl)))
theorem mj_s_goto {off : Int} {a t : Nat} (hA : mj_At D cA A el X J mm p R s m args meth c L0 Lf) (hk : mj_pc mm k = some pc0) (hd : decode J.2.1 pc0 = .ok (.goto off, 3)) (ht : mj_pc mm a = some t) (ho : (pc0 : Int) + off = (t : Int)) (h : mj_Sim D cA A el mm p l e R s m args below meth c Q L0 loc0 a ls st σ) : mj_Sim D cA A el mm p l e R s m args below meth c Q L0 loc0 k ls st σ := by
  intro pc H locs cells slots loc lj hpc hI
  cases hk.symm.trans hpc
  exact lv_goto hA.1 hA.2.1 hd ho (h _ _ _ _ _ _ _ ht hI)
theorem mj_s_if {o : ClassFile.Cond} {off : Int} {a t : Nat} {x : Int32} {r : List mj_V} (hA : mj_At D cA A el X J mm p R s m args meth c L0 Lf) (hk : mj_pc mm k = some pc0) (hd : decode J.2.1 pc0 = .ok (.ifCond o off, 3)) (hn : mj_pc mm (k + 1) = some (pc0 + 3)) (ht : mj_pc mm a = some t) (ho : (pc0 : Int) + off = (t : Int)) (h : mj_Sim D cA A el mm p l e R s m args below meth c Q L0 loc0 (if mj_cmp o x 0 = true then a else k + 1) ls r σ) : mj_Sim D cA A el mm p l e R s m args below meth c Q L0 loc0 k ls (.inl x :: r) σ := by
  intro pc H locs cells slots loc lj hpc hI
  cases hk.symm.trans hpc
  cases o
  · refine lv_if_eq hA.1 hA.2.1 hd ho (fun g => ?_) (fun g => ?_)
    · rw [if_pos (by simp only [mj_cmp, decide_eq_true_eq]; exact g)] at h
      exact h _ _ _ _ _ _ _ ht (hI.stk hI.tl)
    · rw [if_neg (by simp only [mj_cmp, decide_eq_true_eq]; first | exact g | exact fun z => z g)] at h
      exact h _ _ _ _ _ _ _ hn (hI.stk hI.tl)
  · refine lv_if_ne hA.1 hA.2.1 hd ho (fun g => ?_) (fun g => ?_)
    · rw [if_pos (by simp only [mj_cmp, decide_eq_true_eq]; exact g)] at h
      exact h _ _ _ _ _ _ _ ht (hI.stk hI.tl)
    · rw [if_neg (by simp only [mj_cmp, decide_eq_true_eq]; first | exact g | exact fun z => z g)] at h
      exact h _ _ _ _ _ _ _ hn (hI.stk hI.tl)
  · refine lv_if_lt hA.1 hA.2.1 hd ho (fun g => ?_) (fun g => ?_)
    · rw [if_pos (by simp only [mj_cmp, decide_eq_true_eq]; exact g)] at h
      exact h _ _ _ _ _ _ _ ht (hI.stk hI.tl)
    · rw [if_neg (by simp only [mj_cmp, decide_eq_true_eq]; first | exact g | exact fun z => z g)] at h
      exact h _ _ _ _ _ _ _ hn (hI.stk hI.tl)
  · refine lv_if_ge hA.1 hA.2.1 hd ho (fun g => ?_) (fun g => ?_)
    · rw [if_pos (by simp only [mj_cmp, decide_eq_true_eq]; exact g)] at h
      exact h _ _ _ _ _ _ _ ht (hI.stk hI.tl)
    · rw [if_neg (by simp only [mj_cmp, decide_eq_true_eq]; first | exact g | exact fun z => z g)] at h
      exact h _ _ _ _ _ _ _ hn (hI.stk hI.tl)
  · refine lv_if_gt hA.1 hA.2.1 hd ho (fun g => ?_) (fun g => ?_)
    · rw [if_pos (by simp only [mj_cmp, decide_eq_true_eq]; exact g)] at h
      exact h _ _ _ _ _ _ _ ht (hI.stk hI.tl)
    · rw [if_neg (by simp only [mj_cmp, decide_eq_true_eq]; first | exact g | exact fun z => z g)] at h
      exact h _ _ _ _ _ _ _ hn (hI.stk hI.tl)
  · refine lv_if_le hA.1 hA.2.1 hd ho (fun g => ?_) (fun g => ?_)
    · rw [if_pos (by simp only [mj_cmp, decide_eq_true_eq]; exact g)] at h
      exact h _ _ _ _ _ _ _ ht (hI.stk hI.tl)
    · rw [if_neg (by simp only [mj_cmp, decide_eq_true_eq]; first | exact g | exact fun z => z g)] at h
      exact h _ _ _ _ _ _ _ hn (hI.stk hI.tl)
theorem mj_s_icmp {o : ClassFile.Cond} {off : Int} {a t : Nat} {x y : Int32} {r : List mj_V} (hA : mj_At D cA A el X J mm p R s m args meth c L0 Lf) (hk : mj_pc mm k = some pc0) (hd : decode J.2.1 pc0 = .ok (.if_icmp o off, 3)) (hn : mj_pc mm (k + 1) = some (pc0 + 3)) (ht : mj_pc mm a = some t) (ho : (pc0 : Int) + off = (t : Int)) (h : mj_Sim D cA A el mm p l e R s m args below meth c Q L0 loc0 (if mj_cmp o x y = true then a else k + 1) ls r σ) : mj_Sim D cA A el mm p l e R s m args below meth c Q L0 loc0 k ls (.inl y :: .inl x :: r) σ := by
  intro pc H locs cells slots loc lj hpc hI
  cases hk.symm.trans hpc
  cases o
  · refine lv_icmp_eq hA.1 hA.2.1 hd ho (fun g => ?_) (fun g => ?_)
    · rw [if_pos (by simp only [mj_cmp, decide_eq_true_eq]; exact g)] at h
      exact h _ _ _ _ _ _ _ ht (hI.stk (fun v hv => hI.tl v (List.mem_cons_of_mem _ hv)))
    · rw [if_neg (by simp only [mj_cmp, decide_eq_true_eq]; first | exact g | exact fun z => z g)] at h
      exact h _ _ _ _ _ _ _ hn (hI.stk (fun v hv => hI.tl v (List.mem_cons_of_mem _ hv)))
  · refine lv_icmp_ne hA.1 hA.2.1 hd ho (fun g => ?_) (fun g => ?_)
    · rw [if_pos (by simp only [mj_cmp, decide_eq_true_eq]; exact g)] at h
      exact h _ _ _ _ _ _ _ ht (hI.stk (fun v hv => hI.tl v (List.mem_cons_of_mem _ hv)))
    · rw [if_neg (by simp only [mj_cmp, decide_eq_true_eq]; first | exact g | exact fun z => z g)] at h
      exact h _ _ _ _ _ _ _ hn (hI.stk (fun v hv => hI.tl v (List.mem_cons_of_mem _ hv)))
  · refine lv_icmp_lt hA.1 hA.2.1 hd ho (fun g => ?_) (fun g => ?_)
    · rw [if_pos (by simp only [mj_cmp, decide_eq_true_eq]; exact g)] at h
      exact h _ _ _ _ _ _ _ ht (hI.stk (fun v hv => hI.tl v (List.mem_cons_of_mem _ hv)))
    · rw [if_neg (by simp only [mj_cmp, decide_eq_true_eq]; first | exact g | exact fun z => z g)] at h
      exact h _ _ _ _ _ _ _ hn (hI.stk (fun v hv => hI.tl v (List.mem_cons_of_mem _ hv)))
  · refine lv_icmp_ge hA.1 hA.2.1 hd ho (fun g => ?_) (fun g => ?_)
    · rw [if_pos (by simp only [mj_cmp, decide_eq_true_eq]; exact g)] at h
      exact h _ _ _ _ _ _ _ ht (hI.stk (fun v hv => hI.tl v (List.mem_cons_of_mem _ hv)))
    · rw [if_neg (by simp only [mj_cmp, decide_eq_true_eq]; first | exact g | exact fun z => z g)] at h
      exact h _ _ _ _ _ _ _ hn (hI.stk (fun v hv => hI.tl v (List.mem_cons_of_mem _ hv)))
  · refine lv_icmp_gt hA.1 hA.2.1 hd ho (fun g => ?_) (fun g => ?_)
    · rw [if_pos (by simp only [mj_cmp, decide_eq_true_eq]; exact g)] at h
      exact h _ _ _ _ _ _ _ ht (hI.stk (fun v hv => hI.tl v (List.mem_cons_of_mem _ hv)))
    · rw [if_neg (by simp only [mj_cmp, decide_eq_true_eq]; first | exact g | exact fun z => z g)] at h
      exact h _ _ _ _ _ _ _ hn (hI.stk (fun v hv => hI.tl v (List.mem_cons_of_mem _ hv)))
  · refine lv_icmp_le hA.1 hA.2.1 hd ho (fun g => ?_) (fun g => ?_)
    · rw [if_pos (by simp only [mj_cmp, decide_eq_true_eq]; exact g)] at h
      exact h _ _ _ _ _ _ _ ht (hI.stk (fun v hv => hI.tl v (List.mem_cons_of_mem _ hv)))
    · rw [if_neg (by simp only [mj_cmp, decide_eq_true_eq]; first | exact g | exact fun z => z g)] at h
      exact h _ _ _ _ _ _ _ hn (hI.stk (fun v hv => hI.tl v (List.mem_cons_of_mem _ hv)))
theorem mj_tg_of {cd : List mj_E} {a : Nat} {t : Int} (h : mj_tg cd a t = true) : ∃ n : Nat, (cd[a]?).map (fun e => e.1) = some n ∧ t = (n : Int) := by
  unfold mj_tg at h
  cases hc : cd[a]? with
  | none => rw [hc] at h; cases h
  | some e =>
    rw [hc] at h
    exact ⟨e.1, rfl, of_decide_eq_true h⟩
theorem mj_s_tsw {d lo hi : Int} {offs : Array Int} {len a : Nat} {ts : List Nat} {x : Int32} {r : List mj_V} (hA : mj_At D cA A el X J mm p R s m args meth c L0 Lf) (hk : mj_pc mm k = some pc0) (hd : decode J.2.1 pc0 = .ok (.tableswitch d lo hi offs, len)) (h1 : mj_tg (mj_cd mj_Y mm) a (pc0 + d) = true) (h2 : (hi - lo + 1).toNat = ts.length) (h3 : (offs.toList.zip ts).all (fun q => mj_tg (mj_cd mj_Y mm) q.2 (pc0 + q.1)) = true) (h4 : offs.size = ts.length) (h : mj_Sim D cA A el mm p l e R s m args below meth c Q L0 loc0 (mj_tsw lo hi ts a x) ls r σ) : mj_Sim D cA A el mm p l e R s m args below meth c Q L0 loc0 k ls (.inl x :: r) σ := by
  intro pc H locs cells slots loc lj hpc hI
  cases hk.symm.trans hpc
  unfold mj_tsw at h
  by_cases g : x.toInt < lo ∨ hi < x.toInt
  · rw [if_pos g] at h
    obtain ⟨n, e1, e2⟩ := mj_tg_of h1
    exact lv_tableOut hA.1 hA.2.1 hd g e2 (h _ _ _ _ _ _ _ e1 (hI.stk hI.tl))
  · rw [if_neg g] at h
    have g1 : ¬ x.toInt < lo := fun q => g (Or.inl q)
    have g2 : ¬ hi < x.toInt := fun q => g (Or.inr q)
    have hlt : (x.toInt - lo).toNat < ts.length := by omega
    have hlo : (x.toInt - lo).toNat < offs.size := by omega
    rw [List.getElem?_eq_getElem hlt] at h
    have hm : (offs[(x.toInt - lo).toNat], ts[(x.toInt - lo).toNat]) ∈ offs.toList.zip ts := by
      refine List.mem_of_getElem? (i := (x.toInt - lo).toNat) ?_
      rw [List.getElem?_zip_eq_some]
      refine ⟨?_, List.getElem?_eq_getElem hlt⟩
      rw [Array.getElem?_toList, Array.getElem?_eq_getElem hlo]
    obtain ⟨n, e1, e2⟩ := mj_tg_of (List.all_eq_true.mp h3 _ hm)
    exact lv_tableIn hA.1 hA.2.1 hd g1 g2 (Array.getElem?_eq_getElem hlo) e2 (h _ _ _ _ _ _ _ e1 (hI.stk hI.tl))
theorem mj_lsw_of {cd : List mj_E} {pc : Nat} {d : Int} {a : Nat} {x : Int32} (h1 : mj_tg cd a (pc + d) = true) : ∀ (ps : List (Int × Int)) (ts : List Nat), (ps.zip ts).all (fun q => mj_tg cd q.2 (pc + q.1.2)) = true → ps.length = ts.length → mj_tg cd (mj_lsw ps ts a x) (pc + Op.lookupswitch.offset ps d x.toInt) = true
  | [], ts, _, _ => by
    rw [Op.lookupswitch.offset_nil]
    have e : mj_lsw [] ts a x = a := by cases ts <;> rfl
    rw [e]
    exact h1
  | (b, o) :: ps, [], _, h3 => by cases h3
  | (b, o) :: ps, t :: ts, h2, h3 => by
    rw [List.zip_cons_cons, List.all_cons, Bool.and_eq_true] at h2
    rw [Op.lookupswitch.offset_cons]
    show mj_tg cd (if x.toInt = b then t else mj_lsw ps ts a x) _ = true
    by_cases g : x.toInt = b
    · rw [if_pos g, if_pos g.symm]
      exact h2.1
    · rw [if_neg g, if_neg (fun q => g q.symm)]
      exact mj_lsw_of h1 ps ts h2.2 (Nat.succ.inj h3)
theorem mj_s_lsw {d : Int} {ps : Array (Int × Int)} {len a : Nat} {ts : List Nat} {x : Int32} {r : List mj_V} (hA : mj_At D cA A el X J mm p R s m args meth c L0 Lf) (hk : mj_pc mm k = some pc0) (hd : decode J.2.1 pc0 = .ok (.lookupswitch d ps, len)) (h1 : mj_tg (mj_cd mj_Y mm) a (pc0 + d) = true) (h3 : (ps.toList.zip ts).all (fun q => mj_tg (mj_cd mj_Y mm) q.2 (pc0 + q.1.2)) = true) (h4 : ps.size = ts.length) (h5 : (ps.toList.zip (ps.toList.drop 1)).all (fun (a, next) => a.1 < next.1) = true) (h : mj_Sim D cA A el mm p l e R s m args below meth c Q L0 loc0 (mj_lsw ps.toList ts a x) ls r σ) : mj_Sim D cA A el mm p l e R s m args below meth c Q L0 loc0 k ls (.inl x :: r) σ := by
  intro pc H locs cells slots loc lj hpc hI
  cases hk.symm.trans hpc
  obtain ⟨n, e1, e2⟩ := mj_tg_of (mj_lsw_of (x := x) h1 ps.toList ts h3 (by rw [Array.length_toList]; exact h4))
  exact lv_lookup hA.1 hA.2.1 hd h5 rfl e2 (h _ _ _ _ _ _ _ e1 (hI.stk hI.tl))
end SND
