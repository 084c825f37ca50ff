/-! calls: the words of each method; a call out of the callee's contract -/
def mj_mp : List (List Nat) := [[168, 0, 169, 46], [233, 1, 234, 46], [408, 30, 409, 46], [67, 0, 68, 44], [72, 0, 73, 44], [241, 3, 242, 44], [262, 6, 263, 44], [341, 18, 342, 44], [305, 11, 306, 44], [434, 34, 435, 44], [479, 39, 480, 44], [313, 13, 314, 44], [317, 14, 318, 44], [297, 9, 298, 44], [420, 32, 421, 44], [443, 35, 444, 44], [416, 31, 417, 44], [332, 17, 333, 44], [356, 21, 357, 44], [293, 8, 294, 44], [430, 33, 431, 44], [309, 12, 310, 44], [493, 40, 494, 44], [301, 10, 302, 44], [289, 7, 290, 44], [324, 15, 325, 44], [328, 16, 329, 44], [352, 20, 353, 44], [348, 19, 349, 44], [361, 22, 362, 44], [373, 24, 374, 44], [369, 23, 370, 44], [188, 0, 189, 47], [136, 0, 137, 45], [390, 27, 391, 45], [248, 4, 249, 45], [400, 29, 401, 45], [396, 28, 397, 45], [61, 0, 62, 43], [253, 5, 254, 43], [237, 2, 238, 43], [382, 25, 383, 43], [386, 26, 387, 43], [455, 37, 456, 43], [451, 36, 452, 43], [459, 38, 460, 43], [53, 0, 54, 42], [224, 225, 226, 42], [257, 258, 259, 42], [266, 267, 268, 42], [274, 275, 276, 42], [336, 337, 338, 42], [364, 365, 366, 42], [377, 378, 379, 42], [403, 404, 405, 42], [411, 412, 413, 42], [423, 424, 425, 42], [474, 475, 476, 42], [438, 439, 440, 42], [446, 447, 448, 42], [488, 489, 490, 42], [228, 0, 229, 42], [278, 0, 279, 42], [344, 0, 345, 42], [282, 0, 283, 42], [285, 0, 286, 48], [482, 0, 483, 48], [320, 0, 321, 48], [464, 0, 465, 41], [469, 0, 470, 41], [485, 0, 486, 41]]
def mj_okJ (m : Nat) : Bool := match mj_ms[m]?, mj_mp[m]? with
  | some J, some [p0, p1, p2, p3] => plainFor J.1 && decide (J.1.cls ≠ "java/lang/invoke/MethodHandle") && decide (J.1.cls ≠ "java/lang/invoke/VarHandle") && decide (lw_tbl[p2]? = some (Jvm.Cond.code J.1 J.2.1 (mj_mx mj_Y m) J.2.2.1)) && decide (lw_tbl[p3]? = some (Jvm.Cond.initialized J.1.cls)) &&
    (if J.2.2.2.2.2 = 1 then decide (lw_tbl[p0]? = some (Jvm.Cond.static J.1)) else decide (lw_tbl[p0]? = some (Jvm.Cond.instanceMethod J.1)) && (decide (J.1.name = "<init>") || decide (lw_tbl[p1]? = some (Jvm.Cond.selects J.1.cls J.1 J.1))))
  | _, _ => false
theorem mj_okJ_0 : ∀ m, m < 10 → mj_okJ (0 + m) = true := by decide +kernel
theorem mj_okJ_10 : ∀ m, m < 10 → mj_okJ (10 + m) = true := by decide +kernel
theorem mj_okJ_20 : ∀ m, m < 10 → mj_okJ (20 + m) = true := by decide +kernel
theorem mj_okJ_30 : ∀ m, m < 10 → mj_okJ (30 + m) = true := by decide +kernel
theorem mj_okJ_40 : ∀ m, m < 10 → mj_okJ (40 + m) = true := by decide +kernel
theorem mj_okJ_50 : ∀ m, m < 10 → mj_okJ (50 + m) = true := by decide +kernel
theorem mj_okJ_60 : ∀ m, m < 10 → mj_okJ (60 + m) = true := by decide +kernel
theorem mj_okJ_70 : ∀ m, m < 1 → mj_okJ (70 + m) = true := by decide +kernel
theorem mj_okJ_all : ∀ m, m < 71 → mj_okJ m = true := by
  intro m hm
  by_cases h0 : m < 10
  · have g := mj_okJ_0 (m - 0) (by omega)
    rw [show 0 + (m - 0) = m by omega] at g
    exact g
  by_cases h10 : m < 20
  · have g := mj_okJ_10 (m - 10) (by omega)
    rw [show 10 + (m - 10) = m by omega] at g
    exact g
  by_cases h20 : m < 30
  · have g := mj_okJ_20 (m - 20) (by omega)
    rw [show 20 + (m - 20) = m by omega] at g
    exact g
  by_cases h30 : m < 40
  · have g := mj_okJ_30 (m - 30) (by omega)
    rw [show 30 + (m - 30) = m by omega] at g
    exact g
  by_cases h40 : m < 50
  · have g := mj_okJ_40 (m - 40) (by omega)
    rw [show 40 + (m - 40) = m by omega] at g
    exact g
  by_cases h50 : m < 60
  · have g := mj_okJ_50 (m - 50) (by omega)
    rw [show 50 + (m - 50) = m by omega] at g
    exact g
  by_cases h60 : m < 70
  · have g := mj_okJ_60 (m - 60) (by omega)
    rw [show 60 + (m - 60) = m by omega] at g
    exact g
  by_cases h70 : m < 71
  · have g := mj_okJ_70 (m - 70) (by omega)
    rw [show 70 + (m - 70) = m by omega] at g
    exact g
  omega
theorem mj_ms_len : mj_ms.length = 72 := by decide +kernel
theorem mj_Jw {m : Nat} {J : mj_J} (h : mj_ms[m]? = some J) (hm : ¬ m = 71) : plainFor J.1 = true ∧ (J.1.cls ≠ "java/lang/invoke/MethodHandle" ∧ J.1.cls ≠ "java/lang/invoke/VarHandle") ∧ Jvm.Cond.code J.1 J.2.1 (mj_mx mj_Y m) J.2.2.1 ∈ mj_goods ∧ Jvm.Cond.initialized J.1.cls ∈ mj_goods ∧ ((J.2.2.2.2.2 = 1 ∧ Jvm.Cond.static J.1 ∈ mj_goods) ∨ (¬ J.2.2.2.2.2 = 1 ∧ Jvm.Cond.instanceMethod J.1 ∈ mj_goods ∧ (J.1.name = "<init>" ∨ Jvm.Cond.selects J.1.cls J.1 J.1 ∈ mj_goods))) := by
  have hlt : m < 71 := by
    have := (List.getElem?_eq_some_iff.mp h).1
    rw [mj_ms_len] at this
    omega
  have hok := mj_okJ_all m hlt
  unfold mj_okJ at hok
  rw [h] at hok
  split at hok
  · rename_i J' p0 p1 p2 p3 e1 e2
    cases e1
    simp only [Bool.and_eq_true, decide_eq_true_eq] at hok
    obtain ⟨⟨⟨⟨⟨h1, h2⟩, h3⟩, h4⟩, h5⟩, h6⟩ := hok
    refine ⟨h1, ⟨h2, h3⟩, mj_gd h4 rfl, mj_gd h5 rfl, ?_⟩
    by_cases g : J.2.2.2.2.2 = 1
    · rw [if_pos g] at h6
      exact Or.inl ⟨g, mj_gd (of_decide_eq_true h6) rfl⟩
    · rw [if_neg g] at h6
      simp only [Bool.and_eq_true, Bool.or_eq_true, decide_eq_true_eq] at h6
      exact Or.inr ⟨g, mj_gd h6.1 rfl, h6.2.imp id (fun z => mj_gd z rfl)⟩
  · cases hok
