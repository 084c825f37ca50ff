/-! calls: the words of each method; a call out of the callee's contract -/
def mj_mp : List (List Nat) := [[214, 0, 215, 87], [288, 1, 289, 87], [463, 30, 464, 87], [109, 0, 110, 85], [114, 0, 115, 85], [296, 3, 297, 85], [317, 6, 318, 85], [396, 18, 397, 85], [360, 11, 361, 85], [489, 34, 490, 85], [499, 35, 500, 85], [368, 13, 369, 85], [372, 14, 373, 85], [352, 9, 353, 85], [475, 32, 476, 85], [510, 36, 511, 85], [471, 31, 472, 85], [387, 17, 388, 85], [411, 21, 412, 85], [348, 8, 349, 85], [485, 33, 486, 85], [364, 12, 365, 85], [583, 44, 584, 85], [356, 10, 357, 85], [344, 7, 345, 85], [379, 15, 380, 85], [383, 16, 384, 85], [407, 20, 408, 85], [403, 19, 404, 85], [416, 22, 417, 85], [428, 24, 429, 85], [424, 23, 425, 85], [565, 43, 566, 85], [234, 0, 235, 88], [591, 45, 592, 88], [624, 51, 625, 88], [603, 46, 604, 88], [607, 47, 608, 88], [620, 50, 621, 88], [611, 48, 612, 88], [628, 52, 629, 88], [615, 49, 616, 88], [632, 53, 633, 88], [178, 0, 179, 86], [445, 27, 446, 86], [303, 4, 304, 86], [455, 29, 456, 86], [524, 38, 525, 86], [451, 28, 452, 86], [534, 39, 535, 86], [103, 0, 104, 84], [308, 5, 309, 84], [292, 2, 293, 84], [518, 37, 519, 84], [437, 25, 438, 84], [441, 26, 442, 84], [547, 41, 548, 84], [543, 40, 544, 84], [551, 42, 552, 84], [95, 0, 96, 83], [279, 280, 281, 83], [312, 313, 314, 83], [321, 322, 323, 83], [329, 330, 331, 83], [391, 392, 393, 83], [419, 420, 421, 83], [432, 433, 434, 83], [458, 459, 460, 83], [466, 467, 468, 83], [478, 479, 480, 83], [493, 494, 495, 83], [505, 506, 507, 83], [513, 514, 515, 83], [529, 530, 531, 83], [538, 539, 540, 83], [555, 556, 557, 83], [559, 560, 561, 83], [569, 570, 571, 83], [574, 575, 576, 83], [578, 579, 580, 83], [586, 587, 588, 83], [594, 595, 596, 83], [598, 599, 600, 83], [640, 641, 642, 83], [649, 650, 651, 83], [646, 54, 647, 83], [283, 0, 284, 83], [333, 0, 334, 83], [399, 0, 400, 83], [337, 0, 338, 83], [655, 0, 656, 89], [708, 0, 709, 89], [744, 0, 745, 89], [664, 56, 665, 89], [713, 57, 714, 89], [660, 55, 661, 89], [748, 60, 749, 89], [825, 72, 826, 89], [817, 71, 818, 89], [752, 61, 753, 89], [776, 66, 777, 89], [741, 59, 742, 89], [756, 62, 757, 89], [737, 58, 738, 89], [772, 65, 773, 89], [768, 64, 769, 89], [781, 67, 782, 89], [789, 68, 790, 89], [797, 69, 798, 89], [704, 705, 706, 89], [716, 717, 718, 89], [724, 0, 725, 89], [720, 721, 722, 89], [732, 0, 733, 89], [764, 63, 765, 89], [728, 729, 730, 89], [759, 760, 761, 89], [784, 785, 786, 89], [792, 793, 794, 89], [804, 805, 806, 89], [808, 809, 810, 89], [812, 813, 814, 89], [820, 821, 822, 89], [829, 830, 831, 89], [801, 70, 802, 89], [842, 74, 843, 89], [838, 73, 839, 89], [833, 834, 835, 89], [845, 846, 847, 89], [849, 850, 851, 89], [853, 854, 855, 89], [867, 76, 868, 89], [863, 75, 864, 89], [871, 77, 872, 89], [858, 859, 860, 89], [874, 875, 876, 89], [878, 879, 880, 89], [882, 883, 884, 89], [886, 887, 888, 89], [890, 891, 892, 89], [907, 80, 908, 89], [903, 79, 904, 89], [899, 78, 900, 89], [894, 895, 896, 89], [916, 81, 917, 89], [910, 911, 912, 89], [919, 920, 921, 89], [340, 0, 341, 91], [502, 0, 503, 91], [375, 0, 376, 91]]
def mj_okJ (m : Nat) : Bool := match mj_ms[m]?, mj_mp[m]? with
  | some J, some [p0, p1, p2, p3] => plainFor J.1 && decide (J.1.cls ≠ "java/lang/invoke/MethodHandle") && decide (J.1.cls ≠ "java/lang/invoke/VarHandle") && decide (lw_tbl[p2]? = some (Jvm.Cond.code J.1 J.2.1 (mj_mx mj_Y m) J.2.2.1)) && decide (lw_tbl[p3]? = some (Jvm.Cond.initialized J.1.cls)) &&
    (if J.2.2.2.2.2 = 1 then decide (lw_tbl[p0]? = some (Jvm.Cond.static J.1)) else decide (lw_tbl[p0]? = some (Jvm.Cond.instanceMethod J.1)) && (decide (J.1.name = "<init>") || decide (lw_tbl[p1]? = some (Jvm.Cond.selects J.1.cls J.1 J.1))))
  | _, _ => false
theorem mj_okJ_0 : ∀ m, m < 10 → mj_okJ (0 + m) = true := by decide +kernel
theorem mj_okJ_10 : ∀ m, m < 10 → mj_okJ (10 + m) = true := by decide +kernel
theorem mj_okJ_20 : ∀ m, m < 10 → mj_okJ (20 + m) = true := by decide +kernel
theorem mj_okJ_30 : ∀ m, m < 10 → mj_okJ (30 + m) = true := by decide +kernel
theorem mj_okJ_40 : ∀ m, m < 10 → mj_okJ (40 + m) = true := by decide +kernel
theorem mj_okJ_50 : ∀ m, m < 10 → mj_okJ (50 + m) = true := by decide +kernel
theorem mj_okJ_60 : ∀ m, m < 10 → mj_okJ (60 + m) = true := by decide +kernel
theorem mj_okJ_70 : ∀ m, m < 10 → mj_okJ (70 + m) = true := by decide +kernel
theorem mj_okJ_80 : ∀ m, m < 10 → mj_okJ (80 + m) = true := by decide +kernel
theorem mj_okJ_90 : ∀ m, m < 10 → mj_okJ (90 + m) = true := by decide +kernel
theorem mj_okJ_100 : ∀ m, m < 10 → mj_okJ (100 + m) = true := by decide +kernel
theorem mj_okJ_110 : ∀ m, m < 10 → mj_okJ (110 + m) = true := by decide +kernel
theorem mj_okJ_120 : ∀ m, m < 10 → mj_okJ (120 + m) = true := by decide +kernel
theorem mj_okJ_130 : ∀ m, m < 10 → mj_okJ (130 + m) = true := by decide +kernel
theorem mj_okJ_140 : ∀ m, m < 10 → mj_okJ (140 + m) = true := by decide +kernel
theorem mj_okJ_all : ∀ m, m < 150 → mj_okJ m = true := by
  intro m hm
  by_cases h0 : m < 10
  · have g := mj_okJ_0 (m - 0) (by omega)
    rw [show 0 + (m - 0) = m by omega] at g
    exact g
  by_cases h10 : m < 20
  · have g := mj_okJ_10 (m - 10) (by omega)
    rw [show 10 + (m - 10) = m by omega] at g
    exact g
  by_cases h20 : m < 30
  · have g := mj_okJ_20 (m - 20) (by omega)
    rw [show 20 + (m - 20) = m by omega] at g
    exact g
  by_cases h30 : m < 40
  · have g := mj_okJ_30 (m - 30) (by omega)
    rw [show 30 + (m - 30) = m by omega] at g
    exact g
  by_cases h40 : m < 50
  · have g := mj_okJ_40 (m - 40) (by omega)
    rw [show 40 + (m - 40) = m by omega] at g
    exact g
  by_cases h50 : m < 60
  · have g := mj_okJ_50 (m - 50) (by omega)
    rw [show 50 + (m - 50) = m by omega] at g
    exact g
  by_cases h60 : m < 70
  · have g := mj_okJ_60 (m - 60) (by omega)
    rw [show 60 + (m - 60) = m by omega] at g
    exact g
  by_cases h70 : m < 80
  · have g := mj_okJ_70 (m - 70) (by omega)
    rw [show 70 + (m - 70) = m by omega] at g
    exact g
  by_cases h80 : m < 90
  · have g := mj_okJ_80 (m - 80) (by omega)
    rw [show 80 + (m - 80) = m by omega] at g
    exact g
  by_cases h90 : m < 100
  · have g := mj_okJ_90 (m - 90) (by omega)
    rw [show 90 + (m - 90) = m by omega] at g
    exact g
  by_cases h100 : m < 110
  · have g := mj_okJ_100 (m - 100) (by omega)
    rw [show 100 + (m - 100) = m by omega] at g
    exact g
  by_cases h110 : m < 120
  · have g := mj_okJ_110 (m - 110) (by omega)
    rw [show 110 + (m - 110) = m by omega] at g
    exact g
  by_cases h120 : m < 130
  · have g := mj_okJ_120 (m - 120) (by omega)
    rw [show 120 + (m - 120) = m by omega] at g
    exact g
  by_cases h130 : m < 140
  · have g := mj_okJ_130 (m - 130) (by omega)
    rw [show 130 + (m - 130) = m by omega] at g
    exact g
  by_cases h140 : m < 150
  · have g := mj_okJ_140 (m - 140) (by omega)
    rw [show 140 + (m - 140) = m by omega] at g
    exact g
  omega
theorem mj_ms_len : mj_ms.length = 151 := by decide +kernel
theorem mj_Jw {m : Nat} {J : mj_J} (h : mj_ms[m]? = some J) (hm : ¬ m = 150) : plainFor J.1 = true ∧ (J.1.cls ≠ "java/lang/invoke/MethodHandle" ∧ J.1.cls ≠ "java/lang/invoke/VarHandle") ∧ Jvm.Cond.code J.1 J.2.1 (mj_mx mj_Y m) J.2.2.1 ∈ mj_goods ∧ Jvm.Cond.initialized J.1.cls ∈ mj_goods ∧ ((J.2.2.2.2.2 = 1 ∧ Jvm.Cond.static J.1 ∈ mj_goods) ∨ (¬ J.2.2.2.2.2 = 1 ∧ Jvm.Cond.instanceMethod J.1 ∈ mj_goods ∧ (J.1.name = "<init>" ∨ Jvm.Cond.selects J.1.cls J.1 J.1 ∈ mj_goods))) := by
  have hlt : m < 150 := by
    have := (List.getElem?_eq_some_iff.mp h).1
    rw [mj_ms_len] at this
    omega
  have hok := mj_okJ_all m hlt
  unfold mj_okJ at hok
  rw [h] at hok
  split at hok
  · rename_i J' p0 p1 p2 p3 e1 e2
    cases e1
    simp only [Bool.and_eq_true, decide_eq_true_eq] at hok
    obtain ⟨⟨⟨⟨⟨h1, h2⟩, h3⟩, h4⟩, h5⟩, h6⟩ := hok
    refine ⟨h1, ⟨h2, h3⟩, mj_gd h4 rfl, mj_gd h5 rfl, ?_⟩
    by_cases g : J.2.2.2.2.2 = 1
    · rw [if_pos g] at h6
      exact Or.inl ⟨g, mj_gd (of_decide_eq_true h6) rfl⟩
    · rw [if_neg g] at h6
      simp only [Bool.and_eq_true, Bool.or_eq_true, decide_eq_true_eq] at h6
      exact Or.inr ⟨g, mj_gd h6.1 rfl, h6.2.imp id (fun z => mj_gd z rfl)⟩
  · cases hok
