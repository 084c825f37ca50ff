/-! a state of the class holds a state's ints: its lining and its kept scans -/
def mr_C (f : mj_F) (sc : Nat → Nat) (D : Nat → Int32) (c n : Nat) : Prop := ∀ k, k < c → f 3 (sc k) 2 = D (143 + k) ∧ ∀ j, j < n → f 15 (sc k) j = D (147 + 60 * k + j) ∧ f 16 (sc k) j = D (387 + 60 * k + j)
def mr_S (f : mj_F) (st a : Nat) (sc : Nat → Nat) (D : Nat → Int32) (r s n H : Nat) : Prop := mr_L f a D r s n ∧ sp_ok D r s n H ∧ ∃ c, c ≤ 4 ∧ D 142 = nI c ∧ f 4 st 2 = nI c ∧ mr_C f sc D c n
def mr_G (st a lo : Nat) (f F : mj_F) : Prop := ∀ k i j, ¬ ((k = 1 ∨ (8 ≤ k ∧ k ≤ 13)) ∧ i = a) → ¬ (k = 4 ∧ i = st) → ¬ ((k = 3 ∨ k = 15 ∨ k = 16) ∧ lo ≤ i ∧ i < lo + 4) → F k i j = f k i j
def mr_P (lo : Nat) (sc : Nat → Nat) : Prop := (∀ k, k < 4 → lo ≤ sc k ∧ sc k < lo + 4) ∧ ∀ k q, k < 4 → q < 4 → sc k = sc q → k = q
theorem mr_G_t {st a lo : Nat} {f F E : mj_F} (h : mr_G st a lo f F) (h2 : mr_G st a lo F E) : mr_G st a lo f E := fun k i j n1 n2 n3 => (h2 k i j n1 n2 n3).trans (h k i j n1 n2 n3)
theorem mr_G_F {st a lo : Nat} {f F : mj_F} (h : mr_F a f F) : mr_G st a lo f F := fun k i j n1 _ _ => h k i j n1
theorem mr_P_ro {lo : Nat} {sc : Nat → Nat} (h : mr_P lo sc) : mr_P lo (mc_ro sc) := by
  obtain ⟨h1, h2⟩ := h
  refine ⟨fun k hk => ?_, fun k q hk hq e => ?_⟩
  · unfold mc_ro
    split
    · exact h1 0 (by omega)
    · exact h1 (k + 1) (by omega)
  · unfold mc_ro at e
    by_cases c1 : k = 3
    · by_cases c2 : q = 3
      · omega
      · rw [if_pos c1, if_neg c2] at e
        have := h2 _ _ (by omega) (by omega) e
        omega
    · by_cases c2 : q = 3
      · rw [if_neg c1, if_pos c2] at e
        have := h2 _ _ (by omega) (by omega) e
        omega
      · rw [if_neg c1, if_neg c2] at e
        have := h2 _ _ (by omega) (by omega) e
        omega
section R2
variable {X : mj_X} {S : List (Nat × Nat)} {f F : mj_F} {g : mj_G} {st sw a b r s n lo l2 c H H2 : Nat} {sc sp : Nat → Nat} {D E : Nat → Int32}
theorem mr_S_H (h : mr_S f st a sc D r s n H) (hH : H ≤ H2) : mr_S f st a sc D r s n H2 := ⟨h.1, sp_ok_H h.2.1 hH, h.2.2⟩
theorem mr_S_e (h : mr_S f sw b sp D r s n H) (hG : mr_G st a lo f F) (h1 : b ≠ a) (h2 : sw ≠ st) (h3 : ∀ k, k < 4 → sp k < lo ∨ lo + 4 ≤ sp k) : mr_S F sw b sp D r s n H := by
  obtain ⟨k1, k2, c, k3, k4, k5, k6⟩ := h
  refine ⟨mr_L_e k1 (fun k j hk => hG _ _ _ (by omega) (by omega) (by omega)), k2, c, k3, k4, by rw [hG _ _ _ (by omega) (by omega) (by omega)]; exact k5, fun k hk => ⟨?_, fun j hj => ⟨?_, ?_⟩⟩⟩
  · have := h3 k (by omega)
    rw [hG _ _ _ (by omega) (by omega) (by omega)]; exact (k6 k hk).1
  · have := h3 k (by omega)
    rw [hG _ _ _ (by omega) (by omega) (by omega)]; exact ((k6 k hk).2 j hj).1
  · have := h3 k (by omega)
    rw [hG _ _ _ (by omega) (by omega) (by omega)]; exact ((k6 k hk).2 j hj).2
/-- an act on the lining alone: the scans stay -/
theorem mr_S_L (h : mr_S f st a sc D r s n H) (hF : mr_F a f F) (hL : mr_L F a E r s n) (hok : sp_ok E r s n H2) (hE : ∀ i, 142 ≤ i → E i = D i) : mr_S F st a sc E r s n H2 := by
  obtain ⟨k1, k2, c, k3, k4, k5, k6⟩ := h
  refine ⟨hL, hok, c, k3, by rw [hE _ (by omega)]; exact k4, by rw [hF _ _ _ (by omega)]; exact k5, fun k hk => ⟨?_, fun j hj => ⟨?_, ?_⟩⟩⟩
  · rw [hF _ _ _ (by omega), hE _ (by omega)]; exact (k6 k hk).1
  · rw [hF _ _ _ (by omega), hE _ (by omega)]; exact ((k6 k hk).2 j hj).1
  · rw [hF _ _ _ (by omega), hE _ (by omega)]; exact ((k6 k hk).2 j hj).2
theorem mr_take_a (hL : mr_L f a D r s n) (hV : mr_V D n) (hU : mr_U D c n H) (hc : c < 4) (hC : mr_C f sc D c n) (hP : mr_P lo sc) : mr_S (mj_u (mc_tke f (sc c) a n) 4 st 2 (nI (c + 1))) st a sc (sp_st D c n) r s n H ∧ mr_G st a lo f (mj_u (mc_tke f (sc c) a n) 4 st 2 (nI (c + 1))) := by
  have h60 := hL.1.1.n60
  have hp := hP.1 c hc
  have hG : mr_G st a lo f (mj_u (mc_tke f (sc c) a n) 4 st 2 (nI (c + 1))) := fun k i j n1 n2 n3 => by
    unfold mc_tke
    rw [mj_u_n (by omega), mj_u_n (by omega), mc_tk_o (by omega)]
  have e11 : f 11 a 2 = D 14 := mr_L_s hL (by omega)
  refine ⟨⟨mr_L_e (mr_L_D hL (fun i hi => sp_st_o hc h60 hi)) (fun k j hk => ?_), ⟨hL.1.1, by rw [sp_st_o hc h60 (by omega)]; exact hL.1.2.1, by rw [sp_st_o hc h60 (by omega)]; exact hL.1.2.2, mr_V_142 hV h60 (fun i hi => sp_st_o hc h60 hi), c + 1, by omega, sp_st_142, mr_U_st hV hU hc h60⟩, c + 1, by omega, sp_st_142, mj_us, fun k hk => ?_⟩, hG⟩
  · unfold mc_tke
    rw [mj_u_n (by omega), mj_u_n (by omega), mc_tk_o (by omega)]
  · rw [mj_uk (by decide)]
    unfold mc_tke
    by_cases c1 : k = c
    · subst c1
      refine ⟨by rw [mj_us, sp_st_h hc h60]; exact hL.2.2.1.1, fun j hj => ⟨?_, ?_⟩⟩
      · rw [mj_uk (by decide), mj_uk (by decide), mc_tk_15 hj, sp_st_t hc h60 hj, e11, mr_L_T hL hj]
      · rw [mj_uk (by decide), mj_uk (by decide), mc_tk_16 hj, sp_st_x hc h60 hj, mr_L_T hL hj]
    · have hne : sc k ≠ sc c := fun q_ => c1 (hP.2 _ _ (by omega) hc q_)
      have hk2 : k < c := by omega
      refine ⟨by rw [mj_ui hne, mc_tk_o (by omega), sp_st_k hc h60 hk2]; exact (hC k hk2).1, fun j hj => ⟨?_, ?_⟩⟩
      · rw [mj_uk (by decide), mj_uk (by decide), mc_tk_o (by omega), (sp_st_ko hc h60 hj hk2).1]; exact ((hC k hk2).2 j hj).1
      · rw [mj_uk (by decide), mj_uk (by decide), mc_tk_o (by omega), (sp_st_ko hc h60 hj hk2).2]; exact ((hC k hk2).2 j hj).2
theorem mr_take (hT : mc_TG g st a sc) (h : mr_S f st a sc D r s n H) (hP : mr_P lo sc) : ∃ (F : mj_F) (G : mj_G) (sd : Nat → Nat) (d : Nat), mj_x X 41 [.inr (4, st)] (S, f, g) = some (some (.inr (3, sd d)), (S, F, G)) ∧ mr_S F st a sd (sp_sc D n) r s n H ∧ sp_sc D n 142 = nI (d + 1) ∧ d < 4 ∧ mc_TG G st a sd ∧ (G = g ∨ G = mc_dg g st) ∧ mr_P lo sd ∧ mr_G st a lo f F := by
  obtain ⟨k1, k2, c, k3, k4, k5, k6⟩ := h
  have h60 := k1.1.1.n60
  have hV := k2.2.2.2.1
  have hU : mr_U D c n H := by
    obtain ⟨-, -, -, -, c2, y1, y2, y3⟩ := k2
    rw [k4] at y2
    have : c = c2 := (mj_eq (by omega) (by omega)).mp y2
    rw [this]
    exact y3
  have hT0 : ∀ j, j < n → ¬ mc_T f a j + nI 100 = 0 := fun j hj => mr_L_T0 k1 hV hj
  unfold sp_sc
  by_cases c1 : c = 4
  · subst c1
    rw [if_pos k4]
    have t1 := mc_takeScan4 (X := X) (S := S) hT k1.2.1.2.2 h60 hT0 k5
    have L1 : mr_L (mj_u f 4 st 2 (nI 3)) a (sp_sd D) r s n := mr_L_e (mr_L_D k1 (fun i hi => sp_sd_o hi)) (fun k j hk => mj_uk (by omega))
    have C1 : mr_C (mj_u f 4 st 2 (nI 3)) (mc_ro sc) (sp_sd D) 3 n := fun k hk => by
      have er : mc_ro sc k = sc (k + 1) := by unfold mc_ro; rw [if_neg (by omega)]
      rw [er]
      refine ⟨by rw [mj_uk (by decide), sp_sd_k hk]; exact (k6 (k + 1) (by omega)).1, fun j hj => ⟨?_, ?_⟩⟩
      · rw [mj_uk (by decide), sp_sd_t hk (by omega)]; exact ((k6 (k + 1) (by omega)).2 j hj).1
      · rw [mj_uk (by decide), sp_sd_x hk (by omega)]; exact ((k6 (k + 1) (by omega)).2 j hj).2
    have a1 := mr_take_a (st := st) L1 (mr_V_142 hV h60 (fun i hi => sp_sd_o hi)) (mr_U_sd hU h60) (by omega) C1 (mr_P_ro hP)
    have e3 : mc_ro sc 3 = sc 0 := rfl
    rw [e3] at a1
    refine ⟨_, _, mc_ro sc, 3, t1, a1.1, sp_st_142, by omega, mc_TG_dg hT, Or.inr rfl, mr_P_ro hP, mr_G_t (fun k i j n1 n2 n3 => ?_) a1.2⟩
    exact mj_u_n (by omega)
  · rw [k4, if_neg (fun q_ => c1 ((mj_eq (by omega) (by omega)).mp q_)), nI_clamp (by omega)]
    have t1 := mc_takeScan (X := X) (S := S) hT k1.2.1.2.2 h60 hT0 k5 (by omega)
    have a1 := mr_take_a (st := st) k1 hV hU (by omega) k6 hP
    exact ⟨_, _, sc, c, t1, a1.1, sp_st_142, by omega, hT, Or.inl rfl, hP, a1.2⟩
theorem mr_css {k : Nat} (hP : mr_P lo sc) (hd : ∀ k, k < 4 → sp k < lo ∨ lo + 4 ≤ sp k) (hk : k ≤ 4) : (∀ q, q < k → ∀ j, (mc_css f sc sp k 3 (sc q) 2 = f 3 (sp q) 2) ∧ (j < 60 → mc_css f sc sp k 15 (sc q) j = f 15 (sp q) j ∧ mc_css f sc sp k 16 (sc q) j = f 16 (sp q) j)) ∧ ∀ k2 i j, ¬ ((k2 = 3 ∨ k2 = 15 ∨ k2 = 16) ∧ lo ≤ i ∧ i < lo + 4) → mc_css f sc sp k k2 i j = f k2 i j := by
  induction k with
  | zero => exact ⟨fun q hq => by omega, fun _ _ _ _ => rfl⟩
  | succ k ih =>
    obtain ⟨i1, i2⟩ := ih (by omega)
    have hp := hP.1 k (by omega)
    have hs := hd k (by omega)
    have hne : sp k ≠ sc k := by omega
    refine ⟨fun q hq j => ?_, fun k2 i j hn => ?_⟩
    · by_cases c1 : q = k
      · subst c1
        show mc_cs _ _ _ _ _ _ = _ ∧ (_ → mc_cs _ _ _ _ _ _ = _ ∧ mc_cs _ _ _ _ _ _ = _)
        unfold mc_cs
        refine ⟨by rw [mj_us, i2 _ _ _ (by omega)], fun hj => ⟨?_, ?_⟩⟩
        · rw [mj_uk (by decide), mj_cpk (by decide), mj_cpj hj, i2 _ _ _ (by omega)]
        · rw [mj_uk (by decide), mj_cpj hj, mj_cpk (by decide), i2 _ _ _ (by omega)]
      · have hn2 : sc q ≠ sc k := fun y_ => c1 (hP.2 _ _ (by omega) (by omega) y_)
        obtain ⟨a1, a2⟩ := i1 q (by omega) j
        show mc_cs _ _ _ _ _ _ = _ ∧ (_ → mc_cs _ _ _ _ _ _ = _ ∧ mc_cs _ _ _ _ _ _ = _)
        unfold mc_cs
        refine ⟨by rw [mj_ui hn2, mj_cpk (by decide), mj_cpk (by decide), a1], fun hj => ⟨?_, ?_⟩⟩
        · rw [mj_uk (by decide), mj_cpi hn2, mj_cpi hn2, (a2 hj).1]
        · rw [mj_uk (by decide), mj_cpi hn2, mj_cpi hn2, (a2 hj).2]
    · show mc_cs _ _ _ _ _ _ = _
      unfold mc_cs
      rw [mj_u_n (by omega), mj_cp_n (by omega), mj_cp_n (by omega), i2 _ _ _ hn]
theorem mr_copy (hT : mc_TG g st a sc) (hU : mc_TG g sw b sp) (h : mr_S f sw b sp D r s n H) (hab : b ≠ a) (hst : sw ≠ st) (hP : mr_P lo sc) (hd : ∀ k, k < 4 → sp k < lo ∨ lo + 4 ≤ sp k) : ∃ c, c ≤ 4 ∧ f 4 sw 2 = nI c ∧ mj_chk 1 (f 1 b 11) = true ∧ (∀ k, k < 4 → sp k ≠ sc k) ∧ mr_S (mc_cst f st a b sc sp c) st a sc D r s n H ∧ mr_G st a lo f (mc_cst f st a b sc sp c) := by
  obtain ⟨k1, k2, c, k3, k4, k5, k6⟩ := h
  have h60 := k1.1.1.n60
  obtain ⟨c1, c2⟩ := mr_css (f := mj_u (mc_cf f a b) 4 st 2 (nI c)) hP hd k3
  have F1 := mr_F_cf (f := f) (a := a) (b := b)
  refine ⟨c, k3, k5, mr_L_ov k1 k2.2.2.2.1, fun k hk => by have y1 := hP.1 k hk; have y2 := hd k hk; omega, ⟨?_, k2, c, k3, k4, ?_, fun k hk => ?_⟩, fun k i j n1 n2 n3 => ?_⟩
  · refine mr_L_e (mr_L_cf k1 hab) (fun k j hk => ?_)
    unfold mc_cst
    rw [c2 _ _ _ (by omega), mj_uk (by omega)]
  · unfold mc_cst
    rw [c2 _ _ _ (by omega), mj_us]
  · unfold mc_cst
    obtain ⟨d1, -⟩ := c1 k hk 0
    refine ⟨?_, fun j hj => ⟨?_, ?_⟩⟩
    · rw [d1, mj_uk (by decide), F1 _ _ _ (by omega)]; exact (k6 k hk).1
    · rw [((c1 k hk j).2 (by omega)).1, mj_uk (by decide), F1 _ _ _ (by omega)]; exact ((k6 k hk).2 j hj).1
    · rw [((c1 k hk j).2 (by omega)).2, mj_uk (by decide), F1 _ _ _ (by omega)]; exact ((k6 k hk).2 j hj).2
  · unfold mc_cst
    rw [c2 _ _ _ n3, mj_u_n (by omega), F1 _ _ _ n1]
end R2
