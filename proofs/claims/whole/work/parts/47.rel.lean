/-! what the class holds, what the reference holds: one and the same -/
def mr_g (g : mj_G) (sc : Nat → Nat) : Prop :=
  (g 5 0 0 = some (4, 0) ∧ g 5 0 1 = some (1, 1) ∧ g 5 0 2 = some (0, 0) ∧ g 5 0 3 = some (2, 0)) ∧ mc_TG g 0 0 sc ∧ mc_LG g 1 ∧ mc_HG g 0 (fun k => k + 1) ∧ (∀ k, k < 4 → mc_TG g (k + 1) (k + 2) (fun j => 4 * (k + 1) + j)) ∧ g 2 0 0 = some (14, 0) ∧ (g 6 0 0 = some (18, 0) ∧ g 6 0 1 = some (19, 0) ∧ g 6 0 4 = some (20, 0) ∧ g 6 0 5 = some (21, 0) ∧ g 6 0 6 = some (22, 0)) ∧ mr_P 0 sc
def mr_HC (f : mj_F) (z : Nat) (Ds : Nat → Nat → Int32) (H : Nat) : Prop := ∃ o, o < 4 ∧ z ≤ 4 ∧ f 0 0 1 = nI o ∧ f 0 0 2 = nI z ∧ ∀ k, k < z → ∃ r s n, mr_S f ((o + k) % 4 + 1) ((o + k) % 4 + 2) (fun j => 4 * ((o + k) % 4 + 1) + j) (Ds k) r s n H
def mr_X (f : mj_F) (L : Nat) (t : Nat → Int32) : Prop := L ≤ 100 ∧ f 2 0 1 = nI L ∧ f 14 0 = t ∧ ∀ j, j < L → mj_chk 2 (t j) = true
def mr_c (f : mj_F) (g : mj_G) (r s n H : Nat) (D : Nat → Int32) (z : Nat) (Ds : Nat → Nat → Int32) (L : Nat) (t : Nat → Int32) (w : Int32) : Prop :=
  ∃ sc, mr_g g sc ∧ mr_S f 0 0 sc D r s n H ∧ mr_HC f z Ds H ∧ mr_X f L t ∧ f 5 0 4 = w
def mr_m (f : mj_F) (D : Nat → Int32) (z : Nat) (Ds : Nat → Nat → Int32) (L : Nat) (t : Nat → Int32) (w : Int32) : Prop :=
  f 18 0 = D ∧ f 6 0 2 = nI z ∧ (∀ k, k < z → ∀ j, j < 627 → f 19 0 (627 * k + j) = Ds k j) ∧ f 6 0 7 = nI L ∧ f 22 0 = t ∧ f 6 0 3 = w
def mr_fc (f F : mj_F) : Prop := ∀ k i j, (k = 6 ∨ (18 ≤ k ∧ k ≤ 22)) → F k i j = f k i j
def mr_fm (f F : mj_F) : Prop := ∀ k i j, ¬ (k = 6 ∨ (18 ≤ k ∧ k ≤ 22)) → F k i j = f k i j
theorem mr_fc_t {f F E : mj_F} (h : mr_fc f F) (h2 : mr_fc F E) : mr_fc f E := fun k i j hn => (h2 k i j hn).trans (h k i j hn)
theorem mr_fm_t {f F E : mj_F} (h : mr_fm f F) (h2 : mr_fm F E) : mr_fm f E := fun k i j hn => (h2 k i j hn).trans (h k i j hn)
theorem mr_fc_r {f : mj_F} : mr_fc f f := fun _ _ _ _ => rfl
theorem mr_fm_r {f : mj_F} : mr_fm f f := fun _ _ _ _ => rfl
theorem mr_fc_G {f F : mj_F} {st a lo : Nat} (h : mr_G st a lo f F) : mr_fc f F := fun k i j hn => h k i j (by omega) (by omega) (by omega)
theorem mr_fc_F {f F : mj_F} {a : Nat} (h : mr_F a f F) : mr_fc f F := fun k i j hn => h k i j (by omega)
theorem mr_fc_Q {f F : mj_F} {i : Nat} (h : mt_Q i f F) : mr_fc f F := fun k i j hn => h k i j (by omega)
theorem mr_fc_u {f : mj_F} {k i j : Nat} {v : Int32} (hk : ¬ (k = 6 ∨ (18 ≤ k ∧ k ≤ 22))) : mr_fc f (mj_u f k i j v) := fun k2 i2 j2 hn => mj_u_n (by omega)
theorem mr_fm_Q {f F : mj_F} {m : Nat} (h : md_Q m f F) : mr_fm f F := fun k i j hn => h k i j (by omega)
theorem mr_fm_K {f F : mj_F} {m : Nat} (h : md_K m f F) : mr_fm f F := fun k i j hn => h k i j (by omega)
theorem mr_fm_J {f F : mj_F} {m : Nat} (h : md_J m f F) : mr_fm f F := fun k i j hn => h k i j (by omega) (by omega)
theorem mr_fm_u {f : mj_F} {k i j : Nat} {v : Int32} (hk : k = 6 ∨ (18 ≤ k ∧ k ≤ 22)) : mr_fm f (mj_u f k i j v) := fun k2 i2 j2 hn => mj_u_n (by omega)
section RE
variable {X : mj_X} {S : List (Nat × Nat)} {f F : mj_F} {g G : mj_G} {st sw a b r s n r2 s2 n2 lo c H H2 z L : Nat} {sc sp : Nat → Nat} {D E : Nat → Int32} {Ds : Nat → Nat → Int32} {t : Nat → Int32} {w v : Int32}
theorem mr_S_k (h : mr_S f st a sc D r s n H) (hF : ∀ k i j, (k = 1 ∨ k = 3 ∨ k = 4 ∨ (8 ≤ k ∧ k ≤ 12) ∨ k = 15 ∨ k = 16) → F k i j = f k i j) : mr_S F st a sc D r s n H := by
  obtain ⟨k1, k2, c, k3, k4, k5, k6⟩ := h
  refine ⟨mr_L_e k1 (fun k j hk => hF _ _ _ (by omega)), k2, c, k3, k4, by rw [hF _ _ _ (by omega)]; exact k5, fun k hk => ⟨?_, fun j hj => ⟨?_, ?_⟩⟩⟩
  · rw [hF _ _ _ (by omega)]; exact (k6 k hk).1
  · rw [hF _ _ _ (by omega)]; exact ((k6 k hk).2 j hj).1
  · rw [hF _ _ _ (by omega)]; exact ((k6 k hk).2 j hj).2
theorem sp_ok_D (h : sp_ok D r s n H) (hE : ∀ i, i < 627 → E i = D i) : sp_ok E r s n H := by
  obtain ⟨h1, h2, h3, h4, c, h5, h6, h, e, a1, a2, a3, a4, a5⟩ := h
  have h60 := h1.n60
  refine ⟨h1, by rw [hE _ (by omega)]; exact h2, by rw [hE _ (by omega)]; exact h3, mr_V_142 h4 h60 (fun i hi => hE i (by omega)), c, h5, by rw [hE _ (by omega)]; exact h6, h, e, by rw [hE _ (by omega)]; exact a1, a2, fun k hk => by rw [hE _ (by omega)]; exact a3 k hk, a4, fun k hk j hj => ?_⟩
  rw [hE _ (by omega), hE _ (by omega)]
  exact a5 k hk j hj
theorem mr_S_D (h : mr_S f st a sc D r s n H) (hE : ∀ i, i < 627 → E i = D i) : mr_S f st a sc E r s n H := by
  obtain ⟨k1, k2, c, k3, k4, k5, k6⟩ := h
  have h60 := k1.1.1.n60
  refine ⟨mr_L_D k1 (fun i hi => hE i (by omega)), sp_ok_D k2 hE, c, k3, by rw [hE _ (by omega)]; exact k4, k5, fun k hk => ⟨?_, fun j hj => ⟨?_, ?_⟩⟩⟩
  · rw [hE _ (by omega)]; exact (k6 k hk).1
  · rw [hE _ (by omega)]; exact ((k6 k hk).2 j hj).1
  · rw [hE _ (by omega)]; exact ((k6 k hk).2 j hj).2
theorem mr_HC_k (h : mr_HC f z Ds H) (hH : H ≤ H2) (hF : ∀ k i j, (k ≤ 1 ∨ k = 3 ∨ k = 4 ∨ (8 ≤ k ∧ k ≤ 12) ∨ k = 15 ∨ k = 16) → F k i j = f k i j) : mr_HC F z Ds H2 := by
  obtain ⟨o, h1, h2, h3, h4, h5⟩ := h
  refine ⟨o, h1, h2, by rw [hF _ _ _ (by omega)]; exact h3, by rw [hF _ _ _ (by omega)]; exact h4, fun k hk => ?_⟩
  obtain ⟨r, s, n, h6⟩ := h5 k hk
  exact ⟨r, s, n, mr_S_k (mr_S_H h6 hH) (fun k i j hn => hF k i j (by omega))⟩
theorem mr_HC_G (h : mr_HC f z Ds H) (hH : H ≤ H2) (hG : mr_G 0 0 0 f F) : mr_HC F z Ds H2 := by
  obtain ⟨o, h1, h2, h3, h4, h5⟩ := h
  refine ⟨o, h1, h2, by rw [hG _ _ _ (by omega) (by omega) (by omega)]; exact h3, by rw [hG _ _ _ (by omega) (by omega) (by omega)]; exact h4, fun k hk => ?_⟩
  obtain ⟨r, s, n, h6⟩ := h5 k hk
  exact ⟨r, s, n, mr_S_e (mr_S_H h6 hH) hG (by omega) (by omega) (fun j hj => by omega)⟩
theorem mr_X_k (h : mr_X f L t) (hF : ∀ k i j, k = 14 ∨ (k = 2 ∧ j = 1) → F k i j = f k i j) : mr_X F L t := by
  obtain ⟨h1, h2, h3, h4⟩ := h
  exact ⟨h1, by rw [hF _ _ _ (by omega)]; exact h2, by rw [← h3]; exact funext (fun j => hF _ _ _ (by omega)), h4⟩
/-- an act on 'now' -/
theorem mr_c_G (h : mr_c f g r s n H D z Ds L t w) (hH : H ≤ H2) (hG : mr_G 0 0 0 f F) (hg : mr_g G sc) (hS : mr_S F 0 0 sc E r2 s2 n2 H2) : mr_c F G r2 s2 n2 H2 E z Ds L t w := by
  obtain ⟨sc0, h1, h2, h3, h4, h5⟩ := h
  exact ⟨sc, hg, hS, mr_HC_G h3 hH hG, mr_X_k h4 (fun k i j hn => hG _ _ _ (by omega) (by omega) (by omega)), by rw [hG _ _ _ (by omega) (by omega) (by omega)]; exact h5⟩
theorem mr_c_k (h : mr_c f g r s n H D z Ds L t w) (hH : H ≤ H2) (hF : ∀ k i j, (k ≤ 1 ∨ k = 3 ∨ k = 4 ∨ k = 5 ∨ (8 ≤ k ∧ k ≤ 12) ∨ k = 15 ∨ k = 16 ∨ k = 14 ∨ (k = 2 ∧ j = 1)) → ¬ (k ≠ 0 ∧ k ≠ 2 ∧ k ≠ 5 ∧ k ≠ 3 ∧ k ≠ 4 ∧ k ≠ 14 ∧ k ≠ 15 ∧ k ≠ 16 ∧ i = 1) → F k i j = f k i j) : mr_c F g r s n H2 D z Ds L t w := by
  obtain ⟨sc, h1, h2, h3, h4, h5⟩ := h
  have K1 : mr_S F 0 0 sc D r s n H2 := by
    obtain ⟨k1, k2, c, k3, k4, k5, k6⟩ := mr_S_H h2 hH
    refine ⟨mr_L_e k1 (fun k j hk => hF _ _ _ (by omega) (by omega)), k2, c, k3, k4, by rw [hF _ _ _ (by omega) (by omega)]; exact k5, fun k hk => ⟨?_, fun j hj => ⟨?_, ?_⟩⟩⟩
    · rw [hF _ _ _ (by omega) (by omega)]; exact (k6 k hk).1
    · rw [hF _ _ _ (by omega) (by omega)]; exact ((k6 k hk).2 j hj).1
    · rw [hF _ _ _ (by omega) (by omega)]; exact ((k6 k hk).2 j hj).2
  have K2 : mr_HC F z Ds H2 := by
    obtain ⟨o, a1, a2, a3, a4, a5⟩ := h3
    refine ⟨o, a1, a2, by rw [hF _ _ _ (by omega) (by omega)]; exact a3, by rw [hF _ _ _ (by omega) (by omega)]; exact a4, fun k hk => ?_⟩
    obtain ⟨r, s, n, h6⟩ := a5 k hk
    obtain ⟨k1, k2, c, k3, k4, k5, k6⟩ := mr_S_H h6 hH
    refine ⟨r, s, n, mr_L_e k1 (fun k j hk => hF _ _ _ (by omega) (by omega)), k2, c, k3, k4, by rw [hF _ _ _ (by omega) (by omega)]; exact k5, fun k hk => ⟨?_, fun j hj => ⟨?_, ?_⟩⟩⟩
    · rw [hF _ _ _ (by omega) (by omega)]; exact (k6 k hk).1
    · rw [hF _ _ _ (by omega) (by omega)]; exact ((k6 k hk).2 j hj).1
    · rw [hF _ _ _ (by omega) (by omega)]; exact ((k6 k hk).2 j hj).2
  exact ⟨sc, h1, K1, K2, mr_X_k h4 (fun k i j hn => hF _ _ _ (by omega) (by omega)), by rw [hF _ _ _ (by omega) (by omega)]; exact h5⟩
theorem mr_c_m (h : mr_c f g r s n H D z Ds L t w) (hF : mr_fm f F) : mr_c F g r s n H D z Ds L t w := mr_c_k h (Nat.le_refl _) (fun k i j h1 h2 => hF k i j (by omega))
theorem mr_c_p (h : mr_c f g r s n H D z Ds L t w) (hF : mr_F 1 f F) : mr_c F g r s n H D z Ds L t w := mr_c_k h (Nat.le_refl _) (fun k i j h1 h2 => hF k i j (by omega))
theorem mr_c_q (h : mr_c f g r s n H D z Ds L t w) (hF : mt_Q 0 f F) : mr_c F g r s n H D z Ds L t w := mr_c_k h (Nat.le_refl _) (fun k i j h1 h2 => hF k i j (by omega))
theorem mr_c_13 (h : mr_c f g r s n H D z Ds L t w) (hF : ∀ k i j, k ≠ 13 → F k i j = f k i j) : mr_c F g r s n H D z Ds L t w := mr_c_k h (Nat.le_refl _) (fun k i j h1 h2 => hF k i j (by omega))
theorem mr_c_H (h : mr_c f g r s n H D z Ds L t w) (hH : H ≤ H2) : mr_c f g r s n H2 D z Ds L t w := mr_c_k h hH (fun _ _ _ _ _ => rfl)
theorem mr_c_D (h : mr_c f g r s n H D z Ds L t w) (hE : ∀ i, i < 627 → E i = D i) : mr_c f g r s n H E z Ds L t w := by
  obtain ⟨sc, h1, h2, h3⟩ := h
  exact ⟨sc, h1, mr_S_D h2 hE, h3⟩
theorem mr_m_c (h : mr_m f D z Ds L t w) (hF : mr_fc f F) : mr_m F D z Ds L t w := by
  obtain ⟨h1, h2, h3, h4, h5, h6⟩ := h
  refine ⟨by rw [← h1]; exact funext (fun j => hF _ _ _ (by omega)), by rw [hF _ _ _ (by omega)]; exact h2, fun k hk j hj => by rw [hF _ _ _ (by omega)]; exact h3 k hk j hj, by rw [hF _ _ _ (by omega)]; exact h4, by rw [← h5]; exact funext (fun j => hF _ _ _ (by omega)), by rw [hF _ _ _ (by omega)]; exact h6⟩
theorem mr_g_dg (h : mr_g g sc) (hT : mc_TG G 0 0 sp) (hP : mr_P 0 sp) (hG : G = g ∨ G = mc_dg g 0) : mr_g G sp := by
  rcases hG with rfl | rfl
  · obtain ⟨h1, h2, h3, h4, h5, h6, h7, h8⟩ := h
    exact ⟨h1, hT, h3, h4, h5, h6, h7, hP⟩
  · obtain ⟨⟨b1, b2, b3, b4⟩, h2, h3, ⟨c1, c2⟩, h5, h6, ⟨d1, d2, d3, d4, d5⟩, h8⟩ := h
    refine ⟨⟨?_, ?_, ?_, ?_⟩, hT, mc_LG_dg h3, ⟨?_, fun k hk => ?_⟩, fun k hk => mc_TG_dg2 (h5 k hk) (by omega), ?_, ⟨?_, ?_, ?_, ?_, ?_⟩, hP⟩
    · rw [mc_dg_k (by omega)]; exact b1
    · rw [mc_dg_k (by omega)]; exact b2
    · rw [mc_dg_k (by omega)]; exact b3
    · rw [mc_dg_k (by omega)]; exact b4
    · rw [mc_dg_k (by omega)]; exact c1
    · rw [mc_dg_k (by omega)]; exact c2 k hk
    · rw [mc_dg_k (by omega)]; exact h6
    · rw [mc_dg_k (by omega)]; exact d1
    · rw [mc_dg_k (by omega)]; exact d2
    · rw [mc_dg_k (by omega)]; exact d3
    · rw [mc_dg_k (by omega)]; exact d4
    · rw [mc_dg_k (by omega)]; exact d5
theorem mr_Pq {q : Nat} : mr_P (4 * (q + 1)) (fun j => 4 * (q + 1) + j) := ⟨fun k hk => by show 4 * (q + 1) ≤ 4 * (q + 1) + k ∧ 4 * (q + 1) + k < 4 * (q + 1) + 4; omega, fun k p hk hp e => by have e2 : 4 * (q + 1) + k = 4 * (q + 1) + p := e; omega⟩
/-- the history behind a change -/
def sp_rz (z : Nat) : Nat := if z = 4 then 4 else z + 1
def sp_rd (D : Nat → Int32) (z : Nat) (Ds : Nat → Nat → Int32) : Nat → Nat → Int32 := fun k => if z = 4 then (if k = 3 then D else Ds (k + 1)) else (if k = z then D else Ds k)
theorem mr_rec_a {o q z2 : Nat} {F : mj_F} (hg : mr_g g sc) (hS : mr_S F 0 0 sc D r s n H) (ho : o < 4) (hz : z2 < 4) (h1 : F 0 0 1 = nI o) (h3 : ∀ k, k < z2 → ∃ r s n, mr_S F ((o + k) % 4 + 1) ((o + k) % 4 + 2) (fun j => 4 * ((o + k) % 4 + 1) + j) (Ds k) r s n H) (hX : mr_X F L t) (hw : F 5 0 4 = w) (hq : q = (o + z2) % 4) : ∃ c, c ≤ 4 ∧ F 4 0 2 = nI c ∧ mj_chk 1 (F 1 0 11) = true ∧ (∀ k, k < 4 → sc k ≠ (fun j => 4 * (q + 1) + j) k) ∧ mr_c (mj_u (mc_cst F (q + 1) (q + 2) 0 (fun j => 4 * (q + 1) + j) sc c) 0 0 2 (nI (z2 + 1))) g r s n H D (z2 + 1) (fun k => if k = z2 then D else Ds k) L t w ∧ mr_fc F (mj_u (mc_cst F (q + 1) (q + 2) 0 (fun j => 4 * (q + 1) + j) sc c) 0 0 2 (nI (z2 + 1))) := by
  have hP := hg.2.2.2.2.2.2.2
  have hq4 : q < 4 := by omega
  obtain ⟨c, y1, y2, y3, y4, y5, y6⟩ := mr_copy (hg.2.2.2.2.1 q hq4) hg.2.1 hS (by omega) (by omega) (mr_Pq (q := q)) (fun k hk => by have := hP.1 k hk; omega)
  refine ⟨c, y1, y2, y3, y4, ⟨sc, hg, ?_, ⟨o, ho, by omega, ?_, mj_us, fun k hk => ?_⟩, mr_X_k hX (fun k i j hn => ?_), ?_⟩, fun k i j hn => ?_⟩
  · exact mr_S_k (mr_S_e hS y6 (by omega) (by omega) (fun k hk => by have := hP.1 k hk; omega)) (fun k i j hn => mj_u_n (by omega))
  · rw [mj_u_n (by omega), y6 _ _ _ (by omega) (by omega) (by omega)]; exact h1
  · by_cases c1 : k = z2
    · subst c1
      have e1 : (fun k2 => if k2 = k then D else Ds k2) k = D := if_pos rfl
      rw [e1, ← hq]
      exact ⟨r, s, n, mr_S_k y5 (fun k i j hn => mj_u_n (by omega))⟩
    · have e1 : (fun k2 => if k2 = z2 then D else Ds k2) k = Ds k := if_neg c1
      rw [e1]
      obtain ⟨r2, s2, n2, h4⟩ := h3 k (by omega)
      exact ⟨r2, s2, n2, mr_S_k (mr_S_e h4 y6 (by omega) (by omega) (fun j hj => by omega)) (fun k i j hn => mj_u_n (by omega))⟩
  · rw [mj_u_n (by omega), y6 _ _ _ (by omega) (by omega) (by omega)]
  · rw [mj_u_n (by omega), y6 _ _ _ (by omega) (by omega) (by omega)]; exact hw
  · rw [mj_u_n (by omega), y6 _ _ _ (by omega) (by omega) (by omega)]
theorem mr_rec (h : mr_c f g r s n H D z Ds L t w) : ∃ F, mj_x X 1 [.inr (0, 0), .inr (4, 0)] (S, f, g) = some (none, (S, F, g)) ∧ mr_c F g r s n H D (sp_rz z) (sp_rd D z Ds) L t w ∧ mr_fc f F := by
  obtain ⟨sc, hg, hS, ⟨o, h1, h2, h3, h4, h5⟩, hX, hw⟩ := h
  have hH := hg.2.2.2.1
  by_cases c1 : z = 4
  · subst c1
    have K : ∀ k i j, k ≠ 0 → mc_r1 f 0 o k i j = f k i j := fun k i j hk => by unfold mc_r1; rw [mj_uk hk, mj_uk hk]
    obtain ⟨c, y1, y2, y3, y4, y5, y6⟩ := mr_rec_a (F := mc_r1 f 0 o) (o := (o + 1) % 4) (z2 := 3) (Ds := fun k => Ds (k + 1)) (q := ((o + 1) % 4 + 3) % 4) (L := L) (t := t) (w := w) hg (mr_S_k hS (fun k i j hn => K _ _ _ (by omega))) (by omega) (by omega) (by unfold mc_r1; rw [mj_uj (by decide), mj_us]) (fun k hk => by
      obtain ⟨r2, s2, n2, h6⟩ := h5 (k + 1) (by omega)
      rw [show ((o + 1) % 4 + k) % 4 = (o + (k + 1)) % 4 by omega]
      exact ⟨r2, s2, n2, mr_S_k h6 (fun k i j hn => K _ _ _ (by omega))⟩) (mr_X_k hX (fun k i j hn => K _ _ _ (by omega))) (by rw [K _ _ _ (by omega)]; exact hw) rfl
    rw [K _ _ _ (by decide)] at y2 y3
    have z1 := mc_record4 (X := X) (S := S) hH h3 h1 h4 (hg.2.2.2.2.1 (((o + 1) % 4 + 3) % 4) (by omega)) hg.2.1 (by omega) (by omega) y2 y1 y3 y4
    refine ⟨_, z1, ?_, mr_fc_t (fun k i j hn => K k i j (by omega)) y6⟩
    have e1 : sp_rd D 4 Ds = (fun k => if k = 3 then D else Ds (k + 1)) := rfl
    rw [e1]
    exact y5
  · obtain ⟨c, y1, y2, y3, y4, y5, y6⟩ := mr_rec_a (o := o) (z2 := z) (Ds := Ds) (q := (o + z) % 4) hg hS h1 (by omega) h3 h5 hX hw rfl
    have z1 := mc_record (X := X) (S := S) hH h3 h1 h4 (by omega) (hg.2.2.2.2.1 ((o + z) % 4) (by omega)) hg.2.1 (by omega) (by omega) y2 y1 y3 y4
    refine ⟨_, z1, ?_, y6⟩
    have e1 : sp_rd D z Ds = (fun k => if k = z then D else Ds k) := by unfold sp_rd; funext k; rw [if_neg c1]
    have e2 : sp_rz z = z + 1 := by unfold sp_rz; rw [if_neg c1]
    rw [e1, e2]
    exact y5
theorem mr_mrec (hg : g 6 0 0 = some (18, 0)) (hg1 : g 6 0 1 = some (19, 0)) (h : mr_m f D z Ds L t w) (hz : z ≤ 4) : ∃ F, mj_x X 94 [.inr (6, 0)] (S, f, g) = some (none, (S, F, g)) ∧ mr_m F D (sp_rz z) (sp_rd D z Ds) L t w ∧ mr_fm f F := by
  obtain ⟨h1, h2, h3, h4, h5, h6⟩ := h
  by_cases c1 : z = 4
  · subst c1
    refine ⟨_, md_records4 hg hg1 h2, ⟨?_, ?_, fun k hk j hj => ?_, ?_, ?_, ?_⟩, fun k i j hn => ?_⟩
    · rw [← h1]; unfold md_rec md_shf; funext j; rw [mj_u_n (by omega), md_rc_o (by omega), mj_u_n (by omega), mc_fl_o (by omega)]
    · unfold md_rec; rw [mj_us]; rfl
    · have hk : k < 4 := hk
      have e1 : sp_rd D 4 Ds k j = if k = 3 then D j else Ds (k + 1) j := by unfold sp_rd; rw [if_pos rfl]; split <;> rfl
      rw [e1]
      unfold md_rec
      rw [mj_u_n (by omega)]
      by_cases c2 : k = 3
      · subst c2
        rw [md_rc_j hj, if_pos rfl]
        unfold md_shf
        rw [mj_u_n (by omega), mc_fl_o (by omega), h1]
      · rw [md_rc_o (by omega), if_neg c2]
        unfold md_shf
        rw [mj_u_n (by omega), mc_fl_j (by omega), show 627 * k + j + 627 = 627 * (k + 1) + j by omega]
        exact h3 (k + 1) (by omega) j hj
    · unfold md_rec md_shf; rw [mj_u_n (by omega), md_rc_o (by omega), mj_u_n (by omega), mc_fl_o (by omega)]; exact h4
    · rw [← h5]; unfold md_rec md_shf; funext j; rw [mj_u_n (by omega), md_rc_o (by omega), mj_u_n (by omega), mc_fl_o (by omega)]
    · unfold md_rec md_shf; rw [mj_u_n (by omega), md_rc_o (by omega), mj_u_n (by omega), mc_fl_o (by omega)]; exact h6
    · unfold md_rec md_shf; rw [mj_u_n (by omega), md_rc_o (by omega), mj_u_n (by omega), mc_fl_o (by omega)]
  · have e2 : sp_rz z = z + 1 := by unfold sp_rz; rw [if_neg c1]
    refine ⟨_, md_records hg hg1 h2 (by omega), ⟨?_, ?_, fun k hk j hj => ?_, ?_, ?_, ?_⟩, fun k i j hn => ?_⟩
    · rw [← h1]; unfold md_rec; funext j; rw [mj_u_n (by omega), md_rc_o (by omega)]
    · unfold md_rec; rw [mj_us, e2]
    · rw [e2] at hk
      have e1 : sp_rd D z Ds k j = if k = z then D j else Ds k j := by unfold sp_rd; rw [if_neg c1]; split <;> rfl
      rw [e1]
      unfold md_rec
      rw [mj_u_n (by omega)]
      by_cases c2 : k = z
      · subst c2; rw [md_rc_j hj, if_pos rfl, h1]
      · rw [md_rc_o (by omega), if_neg c2]; exact h3 k (by omega) j hj
    · unfold md_rec; rw [mj_u_n (by omega), md_rc_o (by omega)]; exact h4
    · rw [← h5]; unfold md_rec; funext j; rw [mj_u_n (by omega), md_rc_o (by omega)]
    · unfold md_rec; rw [mj_u_n (by omega), md_rc_o (by omega)]; exact h6
    · unfold md_rec; rw [mj_u_n (by omega), md_rc_o (by omega)]
end RE
