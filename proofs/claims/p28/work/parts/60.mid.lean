/-! what the class holds, made into a state's ints and those of its history -/
def mq_g (g : mj_G) (sc : Nat → Nat) : Prop :=
  (g 5 0 0 = some (4, 0) ∧ g 5 0 1 = some (1, 1) ∧ g 5 0 2 = some (0, 0) ∧ g 5 0 3 = some (2, 0)) ∧ mc_TG g 0 0 sc ∧ mc_LG g 1 ∧ mc_HG g 0 (fun k => k + 1) ∧ (∀ k, k < 4 → mc_TG g (k + 1) (k + 2) (fun j => 4 * (k + 1) + j)) ∧ mr_P 0 sc
def mq_c (f : mj_F) (g : mj_G) (r s n H : Nat) (D : Nat → Int32) (z : Nat) (Ds : Nat → Nat → Int32) : Prop :=
  ∃ sc, mq_g g sc ∧ mr_S f 0 0 sc D r s n H ∧ mr_HC f z Ds H
section QE
variable {X : mj_X} {S : List (Nat × Nat)} {f F : mj_F} {g G : mj_G} {st sw a b r s n r2 s2 n2 lo c H H2 z : Nat} {sc sp : Nat → Nat} {D E : Nat → Int32} {Ds : Nat → Nat → Int32}
theorem mq_c_G (h : mq_c f g r s n H D z Ds) (hH : H ≤ H2) (hG : mr_G 0 0 0 f F) (hg : mq_g G sc) (hS : mr_S F 0 0 sc E r2 s2 n2 H2) : mq_c F G r2 s2 n2 H2 E z Ds := by
  obtain ⟨sc0, h1, h2, h3⟩ := h
  exact ⟨sc, hg, hS, mr_HC_G h3 hH hG⟩
theorem mq_c_13 (h : mq_c f g r s n H D z Ds) (hF : ∀ k i j, k ≠ 13 → F k i j = f k i j) : mq_c F g r s n H D z Ds := by
  obtain ⟨sc0, h1, h2, h3⟩ := h
  exact ⟨sc0, h1, mr_S_k h2 (fun k i j hn => hF _ _ _ (by omega)), mr_HC_k h3 (Nat.le_refl _) (fun k i j hn => hF _ _ _ (by omega))⟩
theorem mq_c_H (h : mq_c f g r s n H D z Ds) (hH : H ≤ H2) : mq_c f g r s n H2 D z Ds := by
  obtain ⟨sc0, h1, h2, h3⟩ := h
  exact ⟨sc0, h1, mr_S_H h2 hH, mr_HC_k h3 hH (fun _ _ _ _ => rfl)⟩
theorem mq_c_z (h : mq_c f g r s n H D z Ds) : z ≤ 4 := by
  obtain ⟨sc0, h1, h2, ⟨o, h3, h4, h5⟩⟩ := h
  exact h4
theorem mq_g_dg (h : mq_g g sc) (hT : mc_TG G 0 0 sp) (hP : mr_P 0 sp) (hG : G = g ∨ G = mc_dg g 0) : mq_g G sp := by
  rcases hG with rfl | rfl
  · obtain ⟨h1, h2, h3, h4, h5, h8⟩ := h
    exact ⟨h1, hT, h3, h4, h5, hP⟩
  · obtain ⟨⟨b1, b2, b3, b4⟩, h2, h3, ⟨c1, c2⟩, h5, h8⟩ := h
    refine ⟨⟨?_, ?_, ?_, ?_⟩, hT, mc_LG_dg h3, ⟨?_, fun k hk => ?_⟩, fun k hk => mc_TG_dg2 (h5 k hk) (by omega), hP⟩
    · rw [mc_dg_k (by omega)]; exact b1
    · rw [mc_dg_k (by omega)]; exact b2
    · rw [mc_dg_k (by omega)]; exact b3
    · rw [mc_dg_k (by omega)]; exact b4
    · rw [mc_dg_k (by omega)]; exact c1
    · rw [mc_dg_k (by omega)]; exact c2 k hk
theorem mq_rec_a {o q z2 : Nat} {F : mj_F} (hg : mq_g g sc) (hS : mr_S F 0 0 sc D r s n H) (ho : o < 4) (hz : z2 < 4) (h1 : F 0 0 1 = nI o) (h3 : ∀ k, k < z2 → ∃ r s n, mr_S F ((o + k) % 4 + 1) ((o + k) % 4 + 2) (fun j => 4 * ((o + k) % 4 + 1) + j) (Ds k) r s n H) (hq : q = (o + z2) % 4) : ∃ c, c ≤ 4 ∧ F 4 0 2 = nI c ∧ mj_chk 1 (F 1 0 11) = true ∧ (∀ k, k < 4 → sc k ≠ (fun j => 4 * (q + 1) + j) k) ∧ mq_c (mj_u (mc_cst F (q + 1) (q + 2) 0 (fun j => 4 * (q + 1) + j) sc c) 0 0 2 (nI (z2 + 1))) g r s n H D (z2 + 1) (fun k => if k = z2 then D else Ds k) := by
  have hP := hg.2.2.2.2.2
  have hq4 : q < 4 := by omega
  obtain ⟨c, y1, y2, y3, y4, y5, y6⟩ := mr_copy (hg.2.2.2.2.1 q hq4) hg.2.1 hS (by omega) (by omega) (mr_Pq (q := q)) (fun k hk => by have := hP.1 k hk; omega)
  refine ⟨c, y1, y2, y3, y4, ⟨sc, hg, ?_, ⟨o, ho, by omega, ?_, mj_us, fun k hk => ?_⟩⟩⟩
  · exact mr_S_k (mr_S_e hS y6 (by omega) (by omega) (fun k hk => by have := hP.1 k hk; omega)) (fun k i j hn => mj_u_n (by omega))
  · rw [mj_u_n (by omega), y6 _ _ _ (by omega) (by omega) (by omega)]; exact h1
  · by_cases c1 : k = z2
    · subst c1
      have e1 : (fun k2 => if k2 = k then D else Ds k2) k = D := if_pos rfl
      rw [e1, ← hq]
      exact ⟨r, s, n, mr_S_k y5 (fun k i j hn => mj_u_n (by omega))⟩
    · have e1 : (fun k2 => if k2 = z2 then D else Ds k2) k = Ds k := if_neg c1
      rw [e1]
      obtain ⟨r2, s2, n2, h4⟩ := h3 k (by omega)
      exact ⟨r2, s2, n2, mr_S_k (mr_S_e h4 y6 (by omega) (by omega) (fun j hj => by omega)) (fun k i j hn => mj_u_n (by omega))⟩
theorem mq_rec (h : mq_c f g r s n H D z Ds) : ∃ F, mj_x X 1 [.inr (0, 0), .inr (4, 0)] (S, f, g) = some (none, (S, F, g)) ∧ mq_c F g r s n H D (sp_rz z) (sp_rd D z Ds) := by
  obtain ⟨sc, hg, hS, ⟨o, h1, h2, h3, h4, h5⟩⟩ := h
  have hH := hg.2.2.2.1
  by_cases c1 : z = 4
  · subst c1
    have K : ∀ k i j, k ≠ 0 → mc_r1 f 0 o k i j = f k i j := fun k i j hk => by unfold mc_r1; rw [mj_uk hk, mj_uk hk]
    obtain ⟨c, y1, y2, y3, y4, y5⟩ := mq_rec_a (F := mc_r1 f 0 o) (o := (o + 1) % 4) (z2 := 3) (Ds := fun k => Ds (k + 1)) (q := ((o + 1) % 4 + 3) % 4) hg (mr_S_k hS (fun k i j hn => K _ _ _ (by omega))) (by omega) (by omega) (by unfold mc_r1; rw [mj_uj (by decide), mj_us]) (fun k hk => by
      obtain ⟨r2, s2, n2, h6⟩ := h5 (k + 1) (by omega)
      rw [show ((o + 1) % 4 + k) % 4 = (o + (k + 1)) % 4 by omega]
      exact ⟨r2, s2, n2, mr_S_k h6 (fun k i j hn => K _ _ _ (by omega))⟩) rfl
    rw [K _ _ _ (by decide)] at y2 y3
    have z1 := mc_record4 (X := X) (S := S) hH h3 h1 h4 (hg.2.2.2.2.1 (((o + 1) % 4 + 3) % 4) (by omega)) hg.2.1 (by omega) (by omega) y2 y1 y3 y4
    refine ⟨_, z1, ?_⟩
    have e1 : sp_rd D 4 Ds = (fun k => if k = 3 then D else Ds (k + 1)) := rfl
    rw [e1]
    exact y5
  · obtain ⟨c, y1, y2, y3, y4, y5⟩ := mq_rec_a (o := o) (z2 := z) (Ds := Ds) (q := (o + z) % 4) hg hS h1 (by omega) h3 h5 rfl
    have z1 := mc_record (X := X) (S := S) hH h3 h1 h4 (by omega) (hg.2.2.2.2.1 ((o + z) % 4) (by omega)) hg.2.1 (by omega) (by omega) y2 y1 y3 y4
    refine ⟨_, z1, ?_⟩
    have e1 : sp_rd D z Ds = (fun k => if k = z then D else Ds k) := by unfold sp_rd; funext k; rw [if_neg c1]
    have e2 : sp_rz z = z + 1 := by unfold sp_rz; rw [if_neg c1]
    rw [e1, e2]
    exact y5
theorem mq_fo_chk : ∀ a, a < 401 → nI 100 + mj_fd (nI (1400 + a) - nI 1600) (nI 4) = nI ((1400 + a) / 4 - 300) := by decide +kernel
/-- the factor of a heat, a number -/
def mq_fn (t l : Nat) : Nat := t / 4 - 300 + l / 2
theorem mq_fo {t l : Nat} (h1 : 1400 ≤ t) (h2 : t ≤ 1800) (h3 : l ≤ 100) : mq_fn t l ≤ 200 ∧ mc_fo (nI t) (nI l) = nI (mq_fn t l) := by
  have e2 := mq_fo_chk (t - 1400) (by omega)
  rw [show 1400 + (t - 1400) = t by omega] at e2
  unfold mq_fn
  refine ⟨by omega, ?_⟩
  unfold mc_fo
  rw [e2, mj_dv (by omega) (by omega) (by omega), mj_add]
theorem mq_iH {t l : Nat} (h1 : 1400 ≤ t) (h2 : t ≤ 1800) (h3 : l ≤ 100) : mc_iH (nI t) (nI l) := ⟨⟨(mj_le (by omega) (by omega)).mpr h1, (mj_le (by omega) (by omega)).mpr h2⟩, (mj_le (by omega) (by omega)).mpr (by omega), (mj_le (by omega) (by omega)).mpr h3⟩
theorem mq_ixs {j : Nat} (hn : n ≤ 60) (hj : j < n) : nI 0 ≤ nI j ∧ nI j ≤ nI n - nI 1 := by
  rw [mj_sub (by omega)]
  exact ⟨(mj_le (by omega) (by omega)).mpr (by omega), (mj_le (by omega) (by omega)).mpr (by omega)⟩
end QE
