theorem mj_okR_at {m lo n k : Nat} {e : mj_E} (h : mj_okR m lo n = true) (h1 : lo ≤ k) (h2 : k < lo + n) (he : mj_ent mj_Y m k = some e) : ∃ J, mj_ms[m]? = some J ∧ mj_okE J (mj_cd mj_Y m) k e = true := by
  unfold mj_okR at h
  cases hJ : mj_ms[m]? with
  | none => rw [hJ] at h; cases h
  | some J =>
    rw [hJ] at h
    have h3 := List.all_eq_true.mp h k (by rw [List.mem_range'_1]; omega)
    have he' : (mj_cd mj_Y m)[k]? = some e := he
    rw [he'] at h3
    exact ⟨J, rfl, h3⟩
theorem mj_len_le {m k : Nat} {e : mj_E} (n : Nat) (hn : (mj_cd mj_Y m).length = n) (he : mj_ent mj_Y m k = some e) : k < n := by
  rw [← hn]
  exact (List.getElem?_eq_some_iff.mp he).1
theorem mj_q0 {k : Nat} {e : mj_E} (he : mj_ent mj_Y 0 k = some e) : ∃ J, mj_ms[0]? = some J ∧ mj_okE J (mj_cd mj_Y 0) k e = true := by
  have hk := mj_len_le 21 (by decide +kernel) he
  exact mj_okR_at mj_k0_0 (Nat.zero_le _) (by omega) he
theorem mj_q1 {k : Nat} {e : mj_E} (he : mj_ent mj_Y 1 k = some e) : ∃ J, mj_ms[1]? = some J ∧ mj_okE J (mj_cd mj_Y 1) k e = true := by
  have hk := mj_len_le 37 (by decide +kernel) he
  exact mj_okR_at mj_k1_0 (Nat.zero_le _) (by omega) he
theorem mj_q2 {k : Nat} {e : mj_E} (he : mj_ent mj_Y 2 k = some e) : ∃ J, mj_ms[2]? = some J ∧ mj_okE J (mj_cd mj_Y 2) k e = true := by
  have hk := mj_len_le 19 (by decide +kernel) he
  exact mj_okR_at mj_k2_0 (Nat.zero_le _) (by omega) he
theorem mj_q3 {k : Nat} {e : mj_E} (he : mj_ent mj_Y 3 k = some e) : ∃ J, mj_ms[3]? = some J ∧ mj_okE J (mj_cd mj_Y 3) k e = true := by
  have hk := mj_len_le 31 (by decide +kernel) he
  exact mj_okR_at mj_k3_0 (Nat.zero_le _) (by omega) he
theorem mj_q4 {k : Nat} {e : mj_E} (he : mj_ent mj_Y 4 k = some e) : ∃ J, mj_ms[4]? = some J ∧ mj_okE J (mj_cd mj_Y 4) k e = true := by
  have hk := mj_len_le 91 (by decide +kernel) he
  exact mj_okR_at mj_k4_0 (Nat.zero_le _) (by omega) he
theorem mj_q5 {k : Nat} {e : mj_E} (he : mj_ent mj_Y 5 k = some e) : ∃ J, mj_ms[5]? = some J ∧ mj_okE J (mj_cd mj_Y 5) k e = true := by
  have hk := mj_len_le 69 (by decide +kernel) he
  exact mj_okR_at mj_k5_0 (Nat.zero_le _) (by omega) he
theorem mj_q6 {k : Nat} {e : mj_E} (he : mj_ent mj_Y 6 k = some e) : ∃ J, mj_ms[6]? = some J ∧ mj_okE J (mj_cd mj_Y 6) k e = true := by
  have hk := mj_len_le 8 (by decide +kernel) he
  exact mj_okR_at mj_k6_0 (Nat.zero_le _) (by omega) he
theorem mj_q7 {k : Nat} {e : mj_E} (he : mj_ent mj_Y 7 k = some e) : ∃ J, mj_ms[7]? = some J ∧ mj_okE J (mj_cd mj_Y 7) k e = true := by
  have hk := mj_len_le 8 (by decide +kernel) he
  exact mj_okR_at mj_k7_0 (Nat.zero_le _) (by omega) he
theorem mj_q8 {k : Nat} {e : mj_E} (he : mj_ent mj_Y 8 k = some e) : ∃ J, mj_ms[8]? = some J ∧ mj_okE J (mj_cd mj_Y 8) k e = true := by
  have hk := mj_len_le 5 (by decide +kernel) he
  exact mj_okR_at mj_k8_0 (Nat.zero_le _) (by omega) he
theorem mj_q9 {k : Nat} {e : mj_E} (he : mj_ent mj_Y 9 k = some e) : ∃ J, mj_ms[9]? = some J ∧ mj_okE J (mj_cd mj_Y 9) k e = true := by
  have hk := mj_len_le 25 (by decide +kernel) he
  exact mj_okR_at mj_k9_0 (Nat.zero_le _) (by omega) he
theorem mj_q10 {k : Nat} {e : mj_E} (he : mj_ent mj_Y 10 k = some e) : ∃ J, mj_ms[10]? = some J ∧ mj_okE J (mj_cd mj_Y 10) k e = true := by
  have hk := mj_len_le 43 (by decide +kernel) he
  exact mj_okR_at mj_k10_0 (Nat.zero_le _) (by omega) he
theorem mj_q11 {k : Nat} {e : mj_E} (he : mj_ent mj_Y 11 k = some e) : ∃ J, mj_ms[11]? = some J ∧ mj_okE J (mj_cd mj_Y 11) k e = true := by
  have hk := mj_len_le 16 (by decide +kernel) he
  exact mj_okR_at mj_k11_0 (Nat.zero_le _) (by omega) he
theorem mj_q12 {k : Nat} {e : mj_E} (he : mj_ent mj_Y 12 k = some e) : ∃ J, mj_ms[12]? = some J ∧ mj_okE J (mj_cd mj_Y 12) k e = true := by
  have hk := mj_len_le 18 (by decide +kernel) he
  exact mj_okR_at mj_k12_0 (Nat.zero_le _) (by omega) he
theorem mj_q13 {k : Nat} {e : mj_E} (he : mj_ent mj_Y 13 k = some e) : ∃ J, mj_ms[13]? = some J ∧ mj_okE J (mj_cd mj_Y 13) k e = true := by
  have hk := mj_len_le 10 (by decide +kernel) he
  exact mj_okR_at mj_k13_0 (Nat.zero_le _) (by omega) he
theorem mj_q14 {k : Nat} {e : mj_E} (he : mj_ent mj_Y 14 k = some e) : ∃ J, mj_ms[14]? = some J ∧ mj_okE J (mj_cd mj_Y 14) k e = true := by
  have hk := mj_len_le 20 (by decide +kernel) he
  exact mj_okR_at mj_k14_0 (Nat.zero_le _) (by omega) he
theorem mj_q15 {k : Nat} {e : mj_E} (he : mj_ent mj_Y 15 k = some e) : ∃ J, mj_ms[15]? = some J ∧ mj_okE J (mj_cd mj_Y 15) k e = true := by
  have hk := mj_len_le 18 (by decide +kernel) he
  exact mj_okR_at mj_k15_0 (Nat.zero_le _) (by omega) he
theorem mj_q16 {k : Nat} {e : mj_E} (he : mj_ent mj_Y 16 k = some e) : ∃ J, mj_ms[16]? = some J ∧ mj_okE J (mj_cd mj_Y 16) k e = true := by
  have hk := mj_len_le 18 (by decide +kernel) he
  exact mj_okR_at mj_k16_0 (Nat.zero_le _) (by omega) he
theorem mj_q17 {k : Nat} {e : mj_E} (he : mj_ent mj_Y 17 k = some e) : ∃ J, mj_ms[17]? = some J ∧ mj_okE J (mj_cd mj_Y 17) k e = true := by
  have hk := mj_len_le 20 (by decide +kernel) he
  exact mj_okR_at mj_k17_0 (Nat.zero_le _) (by omega) he
theorem mj_q18 {k : Nat} {e : mj_E} (he : mj_ent mj_Y 18 k = some e) : ∃ J, mj_ms[18]? = some J ∧ mj_okE J (mj_cd mj_Y 18) k e = true := by
  have hk := mj_len_le 13 (by decide +kernel) he
  exact mj_okR_at mj_k18_0 (Nat.zero_le _) (by omega) he
theorem mj_q19 {k : Nat} {e : mj_E} (he : mj_ent mj_Y 19 k = some e) : ∃ J, mj_ms[19]? = some J ∧ mj_okE J (mj_cd mj_Y 19) k e = true := by
  have hk := mj_len_le 16 (by decide +kernel) he
  exact mj_okR_at mj_k19_0 (Nat.zero_le _) (by omega) he
theorem mj_q20 {k : Nat} {e : mj_E} (he : mj_ent mj_Y 20 k = some e) : ∃ J, mj_ms[20]? = some J ∧ mj_okE J (mj_cd mj_Y 20) k e = true := by
  have hk := mj_len_le 6 (by decide +kernel) he
  exact mj_okR_at mj_k20_0 (Nat.zero_le _) (by omega) he
theorem mj_q21 {k : Nat} {e : mj_E} (he : mj_ent mj_Y 21 k = some e) : ∃ J, mj_ms[21]? = some J ∧ mj_okE J (mj_cd mj_Y 21) k e = true := by
  have hk := mj_len_le 52 (by decide +kernel) he
  exact mj_okR_at mj_k21_0 (Nat.zero_le _) (by omega) he
theorem mj_q22 {k : Nat} {e : mj_E} (he : mj_ent mj_Y 22 k = some e) : ∃ J, mj_ms[22]? = some J ∧ mj_okE J (mj_cd mj_Y 22) k e = true := by
  have hk := mj_len_le 7 (by decide +kernel) he
  exact mj_okR_at mj_k22_0 (Nat.zero_le _) (by omega) he
theorem mj_q23 {k : Nat} {e : mj_E} (he : mj_ent mj_Y 23 k = some e) : ∃ J, mj_ms[23]? = some J ∧ mj_okE J (mj_cd mj_Y 23) k e = true := by
  have hk := mj_len_le 31 (by decide +kernel) he
  exact mj_okR_at mj_k23_0 (Nat.zero_le _) (by omega) he
theorem mj_q24 {k : Nat} {e : mj_E} (he : mj_ent mj_Y 24 k = some e) : ∃ J, mj_ms[24]? = some J ∧ mj_okE J (mj_cd mj_Y 24) k e = true := by
  have hk := mj_len_le 63 (by decide +kernel) he
  exact mj_okR_at mj_k24_0 (Nat.zero_le _) (by omega) he
theorem mj_q25 {k : Nat} {e : mj_E} (he : mj_ent mj_Y 25 k = some e) : ∃ J, mj_ms[25]? = some J ∧ mj_okE J (mj_cd mj_Y 25) k e = true := by
  have hk := mj_len_le 51 (by decide +kernel) he
  exact mj_okR_at mj_k25_0 (Nat.zero_le _) (by omega) he
theorem mj_q26 {k : Nat} {e : mj_E} (he : mj_ent mj_Y 26 k = some e) : ∃ J, mj_ms[26]? = some J ∧ mj_okE J (mj_cd mj_Y 26) k e = true := by
  have hk := mj_len_le 32 (by decide +kernel) he
  exact mj_okR_at mj_k26_0 (Nat.zero_le _) (by omega) he
theorem mj_q27 {k : Nat} {e : mj_E} (he : mj_ent mj_Y 27 k = some e) : ∃ J, mj_ms[27]? = some J ∧ mj_okE J (mj_cd mj_Y 27) k e = true := by
  have hk := mj_len_le 26 (by decide +kernel) he
  exact mj_okR_at mj_k27_0 (Nat.zero_le _) (by omega) he
theorem mj_q28 {k : Nat} {e : mj_E} (he : mj_ent mj_Y 28 k = some e) : ∃ J, mj_ms[28]? = some J ∧ mj_okE J (mj_cd mj_Y 28) k e = true := by
  have hk := mj_len_le 27 (by decide +kernel) he
  exact mj_okR_at mj_k28_0 (Nat.zero_le _) (by omega) he
theorem mj_q29 {k : Nat} {e : mj_E} (he : mj_ent mj_Y 29 k = some e) : ∃ J, mj_ms[29]? = some J ∧ mj_okE J (mj_cd mj_Y 29) k e = true := by
  have hk := mj_len_le 31 (by decide +kernel) he
  exact mj_okR_at mj_k29_0 (Nat.zero_le _) (by omega) he
theorem mj_q30 {k : Nat} {e : mj_E} (he : mj_ent mj_Y 30 k = some e) : ∃ J, mj_ms[30]? = some J ∧ mj_okE J (mj_cd mj_Y 30) k e = true := by
  have hk := mj_len_le 56 (by decide +kernel) he
  exact mj_okR_at mj_k30_0 (Nat.zero_le _) (by omega) he
theorem mj_q31 {k : Nat} {e : mj_E} (he : mj_ent mj_Y 31 k = some e) : ∃ J, mj_ms[31]? = some J ∧ mj_okE J (mj_cd mj_Y 31) k e = true := by
  have hk := mj_len_le 30 (by decide +kernel) he
  exact mj_okR_at mj_k31_0 (Nat.zero_le _) (by omega) he
theorem mj_q32 {k : Nat} {e : mj_E} (he : mj_ent mj_Y 32 k = some e) : ∃ J, mj_ms[32]? = some J ∧ mj_okE J (mj_cd mj_Y 32) k e = true := by
  have hk := mj_len_le 7 (by decide +kernel) he
  exact mj_okR_at mj_k32_0 (Nat.zero_le _) (by omega) he
theorem mj_q33 {k : Nat} {e : mj_E} (he : mj_ent mj_Y 33 k = some e) : ∃ J, mj_ms[33]? = some J ∧ mj_okE J (mj_cd mj_Y 33) k e = true := by
  have hk := mj_len_le 11 (by decide +kernel) he
  exact mj_okR_at mj_k33_0 (Nat.zero_le _) (by omega) he
theorem mj_q34 {k : Nat} {e : mj_E} (he : mj_ent mj_Y 34 k = some e) : ∃ J, mj_ms[34]? = some J ∧ mj_okE J (mj_cd mj_Y 34) k e = true := by
  have hk := mj_len_le 27 (by decide +kernel) he
  exact mj_okR_at mj_k34_0 (Nat.zero_le _) (by omega) he
theorem mj_q35 {k : Nat} {e : mj_E} (he : mj_ent mj_Y 35 k = some e) : ∃ J, mj_ms[35]? = some J ∧ mj_okE J (mj_cd mj_Y 35) k e = true := by
  have hk := mj_len_le 21 (by decide +kernel) he
  exact mj_okR_at mj_k35_0 (Nat.zero_le _) (by omega) he
theorem mj_q36 {k : Nat} {e : mj_E} (he : mj_ent mj_Y 36 k = some e) : ∃ J, mj_ms[36]? = some J ∧ mj_okE J (mj_cd mj_Y 36) k e = true := by
  have hk := mj_len_le 13 (by decide +kernel) he
  exact mj_okR_at mj_k36_0 (Nat.zero_le _) (by omega) he
theorem mj_q37 {k : Nat} {e : mj_E} (he : mj_ent mj_Y 37 k = some e) : ∃ J, mj_ms[37]? = some J ∧ mj_okE J (mj_cd mj_Y 37) k e = true := by
  have hk := mj_len_le 18 (by decide +kernel) he
  exact mj_okR_at mj_k37_0 (Nat.zero_le _) (by omega) he
theorem mj_q38 {k : Nat} {e : mj_E} (he : mj_ent mj_Y 38 k = some e) : ∃ J, mj_ms[38]? = some J ∧ mj_okE J (mj_cd mj_Y 38) k e = true := by
  have hk := mj_len_le 26 (by decide +kernel) he
  exact mj_okR_at mj_k38_0 (Nat.zero_le _) (by omega) he
theorem mj_q39 {k : Nat} {e : mj_E} (he : mj_ent mj_Y 39 k = some e) : ∃ J, mj_ms[39]? = some J ∧ mj_okE J (mj_cd mj_Y 39) k e = true := by
  have hk := mj_len_le 9 (by decide +kernel) he
  exact mj_okR_at mj_k39_0 (Nat.zero_le _) (by omega) he
theorem mj_q40 {k : Nat} {e : mj_E} (he : mj_ent mj_Y 40 k = some e) : ∃ J, mj_ms[40]? = some J ∧ mj_okE J (mj_cd mj_Y 40) k e = true := by
  have hk := mj_len_le 27 (by decide +kernel) he
  exact mj_okR_at mj_k40_0 (Nat.zero_le _) (by omega) he
theorem mj_q41 {k : Nat} {e : mj_E} (he : mj_ent mj_Y 41 k = some e) : ∃ J, mj_ms[41]? = some J ∧ mj_okE J (mj_cd mj_Y 41) k e = true := by
  have hk := mj_len_le 24 (by decide +kernel) he
  exact mj_okR_at mj_k41_0 (Nat.zero_le _) (by omega) he
theorem mj_q42 {k : Nat} {e : mj_E} (he : mj_ent mj_Y 42 k = some e) : ∃ J, mj_ms[42]? = some J ∧ mj_okE J (mj_cd mj_Y 42) k e = true := by
  have hk := mj_len_le 34 (by decide +kernel) he
  exact mj_okR_at mj_k42_0 (Nat.zero_le _) (by omega) he
theorem mj_q43 {k : Nat} {e : mj_E} (he : mj_ent mj_Y 43 k = some e) : ∃ J, mj_ms[43]? = some J ∧ mj_okE J (mj_cd mj_Y 43) k e = true := by
  have hk := mj_len_le 18 (by decide +kernel) he
  exact mj_okR_at mj_k43_0 (Nat.zero_le _) (by omega) he
theorem mj_q44 {k : Nat} {e : mj_E} (he : mj_ent mj_Y 44 k = some e) : ∃ J, mj_ms[44]? = some J ∧ mj_okE J (mj_cd mj_Y 44) k e = true := by
  have hk := mj_len_le 11 (by decide +kernel) he
  exact mj_okR_at mj_k44_0 (Nat.zero_le _) (by omega) he
theorem mj_q45 {k : Nat} {e : mj_E} (he : mj_ent mj_Y 45 k = some e) : ∃ J, mj_ms[45]? = some J ∧ mj_okE J (mj_cd mj_Y 45) k e = true := by
  have hk := mj_len_le 31 (by decide +kernel) he
  exact mj_okR_at mj_k45_0 (Nat.zero_le _) (by omega) he
theorem mj_q46 {k : Nat} {e : mj_E} (he : mj_ent mj_Y 46 k = some e) : ∃ J, mj_ms[46]? = some J ∧ mj_okE J (mj_cd mj_Y 46) k e = true := by
  have hk := mj_len_le 26 (by decide +kernel) he
  exact mj_okR_at mj_k46_0 (Nat.zero_le _) (by omega) he
theorem mj_q47 {k : Nat} {e : mj_E} (he : mj_ent mj_Y 47 k = some e) : ∃ J, mj_ms[47]? = some J ∧ mj_okE J (mj_cd mj_Y 47) k e = true := by
  have hk := mj_len_le 27 (by decide +kernel) he
  exact mj_okR_at mj_k47_0 (Nat.zero_le _) (by omega) he
theorem mj_q48 {k : Nat} {e : mj_E} (he : mj_ent mj_Y 48 k = some e) : ∃ J, mj_ms[48]? = some J ∧ mj_okE J (mj_cd mj_Y 48) k e = true := by
  have hk := mj_len_le 32 (by decide +kernel) he
  exact mj_okR_at mj_k48_0 (Nat.zero_le _) (by omega) he
theorem mj_q49 {k : Nat} {e : mj_E} (he : mj_ent mj_Y 49 k = some e) : ∃ J, mj_ms[49]? = some J ∧ mj_okE J (mj_cd mj_Y 49) k e = true := by
  have hk := mj_len_le 36 (by decide +kernel) he
  exact mj_okR_at mj_k49_0 (Nat.zero_le _) (by omega) he
theorem mj_q50 {k : Nat} {e : mj_E} (he : mj_ent mj_Y 50 k = some e) : ∃ J, mj_ms[50]? = some J ∧ mj_okE J (mj_cd mj_Y 50) k e = true := by
  have hk := mj_len_le 26 (by decide +kernel) he
  exact mj_okR_at mj_k50_0 (Nat.zero_le _) (by omega) he
theorem mj_q51 {k : Nat} {e : mj_E} (he : mj_ent mj_Y 51 k = some e) : ∃ J, mj_ms[51]? = some J ∧ mj_okE J (mj_cd mj_Y 51) k e = true := by
  have hk := mj_len_le 37 (by decide +kernel) he
  exact mj_okR_at mj_k51_0 (Nat.zero_le _) (by omega) he
theorem mj_q52 {k : Nat} {e : mj_E} (he : mj_ent mj_Y 52 k = some e) : ∃ J, mj_ms[52]? = some J ∧ mj_okE J (mj_cd mj_Y 52) k e = true := by
  have hk := mj_len_le 30 (by decide +kernel) he
  exact mj_okR_at mj_k52_0 (Nat.zero_le _) (by omega) he
theorem mj_q53 {k : Nat} {e : mj_E} (he : mj_ent mj_Y 53 k = some e) : ∃ J, mj_ms[53]? = some J ∧ mj_okE J (mj_cd mj_Y 53) k e = true := by
  have hk := mj_len_le 15 (by decide +kernel) he
  exact mj_okR_at mj_k53_0 (Nat.zero_le _) (by omega) he
theorem mj_q54 {k : Nat} {e : mj_E} (he : mj_ent mj_Y 54 k = some e) : ∃ J, mj_ms[54]? = some J ∧ mj_okE J (mj_cd mj_Y 54) k e = true := by
  have hk := mj_len_le 15 (by decide +kernel) he
  exact mj_okR_at mj_k54_0 (Nat.zero_le _) (by omega) he
theorem mj_q55 {k : Nat} {e : mj_E} (he : mj_ent mj_Y 55 k = some e) : ∃ J, mj_ms[55]? = some J ∧ mj_okE J (mj_cd mj_Y 55) k e = true := by
  have hk := mj_len_le 60 (by decide +kernel) he
  exact mj_okR_at mj_k55_0 (Nat.zero_le _) (by omega) he
theorem mj_q56 {k : Nat} {e : mj_E} (he : mj_ent mj_Y 56 k = some e) : ∃ J, mj_ms[56]? = some J ∧ mj_okE J (mj_cd mj_Y 56) k e = true := by
  have hk := mj_len_le 51 (by decide +kernel) he
  exact mj_okR_at mj_k56_0 (Nat.zero_le _) (by omega) he
theorem mj_q57 {k : Nat} {e : mj_E} (he : mj_ent mj_Y 57 k = some e) : ∃ J, mj_ms[57]? = some J ∧ mj_okE J (mj_cd mj_Y 57) k e = true := by
  have hk := mj_len_le 26 (by decide +kernel) he
  exact mj_okR_at mj_k57_0 (Nat.zero_le _) (by omega) he
theorem mj_q58 {k : Nat} {e : mj_E} (he : mj_ent mj_Y 58 k = some e) : ∃ J, mj_ms[58]? = some J ∧ mj_okE J (mj_cd mj_Y 58) k e = true := by
  have hk := mj_len_le 22 (by decide +kernel) he
  exact mj_okR_at mj_k58_0 (Nat.zero_le _) (by omega) he
theorem mj_q59 {k : Nat} {e : mj_E} (he : mj_ent mj_Y 59 k = some e) : ∃ J, mj_ms[59]? = some J ∧ mj_okE J (mj_cd mj_Y 59) k e = true := by
  have hk := mj_len_le 19 (by decide +kernel) he
  exact mj_okR_at mj_k59_0 (Nat.zero_le _) (by omega) he
theorem mj_q60 {k : Nat} {e : mj_E} (he : mj_ent mj_Y 60 k = some e) : ∃ J, mj_ms[60]? = some J ∧ mj_okE J (mj_cd mj_Y 60) k e = true := by
  have hk := mj_len_le 21 (by decide +kernel) he
  exact mj_okR_at mj_k60_0 (Nat.zero_le _) (by omega) he
theorem mj_q61 {k : Nat} {e : mj_E} (he : mj_ent mj_Y 61 k = some e) : ∃ J, mj_ms[61]? = some J ∧ mj_okE J (mj_cd mj_Y 61) k e = true := by
  have hk := mj_len_le 10 (by decide +kernel) he
  exact mj_okR_at mj_k61_0 (Nat.zero_le _) (by omega) he
theorem mj_q62 {k : Nat} {e : mj_E} (he : mj_ent mj_Y 62 k = some e) : ∃ J, mj_ms[62]? = some J ∧ mj_okE J (mj_cd mj_Y 62) k e = true := by
  have hk := mj_len_le 14 (by decide +kernel) he
  exact mj_okR_at mj_k62_0 (Nat.zero_le _) (by omega) he
theorem mj_q63 {k : Nat} {e : mj_E} (he : mj_ent mj_Y 63 k = some e) : ∃ J, mj_ms[63]? = some J ∧ mj_okE J (mj_cd mj_Y 63) k e = true := by
  have hk := mj_len_le 5 (by decide +kernel) he
  exact mj_okR_at mj_k63_0 (Nat.zero_le _) (by omega) he
theorem mj_q64 {k : Nat} {e : mj_E} (he : mj_ent mj_Y 64 k = some e) : ∃ J, mj_ms[64]? = some J ∧ mj_okE J (mj_cd mj_Y 64) k e = true := by
  have hk := mj_len_le 12 (by decide +kernel) he
  exact mj_okR_at mj_k64_0 (Nat.zero_le _) (by omega) he
theorem mj_q65 {k : Nat} {e : mj_E} (he : mj_ent mj_Y 65 k = some e) : ∃ J, mj_ms[65]? = some J ∧ mj_okE J (mj_cd mj_Y 65) k e = true := by
  have hk := mj_len_le 19 (by decide +kernel) he
  exact mj_okR_at mj_k65_0 (Nat.zero_le _) (by omega) he
theorem mj_q66 {k : Nat} {e : mj_E} (he : mj_ent mj_Y 66 k = some e) : ∃ J, mj_ms[66]? = some J ∧ mj_okE J (mj_cd mj_Y 66) k e = true := by
  have hk := mj_len_le 7 (by decide +kernel) he
  exact mj_okR_at mj_k66_0 (Nat.zero_le _) (by omega) he
theorem mj_q67 {k : Nat} {e : mj_E} (he : mj_ent mj_Y 67 k = some e) : ∃ J, mj_ms[67]? = some J ∧ mj_okE J (mj_cd mj_Y 67) k e = true := by
  have hk := mj_len_le 7 (by decide +kernel) he
  exact mj_okR_at mj_k67_0 (Nat.zero_le _) (by omega) he
theorem mj_q68 {k : Nat} {e : mj_E} (he : mj_ent mj_Y 68 k = some e) : ∃ J, mj_ms[68]? = some J ∧ mj_okE J (mj_cd mj_Y 68) k e = true := by
  have hk := mj_len_le 16 (by decide +kernel) he
  exact mj_okR_at mj_k68_0 (Nat.zero_le _) (by omega) he
theorem mj_q69 {k : Nat} {e : mj_E} (he : mj_ent mj_Y 69 k = some e) : ∃ J, mj_ms[69]? = some J ∧ mj_okE J (mj_cd mj_Y 69) k e = true := by
  have hk := mj_len_le 197 (by decide +kernel) he
  by_cases h0 : k < 120
  · exact mj_okR_at mj_k69_0 (by omega) (by omega) he
  exact mj_okR_at mj_k69_120 (by omega) (by omega) he
theorem mj_q70 {k : Nat} {e : mj_E} (he : mj_ent mj_Y 70 k = some e) : ∃ J, mj_ms[70]? = some J ∧ mj_okE J (mj_cd mj_Y 70) k e = true := by
  have hk := mj_len_le 198 (by decide +kernel) he
  by_cases h0 : k < 120
  · exact mj_okR_at mj_k70_0 (by omega) (by omega) he
  exact mj_okR_at mj_k70_120 (by omega) (by omega) he
theorem mj_q71 {k : Nat} {e : mj_E} (he : mj_ent mj_Y 71 k = some e) : ∃ J, mj_ms[71]? = some J ∧ mj_okE J (mj_cd mj_Y 71) k e = true := by
  have hk := mj_len_le 389 (by decide +kernel) he
  by_cases h0 : k < 120
  · exact mj_okR_at mj_k71_0 (by omega) (by omega) he
  by_cases h1 : k < 240
  · exact mj_okR_at mj_k71_120 (by omega) (by omega) he
  by_cases h2 : k < 360
  · exact mj_okR_at mj_k71_240 (by omega) (by omega) he
  exact mj_okR_at mj_k71_360 (by omega) (by omega) he
theorem mj_ok {m k : Nat} {e : mj_E} (he : mj_ent mj_Y m k = some e) : ∃ J, mj_ms[m]? = some J ∧ mj_okE J (mj_cd mj_Y m) k e = true := by
  have hm : m < 72 := by
    rcases Nat.lt_or_ge m 72 with h | h
    · exact h
    · exfalso
      have e0 : mj_cd mj_Y m = [] := by
        show ((mj_cds[m]?).getD []) = []
        rw [List.getElem?_eq_none (Nat.le_trans (Nat.le_of_ble_eq_true (by decide +kernel)) h)]
        rfl
      unfold mj_ent at he
      rw [e0] at he
      cases he
  by_cases h0_72 : m < 36
  · skip
    by_cases h0_36 : m < 18
    · skip
      by_cases h0_18 : m < 9
      · skip
        by_cases h0_9 : m < 4
        · skip
          by_cases h0_4 : m < 2
          · skip
            by_cases h0_2 : m < 1
            · skip
              have hm : m = 0 := by omega
              subst hm
              exact mj_q0 he
            · skip
              have hm : m = 1 := by omega
              subst hm
              exact mj_q1 he
          · skip
            by_cases h2_4 : m < 3
            · skip
              have hm : m = 2 := by omega
              subst hm
              exact mj_q2 he
            · skip
              have hm : m = 3 := by omega
              subst hm
              exact mj_q3 he
        · skip
          by_cases h4_9 : m < 6
          · skip
            by_cases h4_6 : m < 5
            · skip
              have hm : m = 4 := by omega
              subst hm
              exact mj_q4 he
            · skip
              have hm : m = 5 := by omega
              subst hm
              exact mj_q5 he
          · skip
            by_cases h6_9 : m < 7
            · skip
              have hm : m = 6 := by omega
              subst hm
              exact mj_q6 he
            · skip
              by_cases h7_9 : m < 8
              · skip
                have hm : m = 7 := by omega
                subst hm
                exact mj_q7 he
              · skip
                have hm : m = 8 := by omega
                subst hm
                exact mj_q8 he
      · skip
        by_cases h9_18 : m < 13
        · skip
          by_cases h9_13 : m < 11
          · skip
            by_cases h9_11 : m < 10
            · skip
              have hm : m = 9 := by omega
              subst hm
              exact mj_q9 he
            · skip
              have hm : m = 10 := by omega
              subst hm
              exact mj_q10 he
          · skip
            by_cases h11_13 : m < 12
            · skip
              have hm : m = 11 := by omega
              subst hm
              exact mj_q11 he
            · skip
              have hm : m = 12 := by omega
              subst hm
              exact mj_q12 he
        · skip
          by_cases h13_18 : m < 15
          · skip
            by_cases h13_15 : m < 14
            · skip
              have hm : m = 13 := by omega
              subst hm
              exact mj_q13 he
            · skip
              have hm : m = 14 := by omega
              subst hm
              exact mj_q14 he
          · skip
            by_cases h15_18 : m < 16
            · skip
              have hm : m = 15 := by omega
              subst hm
              exact mj_q15 he
            · skip
              by_cases h16_18 : m < 17
              · skip
                have hm : m = 16 := by omega
                subst hm
                exact mj_q16 he
              · skip
                have hm : m = 17 := by omega
                subst hm
                exact mj_q17 he
    · skip
      by_cases h18_36 : m < 27
      · skip
        by_cases h18_27 : m < 22
        · skip
          by_cases h18_22 : m < 20
          · skip
            by_cases h18_20 : m < 19
            · skip
              have hm : m = 18 := by omega
              subst hm
              exact mj_q18 he
            · skip
              have hm : m = 19 := by omega
              subst hm
              exact mj_q19 he
          · skip
            by_cases h20_22 : m < 21
            · skip
              have hm : m = 20 := by omega
              subst hm
              exact mj_q20 he
            · skip
              have hm : m = 21 := by omega
              subst hm
              exact mj_q21 he
        · skip
          by_cases h22_27 : m < 24
          · skip
            by_cases h22_24 : m < 23
            · skip
              have hm : m = 22 := by omega
              subst hm
              exact mj_q22 he
            · skip
              have hm : m = 23 := by omega
              subst hm
              exact mj_q23 he
          · skip
            by_cases h24_27 : m < 25
            · skip
              have hm : m = 24 := by omega
              subst hm
              exact mj_q24 he
            · skip
              by_cases h25_27 : m < 26
              · skip
                have hm : m = 25 := by omega
                subst hm
                exact mj_q25 he
              · skip
                have hm : m = 26 := by omega
                subst hm
                exact mj_q26 he
      · skip
        by_cases h27_36 : m < 31
        · skip
          by_cases h27_31 : m < 29
          · skip
            by_cases h27_29 : m < 28
            · skip
              have hm : m = 27 := by omega
              subst hm
              exact mj_q27 he
            · skip
              have hm : m = 28 := by omega
              subst hm
              exact mj_q28 he
          · skip
            by_cases h29_31 : m < 30
            · skip
              have hm : m = 29 := by omega
              subst hm
              exact mj_q29 he
            · skip
              have hm : m = 30 := by omega
              subst hm
              exact mj_q30 he
        · skip
          by_cases h31_36 : m < 33
          · skip
            by_cases h31_33 : m < 32
            · skip
              have hm : m = 31 := by omega
              subst hm
              exact mj_q31 he
            · skip
              have hm : m = 32 := by omega
              subst hm
              exact mj_q32 he
          · skip
            by_cases h33_36 : m < 34
            · skip
              have hm : m = 33 := by omega
              subst hm
              exact mj_q33 he
            · skip
              by_cases h34_36 : m < 35
              · skip
                have hm : m = 34 := by omega
                subst hm
                exact mj_q34 he
              · skip
                have hm : m = 35 := by omega
                subst hm
                exact mj_q35 he
  · skip
    by_cases h36_72 : m < 54
    · skip
      by_cases h36_54 : m < 45
      · skip
        by_cases h36_45 : m < 40
        · skip
          by_cases h36_40 : m < 38
          · skip
            by_cases h36_38 : m < 37
            · skip
              have hm : m = 36 := by omega
              subst hm
              exact mj_q36 he
            · skip
              have hm : m = 37 := by omega
              subst hm
              exact mj_q37 he
          · skip
            by_cases h38_40 : m < 39
            · skip
              have hm : m = 38 := by omega
              subst hm
              exact mj_q38 he
            · skip
              have hm : m = 39 := by omega
              subst hm
              exact mj_q39 he
        · skip
          by_cases h40_45 : m < 42
          · skip
            by_cases h40_42 : m < 41
            · skip
              have hm : m = 40 := by omega
              subst hm
              exact mj_q40 he
            · skip
              have hm : m = 41 := by omega
              subst hm
              exact mj_q41 he
          · skip
            by_cases h42_45 : m < 43
            · skip
              have hm : m = 42 := by omega
              subst hm
              exact mj_q42 he
            · skip
              by_cases h43_45 : m < 44
              · skip
                have hm : m = 43 := by omega
                subst hm
                exact mj_q43 he
              · skip
                have hm : m = 44 := by omega
                subst hm
                exact mj_q44 he
      · skip
        by_cases h45_54 : m < 49
        · skip
          by_cases h45_49 : m < 47
          · skip
            by_cases h45_47 : m < 46
            · skip
              have hm : m = 45 := by omega
              subst hm
              exact mj_q45 he
            · skip
              have hm : m = 46 := by omega
              subst hm
              exact mj_q46 he
          · skip
            by_cases h47_49 : m < 48
            · skip
              have hm : m = 47 := by omega
              subst hm
              exact mj_q47 he
            · skip
              have hm : m = 48 := by omega
              subst hm
              exact mj_q48 he
        · skip
          by_cases h49_54 : m < 51
          · skip
            by_cases h49_51 : m < 50
            · skip
              have hm : m = 49 := by omega
              subst hm
              exact mj_q49 he
            · skip
              have hm : m = 50 := by omega
              subst hm
              exact mj_q50 he
          · skip
            by_cases h51_54 : m < 52
            · skip
              have hm : m = 51 := by omega
              subst hm
              exact mj_q51 he
            · skip
              by_cases h52_54 : m < 53
              · skip
                have hm : m = 52 := by omega
                subst hm
                exact mj_q52 he
              · skip
                have hm : m = 53 := by omega
                subst hm
                exact mj_q53 he
    · skip
      by_cases h54_72 : m < 63
      · skip
        by_cases h54_63 : m < 58
        · skip
          by_cases h54_58 : m < 56
          · skip
            by_cases h54_56 : m < 55
            · skip
              have hm : m = 54 := by omega
              subst hm
              exact mj_q54 he
            · skip
              have hm : m = 55 := by omega
              subst hm
              exact mj_q55 he
          · skip
            by_cases h56_58 : m < 57
            · skip
              have hm : m = 56 := by omega
              subst hm
              exact mj_q56 he
            · skip
              have hm : m = 57 := by omega
              subst hm
              exact mj_q57 he
        · skip
          by_cases h58_63 : m < 60
          · skip
            by_cases h58_60 : m < 59
            · skip
              have hm : m = 58 := by omega
              subst hm
              exact mj_q58 he
            · skip
              have hm : m = 59 := by omega
              subst hm
              exact mj_q59 he
          · skip
            by_cases h60_63 : m < 61
            · skip
              have hm : m = 60 := by omega
              subst hm
              exact mj_q60 he
            · skip
              by_cases h61_63 : m < 62
              · skip
                have hm : m = 61 := by omega
                subst hm
                exact mj_q61 he
              · skip
                have hm : m = 62 := by omega
                subst hm
                exact mj_q62 he
      · skip
        by_cases h63_72 : m < 67
        · skip
          by_cases h63_67 : m < 65
          · skip
            by_cases h63_65 : m < 64
            · skip
              have hm : m = 63 := by omega
              subst hm
              exact mj_q63 he
            · skip
              have hm : m = 64 := by omega
              subst hm
              exact mj_q64 he
          · skip
            by_cases h65_67 : m < 66
            · skip
              have hm : m = 65 := by omega
              subst hm
              exact mj_q65 he
            · skip
              have hm : m = 66 := by omega
              subst hm
              exact mj_q66 he
        · skip
          by_cases h67_72 : m < 69
          · skip
            by_cases h67_69 : m < 68
            · skip
              have hm : m = 67 := by omega
              subst hm
              exact mj_q67 he
            · skip
              have hm : m = 68 := by omega
              subst hm
              exact mj_q68 he
          · skip
            by_cases h69_72 : m < 70
            · skip
              have hm : m = 69 := by omega
              subst hm
              exact mj_q69 he
            · skip
              by_cases h70_72 : m < 71
              · skip
                have hm : m = 70 := by omega
                subst hm
                exact mj_q70 he
              · skip
                have hm : m = 71 := by omega
                subst hm
                exact mj_q71 he
