theorem mj_okR_at {m lo n k : Nat} {e : mj_E} (h : mj_okR m lo n = true) (h1 : lo ≤ k) (h2 : k < lo + n) (he : mj_ent mj_Y m k = some e) : ∃ J, mj_ms[m]? = some J ∧ mj_okE J (mj_cd mj_Y m) k e = true := by
  unfold mj_okR at h
  cases hJ : mj_ms[m]? with
  | none => rw [hJ] at h; cases h
  | some J =>
    rw [hJ] at h
    have h3 := List.all_eq_true.mp h k (by rw [List.mem_range'_1]; omega)
    have he' : (mj_cd mj_Y m)[k]? = some e := he
    rw [he'] at h3
    exact ⟨J, rfl, h3⟩
theorem mj_len_le {m k : Nat} {e : mj_E} (n : Nat) (hn : (mj_cd mj_Y m).length = n) (he : mj_ent mj_Y m k = some e) : k < n := by
  rw [← hn]
  exact (List.getElem?_eq_some_iff.mp he).1
theorem mj_q0 {k : Nat} {e : mj_E} (he : mj_ent mj_Y 0 k = some e) : ∃ J, mj_ms[0]? = some J ∧ mj_okE J (mj_cd mj_Y 0) k e = true := by
  have hk := mj_len_le 21 (by decide +kernel) he
  exact mj_okR_at mj_k0_0 (Nat.zero_le _) (by omega) he
theorem mj_q1 {k : Nat} {e : mj_E} (he : mj_ent mj_Y 1 k = some e) : ∃ J, mj_ms[1]? = some J ∧ mj_okE J (mj_cd mj_Y 1) k e = true := by
  have hk := mj_len_le 37 (by decide +kernel) he
  exact mj_okR_at mj_k1_0 (Nat.zero_le _) (by omega) he
theorem mj_q2 {k : Nat} {e : mj_E} (he : mj_ent mj_Y 2 k = some e) : ∃ J, mj_ms[2]? = some J ∧ mj_okE J (mj_cd mj_Y 2) k e = true := by
  have hk := mj_len_le 19 (by decide +kernel) he
  exact mj_okR_at mj_k2_0 (Nat.zero_le _) (by omega) he
theorem mj_q3 {k : Nat} {e : mj_E} (he : mj_ent mj_Y 3 k = some e) : ∃ J, mj_ms[3]? = some J ∧ mj_okE J (mj_cd mj_Y 3) k e = true := by
  have hk := mj_len_le 31 (by decide +kernel) he
  exact mj_okR_at mj_k3_0 (Nat.zero_le _) (by omega) he
theorem mj_q4 {k : Nat} {e : mj_E} (he : mj_ent mj_Y 4 k = some e) : ∃ J, mj_ms[4]? = some J ∧ mj_okE J (mj_cd mj_Y 4) k e = true := by
  have hk := mj_len_le 91 (by decide +kernel) he
  exact mj_okR_at mj_k4_0 (Nat.zero_le _) (by omega) he
theorem mj_q5 {k : Nat} {e : mj_E} (he : mj_ent mj_Y 5 k = some e) : ∃ J, mj_ms[5]? = some J ∧ mj_okE J (mj_cd mj_Y 5) k e = true := by
  have hk := mj_len_le 69 (by decide +kernel) he
  exact mj_okR_at mj_k5_0 (Nat.zero_le _) (by omega) he
theorem mj_q6 {k : Nat} {e : mj_E} (he : mj_ent mj_Y 6 k = some e) : ∃ J, mj_ms[6]? = some J ∧ mj_okE J (mj_cd mj_Y 6) k e = true := by
  have hk := mj_len_le 8 (by decide +kernel) he
  exact mj_okR_at mj_k6_0 (Nat.zero_le _) (by omega) he
theorem mj_q7 {k : Nat} {e : mj_E} (he : mj_ent mj_Y 7 k = some e) : ∃ J, mj_ms[7]? = some J ∧ mj_okE J (mj_cd mj_Y 7) k e = true := by
  have hk := mj_len_le 8 (by decide +kernel) he
  exact mj_okR_at mj_k7_0 (Nat.zero_le _) (by omega) he
theorem mj_q8 {k : Nat} {e : mj_E} (he : mj_ent mj_Y 8 k = some e) : ∃ J, mj_ms[8]? = some J ∧ mj_okE J (mj_cd mj_Y 8) k e = true := by
  have hk := mj_len_le 5 (by decide +kernel) he
  exact mj_okR_at mj_k8_0 (Nat.zero_le _) (by omega) he
theorem mj_q9 {k : Nat} {e : mj_E} (he : mj_ent mj_Y 9 k = some e) : ∃ J, mj_ms[9]? = some J ∧ mj_okE J (mj_cd mj_Y 9) k e = true := by
  have hk := mj_len_le 25 (by decide +kernel) he
  exact mj_okR_at mj_k9_0 (Nat.zero_le _) (by omega) he
theorem mj_q10 {k : Nat} {e : mj_E} (he : mj_ent mj_Y 10 k = some e) : ∃ J, mj_ms[10]? = some J ∧ mj_okE J (mj_cd mj_Y 10) k e = true := by
  have hk := mj_len_le 43 (by decide +kernel) he
  exact mj_okR_at mj_k10_0 (Nat.zero_le _) (by omega) he
theorem mj_q11 {k : Nat} {e : mj_E} (he : mj_ent mj_Y 11 k = some e) : ∃ J, mj_ms[11]? = some J ∧ mj_okE J (mj_cd mj_Y 11) k e = true := by
  have hk := mj_len_le 16 (by decide +kernel) he
  exact mj_okR_at mj_k11_0 (Nat.zero_le _) (by omega) he
theorem mj_q12 {k : Nat} {e : mj_E} (he : mj_ent mj_Y 12 k = some e) : ∃ J, mj_ms[12]? = some J ∧ mj_okE J (mj_cd mj_Y 12) k e = true := by
  have hk := mj_len_le 18 (by decide +kernel) he
  exact mj_okR_at mj_k12_0 (Nat.zero_le _) (by omega) he
theorem mj_q13 {k : Nat} {e : mj_E} (he : mj_ent mj_Y 13 k = some e) : ∃ J, mj_ms[13]? = some J ∧ mj_okE J (mj_cd mj_Y 13) k e = true := by
  have hk := mj_len_le 10 (by decide +kernel) he
  exact mj_okR_at mj_k13_0 (Nat.zero_le _) (by omega) he
theorem mj_q14 {k : Nat} {e : mj_E} (he : mj_ent mj_Y 14 k = some e) : ∃ J, mj_ms[14]? = some J ∧ mj_okE J (mj_cd mj_Y 14) k e = true := by
  have hk := mj_len_le 20 (by decide +kernel) he
  exact mj_okR_at mj_k14_0 (Nat.zero_le _) (by omega) he
theorem mj_q15 {k : Nat} {e : mj_E} (he : mj_ent mj_Y 15 k = some e) : ∃ J, mj_ms[15]? = some J ∧ mj_okE J (mj_cd mj_Y 15) k e = true := by
  have hk := mj_len_le 18 (by decide +kernel) he
  exact mj_okR_at mj_k15_0 (Nat.zero_le _) (by omega) he
theorem mj_q16 {k : Nat} {e : mj_E} (he : mj_ent mj_Y 16 k = some e) : ∃ J, mj_ms[16]? = some J ∧ mj_okE J (mj_cd mj_Y 16) k e = true := by
  have hk := mj_len_le 18 (by decide +kernel) he
  exact mj_okR_at mj_k16_0 (Nat.zero_le _) (by omega) he
theorem mj_q17 {k : Nat} {e : mj_E} (he : mj_ent mj_Y 17 k = some e) : ∃ J, mj_ms[17]? = some J ∧ mj_okE J (mj_cd mj_Y 17) k e = true := by
  have hk := mj_len_le 20 (by decide +kernel) he
  exact mj_okR_at mj_k17_0 (Nat.zero_le _) (by omega) he
theorem mj_q18 {k : Nat} {e : mj_E} (he : mj_ent mj_Y 18 k = some e) : ∃ J, mj_ms[18]? = some J ∧ mj_okE J (mj_cd mj_Y 18) k e = true := by
  have hk := mj_len_le 13 (by decide +kernel) he
  exact mj_okR_at mj_k18_0 (Nat.zero_le _) (by omega) he
theorem mj_q19 {k : Nat} {e : mj_E} (he : mj_ent mj_Y 19 k = some e) : ∃ J, mj_ms[19]? = some J ∧ mj_okE J (mj_cd mj_Y 19) k e = true := by
  have hk := mj_len_le 16 (by decide +kernel) he
  exact mj_okR_at mj_k19_0 (Nat.zero_le _) (by omega) he
theorem mj_q20 {k : Nat} {e : mj_E} (he : mj_ent mj_Y 20 k = some e) : ∃ J, mj_ms[20]? = some J ∧ mj_okE J (mj_cd mj_Y 20) k e = true := by
  have hk := mj_len_le 6 (by decide +kernel) he
  exact mj_okR_at mj_k20_0 (Nat.zero_le _) (by omega) he
theorem mj_q21 {k : Nat} {e : mj_E} (he : mj_ent mj_Y 21 k = some e) : ∃ J, mj_ms[21]? = some J ∧ mj_okE J (mj_cd mj_Y 21) k e = true := by
  have hk := mj_len_le 52 (by decide +kernel) he
  exact mj_okR_at mj_k21_0 (Nat.zero_le _) (by omega) he
theorem mj_q22 {k : Nat} {e : mj_E} (he : mj_ent mj_Y 22 k = some e) : ∃ J, mj_ms[22]? = some J ∧ mj_okE J (mj_cd mj_Y 22) k e = true := by
  have hk := mj_len_le 7 (by decide +kernel) he
  exact mj_okR_at mj_k22_0 (Nat.zero_le _) (by omega) he
theorem mj_q23 {k : Nat} {e : mj_E} (he : mj_ent mj_Y 23 k = some e) : ∃ J, mj_ms[23]? = some J ∧ mj_okE J (mj_cd mj_Y 23) k e = true := by
  have hk := mj_len_le 31 (by decide +kernel) he
  exact mj_okR_at mj_k23_0 (Nat.zero_le _) (by omega) he
theorem mj_q24 {k : Nat} {e : mj_E} (he : mj_ent mj_Y 24 k = some e) : ∃ J, mj_ms[24]? = some J ∧ mj_okE J (mj_cd mj_Y 24) k e = true := by
  have hk := mj_len_le 63 (by decide +kernel) he
  exact mj_okR_at mj_k24_0 (Nat.zero_le _) (by omega) he
theorem mj_q25 {k : Nat} {e : mj_E} (he : mj_ent mj_Y 25 k = some e) : ∃ J, mj_ms[25]? = some J ∧ mj_okE J (mj_cd mj_Y 25) k e = true := by
  have hk := mj_len_le 51 (by decide +kernel) he
  exact mj_okR_at mj_k25_0 (Nat.zero_le _) (by omega) he
theorem mj_q26 {k : Nat} {e : mj_E} (he : mj_ent mj_Y 26 k = some e) : ∃ J, mj_ms[26]? = some J ∧ mj_okE J (mj_cd mj_Y 26) k e = true := by
  have hk := mj_len_le 32 (by decide +kernel) he
  exact mj_okR_at mj_k26_0 (Nat.zero_le _) (by omega) he
theorem mj_q27 {k : Nat} {e : mj_E} (he : mj_ent mj_Y 27 k = some e) : ∃ J, mj_ms[27]? = some J ∧ mj_okE J (mj_cd mj_Y 27) k e = true := by
  have hk := mj_len_le 26 (by decide +kernel) he
  exact mj_okR_at mj_k27_0 (Nat.zero_le _) (by omega) he
theorem mj_q28 {k : Nat} {e : mj_E} (he : mj_ent mj_Y 28 k = some e) : ∃ J, mj_ms[28]? = some J ∧ mj_okE J (mj_cd mj_Y 28) k e = true := by
  have hk := mj_len_le 27 (by decide +kernel) he
  exact mj_okR_at mj_k28_0 (Nat.zero_le _) (by omega) he
theorem mj_q29 {k : Nat} {e : mj_E} (he : mj_ent mj_Y 29 k = some e) : ∃ J, mj_ms[29]? = some J ∧ mj_okE J (mj_cd mj_Y 29) k e = true := by
  have hk := mj_len_le 31 (by decide +kernel) he
  exact mj_okR_at mj_k29_0 (Nat.zero_le _) (by omega) he
theorem mj_q30 {k : Nat} {e : mj_E} (he : mj_ent mj_Y 30 k = some e) : ∃ J, mj_ms[30]? = some J ∧ mj_okE J (mj_cd mj_Y 30) k e = true := by
  have hk := mj_len_le 56 (by decide +kernel) he
  exact mj_okR_at mj_k30_0 (Nat.zero_le _) (by omega) he
theorem mj_q31 {k : Nat} {e : mj_E} (he : mj_ent mj_Y 31 k = some e) : ∃ J, mj_ms[31]? = some J ∧ mj_okE J (mj_cd mj_Y 31) k e = true := by
  have hk := mj_len_le 30 (by decide +kernel) he
  exact mj_okR_at mj_k31_0 (Nat.zero_le _) (by omega) he
theorem mj_q32 {k : Nat} {e : mj_E} (he : mj_ent mj_Y 32 k = some e) : ∃ J, mj_ms[32]? = some J ∧ mj_okE J (mj_cd mj_Y 32) k e = true := by
  have hk := mj_len_le 23 (by decide +kernel) he
  exact mj_okR_at mj_k32_0 (Nat.zero_le _) (by omega) he
theorem mj_q33 {k : Nat} {e : mj_E} (he : mj_ent mj_Y 33 k = some e) : ∃ J, mj_ms[33]? = some J ∧ mj_okE J (mj_cd mj_Y 33) k e = true := by
  have hk := mj_len_le 7 (by decide +kernel) he
  exact mj_okR_at mj_k33_0 (Nat.zero_le _) (by omega) he
theorem mj_q34 {k : Nat} {e : mj_E} (he : mj_ent mj_Y 34 k = some e) : ∃ J, mj_ms[34]? = some J ∧ mj_okE J (mj_cd mj_Y 34) k e = true := by
  have hk := mj_len_le 13 (by decide +kernel) he
  exact mj_okR_at mj_k34_0 (Nat.zero_le _) (by omega) he
theorem mj_q35 {k : Nat} {e : mj_E} (he : mj_ent mj_Y 35 k = some e) : ∃ J, mj_ms[35]? = some J ∧ mj_okE J (mj_cd mj_Y 35) k e = true := by
  have hk := mj_len_le 14 (by decide +kernel) he
  exact mj_okR_at mj_k35_0 (Nat.zero_le _) (by omega) he
theorem mj_q36 {k : Nat} {e : mj_E} (he : mj_ent mj_Y 36 k = some e) : ∃ J, mj_ms[36]? = some J ∧ mj_okE J (mj_cd mj_Y 36) k e = true := by
  have hk := mj_len_le 28 (by decide +kernel) he
  exact mj_okR_at mj_k36_0 (Nat.zero_le _) (by omega) he
theorem mj_q37 {k : Nat} {e : mj_E} (he : mj_ent mj_Y 37 k = some e) : ∃ J, mj_ms[37]? = some J ∧ mj_okE J (mj_cd mj_Y 37) k e = true := by
  have hk := mj_len_le 48 (by decide +kernel) he
  exact mj_okR_at mj_k37_0 (Nat.zero_le _) (by omega) he
theorem mj_q38 {k : Nat} {e : mj_E} (he : mj_ent mj_Y 38 k = some e) : ∃ J, mj_ms[38]? = some J ∧ mj_okE J (mj_cd mj_Y 38) k e = true := by
  have hk := mj_len_le 16 (by decide +kernel) he
  exact mj_okR_at mj_k38_0 (Nat.zero_le _) (by omega) he
theorem mj_q39 {k : Nat} {e : mj_E} (he : mj_ent mj_Y 39 k = some e) : ∃ J, mj_ms[39]? = some J ∧ mj_okE J (mj_cd mj_Y 39) k e = true := by
  have hk := mj_len_le 15 (by decide +kernel) he
  exact mj_okR_at mj_k39_0 (Nat.zero_le _) (by omega) he
theorem mj_q40 {k : Nat} {e : mj_E} (he : mj_ent mj_Y 40 k = some e) : ∃ J, mj_ms[40]? = some J ∧ mj_okE J (mj_cd mj_Y 40) k e = true := by
  have hk := mj_len_le 15 (by decide +kernel) he
  exact mj_okR_at mj_k40_0 (Nat.zero_le _) (by omega) he
theorem mj_q41 {k : Nat} {e : mj_E} (he : mj_ent mj_Y 41 k = some e) : ∃ J, mj_ms[41]? = some J ∧ mj_okE J (mj_cd mj_Y 41) k e = true := by
  have hk := mj_len_le 49 (by decide +kernel) he
  exact mj_okR_at mj_k41_0 (Nat.zero_le _) (by omega) he
theorem mj_q42 {k : Nat} {e : mj_E} (he : mj_ent mj_Y 42 k = some e) : ∃ J, mj_ms[42]? = some J ∧ mj_okE J (mj_cd mj_Y 42) k e = true := by
  have hk := mj_len_le 29 (by decide +kernel) he
  exact mj_okR_at mj_k42_0 (Nat.zero_le _) (by omega) he
theorem mj_q43 {k : Nat} {e : mj_E} (he : mj_ent mj_Y 43 k = some e) : ∃ J, mj_ms[43]? = some J ∧ mj_okE J (mj_cd mj_Y 43) k e = true := by
  have hk := mj_len_le 11 (by decide +kernel) he
  exact mj_okR_at mj_k43_0 (Nat.zero_le _) (by omega) he
theorem mj_q44 {k : Nat} {e : mj_E} (he : mj_ent mj_Y 44 k = some e) : ∃ J, mj_ms[44]? = some J ∧ mj_okE J (mj_cd mj_Y 44) k e = true := by
  have hk := mj_len_le 27 (by decide +kernel) he
  exact mj_okR_at mj_k44_0 (Nat.zero_le _) (by omega) he
theorem mj_q45 {k : Nat} {e : mj_E} (he : mj_ent mj_Y 45 k = some e) : ∃ J, mj_ms[45]? = some J ∧ mj_okE J (mj_cd mj_Y 45) k e = true := by
  have hk := mj_len_le 21 (by decide +kernel) he
  exact mj_okR_at mj_k45_0 (Nat.zero_le _) (by omega) he
theorem mj_q46 {k : Nat} {e : mj_E} (he : mj_ent mj_Y 46 k = some e) : ∃ J, mj_ms[46]? = some J ∧ mj_okE J (mj_cd mj_Y 46) k e = true := by
  have hk := mj_len_le 13 (by decide +kernel) he
  exact mj_okR_at mj_k46_0 (Nat.zero_le _) (by omega) he
theorem mj_q47 {k : Nat} {e : mj_E} (he : mj_ent mj_Y 47 k = some e) : ∃ J, mj_ms[47]? = some J ∧ mj_okE J (mj_cd mj_Y 47) k e = true := by
  have hk := mj_len_le 44 (by decide +kernel) he
  exact mj_okR_at mj_k47_0 (Nat.zero_le _) (by omega) he
theorem mj_q48 {k : Nat} {e : mj_E} (he : mj_ent mj_Y 48 k = some e) : ∃ J, mj_ms[48]? = some J ∧ mj_okE J (mj_cd mj_Y 48) k e = true := by
  have hk := mj_len_le 18 (by decide +kernel) he
  exact mj_okR_at mj_k48_0 (Nat.zero_le _) (by omega) he
theorem mj_q49 {k : Nat} {e : mj_E} (he : mj_ent mj_Y 49 k = some e) : ∃ J, mj_ms[49]? = some J ∧ mj_okE J (mj_cd mj_Y 49) k e = true := by
  have hk := mj_len_le 18 (by decide +kernel) he
  exact mj_okR_at mj_k49_0 (Nat.zero_le _) (by omega) he
theorem mj_q50 {k : Nat} {e : mj_E} (he : mj_ent mj_Y 50 k = some e) : ∃ J, mj_ms[50]? = some J ∧ mj_okE J (mj_cd mj_Y 50) k e = true := by
  have hk := mj_len_le 26 (by decide +kernel) he
  exact mj_okR_at mj_k50_0 (Nat.zero_le _) (by omega) he
theorem mj_q51 {k : Nat} {e : mj_E} (he : mj_ent mj_Y 51 k = some e) : ∃ J, mj_ms[51]? = some J ∧ mj_okE J (mj_cd mj_Y 51) k e = true := by
  have hk := mj_len_le 9 (by decide +kernel) he
  exact mj_okR_at mj_k51_0 (Nat.zero_le _) (by omega) he
theorem mj_q52 {k : Nat} {e : mj_E} (he : mj_ent mj_Y 52 k = some e) : ∃ J, mj_ms[52]? = some J ∧ mj_okE J (mj_cd mj_Y 52) k e = true := by
  have hk := mj_len_le 27 (by decide +kernel) he
  exact mj_okR_at mj_k52_0 (Nat.zero_le _) (by omega) he
theorem mj_q53 {k : Nat} {e : mj_E} (he : mj_ent mj_Y 53 k = some e) : ∃ J, mj_ms[53]? = some J ∧ mj_okE J (mj_cd mj_Y 53) k e = true := by
  have hk := mj_len_le 8 (by decide +kernel) he
  exact mj_okR_at mj_k53_0 (Nat.zero_le _) (by omega) he
theorem mj_q54 {k : Nat} {e : mj_E} (he : mj_ent mj_Y 54 k = some e) : ∃ J, mj_ms[54]? = some J ∧ mj_okE J (mj_cd mj_Y 54) k e = true := by
  have hk := mj_len_le 24 (by decide +kernel) he
  exact mj_okR_at mj_k54_0 (Nat.zero_le _) (by omega) he
theorem mj_q55 {k : Nat} {e : mj_E} (he : mj_ent mj_Y 55 k = some e) : ∃ J, mj_ms[55]? = some J ∧ mj_okE J (mj_cd mj_Y 55) k e = true := by
  have hk := mj_len_le 34 (by decide +kernel) he
  exact mj_okR_at mj_k55_0 (Nat.zero_le _) (by omega) he
theorem mj_q56 {k : Nat} {e : mj_E} (he : mj_ent mj_Y 56 k = some e) : ∃ J, mj_ms[56]? = some J ∧ mj_okE J (mj_cd mj_Y 56) k e = true := by
  have hk := mj_len_le 18 (by decide +kernel) he
  exact mj_okR_at mj_k56_0 (Nat.zero_le _) (by omega) he
theorem mj_q57 {k : Nat} {e : mj_E} (he : mj_ent mj_Y 57 k = some e) : ∃ J, mj_ms[57]? = some J ∧ mj_okE J (mj_cd mj_Y 57) k e = true := by
  have hk := mj_len_le 11 (by decide +kernel) he
  exact mj_okR_at mj_k57_0 (Nat.zero_le _) (by omega) he
theorem mj_q58 {k : Nat} {e : mj_E} (he : mj_ent mj_Y 58 k = some e) : ∃ J, mj_ms[58]? = some J ∧ mj_okE J (mj_cd mj_Y 58) k e = true := by
  have hk := mj_len_le 31 (by decide +kernel) he
  exact mj_okR_at mj_k58_0 (Nat.zero_le _) (by omega) he
theorem mj_q59 {k : Nat} {e : mj_E} (he : mj_ent mj_Y 59 k = some e) : ∃ J, mj_ms[59]? = some J ∧ mj_okE J (mj_cd mj_Y 59) k e = true := by
  have hk := mj_len_le 26 (by decide +kernel) he
  exact mj_okR_at mj_k59_0 (Nat.zero_le _) (by omega) he
theorem mj_q60 {k : Nat} {e : mj_E} (he : mj_ent mj_Y 60 k = some e) : ∃ J, mj_ms[60]? = some J ∧ mj_okE J (mj_cd mj_Y 60) k e = true := by
  have hk := mj_len_le 27 (by decide +kernel) he
  exact mj_okR_at mj_k60_0 (Nat.zero_le _) (by omega) he
theorem mj_q61 {k : Nat} {e : mj_E} (he : mj_ent mj_Y 61 k = some e) : ∃ J, mj_ms[61]? = some J ∧ mj_okE J (mj_cd mj_Y 61) k e = true := by
  have hk := mj_len_le 32 (by decide +kernel) he
  exact mj_okR_at mj_k61_0 (Nat.zero_le _) (by omega) he
theorem mj_q62 {k : Nat} {e : mj_E} (he : mj_ent mj_Y 62 k = some e) : ∃ J, mj_ms[62]? = some J ∧ mj_okE J (mj_cd mj_Y 62) k e = true := by
  have hk := mj_len_le 36 (by decide +kernel) he
  exact mj_okR_at mj_k62_0 (Nat.zero_le _) (by omega) he
theorem mj_q63 {k : Nat} {e : mj_E} (he : mj_ent mj_Y 63 k = some e) : ∃ J, mj_ms[63]? = some J ∧ mj_okE J (mj_cd mj_Y 63) k e = true := by
  have hk := mj_len_le 26 (by decide +kernel) he
  exact mj_okR_at mj_k63_0 (Nat.zero_le _) (by omega) he
theorem mj_q64 {k : Nat} {e : mj_E} (he : mj_ent mj_Y 64 k = some e) : ∃ J, mj_ms[64]? = some J ∧ mj_okE J (mj_cd mj_Y 64) k e = true := by
  have hk := mj_len_le 37 (by decide +kernel) he
  exact mj_okR_at mj_k64_0 (Nat.zero_le _) (by omega) he
theorem mj_q65 {k : Nat} {e : mj_E} (he : mj_ent mj_Y 65 k = some e) : ∃ J, mj_ms[65]? = some J ∧ mj_okE J (mj_cd mj_Y 65) k e = true := by
  have hk := mj_len_le 30 (by decide +kernel) he
  exact mj_okR_at mj_k65_0 (Nat.zero_le _) (by omega) he
theorem mj_q66 {k : Nat} {e : mj_E} (he : mj_ent mj_Y 66 k = some e) : ∃ J, mj_ms[66]? = some J ∧ mj_okE J (mj_cd mj_Y 66) k e = true := by
  have hk := mj_len_le 15 (by decide +kernel) he
  exact mj_okR_at mj_k66_0 (Nat.zero_le _) (by omega) he
theorem mj_q67 {k : Nat} {e : mj_E} (he : mj_ent mj_Y 67 k = some e) : ∃ J, mj_ms[67]? = some J ∧ mj_okE J (mj_cd mj_Y 67) k e = true := by
  have hk := mj_len_le 15 (by decide +kernel) he
  exact mj_okR_at mj_k67_0 (Nat.zero_le _) (by omega) he
theorem mj_q68 {k : Nat} {e : mj_E} (he : mj_ent mj_Y 68 k = some e) : ∃ J, mj_ms[68]? = some J ∧ mj_okE J (mj_cd mj_Y 68) k e = true := by
  have hk := mj_len_le 60 (by decide +kernel) he
  exact mj_okR_at mj_k68_0 (Nat.zero_le _) (by omega) he
theorem mj_q69 {k : Nat} {e : mj_E} (he : mj_ent mj_Y 69 k = some e) : ∃ J, mj_ms[69]? = some J ∧ mj_okE J (mj_cd mj_Y 69) k e = true := by
  have hk := mj_len_le 51 (by decide +kernel) he
  exact mj_okR_at mj_k69_0 (Nat.zero_le _) (by omega) he
theorem mj_q70 {k : Nat} {e : mj_E} (he : mj_ent mj_Y 70 k = some e) : ∃ J, mj_ms[70]? = some J ∧ mj_okE J (mj_cd mj_Y 70) k e = true := by
  have hk := mj_len_le 26 (by decide +kernel) he
  exact mj_okR_at mj_k70_0 (Nat.zero_le _) (by omega) he
theorem mj_q71 {k : Nat} {e : mj_E} (he : mj_ent mj_Y 71 k = some e) : ∃ J, mj_ms[71]? = some J ∧ mj_okE J (mj_cd mj_Y 71) k e = true := by
  have hk := mj_len_le 22 (by decide +kernel) he
  exact mj_okR_at mj_k71_0 (Nat.zero_le _) (by omega) he
theorem mj_q72 {k : Nat} {e : mj_E} (he : mj_ent mj_Y 72 k = some e) : ∃ J, mj_ms[72]? = some J ∧ mj_okE J (mj_cd mj_Y 72) k e = true := by
  have hk := mj_len_le 56 (by decide +kernel) he
  exact mj_okR_at mj_k72_0 (Nat.zero_le _) (by omega) he
theorem mj_q73 {k : Nat} {e : mj_E} (he : mj_ent mj_Y 73 k = some e) : ∃ J, mj_ms[73]? = some J ∧ mj_okE J (mj_cd mj_Y 73) k e = true := by
  have hk := mj_len_le 17 (by decide +kernel) he
  exact mj_okR_at mj_k73_0 (Nat.zero_le _) (by omega) he
theorem mj_q74 {k : Nat} {e : mj_E} (he : mj_ent mj_Y 74 k = some e) : ∃ J, mj_ms[74]? = some J ∧ mj_okE J (mj_cd mj_Y 74) k e = true := by
  have hk := mj_len_le 19 (by decide +kernel) he
  exact mj_okR_at mj_k74_0 (Nat.zero_le _) (by omega) he
theorem mj_q75 {k : Nat} {e : mj_E} (he : mj_ent mj_Y 75 k = some e) : ∃ J, mj_ms[75]? = some J ∧ mj_okE J (mj_cd mj_Y 75) k e = true := by
  have hk := mj_len_le 42 (by decide +kernel) he
  exact mj_okR_at mj_k75_0 (Nat.zero_le _) (by omega) he
theorem mj_q76 {k : Nat} {e : mj_E} (he : mj_ent mj_Y 76 k = some e) : ∃ J, mj_ms[76]? = some J ∧ mj_okE J (mj_cd mj_Y 76) k e = true := by
  have hk := mj_len_le 26 (by decide +kernel) he
  exact mj_okR_at mj_k76_0 (Nat.zero_le _) (by omega) he
theorem mj_q77 {k : Nat} {e : mj_E} (he : mj_ent mj_Y 77 k = some e) : ∃ J, mj_ms[77]? = some J ∧ mj_okE J (mj_cd mj_Y 77) k e = true := by
  have hk := mj_len_le 35 (by decide +kernel) he
  exact mj_okR_at mj_k77_0 (Nat.zero_le _) (by omega) he
theorem mj_q78 {k : Nat} {e : mj_E} (he : mj_ent mj_Y 78 k = some e) : ∃ J, mj_ms[78]? = some J ∧ mj_okE J (mj_cd mj_Y 78) k e = true := by
  have hk := mj_len_le 59 (by decide +kernel) he
  exact mj_okR_at mj_k78_0 (Nat.zero_le _) (by omega) he
theorem mj_q79 {k : Nat} {e : mj_E} (he : mj_ent mj_Y 79 k = some e) : ∃ J, mj_ms[79]? = some J ∧ mj_okE J (mj_cd mj_Y 79) k e = true := by
  have hk := mj_len_le 21 (by decide +kernel) he
  exact mj_okR_at mj_k79_0 (Nat.zero_le _) (by omega) he
theorem mj_q80 {k : Nat} {e : mj_E} (he : mj_ent mj_Y 80 k = some e) : ∃ J, mj_ms[80]? = some J ∧ mj_okE J (mj_cd mj_Y 80) k e = true := by
  have hk := mj_len_le 23 (by decide +kernel) he
  exact mj_okR_at mj_k80_0 (Nat.zero_le _) (by omega) he
theorem mj_q81 {k : Nat} {e : mj_E} (he : mj_ent mj_Y 81 k = some e) : ∃ J, mj_ms[81]? = some J ∧ mj_okE J (mj_cd mj_Y 81) k e = true := by
  have hk := mj_len_le 10 (by decide +kernel) he
  exact mj_okR_at mj_k81_0 (Nat.zero_le _) (by omega) he
theorem mj_q82 {k : Nat} {e : mj_E} (he : mj_ent mj_Y 82 k = some e) : ∃ J, mj_ms[82]? = some J ∧ mj_okE J (mj_cd mj_Y 82) k e = true := by
  have hk := mj_len_le 7 (by decide +kernel) he
  exact mj_okR_at mj_k82_0 (Nat.zero_le _) (by omega) he
theorem mj_q83 {k : Nat} {e : mj_E} (he : mj_ent mj_Y 83 k = some e) : ∃ J, mj_ms[83]? = some J ∧ mj_okE J (mj_cd mj_Y 83) k e = true := by
  have hk := mj_len_le 53 (by decide +kernel) he
  exact mj_okR_at mj_k83_0 (Nat.zero_le _) (by omega) he
theorem mj_q84 {k : Nat} {e : mj_E} (he : mj_ent mj_Y 84 k = some e) : ∃ J, mj_ms[84]? = some J ∧ mj_okE J (mj_cd mj_Y 84) k e = true := by
  have hk := mj_len_le 3 (by decide +kernel) he
  exact mj_okR_at mj_k84_0 (Nat.zero_le _) (by omega) he
theorem mj_q85 {k : Nat} {e : mj_E} (he : mj_ent mj_Y 85 k = some e) : ∃ J, mj_ms[85]? = some J ∧ mj_okE J (mj_cd mj_Y 85) k e = true := by
  have hk := mj_len_le 61 (by decide +kernel) he
  exact mj_okR_at mj_k85_0 (Nat.zero_le _) (by omega) he
theorem mj_q86 {k : Nat} {e : mj_E} (he : mj_ent mj_Y 86 k = some e) : ∃ J, mj_ms[86]? = some J ∧ mj_okE J (mj_cd mj_Y 86) k e = true := by
  have hk := mj_len_le 10 (by decide +kernel) he
  exact mj_okR_at mj_k86_0 (Nat.zero_le _) (by omega) he
theorem mj_q87 {k : Nat} {e : mj_E} (he : mj_ent mj_Y 87 k = some e) : ∃ J, mj_ms[87]? = some J ∧ mj_okE J (mj_cd mj_Y 87) k e = true := by
  have hk := mj_len_le 14 (by decide +kernel) he
  exact mj_okR_at mj_k87_0 (Nat.zero_le _) (by omega) he
theorem mj_q88 {k : Nat} {e : mj_E} (he : mj_ent mj_Y 88 k = some e) : ∃ J, mj_ms[88]? = some J ∧ mj_okE J (mj_cd mj_Y 88) k e = true := by
  have hk := mj_len_le 5 (by decide +kernel) he
  exact mj_okR_at mj_k88_0 (Nat.zero_le _) (by omega) he
theorem mj_q89 {k : Nat} {e : mj_E} (he : mj_ent mj_Y 89 k = some e) : ∃ J, mj_ms[89]? = some J ∧ mj_okE J (mj_cd mj_Y 89) k e = true := by
  have hk := mj_len_le 12 (by decide +kernel) he
  exact mj_okR_at mj_k89_0 (Nat.zero_le _) (by omega) he
theorem mj_q90 {k : Nat} {e : mj_E} (he : mj_ent mj_Y 90 k = some e) : ∃ J, mj_ms[90]? = some J ∧ mj_okE J (mj_cd mj_Y 90) k e = true := by
  have hk := mj_len_le 27 (by decide +kernel) he
  exact mj_okR_at mj_k90_0 (Nat.zero_le _) (by omega) he
theorem mj_q91 {k : Nat} {e : mj_E} (he : mj_ent mj_Y 91 k = some e) : ∃ J, mj_ms[91]? = some J ∧ mj_okE J (mj_cd mj_Y 91) k e = true := by
  have hk := mj_len_le 10 (by decide +kernel) he
  exact mj_okR_at mj_k91_0 (Nat.zero_le _) (by omega) he
theorem mj_q92 {k : Nat} {e : mj_E} (he : mj_ent mj_Y 92 k = some e) : ∃ J, mj_ms[92]? = some J ∧ mj_okE J (mj_cd mj_Y 92) k e = true := by
  have hk := mj_len_le 15 (by decide +kernel) he
  exact mj_okR_at mj_k92_0 (Nat.zero_le _) (by omega) he
theorem mj_q93 {k : Nat} {e : mj_E} (he : mj_ent mj_Y 93 k = some e) : ∃ J, mj_ms[93]? = some J ∧ mj_okE J (mj_cd mj_Y 93) k e = true := by
  have hk := mj_len_le 10 (by decide +kernel) he
  exact mj_okR_at mj_k93_0 (Nat.zero_le _) (by omega) he
theorem mj_q94 {k : Nat} {e : mj_E} (he : mj_ent mj_Y 94 k = some e) : ∃ J, mj_ms[94]? = some J ∧ mj_okE J (mj_cd mj_Y 94) k e = true := by
  have hk := mj_len_le 54 (by decide +kernel) he
  exact mj_okR_at mj_k94_0 (Nat.zero_le _) (by omega) he
theorem mj_q95 {k : Nat} {e : mj_E} (he : mj_ent mj_Y 95 k = some e) : ∃ J, mj_ms[95]? = some J ∧ mj_okE J (mj_cd mj_Y 95) k e = true := by
  have hk := mj_len_le 95 (by decide +kernel) he
  exact mj_okR_at mj_k95_0 (Nat.zero_le _) (by omega) he
theorem mj_q96 {k : Nat} {e : mj_E} (he : mj_ent mj_Y 96 k = some e) : ∃ J, mj_ms[96]? = some J ∧ mj_okE J (mj_cd mj_Y 96) k e = true := by
  have hk := mj_len_le 14 (by decide +kernel) he
  exact mj_okR_at mj_k96_0 (Nat.zero_le _) (by omega) he
theorem mj_q97 {k : Nat} {e : mj_E} (he : mj_ent mj_Y 97 k = some e) : ∃ J, mj_ms[97]? = some J ∧ mj_okE J (mj_cd mj_Y 97) k e = true := by
  have hk := mj_len_le 94 (by decide +kernel) he
  exact mj_okR_at mj_k97_0 (Nat.zero_le _) (by omega) he
theorem mj_q98 {k : Nat} {e : mj_E} (he : mj_ent mj_Y 98 k = some e) : ∃ J, mj_ms[98]? = some J ∧ mj_okE J (mj_cd mj_Y 98) k e = true := by
  have hk := mj_len_le 27 (by decide +kernel) he
  exact mj_okR_at mj_k98_0 (Nat.zero_le _) (by omega) he
theorem mj_q99 {k : Nat} {e : mj_E} (he : mj_ent mj_Y 99 k = some e) : ∃ J, mj_ms[99]? = some J ∧ mj_okE J (mj_cd mj_Y 99) k e = true := by
  have hk := mj_len_le 110 (by decide +kernel) he
  exact mj_okR_at mj_k99_0 (Nat.zero_le _) (by omega) he
theorem mj_q100 {k : Nat} {e : mj_E} (he : mj_ent mj_Y 100 k = some e) : ∃ J, mj_ms[100]? = some J ∧ mj_okE J (mj_cd mj_Y 100) k e = true := by
  have hk := mj_len_le 13 (by decide +kernel) he
  exact mj_okR_at mj_k100_0 (Nat.zero_le _) (by omega) he
theorem mj_q101 {k : Nat} {e : mj_E} (he : mj_ent mj_Y 101 k = some e) : ∃ J, mj_ms[101]? = some J ∧ mj_okE J (mj_cd mj_Y 101) k e = true := by
  have hk := mj_len_le 57 (by decide +kernel) he
  exact mj_okR_at mj_k101_0 (Nat.zero_le _) (by omega) he
theorem mj_q102 {k : Nat} {e : mj_E} (he : mj_ent mj_Y 102 k = some e) : ∃ J, mj_ms[102]? = some J ∧ mj_okE J (mj_cd mj_Y 102) k e = true := by
  have hk := mj_len_le 72 (by decide +kernel) he
  exact mj_okR_at mj_k102_0 (Nat.zero_le _) (by omega) he
theorem mj_q103 {k : Nat} {e : mj_E} (he : mj_ent mj_Y 103 k = some e) : ∃ J, mj_ms[103]? = some J ∧ mj_okE J (mj_cd mj_Y 103) k e = true := by
  have hk := mj_len_le 139 (by decide +kernel) he
  by_cases h0 : k < 120
  · exact mj_okR_at mj_k103_0 (by omega) (by omega) he
  exact mj_okR_at mj_k103_120 (by omega) (by omega) he
theorem mj_q104 {k : Nat} {e : mj_E} (he : mj_ent mj_Y 104 k = some e) : ∃ J, mj_ms[104]? = some J ∧ mj_okE J (mj_cd mj_Y 104) k e = true := by
  have hk := mj_len_le 16 (by decide +kernel) he
  exact mj_okR_at mj_k104_0 (Nat.zero_le _) (by omega) he
theorem mj_q105 {k : Nat} {e : mj_E} (he : mj_ent mj_Y 105 k = some e) : ∃ J, mj_ms[105]? = some J ∧ mj_okE J (mj_cd mj_Y 105) k e = true := by
  have hk := mj_len_le 30 (by decide +kernel) he
  exact mj_okR_at mj_k105_0 (Nat.zero_le _) (by omega) he
theorem mj_q106 {k : Nat} {e : mj_E} (he : mj_ent mj_Y 106 k = some e) : ∃ J, mj_ms[106]? = some J ∧ mj_okE J (mj_cd mj_Y 106) k e = true := by
  have hk := mj_len_le 33 (by decide +kernel) he
  exact mj_okR_at mj_k106_0 (Nat.zero_le _) (by omega) he
theorem mj_q107 {k : Nat} {e : mj_E} (he : mj_ent mj_Y 107 k = some e) : ∃ J, mj_ms[107]? = some J ∧ mj_okE J (mj_cd mj_Y 107) k e = true := by
  have hk := mj_len_le 47 (by decide +kernel) he
  exact mj_okR_at mj_k107_0 (Nat.zero_le _) (by omega) he
theorem mj_q108 {k : Nat} {e : mj_E} (he : mj_ent mj_Y 108 k = some e) : ∃ J, mj_ms[108]? = some J ∧ mj_okE J (mj_cd mj_Y 108) k e = true := by
  have hk := mj_len_le 144 (by decide +kernel) he
  by_cases h0 : k < 120
  · exact mj_okR_at mj_k108_0 (by omega) (by omega) he
  exact mj_okR_at mj_k108_120 (by omega) (by omega) he
theorem mj_q109 {k : Nat} {e : mj_E} (he : mj_ent mj_Y 109 k = some e) : ∃ J, mj_ms[109]? = some J ∧ mj_okE J (mj_cd mj_Y 109) k e = true := by
  have hk := mj_len_le 21 (by decide +kernel) he
  exact mj_okR_at mj_k109_0 (Nat.zero_le _) (by omega) he
theorem mj_q110 {k : Nat} {e : mj_E} (he : mj_ent mj_Y 110 k = some e) : ∃ J, mj_ms[110]? = some J ∧ mj_okE J (mj_cd mj_Y 110) k e = true := by
  have hk := mj_len_le 35 (by decide +kernel) he
  exact mj_okR_at mj_k110_0 (Nat.zero_le _) (by omega) he
theorem mj_q111 {k : Nat} {e : mj_E} (he : mj_ent mj_Y 111 k = some e) : ∃ J, mj_ms[111]? = some J ∧ mj_okE J (mj_cd mj_Y 111) k e = true := by
  have hk := mj_len_le 34 (by decide +kernel) he
  exact mj_okR_at mj_k111_0 (Nat.zero_le _) (by omega) he
theorem mj_q112 {k : Nat} {e : mj_E} (he : mj_ent mj_Y 112 k = some e) : ∃ J, mj_ms[112]? = some J ∧ mj_okE J (mj_cd mj_Y 112) k e = true := by
  have hk := mj_len_le 24 (by decide +kernel) he
  exact mj_okR_at mj_k112_0 (Nat.zero_le _) (by omega) he
theorem mj_q113 {k : Nat} {e : mj_E} (he : mj_ent mj_Y 113 k = some e) : ∃ J, mj_ms[113]? = some J ∧ mj_okE J (mj_cd mj_Y 113) k e = true := by
  have hk := mj_len_le 14 (by decide +kernel) he
  exact mj_okR_at mj_k113_0 (Nat.zero_le _) (by omega) he
theorem mj_q114 {k : Nat} {e : mj_E} (he : mj_ent mj_Y 114 k = some e) : ∃ J, mj_ms[114]? = some J ∧ mj_okE J (mj_cd mj_Y 114) k e = true := by
  have hk := mj_len_le 8 (by decide +kernel) he
  exact mj_okR_at mj_k114_0 (Nat.zero_le _) (by omega) he
theorem mj_q115 {k : Nat} {e : mj_E} (he : mj_ent mj_Y 115 k = some e) : ∃ J, mj_ms[115]? = some J ∧ mj_okE J (mj_cd mj_Y 115) k e = true := by
  have hk := mj_len_le 21 (by decide +kernel) he
  exact mj_okR_at mj_k115_0 (Nat.zero_le _) (by omega) he
theorem mj_q116 {k : Nat} {e : mj_E} (he : mj_ent mj_Y 116 k = some e) : ∃ J, mj_ms[116]? = some J ∧ mj_okE J (mj_cd mj_Y 116) k e = true := by
  have hk := mj_len_le 32 (by decide +kernel) he
  exact mj_okR_at mj_k116_0 (Nat.zero_le _) (by omega) he
theorem mj_q117 {k : Nat} {e : mj_E} (he : mj_ent mj_Y 117 k = some e) : ∃ J, mj_ms[117]? = some J ∧ mj_okE J (mj_cd mj_Y 117) k e = true := by
  have hk := mj_len_le 60 (by decide +kernel) he
  exact mj_okR_at mj_k117_0 (Nat.zero_le _) (by omega) he
theorem mj_q118 {k : Nat} {e : mj_E} (he : mj_ent mj_Y 118 k = some e) : ∃ J, mj_ms[118]? = some J ∧ mj_okE J (mj_cd mj_Y 118) k e = true := by
  have hk := mj_len_le 32 (by decide +kernel) he
  exact mj_okR_at mj_k118_0 (Nat.zero_le _) (by omega) he
theorem mj_q119 {k : Nat} {e : mj_E} (he : mj_ent mj_Y 119 k = some e) : ∃ J, mj_ms[119]? = some J ∧ mj_okE J (mj_cd mj_Y 119) k e = true := by
  have hk := mj_len_le 34 (by decide +kernel) he
  exact mj_okR_at mj_k119_0 (Nat.zero_le _) (by omega) he
theorem mj_q120 {k : Nat} {e : mj_E} (he : mj_ent mj_Y 120 k = some e) : ∃ J, mj_ms[120]? = some J ∧ mj_okE J (mj_cd mj_Y 120) k e = true := by
  have hk := mj_len_le 76 (by decide +kernel) he
  exact mj_okR_at mj_k120_0 (Nat.zero_le _) (by omega) he
theorem mj_q121 {k : Nat} {e : mj_E} (he : mj_ent mj_Y 121 k = some e) : ∃ J, mj_ms[121]? = some J ∧ mj_okE J (mj_cd mj_Y 121) k e = true := by
  have hk := mj_len_le 63 (by decide +kernel) he
  exact mj_okR_at mj_k121_0 (Nat.zero_le _) (by omega) he
theorem mj_q122 {k : Nat} {e : mj_E} (he : mj_ent mj_Y 122 k = some e) : ∃ J, mj_ms[122]? = some J ∧ mj_okE J (mj_cd mj_Y 122) k e = true := by
  have hk := mj_len_le 19 (by decide +kernel) he
  exact mj_okR_at mj_k122_0 (Nat.zero_le _) (by omega) he
theorem mj_q123 {k : Nat} {e : mj_E} (he : mj_ent mj_Y 123 k = some e) : ∃ J, mj_ms[123]? = some J ∧ mj_okE J (mj_cd mj_Y 123) k e = true := by
  have hk := mj_len_le 35 (by decide +kernel) he
  exact mj_okR_at mj_k123_0 (Nat.zero_le _) (by omega) he
theorem mj_q124 {k : Nat} {e : mj_E} (he : mj_ent mj_Y 124 k = some e) : ∃ J, mj_ms[124]? = some J ∧ mj_okE J (mj_cd mj_Y 124) k e = true := by
  have hk := mj_len_le 19 (by decide +kernel) he
  exact mj_okR_at mj_k124_0 (Nat.zero_le _) (by omega) he
theorem mj_q125 {k : Nat} {e : mj_E} (he : mj_ent mj_Y 125 k = some e) : ∃ J, mj_ms[125]? = some J ∧ mj_okE J (mj_cd mj_Y 125) k e = true := by
  have hk := mj_len_le 58 (by decide +kernel) he
  exact mj_okR_at mj_k125_0 (Nat.zero_le _) (by omega) he
theorem mj_q126 {k : Nat} {e : mj_E} (he : mj_ent mj_Y 126 k = some e) : ∃ J, mj_ms[126]? = some J ∧ mj_okE J (mj_cd mj_Y 126) k e = true := by
  have hk := mj_len_le 10 (by decide +kernel) he
  exact mj_okR_at mj_k126_0 (Nat.zero_le _) (by omega) he
theorem mj_q127 {k : Nat} {e : mj_E} (he : mj_ent mj_Y 127 k = some e) : ∃ J, mj_ms[127]? = some J ∧ mj_okE J (mj_cd mj_Y 127) k e = true := by
  have hk := mj_len_le 61 (by decide +kernel) he
  exact mj_okR_at mj_k127_0 (Nat.zero_le _) (by omega) he
theorem mj_q128 {k : Nat} {e : mj_E} (he : mj_ent mj_Y 128 k = some e) : ∃ J, mj_ms[128]? = some J ∧ mj_okE J (mj_cd mj_Y 128) k e = true := by
  have hk := mj_len_le 29 (by decide +kernel) he
  exact mj_okR_at mj_k128_0 (Nat.zero_le _) (by omega) he
theorem mj_q129 {k : Nat} {e : mj_E} (he : mj_ent mj_Y 129 k = some e) : ∃ J, mj_ms[129]? = some J ∧ mj_okE J (mj_cd mj_Y 129) k e = true := by
  have hk := mj_len_le 75 (by decide +kernel) he
  exact mj_okR_at mj_k129_0 (Nat.zero_le _) (by omega) he
theorem mj_q130 {k : Nat} {e : mj_E} (he : mj_ent mj_Y 130 k = some e) : ∃ J, mj_ms[130]? = some J ∧ mj_okE J (mj_cd mj_Y 130) k e = true := by
  have hk := mj_len_le 30 (by decide +kernel) he
  exact mj_okR_at mj_k130_0 (Nat.zero_le _) (by omega) he
theorem mj_q131 {k : Nat} {e : mj_E} (he : mj_ent mj_Y 131 k = some e) : ∃ J, mj_ms[131]? = some J ∧ mj_okE J (mj_cd mj_Y 131) k e = true := by
  have hk := mj_len_le 22 (by decide +kernel) he
  exact mj_okR_at mj_k131_0 (Nat.zero_le _) (by omega) he
theorem mj_q132 {k : Nat} {e : mj_E} (he : mj_ent mj_Y 132 k = some e) : ∃ J, mj_ms[132]? = some J ∧ mj_okE J (mj_cd mj_Y 132) k e = true := by
  have hk := mj_len_le 16 (by decide +kernel) he
  exact mj_okR_at mj_k132_0 (Nat.zero_le _) (by omega) he
theorem mj_q133 {k : Nat} {e : mj_E} (he : mj_ent mj_Y 133 k = some e) : ∃ J, mj_ms[133]? = some J ∧ mj_okE J (mj_cd mj_Y 133) k e = true := by
  have hk := mj_len_le 16 (by decide +kernel) he
  exact mj_okR_at mj_k133_0 (Nat.zero_le _) (by omega) he
theorem mj_q134 {k : Nat} {e : mj_E} (he : mj_ent mj_Y 134 k = some e) : ∃ J, mj_ms[134]? = some J ∧ mj_okE J (mj_cd mj_Y 134) k e = true := by
  have hk := mj_len_le 22 (by decide +kernel) he
  exact mj_okR_at mj_k134_0 (Nat.zero_le _) (by omega) he
theorem mj_q135 {k : Nat} {e : mj_E} (he : mj_ent mj_Y 135 k = some e) : ∃ J, mj_ms[135]? = some J ∧ mj_okE J (mj_cd mj_Y 135) k e = true := by
  have hk := mj_len_le 54 (by decide +kernel) he
  exact mj_okR_at mj_k135_0 (Nat.zero_le _) (by omega) he
theorem mj_q136 {k : Nat} {e : mj_E} (he : mj_ent mj_Y 136 k = some e) : ∃ J, mj_ms[136]? = some J ∧ mj_okE J (mj_cd mj_Y 136) k e = true := by
  have hk := mj_len_le 58 (by decide +kernel) he
  exact mj_okR_at mj_k136_0 (Nat.zero_le _) (by omega) he
theorem mj_q137 {k : Nat} {e : mj_E} (he : mj_ent mj_Y 137 k = some e) : ∃ J, mj_ms[137]? = some J ∧ mj_okE J (mj_cd mj_Y 137) k e = true := by
  have hk := mj_len_le 16 (by decide +kernel) he
  exact mj_okR_at mj_k137_0 (Nat.zero_le _) (by omega) he
theorem mj_q138 {k : Nat} {e : mj_E} (he : mj_ent mj_Y 138 k = some e) : ∃ J, mj_ms[138]? = some J ∧ mj_okE J (mj_cd mj_Y 138) k e = true := by
  have hk := mj_len_le 29 (by decide +kernel) he
  exact mj_okR_at mj_k138_0 (Nat.zero_le _) (by omega) he
theorem mj_q139 {k : Nat} {e : mj_E} (he : mj_ent mj_Y 139 k = some e) : ∃ J, mj_ms[139]? = some J ∧ mj_okE J (mj_cd mj_Y 139) k e = true := by
  have hk := mj_len_le 8 (by decide +kernel) he
  exact mj_okR_at mj_k139_0 (Nat.zero_le _) (by omega) he
theorem mj_q140 {k : Nat} {e : mj_E} (he : mj_ent mj_Y 140 k = some e) : ∃ J, mj_ms[140]? = some J ∧ mj_okE J (mj_cd mj_Y 140) k e = true := by
  have hk := mj_len_le 28 (by decide +kernel) he
  exact mj_okR_at mj_k140_0 (Nat.zero_le _) (by omega) he
theorem mj_q141 {k : Nat} {e : mj_E} (he : mj_ent mj_Y 141 k = some e) : ∃ J, mj_ms[141]? = some J ∧ mj_okE J (mj_cd mj_Y 141) k e = true := by
  have hk := mj_len_le 52 (by decide +kernel) he
  exact mj_okR_at mj_k141_0 (Nat.zero_le _) (by omega) he
theorem mj_q142 {k : Nat} {e : mj_E} (he : mj_ent mj_Y 142 k = some e) : ∃ J, mj_ms[142]? = some J ∧ mj_okE J (mj_cd mj_Y 142) k e = true := by
  have hk := mj_len_le 113 (by decide +kernel) he
  exact mj_okR_at mj_k142_0 (Nat.zero_le _) (by omega) he
theorem mj_q143 {k : Nat} {e : mj_E} (he : mj_ent mj_Y 143 k = some e) : ∃ J, mj_ms[143]? = some J ∧ mj_okE J (mj_cd mj_Y 143) k e = true := by
  have hk := mj_len_le 19 (by decide +kernel) he
  exact mj_okR_at mj_k143_0 (Nat.zero_le _) (by omega) he
theorem mj_q144 {k : Nat} {e : mj_E} (he : mj_ent mj_Y 144 k = some e) : ∃ J, mj_ms[144]? = some J ∧ mj_okE J (mj_cd mj_Y 144) k e = true := by
  have hk := mj_len_le 81 (by decide +kernel) he
  exact mj_okR_at mj_k144_0 (Nat.zero_le _) (by omega) he
theorem mj_q145 {k : Nat} {e : mj_E} (he : mj_ent mj_Y 145 k = some e) : ∃ J, mj_ms[145]? = some J ∧ mj_okE J (mj_cd mj_Y 145) k e = true := by
  have hk := mj_len_le 47 (by decide +kernel) he
  exact mj_okR_at mj_k145_0 (Nat.zero_le _) (by omega) he
theorem mj_q146 {k : Nat} {e : mj_E} (he : mj_ent mj_Y 146 k = some e) : ∃ J, mj_ms[146]? = some J ∧ mj_okE J (mj_cd mj_Y 146) k e = true := by
  have hk := mj_len_le 3 (by decide +kernel) he
  exact mj_okR_at mj_k146_0 (Nat.zero_le _) (by omega) he
theorem mj_q147 {k : Nat} {e : mj_E} (he : mj_ent mj_Y 147 k = some e) : ∃ J, mj_ms[147]? = some J ∧ mj_okE J (mj_cd mj_Y 147) k e = true := by
  have hk := mj_len_le 19 (by decide +kernel) he
  exact mj_okR_at mj_k147_0 (Nat.zero_le _) (by omega) he
theorem mj_q148 {k : Nat} {e : mj_E} (he : mj_ent mj_Y 148 k = some e) : ∃ J, mj_ms[148]? = some J ∧ mj_okE J (mj_cd mj_Y 148) k e = true := by
  have hk := mj_len_le 7 (by decide +kernel) he
  exact mj_okR_at mj_k148_0 (Nat.zero_le _) (by omega) he
theorem mj_q149 {k : Nat} {e : mj_E} (he : mj_ent mj_Y 149 k = some e) : ∃ J, mj_ms[149]? = some J ∧ mj_okE J (mj_cd mj_Y 149) k e = true := by
  have hk := mj_len_le 7 (by decide +kernel) he
  exact mj_okR_at mj_k149_0 (Nat.zero_le _) (by omega) he
theorem mj_q150 {k : Nat} {e : mj_E} (he : mj_ent mj_Y 150 k = some e) : ∃ J, mj_ms[150]? = some J ∧ mj_okE J (mj_cd mj_Y 150) k e = true := by
  have hk := mj_len_le 541 (by decide +kernel) he
  by_cases h0 : k < 120
  · exact mj_okR_at mj_k150_0 (by omega) (by omega) he
  by_cases h1 : k < 240
  · exact mj_okR_at mj_k150_120 (by omega) (by omega) he
  by_cases h2 : k < 360
  · exact mj_okR_at mj_k150_240 (by omega) (by omega) he
  by_cases h3 : k < 480
  · exact mj_okR_at mj_k150_360 (by omega) (by omega) he
  exact mj_okR_at mj_k150_480 (by omega) (by omega) he
theorem mj_ok {m k : Nat} {e : mj_E} (he : mj_ent mj_Y m k = some e) : ∃ J, mj_ms[m]? = some J ∧ mj_okE J (mj_cd mj_Y m) k e = true := by
  have hm : m < 151 := by
    rcases Nat.lt_or_ge m 151 with h | h
    · exact h
    · exfalso
      have e0 : mj_cd mj_Y m = [] := by
        show ((mj_cds[m]?).getD []) = []
        rw [List.getElem?_eq_none (Nat.le_trans (Nat.le_of_ble_eq_true (by decide +kernel)) h)]
        rfl
      unfold mj_ent at he
      rw [e0] at he
      cases he
  by_cases h0_151 : m < 75
  · skip
    by_cases h0_75 : m < 37
    · skip
      by_cases h0_37 : m < 18
      · skip
        by_cases h0_18 : m < 9
        · skip
          by_cases h0_9 : m < 4
          · skip
            by_cases h0_4 : m < 2
            · skip
              by_cases h0_2 : m < 1
              · skip
                have hm : m = 0 := by omega
                subst hm
                exact mj_q0 he
              · skip
                have hm : m = 1 := by omega
                subst hm
                exact mj_q1 he
            · skip
              by_cases h2_4 : m < 3
              · skip
                have hm : m = 2 := by omega
                subst hm
                exact mj_q2 he
              · skip
                have hm : m = 3 := by omega
                subst hm
                exact mj_q3 he
          · skip
            by_cases h4_9 : m < 6
            · skip
              by_cases h4_6 : m < 5
              · skip
                have hm : m = 4 := by omega
                subst hm
                exact mj_q4 he
              · skip
                have hm : m = 5 := by omega
                subst hm
                exact mj_q5 he
            · skip
              by_cases h6_9 : m < 7
              · skip
                have hm : m = 6 := by omega
                subst hm
                exact mj_q6 he
              · skip
                by_cases h7_9 : m < 8
                · skip
                  have hm : m = 7 := by omega
                  subst hm
                  exact mj_q7 he
                · skip
                  have hm : m = 8 := by omega
                  subst hm
                  exact mj_q8 he
        · skip
          by_cases h9_18 : m < 13
          · skip
            by_cases h9_13 : m < 11
            · skip
              by_cases h9_11 : m < 10
              · skip
                have hm : m = 9 := by omega
                subst hm
                exact mj_q9 he
              · skip
                have hm : m = 10 := by omega
                subst hm
                exact mj_q10 he
            · skip
              by_cases h11_13 : m < 12
              · skip
                have hm : m = 11 := by omega
                subst hm
                exact mj_q11 he
              · skip
                have hm : m = 12 := by omega
                subst hm
                exact mj_q12 he
          · skip
            by_cases h13_18 : m < 15
            · skip
              by_cases h13_15 : m < 14
              · skip
                have hm : m = 13 := by omega
                subst hm
                exact mj_q13 he
              · skip
                have hm : m = 14 := by omega
                subst hm
                exact mj_q14 he
            · skip
              by_cases h15_18 : m < 16
              · skip
                have hm : m = 15 := by omega
                subst hm
                exact mj_q15 he
              · skip
                by_cases h16_18 : m < 17
                · skip
                  have hm : m = 16 := by omega
                  subst hm
                  exact mj_q16 he
                · skip
                  have hm : m = 17 := by omega
                  subst hm
                  exact mj_q17 he
      · skip
        by_cases h18_37 : m < 27
        · skip
          by_cases h18_27 : m < 22
          · skip
            by_cases h18_22 : m < 20
            · skip
              by_cases h18_20 : m < 19
              · skip
                have hm : m = 18 := by omega
                subst hm
                exact mj_q18 he
              · skip
                have hm : m = 19 := by omega
                subst hm
                exact mj_q19 he
            · skip
              by_cases h20_22 : m < 21
              · skip
                have hm : m = 20 := by omega
                subst hm
                exact mj_q20 he
              · skip
                have hm : m = 21 := by omega
                subst hm
                exact mj_q21 he
          · skip
            by_cases h22_27 : m < 24
            · skip
              by_cases h22_24 : m < 23
              · skip
                have hm : m = 22 := by omega
                subst hm
                exact mj_q22 he
              · skip
                have hm : m = 23 := by omega
                subst hm
                exact mj_q23 he
            · skip
              by_cases h24_27 : m < 25
              · skip
                have hm : m = 24 := by omega
                subst hm
                exact mj_q24 he
              · skip
                by_cases h25_27 : m < 26
                · skip
                  have hm : m = 25 := by omega
                  subst hm
                  exact mj_q25 he
                · skip
                  have hm : m = 26 := by omega
                  subst hm
                  exact mj_q26 he
        · skip
          by_cases h27_37 : m < 32
          · skip
            by_cases h27_32 : m < 29
            · skip
              by_cases h27_29 : m < 28
              · skip
                have hm : m = 27 := by omega
                subst hm
                exact mj_q27 he
              · skip
                have hm : m = 28 := by omega
                subst hm
                exact mj_q28 he
            · skip
              by_cases h29_32 : m < 30
              · skip
                have hm : m = 29 := by omega
                subst hm
                exact mj_q29 he
              · skip
                by_cases h30_32 : m < 31
                · skip
                  have hm : m = 30 := by omega
                  subst hm
                  exact mj_q30 he
                · skip
                  have hm : m = 31 := by omega
                  subst hm
                  exact mj_q31 he
          · skip
            by_cases h32_37 : m < 34
            · skip
              by_cases h32_34 : m < 33
              · skip
                have hm : m = 32 := by omega
                subst hm
                exact mj_q32 he
              · skip
                have hm : m = 33 := by omega
                subst hm
                exact mj_q33 he
            · skip
              by_cases h34_37 : m < 35
              · skip
                have hm : m = 34 := by omega
                subst hm
                exact mj_q34 he
              · skip
                by_cases h35_37 : m < 36
                · skip
                  have hm : m = 35 := by omega
                  subst hm
                  exact mj_q35 he
                · skip
                  have hm : m = 36 := by omega
                  subst hm
                  exact mj_q36 he
    · skip
      by_cases h37_75 : m < 56
      · skip
        by_cases h37_56 : m < 46
        · skip
          by_cases h37_46 : m < 41
          · skip
            by_cases h37_41 : m < 39
            · skip
              by_cases h37_39 : m < 38
              · skip
                have hm : m = 37 := by omega
                subst hm
                exact mj_q37 he
              · skip
                have hm : m = 38 := by omega
                subst hm
                exact mj_q38 he
            · skip
              by_cases h39_41 : m < 40
              · skip
                have hm : m = 39 := by omega
                subst hm
                exact mj_q39 he
              · skip
                have hm : m = 40 := by omega
                subst hm
                exact mj_q40 he
          · skip
            by_cases h41_46 : m < 43
            · skip
              by_cases h41_43 : m < 42
              · skip
                have hm : m = 41 := by omega
                subst hm
                exact mj_q41 he
              · skip
                have hm : m = 42 := by omega
                subst hm
                exact mj_q42 he
            · skip
              by_cases h43_46 : m < 44
              · skip
                have hm : m = 43 := by omega
                subst hm
                exact mj_q43 he
              · skip
                by_cases h44_46 : m < 45
                · skip
                  have hm : m = 44 := by omega
                  subst hm
                  exact mj_q44 he
                · skip
                  have hm : m = 45 := by omega
                  subst hm
                  exact mj_q45 he
        · skip
          by_cases h46_56 : m < 51
          · skip
            by_cases h46_51 : m < 48
            · skip
              by_cases h46_48 : m < 47
              · skip
                have hm : m = 46 := by omega
                subst hm
                exact mj_q46 he
              · skip
                have hm : m = 47 := by omega
                subst hm
                exact mj_q47 he
            · skip
              by_cases h48_51 : m < 49
              · skip
                have hm : m = 48 := by omega
                subst hm
                exact mj_q48 he
              · skip
                by_cases h49_51 : m < 50
                · skip
                  have hm : m = 49 := by omega
                  subst hm
                  exact mj_q49 he
                · skip
                  have hm : m = 50 := by omega
                  subst hm
                  exact mj_q50 he
          · skip
            by_cases h51_56 : m < 53
            · skip
              by_cases h51_53 : m < 52
              · skip
                have hm : m = 51 := by omega
                subst hm
                exact mj_q51 he
              · skip
                have hm : m = 52 := by omega
                subst hm
                exact mj_q52 he
            · skip
              by_cases h53_56 : m < 54
              · skip
                have hm : m = 53 := by omega
                subst hm
                exact mj_q53 he
              · skip
                by_cases h54_56 : m < 55
                · skip
                  have hm : m = 54 := by omega
                  subst hm
                  exact mj_q54 he
                · skip
                  have hm : m = 55 := by omega
                  subst hm
                  exact mj_q55 he
      · skip
        by_cases h56_75 : m < 65
        · skip
          by_cases h56_65 : m < 60
          · skip
            by_cases h56_60 : m < 58
            · skip
              by_cases h56_58 : m < 57
              · skip
                have hm : m = 56 := by omega
                subst hm
                exact mj_q56 he
              · skip
                have hm : m = 57 := by omega
                subst hm
                exact mj_q57 he
            · skip
              by_cases h58_60 : m < 59
              · skip
                have hm : m = 58 := by omega
                subst hm
                exact mj_q58 he
              · skip
                have hm : m = 59 := by omega
                subst hm
                exact mj_q59 he
          · skip
            by_cases h60_65 : m < 62
            · skip
              by_cases h60_62 : m < 61
              · skip
                have hm : m = 60 := by omega
                subst hm
                exact mj_q60 he
              · skip
                have hm : m = 61 := by omega
                subst hm
                exact mj_q61 he
            · skip
              by_cases h62_65 : m < 63
              · skip
                have hm : m = 62 := by omega
                subst hm
                exact mj_q62 he
              · skip
                by_cases h63_65 : m < 64
                · skip
                  have hm : m = 63 := by omega
                  subst hm
                  exact mj_q63 he
                · skip
                  have hm : m = 64 := by omega
                  subst hm
                  exact mj_q64 he
        · skip
          by_cases h65_75 : m < 70
          · skip
            by_cases h65_70 : m < 67
            · skip
              by_cases h65_67 : m < 66
              · skip
                have hm : m = 65 := by omega
                subst hm
                exact mj_q65 he
              · skip
                have hm : m = 66 := by omega
                subst hm
                exact mj_q66 he
            · skip
              by_cases h67_70 : m < 68
              · skip
                have hm : m = 67 := by omega
                subst hm
                exact mj_q67 he
              · skip
                by_cases h68_70 : m < 69
                · skip
                  have hm : m = 68 := by omega
                  subst hm
                  exact mj_q68 he
                · skip
                  have hm : m = 69 := by omega
                  subst hm
                  exact mj_q69 he
          · skip
            by_cases h70_75 : m < 72
            · skip
              by_cases h70_72 : m < 71
              · skip
                have hm : m = 70 := by omega
                subst hm
                exact mj_q70 he
              · skip
                have hm : m = 71 := by omega
                subst hm
                exact mj_q71 he
            · skip
              by_cases h72_75 : m < 73
              · skip
                have hm : m = 72 := by omega
                subst hm
                exact mj_q72 he
              · skip
                by_cases h73_75 : m < 74
                · skip
                  have hm : m = 73 := by omega
                  subst hm
                  exact mj_q73 he
                · skip
                  have hm : m = 74 := by omega
                  subst hm
                  exact mj_q74 he
  · skip
    by_cases h75_151 : m < 113
    · skip
      by_cases h75_113 : m < 94
      · skip
        by_cases h75_94 : m < 84
        · skip
          by_cases h75_84 : m < 79
          · skip
            by_cases h75_79 : m < 77
            · skip
              by_cases h75_77 : m < 76
              · skip
                have hm : m = 75 := by omega
                subst hm
                exact mj_q75 he
              · skip
                have hm : m = 76 := by omega
                subst hm
                exact mj_q76 he
            · skip
              by_cases h77_79 : m < 78
              · skip
                have hm : m = 77 := by omega
                subst hm
                exact mj_q77 he
              · skip
                have hm : m = 78 := by omega
                subst hm
                exact mj_q78 he
          · skip
            by_cases h79_84 : m < 81
            · skip
              by_cases h79_81 : m < 80
              · skip
                have hm : m = 79 := by omega
                subst hm
                exact mj_q79 he
              · skip
                have hm : m = 80 := by omega
                subst hm
                exact mj_q80 he
            · skip
              by_cases h81_84 : m < 82
              · skip
                have hm : m = 81 := by omega
                subst hm
                exact mj_q81 he
              · skip
                by_cases h82_84 : m < 83
                · skip
                  have hm : m = 82 := by omega
                  subst hm
                  exact mj_q82 he
                · skip
                  have hm : m = 83 := by omega
                  subst hm
                  exact mj_q83 he
        · skip
          by_cases h84_94 : m < 89
          · skip
            by_cases h84_89 : m < 86
            · skip
              by_cases h84_86 : m < 85
              · skip
                have hm : m = 84 := by omega
                subst hm
                exact mj_q84 he
              · skip
                have hm : m = 85 := by omega
                subst hm
                exact mj_q85 he
            · skip
              by_cases h86_89 : m < 87
              · skip
                have hm : m = 86 := by omega
                subst hm
                exact mj_q86 he
              · skip
                by_cases h87_89 : m < 88
                · skip
                  have hm : m = 87 := by omega
                  subst hm
                  exact mj_q87 he
                · skip
                  have hm : m = 88 := by omega
                  subst hm
                  exact mj_q88 he
          · skip
            by_cases h89_94 : m < 91
            · skip
              by_cases h89_91 : m < 90
              · skip
                have hm : m = 89 := by omega
                subst hm
                exact mj_q89 he
              · skip
                have hm : m = 90 := by omega
                subst hm
                exact mj_q90 he
            · skip
              by_cases h91_94 : m < 92
              · skip
                have hm : m = 91 := by omega
                subst hm
                exact mj_q91 he
              · skip
                by_cases h92_94 : m < 93
                · skip
                  have hm : m = 92 := by omega
                  subst hm
                  exact mj_q92 he
                · skip
                  have hm : m = 93 := by omega
                  subst hm
                  exact mj_q93 he
      · skip
        by_cases h94_113 : m < 103
        · skip
          by_cases h94_103 : m < 98
          · skip
            by_cases h94_98 : m < 96
            · skip
              by_cases h94_96 : m < 95
              · skip
                have hm : m = 94 := by omega
                subst hm
                exact mj_q94 he
              · skip
                have hm : m = 95 := by omega
                subst hm
                exact mj_q95 he
            · skip
              by_cases h96_98 : m < 97
              · skip
                have hm : m = 96 := by omega
                subst hm
                exact mj_q96 he
              · skip
                have hm : m = 97 := by omega
                subst hm
                exact mj_q97 he
          · skip
            by_cases h98_103 : m < 100
            · skip
              by_cases h98_100 : m < 99
              · skip
                have hm : m = 98 := by omega
                subst hm
                exact mj_q98 he
              · skip
                have hm : m = 99 := by omega
                subst hm
                exact mj_q99 he
            · skip
              by_cases h100_103 : m < 101
              · skip
                have hm : m = 100 := by omega
                subst hm
                exact mj_q100 he
              · skip
                by_cases h101_103 : m < 102
                · skip
                  have hm : m = 101 := by omega
                  subst hm
                  exact mj_q101 he
                · skip
                  have hm : m = 102 := by omega
                  subst hm
                  exact mj_q102 he
        · skip
          by_cases h103_113 : m < 108
          · skip
            by_cases h103_108 : m < 105
            · skip
              by_cases h103_105 : m < 104
              · skip
                have hm : m = 103 := by omega
                subst hm
                exact mj_q103 he
              · skip
                have hm : m = 104 := by omega
                subst hm
                exact mj_q104 he
            · skip
              by_cases h105_108 : m < 106
              · skip
                have hm : m = 105 := by omega
                subst hm
                exact mj_q105 he
              · skip
                by_cases h106_108 : m < 107
                · skip
                  have hm : m = 106 := by omega
                  subst hm
                  exact mj_q106 he
                · skip
                  have hm : m = 107 := by omega
                  subst hm
                  exact mj_q107 he
          · skip
            by_cases h108_113 : m < 110
            · skip
              by_cases h108_110 : m < 109
              · skip
                have hm : m = 108 := by omega
                subst hm
                exact mj_q108 he
              · skip
                have hm : m = 109 := by omega
                subst hm
                exact mj_q109 he
            · skip
              by_cases h110_113 : m < 111
              · skip
                have hm : m = 110 := by omega
                subst hm
                exact mj_q110 he
              · skip
                by_cases h111_113 : m < 112
                · skip
                  have hm : m = 111 := by omega
                  subst hm
                  exact mj_q111 he
                · skip
                  have hm : m = 112 := by omega
                  subst hm
                  exact mj_q112 he
    · skip
      by_cases h113_151 : m < 132
      · skip
        by_cases h113_132 : m < 122
        · skip
          by_cases h113_122 : m < 117
          · skip
            by_cases h113_117 : m < 115
            · skip
              by_cases h113_115 : m < 114
              · skip
                have hm : m = 113 := by omega
                subst hm
                exact mj_q113 he
              · skip
                have hm : m = 114 := by omega
                subst hm
                exact mj_q114 he
            · skip
              by_cases h115_117 : m < 116
              · skip
                have hm : m = 115 := by omega
                subst hm
                exact mj_q115 he
              · skip
                have hm : m = 116 := by omega
                subst hm
                exact mj_q116 he
          · skip
            by_cases h117_122 : m < 119
            · skip
              by_cases h117_119 : m < 118
              · skip
                have hm : m = 117 := by omega
                subst hm
                exact mj_q117 he
              · skip
                have hm : m = 118 := by omega
                subst hm
                exact mj_q118 he
            · skip
              by_cases h119_122 : m < 120
              · skip
                have hm : m = 119 := by omega
                subst hm
                exact mj_q119 he
              · skip
                by_cases h120_122 : m < 121
                · skip
                  have hm : m = 120 := by omega
                  subst hm
                  exact mj_q120 he
                · skip
                  have hm : m = 121 := by omega
                  subst hm
                  exact mj_q121 he
        · skip
          by_cases h122_132 : m < 127
          · skip
            by_cases h122_127 : m < 124
            · skip
              by_cases h122_124 : m < 123
              · skip
                have hm : m = 122 := by omega
                subst hm
                exact mj_q122 he
              · skip
                have hm : m = 123 := by omega
                subst hm
                exact mj_q123 he
            · skip
              by_cases h124_127 : m < 125
              · skip
                have hm : m = 124 := by omega
                subst hm
                exact mj_q124 he
              · skip
                by_cases h125_127 : m < 126
                · skip
                  have hm : m = 125 := by omega
                  subst hm
                  exact mj_q125 he
                · skip
                  have hm : m = 126 := by omega
                  subst hm
                  exact mj_q126 he
          · skip
            by_cases h127_132 : m < 129
            · skip
              by_cases h127_129 : m < 128
              · skip
                have hm : m = 127 := by omega
                subst hm
                exact mj_q127 he
              · skip
                have hm : m = 128 := by omega
                subst hm
                exact mj_q128 he
            · skip
              by_cases h129_132 : m < 130
              · skip
                have hm : m = 129 := by omega
                subst hm
                exact mj_q129 he
              · skip
                by_cases h130_132 : m < 131
                · skip
                  have hm : m = 130 := by omega
                  subst hm
                  exact mj_q130 he
                · skip
                  have hm : m = 131 := by omega
                  subst hm
                  exact mj_q131 he
      · skip
        by_cases h132_151 : m < 141
        · skip
          by_cases h132_141 : m < 136
          · skip
            by_cases h132_136 : m < 134
            · skip
              by_cases h132_134 : m < 133
              · skip
                have hm : m = 132 := by omega
                subst hm
                exact mj_q132 he
              · skip
                have hm : m = 133 := by omega
                subst hm
                exact mj_q133 he
            · skip
              by_cases h134_136 : m < 135
              · skip
                have hm : m = 134 := by omega
                subst hm
                exact mj_q134 he
              · skip
                have hm : m = 135 := by omega
                subst hm
                exact mj_q135 he
          · skip
            by_cases h136_141 : m < 138
            · skip
              by_cases h136_138 : m < 137
              · skip
                have hm : m = 136 := by omega
                subst hm
                exact mj_q136 he
              · skip
                have hm : m = 137 := by omega
                subst hm
                exact mj_q137 he
            · skip
              by_cases h138_141 : m < 139
              · skip
                have hm : m = 138 := by omega
                subst hm
                exact mj_q138 he
              · skip
                by_cases h139_141 : m < 140
                · skip
                  have hm : m = 139 := by omega
                  subst hm
                  exact mj_q139 he
                · skip
                  have hm : m = 140 := by omega
                  subst hm
                  exact mj_q140 he
        · skip
          by_cases h141_151 : m < 146
          · skip
            by_cases h141_146 : m < 143
            · skip
              by_cases h141_143 : m < 142
              · skip
                have hm : m = 141 := by omega
                subst hm
                exact mj_q141 he
              · skip
                have hm : m = 142 := by omega
                subst hm
                exact mj_q142 he
            · skip
              by_cases h143_146 : m < 144
              · skip
                have hm : m = 143 := by omega
                subst hm
                exact mj_q143 he
              · skip
                by_cases h144_146 : m < 145
                · skip
                  have hm : m = 144 := by omega
                  subst hm
                  exact mj_q144 he
                · skip
                  have hm : m = 145 := by omega
                  subst hm
                  exact mj_q145 he
          · skip
            by_cases h146_151 : m < 148
            · skip
              by_cases h146_148 : m < 147
              · skip
                have hm : m = 146 := by omega
                subst hm
                exact mj_q146 he
              · skip
                have hm : m = 147 := by omega
                subst hm
                exact mj_q147 he
            · skip
              by_cases h148_151 : m < 149
              · skip
                have hm : m = 148 := by omega
                subst hm
                exact mj_q148 he
              · skip
                by_cases h149_151 : m < 150
                · skip
                  have hm : m = 149 := by omega
                  subst hm
                  exact mj_q149 he
                · skip
                  have hm : m = 150 := by omega
                  subst hm
                  exact mj_q150 he
