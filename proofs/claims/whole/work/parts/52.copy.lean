/-! copies of a state -/
theorem row_eq {μ : mM} {k i : Nat} {f : Nat → Int32} : mm_row μ k i f k i = f := by simp [mm_row]
theorem row_ne {μ : mM} {k i k' i' : Nat} {f : Nat → Int32} (h : k' ≠ k) : mm_row μ k i f k' i' = μ k' i' := by simp [mm_row, h]
theorem row_i {μ : mM} {k i i' : Nat} {f : Nat → Int32} (h : i' ≠ i) : mm_row μ k i f k i' = μ k i' := by simp [mm_row, h]
theorem ca_ok {α : Type} {n0 n1 : Nat} {l : Int} {x : Option α} (h1 : 0 ≤ l) (h2 : l < 1000) (h3 : l ≤ n0) (h4 : l ≤ n1) : ca n0 n1 (jI l) (jI 0) (jI 0) x = x := by
  unfold ca
  rw [if_neg]
  rintro (h | h | h | h | h)
  · rw [j_0] at h; have := (jI_lt (by omega) (by omega)).mp h; omega
  · rw [j_0] at h; have := (jI_lt (by omega) (by omega)).mp h; omega
  · rw [j_0] at h; have := (jI_lt (by omega) (by omega)).mp h; omega
  · rw [jI_nat (by omega) (by omega), jI_nat (by omega) (by omega)] at h; omega
  · rw [jI_nat (by omega) (by omega), jI_nat (by omega) (by omega)] at h; omega
def frS (a : Nat) (μ μ' : mM) : Prop := ∀ k i, ¬ (i = a ∧ (k = 6 ∨ (10 ≤ k ∧ k ≤ 15))) → μ' k i = μ k i
theorem frS.tr {a : Nat} {μ μ' μ'' : mM} (h : frS a μ μ') (h' : frS a μ' μ'') : frS a μ μ'' := fun k i hk => (h' k i hk).trans (h k i hk)
theorem frS.r (a : Nat) (μ : mM) : frS a μ μ := fun _ _ _ => rfl
theorem frS.st {σ : sT} {a b : Nat} {μ μ' : mM} (h : frS a μ μ') (hab : b ≠ a) (hs : cSt σ b μ) : cSt σ b μ' := by
  unfold cSt
  rw [h 6 b (by omega), h 10 b (by omega), h 11 b (by omega), h 12 b (by omega), h 13 b (by omega), h 14 b (by omega), h 15 b (by omega)]
  exact hs
theorem frS.up {a k j : Nat} {μ : mM} {v : Int32} (hk : k = 6 ∨ (10 ≤ k ∧ k ≤ 15)) : frS a μ (mm_up μ k a j v) := fun k' i h => by
  by_cases c : k' = k
  · subst c
    rw [up_i (by omega)]
  · rw [up_ne (by omega)]
theorem frS.row {a k : Nat} {μ : mM} {f : Nat → Int32} (hk : k = 6 ∨ (10 ≤ k ∧ k ≤ 15)) : frS a μ (mm_row μ k a f) := fun k' i h => by
  by_cases c : k' = k
  · subst c
    rw [row_i (by omega)]
  · rw [row_ne (by omega)]
theorem cpy_lt {f g : Nat → Int32} {n j : Nat} (h : j < n) : va_cpy f g 0 0 n j = f j := by
  unfold va_cpy
  rw [if_pos (by omega)]
  congr 1
  omega
theorem f_copyFrom {σ : sT} {a b : Nat} {μ : mM} (h : cSt σ b μ) (h1 : sNs σ ≤ 24) (h2 : sNb σ ≤ 24) (h3 : sNk σ ≤ 48) (hab : b ≠ a) : ∃ μ', f_X6_copyFrom [vr 6 a, vr 6 b] μ = some (0, μ') ∧ cSt σ a μ' ∧ frS a μ μ' := by
  obtain ⟨c1, c2, c3, c4, c5, c6, c7, c8, c9⟩ := h
  refine ⟨mm_row (mm_row (mm_row (mm_row (mm_row (mm_row (mm_up (mm_up (mm_up μ 6 a 6 (jI (sNs σ))) 6 a 7 (jI (sNb σ))) 6 a 8 (jI (sNk σ))) 10 a (va_cpy (μ 10 b) (μ 10 a) 0 0 (sNs σ))) 11 a (va_cpy (μ 11 b) (μ 11 a) 0 0 (sNb σ))) 12 a (va_cpy (μ 12 b) (μ 12 a) 0 0 4)) 13 a (va_cpy (μ 13 b) (μ 13 a) 0 0 4)) 14 a (va_cpy (μ 14 b) (μ 14 a) 0 0 (sNk σ))) 15 a (va_cpy (μ 15 b) (μ 15 a) 0 0 (sNk σ)), ?_, ⟨?_, ?_, ?_, fun j hj => ?_, fun j hj => ?_, fun j hj => ?_, fun j hj => ?_, fun j hj => ?_, fun j hj => ?_⟩, ?_⟩
  · rw [e_X6_copyFrom]
    simp (disch := omega) only [j_0, j_1, j_2, j_3, j_4, j_5, j_6, j_8, j_9, j_16, j_20, j_24, j_33, j_48, j_49, j_57, j_58, j_82, j_83, j_100, j_131, j_179, j_227, j_275, j_512, j_825, j_999, j_1000, j_9999, j_10000, j_11000, j_65536, j_m1, jI_add, jI_sub, jI_mul, jI_neg, nca_9, nca_33, nca_58, nca_83, nca_131, nca_179, nca_227, nca_825, nca_4, nca_24, nca_275, ncb_1, ncb_275, ncb_24, nc_1add, Int.toNat_natCast, tz_0, tz_1, tz_2, tz_3, tz_4, tz_5, tz_6, tz_8, tz_9, tz_16, tz_20, tz_24, tz_33, tz_48, tz_49, tz_57, tz_58, tz_82, tz_83, tz_100, tz_131, tz_179, tz_227, tz_275, tz_512, tz_825, tz_999, tz_1000, tz_9999, tz_10000, tz_11000, tz_65536, nc_sub1, i_lt, n_lt, i_eq, n_eq, jI_natc, jI_nat, ck_ok, nc_lt, nc_le, if_true, if_false, Option.bind_some, wr_def, and_true, true_and, and_false, false_and, or_true, true_or, or_false, false_or, not_true, not_false_eq_true, not_true_eq_false, ite_true, ite_false, Nat.zero_add, Nat.add_zero, Int.add_zero, Int.zero_add, Int.sub_zero, up_eq, up_ne, up_i, up_j, row_eq, row_ne, row_i, ca_ok, c1, c2, c3]
  · simp (disch := omega) only [j_0, j_1, j_2, j_3, j_4, j_5, j_6, j_8, j_9, j_16, j_20, j_24, j_33, j_48, j_49, j_57, j_58, j_82, j_83, j_100, j_131, j_179, j_227, j_275, j_512, j_825, j_999, j_1000, j_9999, j_10000, j_11000, j_65536, j_m1, jI_add, jI_sub, jI_mul, jI_neg, nca_9, nca_33, nca_58, nca_83, nca_131, nca_179, nca_227, nca_825, nca_4, nca_24, nca_275, ncb_1, ncb_275, ncb_24, nc_1add, Int.toNat_natCast, tz_0, tz_1, tz_2, tz_3, tz_4, tz_5, tz_6, tz_8, tz_9, tz_16, tz_20, tz_24, tz_33, tz_48, tz_49, tz_57, tz_58, tz_82, tz_83, tz_100, tz_131, tz_179, tz_227, tz_275, tz_512, tz_825, tz_999, tz_1000, tz_9999, tz_10000, tz_11000, tz_65536, nc_sub1, i_lt, n_lt, i_eq, n_eq, jI_natc, jI_nat, ck_ok, nc_lt, nc_le, if_true, if_false, Option.bind_some, wr_def, and_true, true_and, and_false, false_and, or_true, true_or, or_false, false_or, not_true, not_false_eq_true, not_true_eq_false, ite_true, ite_false, Nat.zero_add, Nat.add_zero, Int.add_zero, Int.zero_add, Int.sub_zero, up_eq, up_ne, up_i, up_j, row_ne]
  · simp (disch := omega) only [j_0, j_1, j_2, j_3, j_4, j_5, j_6, j_8, j_9, j_16, j_20, j_24, j_33, j_48, j_49, j_57, j_58, j_82, j_83, j_100, j_131, j_179, j_227, j_275, j_512, j_825, j_999, j_1000, j_9999, j_10000, j_11000, j_65536, j_m1, jI_add, jI_sub, jI_mul, jI_neg, nca_9, nca_33, nca_58, nca_83, nca_131, nca_179, nca_227, nca_825, nca_4, nca_24, nca_275, ncb_1, ncb_275, ncb_24, nc_1add, Int.toNat_natCast, tz_0, tz_1, tz_2, tz_3, tz_4, tz_5, tz_6, tz_8, tz_9, tz_16, tz_20, tz_24, tz_33, tz_48, tz_49, tz_57, tz_58, tz_82, tz_83, tz_100, tz_131, tz_179, tz_227, tz_275, tz_512, tz_825, tz_999, tz_1000, tz_9999, tz_10000, tz_11000, tz_65536, nc_sub1, i_lt, n_lt, i_eq, n_eq, jI_natc, jI_nat, ck_ok, nc_lt, nc_le, if_true, if_false, Option.bind_some, wr_def, and_true, true_and, and_false, false_and, or_true, true_or, or_false, false_or, not_true, not_false_eq_true, not_true_eq_false, ite_true, ite_false, Nat.zero_add, Nat.add_zero, Int.add_zero, Int.zero_add, Int.sub_zero, up_eq, up_ne, up_i, up_j, row_ne]
  · simp (disch := omega) only [j_0, j_1, j_2, j_3, j_4, j_5, j_6, j_8, j_9, j_16, j_20, j_24, j_33, j_48, j_49, j_57, j_58, j_82, j_83, j_100, j_131, j_179, j_227, j_275, j_512, j_825, j_999, j_1000, j_9999, j_10000, j_11000, j_65536, j_m1, jI_add, jI_sub, jI_mul, jI_neg, nca_9, nca_33, nca_58, nca_83, nca_131, nca_179, nca_227, nca_825, nca_4, nca_24, nca_275, ncb_1, ncb_275, ncb_24, nc_1add, Int.toNat_natCast, tz_0, tz_1, tz_2, tz_3, tz_4, tz_5, tz_6, tz_8, tz_9, tz_16, tz_20, tz_24, tz_33, tz_48, tz_49, tz_57, tz_58, tz_82, tz_83, tz_100, tz_131, tz_179, tz_227, tz_275, tz_512, tz_825, tz_999, tz_1000, tz_9999, tz_10000, tz_11000, tz_65536, nc_sub1, i_lt, n_lt, i_eq, n_eq, jI_natc, jI_nat, ck_ok, nc_lt, nc_le, if_true, if_false, Option.bind_some, wr_def, and_true, true_and, and_false, false_and, or_true, true_or, or_false, false_or, not_true, not_false_eq_true, not_true_eq_false, ite_true, ite_false, Nat.zero_add, Nat.add_zero, Int.add_zero, Int.zero_add, Int.sub_zero, up_eq, up_ne, up_i, up_j, row_ne]
  · simp (disch := omega) only [j_0, j_1, j_2, j_3, j_4, j_5, j_6, j_8, j_9, j_16, j_20, j_24, j_33, j_48, j_49, j_57, j_58, j_82, j_83, j_100, j_131, j_179, j_227, j_275, j_512, j_825, j_999, j_1000, j_9999, j_10000, j_11000, j_65536, j_m1, jI_add, jI_sub, jI_mul, jI_neg, nca_9, nca_33, nca_58, nca_83, nca_131, nca_179, nca_227, nca_825, nca_4, nca_24, nca_275, ncb_1, ncb_275, ncb_24, nc_1add, Int.toNat_natCast, tz_0, tz_1, tz_2, tz_3, tz_4, tz_5, tz_6, tz_8, tz_9, tz_16, tz_20, tz_24, tz_33, tz_48, tz_49, tz_57, tz_58, tz_82, tz_83, tz_100, tz_131, tz_179, tz_227, tz_275, tz_512, tz_825, tz_999, tz_1000, tz_9999, tz_10000, tz_11000, tz_65536, nc_sub1, i_lt, n_lt, i_eq, n_eq, jI_natc, jI_nat, ck_ok, nc_lt, nc_le, if_true, if_false, Option.bind_some, wr_def, and_true, true_and, and_false, false_and, or_true, true_or, or_false, false_or, not_true, not_false_eq_true, not_true_eq_false, ite_true, ite_false, Nat.zero_add, Nat.add_zero, Int.add_zero, Int.zero_add, Int.sub_zero, up_eq, up_ne, up_i, up_j, row_ne, row_eq]; rw [cpy_lt hj]; exact c4 j hj
  · simp (disch := omega) only [j_0, j_1, j_2, j_3, j_4, j_5, j_6, j_8, j_9, j_16, j_20, j_24, j_33, j_48, j_49, j_57, j_58, j_82, j_83, j_100, j_131, j_179, j_227, j_275, j_512, j_825, j_999, j_1000, j_9999, j_10000, j_11000, j_65536, j_m1, jI_add, jI_sub, jI_mul, jI_neg, nca_9, nca_33, nca_58, nca_83, nca_131, nca_179, nca_227, nca_825, nca_4, nca_24, nca_275, ncb_1, ncb_275, ncb_24, nc_1add, Int.toNat_natCast, tz_0, tz_1, tz_2, tz_3, tz_4, tz_5, tz_6, tz_8, tz_9, tz_16, tz_20, tz_24, tz_33, tz_48, tz_49, tz_57, tz_58, tz_82, tz_83, tz_100, tz_131, tz_179, tz_227, tz_275, tz_512, tz_825, tz_999, tz_1000, tz_9999, tz_10000, tz_11000, tz_65536, nc_sub1, i_lt, n_lt, i_eq, n_eq, jI_natc, jI_nat, ck_ok, nc_lt, nc_le, if_true, if_false, Option.bind_some, wr_def, and_true, true_and, and_false, false_and, or_true, true_or, or_false, false_or, not_true, not_false_eq_true, not_true_eq_false, ite_true, ite_false, Nat.zero_add, Nat.add_zero, Int.add_zero, Int.zero_add, Int.sub_zero, up_eq, up_ne, up_i, up_j, row_ne, row_eq]; rw [cpy_lt hj]; exact c5 j hj
  · simp (disch := omega) only [j_0, j_1, j_2, j_3, j_4, j_5, j_6, j_8, j_9, j_16, j_20, j_24, j_33, j_48, j_49, j_57, j_58, j_82, j_83, j_100, j_131, j_179, j_227, j_275, j_512, j_825, j_999, j_1000, j_9999, j_10000, j_11000, j_65536, j_m1, jI_add, jI_sub, jI_mul, jI_neg, nca_9, nca_33, nca_58, nca_83, nca_131, nca_179, nca_227, nca_825, nca_4, nca_24, nca_275, ncb_1, ncb_275, ncb_24, nc_1add, Int.toNat_natCast, tz_0, tz_1, tz_2, tz_3, tz_4, tz_5, tz_6, tz_8, tz_9, tz_16, tz_20, tz_24, tz_33, tz_48, tz_49, tz_57, tz_58, tz_82, tz_83, tz_100, tz_131, tz_179, tz_227, tz_275, tz_512, tz_825, tz_999, tz_1000, tz_9999, tz_10000, tz_11000, tz_65536, nc_sub1, i_lt, n_lt, i_eq, n_eq, jI_natc, jI_nat, ck_ok, nc_lt, nc_le, if_true, if_false, Option.bind_some, wr_def, and_true, true_and, and_false, false_and, or_true, true_or, or_false, false_or, not_true, not_false_eq_true, not_true_eq_false, ite_true, ite_false, Nat.zero_add, Nat.add_zero, Int.add_zero, Int.zero_add, Int.sub_zero, up_eq, up_ne, up_i, up_j, row_ne, row_eq]; rw [cpy_lt hj]; exact c6 j hj
  · simp (disch := omega) only [j_0, j_1, j_2, j_3, j_4, j_5, j_6, j_8, j_9, j_16, j_20, j_24, j_33, j_48, j_49, j_57, j_58, j_82, j_83, j_100, j_131, j_179, j_227, j_275, j_512, j_825, j_999, j_1000, j_9999, j_10000, j_11000, j_65536, j_m1, jI_add, jI_sub, jI_mul, jI_neg, nca_9, nca_33, nca_58, nca_83, nca_131, nca_179, nca_227, nca_825, nca_4, nca_24, nca_275, ncb_1, ncb_275, ncb_24, nc_1add, Int.toNat_natCast, tz_0, tz_1, tz_2, tz_3, tz_4, tz_5, tz_6, tz_8, tz_9, tz_16, tz_20, tz_24, tz_33, tz_48, tz_49, tz_57, tz_58, tz_82, tz_83, tz_100, tz_131, tz_179, tz_227, tz_275, tz_512, tz_825, tz_999, tz_1000, tz_9999, tz_10000, tz_11000, tz_65536, nc_sub1, i_lt, n_lt, i_eq, n_eq, jI_natc, jI_nat, ck_ok, nc_lt, nc_le, if_true, if_false, Option.bind_some, wr_def, and_true, true_and, and_false, false_and, or_true, true_or, or_false, false_or, not_true, not_false_eq_true, not_true_eq_false, ite_true, ite_false, Nat.zero_add, Nat.add_zero, Int.add_zero, Int.zero_add, Int.sub_zero, up_eq, up_ne, up_i, up_j, row_ne, row_eq]; rw [cpy_lt hj]; exact c7 j hj
  · simp (disch := omega) only [j_0, j_1, j_2, j_3, j_4, j_5, j_6, j_8, j_9, j_16, j_20, j_24, j_33, j_48, j_49, j_57, j_58, j_82, j_83, j_100, j_131, j_179, j_227, j_275, j_512, j_825, j_999, j_1000, j_9999, j_10000, j_11000, j_65536, j_m1, jI_add, jI_sub, jI_mul, jI_neg, nca_9, nca_33, nca_58, nca_83, nca_131, nca_179, nca_227, nca_825, nca_4, nca_24, nca_275, ncb_1, ncb_275, ncb_24, nc_1add, Int.toNat_natCast, tz_0, tz_1, tz_2, tz_3, tz_4, tz_5, tz_6, tz_8, tz_9, tz_16, tz_20, tz_24, tz_33, tz_48, tz_49, tz_57, tz_58, tz_82, tz_83, tz_100, tz_131, tz_179, tz_227, tz_275, tz_512, tz_825, tz_999, tz_1000, tz_9999, tz_10000, tz_11000, tz_65536, nc_sub1, i_lt, n_lt, i_eq, n_eq, jI_natc, jI_nat, ck_ok, nc_lt, nc_le, if_true, if_false, Option.bind_some, wr_def, and_true, true_and, and_false, false_and, or_true, true_or, or_false, false_or, not_true, not_false_eq_true, not_true_eq_false, ite_true, ite_false, Nat.zero_add, Nat.add_zero, Int.add_zero, Int.zero_add, Int.sub_zero, up_eq, up_ne, up_i, up_j, row_ne, row_eq]; rw [cpy_lt hj]; exact c8 j hj
  · simp (disch := omega) only [j_0, j_1, j_2, j_3, j_4, j_5, j_6, j_8, j_9, j_16, j_20, j_24, j_33, j_48, j_49, j_57, j_58, j_82, j_83, j_100, j_131, j_179, j_227, j_275, j_512, j_825, j_999, j_1000, j_9999, j_10000, j_11000, j_65536, j_m1, jI_add, jI_sub, jI_mul, jI_neg, nca_9, nca_33, nca_58, nca_83, nca_131, nca_179, nca_227, nca_825, nca_4, nca_24, nca_275, ncb_1, ncb_275, ncb_24, nc_1add, Int.toNat_natCast, tz_0, tz_1, tz_2, tz_3, tz_4, tz_5, tz_6, tz_8, tz_9, tz_16, tz_20, tz_24, tz_33, tz_48, tz_49, tz_57, tz_58, tz_82, tz_83, tz_100, tz_131, tz_179, tz_227, tz_275, tz_512, tz_825, tz_999, tz_1000, tz_9999, tz_10000, tz_11000, tz_65536, nc_sub1, i_lt, n_lt, i_eq, n_eq, jI_natc, jI_nat, ck_ok, nc_lt, nc_le, if_true, if_false, Option.bind_some, wr_def, and_true, true_and, and_false, false_and, or_true, true_or, or_false, false_or, not_true, not_false_eq_true, not_true_eq_false, ite_true, ite_false, Nat.zero_add, Nat.add_zero, Int.add_zero, Int.zero_add, Int.sub_zero, up_eq, up_ne, up_i, up_j, row_eq]; rw [cpy_lt hj]; exact c9 j hj
  · exact ((((((((frS.up (by omega)).tr (frS.up (by omega))).tr (frS.up (by omega))).tr (frS.row (by omega))).tr (frS.row (by omega))).tr (frS.row (by omega))).tr (frS.row (by omega))).tr (frS.row (by omega))).tr (frS.row (by omega))
/-! the model's copies -/
def frW (μ μ' : mM) : Prop := ∀ k i, k ≠ 50 → μ' k i = μ k i
theorem m_copyLoop {a b : Nat} (ha : a + 275 ≤ 5225) (hb : b + 275 ≤ 5225) (hab : a + 275 ≤ b ∨ b + 275 ≤ a) : ∀ (n t : Nat) (μ : mM), t + n = 275 → ∃ μ', r_X8_copy_2 (jI (a : Int)) (jI (b : Int)) (jI (t : Int)) μ = some (0, μ') ∧ frW μ μ' ∧ (∀ j, t ≤ j → j < 275 → μ' 50 0 (b + j) = μ 50 0 (a + j)) ∧ (∀ j, (j < b + t ∨ b + 275 ≤ j) → μ' 50 0 j = μ 50 0 j) := by
  intro n
  induction n with
  | zero =>
    intro t μ ht
    refine ⟨μ, ?_, fun _ _ _ => rfl, fun j h1 h2 => by omega, fun _ _ => rfl⟩
    rw [e_X8_copy_2]
    simp (disch := omega) only [j_0, j_1, j_2, j_3, j_4, j_5, j_6, j_8, j_9, j_16, j_20, j_24, j_33, j_48, j_49, j_57, j_58, j_82, j_83, j_100, j_131, j_179, j_227, j_275, j_512, j_825, j_999, j_1000, j_9999, j_10000, j_11000, j_65536, j_m1, jI_add, jI_sub, jI_mul, jI_neg, nca_9, nca_33, nca_58, nca_83, nca_131, nca_179, nca_227, nca_825, nca_4, nca_24, nca_275, ncb_1, ncb_275, ncb_24, nc_1add, Int.toNat_natCast, tz_0, tz_1, tz_2, tz_3, tz_4, tz_5, tz_6, tz_8, tz_9, tz_16, tz_20, tz_24, tz_33, tz_48, tz_49, tz_57, tz_58, tz_82, tz_83, tz_100, tz_131, tz_179, tz_227, tz_275, tz_512, tz_825, tz_999, tz_1000, tz_9999, tz_10000, tz_11000, tz_65536, nc_sub1, i_lt, n_lt, i_eq, n_eq, jI_natc, jI_nat, ck_ok, nc_lt, nc_le, if_true, if_false, Option.bind_some, wr_def, and_true, true_and, and_false, false_and, or_true, true_or, or_false, false_or, not_true, not_false_eq_true, not_true_eq_false, ite_true, ite_false, Nat.zero_add, Nat.add_zero, Int.add_zero, Int.zero_add, Int.sub_zero, up_eq, up_ne, up_i, up_j]
  | succ n ih =>
    intro t μ ht
    obtain ⟨μ', a1, a2, a3, a4⟩ := ih (t + 1) (mm_up μ 50 0 (b + t) (μ 50 0 (a + t))) (by omega)
    refine ⟨μ', ?_, fun k i hk => (a2 k i hk).trans (by rw [up_ne (by omega)]), fun j h1 h2 => ?_, fun j hj => ?_⟩
    · rw [← a1, e_X8_copy_2]
      have e1 : jI (a : Int) + jI (t : Int) = jI ((a + t : Nat) : Int) := by rw [jI_add]; rfl
      have e2 : jI (b : Int) + jI (t : Int) = jI ((b + t : Nat) : Int) := by rw [jI_add]; rfl
      rw [e1, e2]
      simp (disch := omega) only [j_0, j_1, j_2, j_3, j_4, j_5, j_6, j_8, j_9, j_16, j_20, j_24, j_33, j_48, j_49, j_57, j_58, j_82, j_83, j_100, j_131, j_179, j_227, j_275, j_512, j_825, j_999, j_1000, j_9999, j_10000, j_11000, j_65536, j_m1, jI_add, jI_sub, jI_mul, jI_neg, nca_9, nca_33, nca_58, nca_83, nca_131, nca_179, nca_227, nca_825, nca_4, nca_24, nca_275, ncb_1, ncb_275, ncb_24, nc_1add, Int.toNat_natCast, tz_0, tz_1, tz_2, tz_3, tz_4, tz_5, tz_6, tz_8, tz_9, tz_16, tz_20, tz_24, tz_33, tz_48, tz_49, tz_57, tz_58, tz_82, tz_83, tz_100, tz_131, tz_179, tz_227, tz_275, tz_512, tz_825, tz_999, tz_1000, tz_9999, tz_10000, tz_11000, tz_65536, nc_sub1, i_lt, n_lt, i_eq, n_eq, jI_natc, jI_nat, ck_ok, nc_lt, nc_le, if_true, if_false, Option.bind_some, wr_def, and_true, true_and, and_false, false_and, or_true, true_or, or_false, false_or, not_true, not_false_eq_true, not_true_eq_false, ite_true, ite_false, Nat.zero_add, Nat.add_zero, Int.add_zero, Int.zero_add, Int.sub_zero, up_eq, up_ne, up_i, up_j]
    · by_cases c : j = t
      · subst c
        rw [a4 (b + j) (by omega), up_eq]
      · rw [a3 j (by omega) h2, up_j (by omega)]
    · rw [a4 j (by omega), up_j (by omega)]
theorem m_copy {a b : Nat} (ha : a + 275 ≤ 5225) (hb : b + 275 ≤ 5225) (hab : a + 275 ≤ b ∨ b + 275 ≤ a) (μ : mM) : ∃ μ', f_X8_copy [vr 8 0, vi (jI (a : Int)), vi (jI (b : Int))] μ = some (0, μ') ∧ frW μ μ' ∧ (∀ j, j < 275 → μ' 50 0 (b + j) = μ 50 0 (a + j)) ∧ (∀ j, (j < b ∨ b + 275 ≤ j) → μ' 50 0 j = μ 50 0 j) := by
  obtain ⟨μ', a1, a2, a3, a4⟩ := m_copyLoop ha hb hab 275 0 μ (by omega)
  refine ⟨μ', ?_, a2, fun j hj => a3 j (by omega) hj, fun j hj => a4 j (by omega)⟩
  rw [← a1, e_X8_copy]
  rfl
theorem mSt_congr {σ : sT} {v v' : Nat → Int32} (h : mSt σ v) (h1 : sNs σ ≤ 24) (h2 : sNb σ ≤ 24) (h3 : sNk σ ≤ 48) (hv : ∀ t, t < 275 → v' t = v t) : mSt σ v' := by
  obtain ⟨c1, c2, c3, c4, c5, c6, c7, c8, c9, c10, c11, c12⟩ := h
  refine ⟨?_, ?_, ?_, fun j hj => ?_, fun j hj => ?_, fun j hj => ?_, fun j hj => ?_, fun j hj => ?_, fun j hj => ?_, fun j hj => ?_, fun j hj => ?_, fun j hj => ?_⟩
  · rw [hv _ (by omega)]; exact c1
  · rw [hv _ (by omega)]; exact c2
  · rw [hv _ (by omega)]; exact c3
  · rw [hv _ (by omega)]; exact c4 j hj
  · rw [hv _ (by omega)]; exact c5 j hj
  · rw [hv _ (by omega)]; exact c6 j hj
  · rw [hv _ (by omega)]; exact c7 j hj
  · rw [hv _ (by omega)]; exact c8 j hj
  · rw [hv _ (by omega)]; exact c9 j hj
  · rw [hv _ (by omega)]; exact c10 j hj
  · rw [hv _ (by omega)]; exact c11 j hj
  · rw [hv _ (by omega)]; exact c12 j hj
/-- one deed more: what lay ahead of it -/
def pP (A : aT) : Nat → sT := fun j => if aD A < 16 then (if j = aD A then aS A else aP A j) else (if j = 15 then aS A else aP A (j + 1))
def aNote (A : aT) : aT := ((aS A, (aN A + 1) % 16, min (aD A + 1) 16, pP A), A.2)
theorem wi_note {A : aT} (h : WI A) : WI (aNote A) := by
  obtain ⟨w1, w2, w3, w4, w5⟩ := h
  refine ⟨w1, Nat.mod_lt _ (by omega), by show min (aD A + 1) 16 ≤ 16; omega, fun j hj => ?_, w5⟩
  have hj' : j < min (aD A + 1) 16 := hj
  show wf (pP A j)
  unfold pP
  by_cases c : aD A < 16
  · rw [if_pos c]
    by_cases d : j = aD A
    · rw [if_pos d]; exact w1
    · rw [if_neg d]; exact w4 j (by omega)
  · rw [if_neg c]
    by_cases d : j = 15
    · rw [if_pos d]; exact w1
    · rw [if_neg d]; exact w4 (j + 1) (by omega)
theorem jI_mod16 {n : Nat} (h : n < 16) : (jI (n : Int) + 1) - (jI (n : Int) + 1) / 16 * 16 = jI ((((n + 1) % 16 : Nat)) : Int) := by
  rw [j_1, jI_add, j_16, jI_div (by omega) (by omega) (by omega) (by omega), jI_mul, jI_sub]
  congr 1
  omega
def frN (μ μ' : mM) : Prop := ∀ k i, ¬ (k = 3 ∨ (1 ≤ i ∧ i ≤ 16 ∧ (k = 6 ∨ (10 ≤ k ∧ k ≤ 15)))) → μ' k i = μ k i
theorem f_note {A : aT} {μ : mM} (hW : WI A) (hC : CI A μ) : ∃ μ', f_X3_note [vr 3 0, vr 6 0] μ = some (0, μ') ∧ CI (aNote A) μ' ∧ frN μ μ' := by
  obtain ⟨w1, w2, w3, w4, w5⟩ := hW
  obtain ⟨c1, c2, c3, c4, c5, c6, c7, c8, c9⟩ := hC
  obtain ⟨μ1, a1, a2, a3⟩ := f_copyFrom (a := aN A + 1) c1 w1.1 w1.2.1 w1.2.2.1 (by omega)
  have k1 : μ1 3 0 1 = jI (aN A : Int) := by rw [a3 3 0 (by omega)]; exact c2
  have k2 : μ1 3 0 2 = jI (aD A : Int) := by rw [a3 3 0 (by omega)]; exact c3
  have hmin : ∀ m, f_J9_min_7cf53 [vi (jI ((aD A + 1 : Nat) : Int)), vi (jI 16)] m = some (jI ((min (aD A + 1) 16 : Nat) : Int), m) := fun m => by
    rw [f_min (by omega) m]
    congr 3
    unfold mnI
    split <;> omega
  have fin : frS (aN A + 1) μ μ1 := a3
  refine ⟨mm_up (mm_up μ1 3 0 1 (jI (((aN A + 1) % 16 : Nat) : Int))) 3 0 2 (jI ((min (aD A + 1) 16 : Nat) : Int)), ?_, ?_, ?_⟩
  · rw [e_X3_note, c2]
    have em := jI_mod16 w2
    rw [jI_natc (by omega), ck_ok (by omega) (by omega) (by omega), a1]
    simp only [Option.bind_some, k1, em, wr_def]
    have e2 : (mm_up μ1 3 0 1 (jI (((aN A + 1) % 16 : Nat) : Int))) 3 0 2 + 1 = jI ((aD A + 1 : Nat) : Int) := by
      rw [up_j (by omega), k2, j_1, jI_add]; rfl
    rw [e2, j_16, hmin]
    rfl
  · have st : ∀ σ a, cSt σ a μ1 → cSt σ a (mm_up (mm_up μ1 3 0 1 (jI (((aN A + 1) % 16 : Nat) : Int))) 3 0 2 (jI ((min (aD A + 1) 16 : Nat) : Int))) := by
      intro σ a h
      unfold cSt
      rw [up_ne (by omega), up_ne (by omega), up_ne (by omega), up_ne (by omega), up_ne (by omega), up_ne (by omega), up_ne (by omega), up_ne (by omega), up_ne (by omega), up_ne (by omega), up_ne (by omega), up_ne (by omega), up_ne (by omega), up_ne (by omega)]
      exact h
    refine ⟨st _ _ (a3.st (by omega) c1), by simp (disch := omega) only [j_0, j_1, j_2, j_3, j_4, j_5, j_6, j_8, j_9, j_16, j_20, j_24, j_33, j_48, j_49, j_57, j_58, j_82, j_83, j_100, j_131, j_179, j_227, j_275, j_512, j_825, j_999, j_1000, j_9999, j_10000, j_11000, j_65536, j_m1, jI_add, jI_sub, jI_mul, jI_neg, nca_9, nca_33, nca_58, nca_83, nca_131, nca_179, nca_227, nca_825, nca_4, nca_24, nca_275, ncb_1, ncb_275, ncb_24, nc_1add, Int.toNat_natCast, tz_0, tz_1, tz_2, tz_3, tz_4, tz_5, tz_6, tz_8, tz_9, tz_16, tz_20, tz_24, tz_33, tz_48, tz_49, tz_57, tz_58, tz_82, tz_83, tz_100, tz_131, tz_179, tz_227, tz_275, tz_512, tz_825, tz_999, tz_1000, tz_9999, tz_10000, tz_11000, tz_65536, nc_sub1, i_lt, n_lt, i_eq, n_eq, jI_natc, jI_nat, ck_ok, nc_lt, nc_le, if_true, if_false, Option.bind_some, wr_def, and_true, true_and, and_false, false_and, or_true, true_or, or_false, false_or, not_true, not_false_eq_true, not_true_eq_false, ite_true, ite_false, Nat.zero_add, Nat.add_zero, Int.add_zero, Int.zero_add, Int.sub_zero, up_eq, up_ne, up_i, up_j]; rfl, by simp (disch := omega) only [j_0, j_1, j_2, j_3, j_4, j_5, j_6, j_8, j_9, j_16, j_20, j_24, j_33, j_48, j_49, j_57, j_58, j_82, j_83, j_100, j_131, j_179, j_227, j_275, j_512, j_825, j_999, j_1000, j_9999, j_10000, j_11000, j_65536, j_m1, jI_add, jI_sub, jI_mul, jI_neg, nca_9, nca_33, nca_58, nca_83, nca_131, nca_179, nca_227, nca_825, nca_4, nca_24, nca_275, ncb_1, ncb_275, ncb_24, nc_1add, Int.toNat_natCast, tz_0, tz_1, tz_2, tz_3, tz_4, tz_5, tz_6, tz_8, tz_9, tz_16, tz_20, tz_24, tz_33, tz_48, tz_49, tz_57, tz_58, tz_82, tz_83, tz_100, tz_131, tz_179, tz_227, tz_275, tz_512, tz_825, tz_999, tz_1000, tz_9999, tz_10000, tz_11000, tz_65536, nc_sub1, i_lt, n_lt, i_eq, n_eq, jI_natc, jI_nat, ck_ok, nc_lt, nc_le, if_true, if_false, Option.bind_some, wr_def, and_true, true_and, and_false, false_and, or_true, true_or, or_false, false_or, not_true, not_false_eq_true, not_true_eq_false, ite_true, ite_false, Nat.zero_add, Nat.add_zero, Int.add_zero, Int.zero_add, Int.sub_zero, up_eq, up_ne, up_i, up_j]; rfl, fun j hj => st _ _ ?_, fun i hi => ?_, ?_, ?_, fun i hi => ?_, fun b hb => ?_⟩
    · have hj' : j < min (aD A + 1) 16 := hj
      show cSt (pP A j) (1 + ((aN A + 1) % 16 + 16 - min (aD A + 1) 16 + j) % 16) μ1
      unfold pP
      by_cases c : aD A < 16
      · rw [if_pos c]
        by_cases d : j = aD A
        · rw [if_pos d]
          have e : 1 + ((aN A + 1) % 16 + 16 - min (aD A + 1) 16 + j) % 16 = aN A + 1 := by omega
          rw [e]; exact a2
        · rw [if_neg d]
          have e : 1 + ((aN A + 1) % 16 + 16 - min (aD A + 1) 16 + j) % 16 = 1 + (aN A + 16 - aD A + j) % 16 := by omega
          rw [e]; exact a3.st (by omega) (c4 j (by omega))
      · rw [if_neg c]
        by_cases d : j = 15
        · rw [if_pos d]
          have e : 1 + ((aN A + 1) % 16 + 16 - min (aD A + 1) 16 + j) % 16 = aN A + 1 := by omega
          rw [e]; exact a2
        · rw [if_neg d]
          have e : 1 + ((aN A + 1) % 16 + 16 - min (aD A + 1) 16 + j) % 16 = 1 + (aN A + 16 - aD A + (j + 1)) % 16 := by omega
          rw [e]; exact a3.st (by omega) (c4 (j + 1) (by omega))
    · refine ⟨?_, fun q => ⟨st _ _ (a3.st (by omega) ((c5 i hi).2 q).1), ?_⟩⟩
      · rw [up_ne (by omega), up_ne (by omega), a3 2 i (by omega)]; exact (c5 i hi).1
      · rw [up_ne (by omega), up_ne (by omega), a3 2 i (by omega)]; exact ((c5 i hi).2 q).2
    · rw [up_ne (by omega), up_ne (by omega), a3 7 0 (by omega)]; exact c6
    · unfold cSee
      rw [up_ne (by omega), up_ne (by omega), a3 4 0 (by omega), up_ne (by omega), up_ne (by omega), a3 40 0 (by omega), up_ne (by omega), up_ne (by omega), a3 41 0 (by omega)]; exact c7
    · rw [up_ne (by omega), up_ne (by omega), a3 34 0 (by omega)]; exact c8 i hi
    · rw [up_ne (by omega), up_ne (by omega), a3 34 b (by omega)]; exact c9 b hb
  · intro k i hk
    rw [up_ne (by omega), up_ne (by omega), a3 k i (by omega)]
/-- the model remembers -/
def frR (μ μ' : mM) : Prop := (∀ k i, ¬ (k = 8 ∨ k = 50) → μ' k i = μ k i) ∧ (∀ f, f ≠ 3 → μ' 8 0 f = μ 8 0 f) ∧ ∀ t, t < 825 → μ' 50 0 t = μ 50 0 t
theorem m_shift : ∀ (n t : Nat) (μ : mM), t + n = 4125 → ∃ μ', r_X8_remember_11 (jI (t : Int)) μ = r_X8_remember_11 (jI ((4125 : Nat) : Int)) μ' ∧ (∀ k i, k ≠ 50 → μ' k i = μ k i) ∧ (∀ j, t ≤ j → j < 4125 → μ' 50 0 (825 + j) = μ 50 0 (825 + j + 275)) ∧ (∀ j, (j < 825 + t) → μ' 50 0 j = μ 50 0 j) := by
  intro n
  induction n with
  | zero =>
    intro t μ ht
    have e : t = 4125 := by omega
    subst e
    exact ⟨μ, rfl, fun _ _ _ => rfl, fun j h1 h2 => by omega, fun _ _ => rfl⟩
  | succ n ih =>
    intro t μ ht
    obtain ⟨μ', a1, a2, a3, a4⟩ := ih (t + 1) (mm_up μ 50 0 (825 + t) (μ 50 0 (825 + t + 275))) (by omega)
    refine ⟨μ', ?_, fun k i hk => (a2 k i hk).trans (by rw [up_ne (by omega)]), fun j h1 h2 => ?_, fun j hj => ?_⟩
    · rw [← a1, e_X8_remember_11]
      have e1 : (825 : Int32) + jI (t : Int) = jI ((825 + t : Nat) : Int) := by rw [j_825, jI_add]; rfl
      have e2 : jI ((825 + t : Nat) : Int) + 275 = jI ((825 + t + 275 : Nat) : Int) := by rw [j_275, jI_add]; rfl
      rw [e1, e2, show (4125 : Int32) = jI 4125 by decide]
      simp (disch := omega) only [j_0, j_1, j_2, j_3, j_4, j_5, j_6, j_8, j_9, j_16, j_20, j_24, j_33, j_48, j_49, j_57, j_58, j_82, j_83, j_100, j_131, j_179, j_227, j_275, j_512, j_825, j_999, j_1000, j_9999, j_10000, j_11000, j_65536, j_m1, jI_add, jI_sub, jI_mul, jI_neg, nca_9, nca_33, nca_58, nca_83, nca_131, nca_179, nca_227, nca_825, nca_4, nca_24, nca_275, ncb_1, ncb_275, ncb_24, nc_1add, Int.toNat_natCast, tz_0, tz_1, tz_2, tz_3, tz_4, tz_5, tz_6, tz_8, tz_9, tz_16, tz_20, tz_24, tz_33, tz_48, tz_49, tz_57, tz_58, tz_82, tz_83, tz_100, tz_131, tz_179, tz_227, tz_275, tz_512, tz_825, tz_999, tz_1000, tz_9999, tz_10000, tz_11000, tz_65536, nc_sub1, i_lt, n_lt, i_eq, n_eq, jI_natc, jI_nat, ck_ok, nc_lt, nc_le, if_true, if_false, Option.bind_some, wr_def, and_true, true_and, and_false, false_and, or_true, true_or, or_false, false_or, not_true, not_false_eq_true, not_true_eq_false, ite_true, ite_false, Nat.zero_add, Nat.add_zero, Int.add_zero, Int.zero_add, Int.sub_zero, up_eq, up_ne, up_i, up_j]
    · by_cases c : j = t
      · subst c
        rw [a4 (825 + j) (by omega), up_eq]
      · rw [a3 j (by omega) h2, up_j (by omega)]
    · rw [a4 j (by omega), up_j (by omega)]
theorem m_remember {A : aT} {μ : mM} (hW : WI A) (hM : MI A μ) : ∃ μ', f_X8_remember [vr 8 0] μ = some (0, μ') ∧ MI (aNote A) μ' ∧ frR μ μ' := by
  obtain ⟨w1, w2, w3, w4, w5⟩ := hW
  obtain ⟨c1, c2, c3, c4, c5, c6⟩ := hM
  -- the last part, from a memory whose first d are what P' says
  have fin : ∀ (d : Nat) (P' : Nat → sT) (μ1 : mM), d < 16 → (∀ k i, ¬ (k = 8 ∨ k = 50) → μ1 k i = μ k i) → (∀ f, f ≠ 3 → μ1 8 0 f = μ 8 0 f) → (∀ t, t < 825 → μ1 50 0 t = μ 50 0 t) → μ1 8 0 3 = jI (d : Int) → (∀ j, j < d → wf (P' j) ∧ mSt (P' j) (fun t => μ1 50 0 (825 + 275 * j + t))) → (∀ j, j < d → pP A j = P' j) → pP A d = aS A → d + 1 = min (aD A + 1) 16 → ∃ μ', (Option.bind (f_X8_copy [vr 8 0, vi 0, vi (825 + (275 * (μ1 8 0 3)))] μ1) (fun q2 => (wr (mm_up q2.2 8 0 3 ((q2.2 8 0 3) + 1)) (fun m3 => some ((0 : Int32), m3))))) = some (0, μ') ∧ MI (aNote A) μ' ∧ frR μ μ' := by
    intro d P' μ1 hd f1 f2 f3 h8 hP hPP hPd hdd
    obtain ⟨μ2, a1, a2, a3, a4⟩ := m_copy (a := 0) (b := 825 + 275 * d) (by omega) (by omega) (by omega) μ1
    have e1 : (825 : Int32) + 275 * (μ1 8 0 3) = jI ((825 + 275 * d : Nat) : Int) := by
      rw [h8, j_825, j_275, jI_mul, jI_add]; rfl
    have a1' : f_X8_copy [vr 8 0, vi 0, vi (jI ((825 + 275 * d : Nat) : Int))] μ1 = some (0, μ2) := a1
    have e2 : μ2 8 0 3 + 1 = jI ((d + 1 : Nat) : Int) := by rw [a2 8 0 (by omega), h8, j_1, jI_add]; rfl
    have k50 : ∀ t, t < 825 → (mm_up μ2 8 0 3 (jI ((d + 1 : Nat) : Int))) 50 0 t = μ 50 0 t := fun t ht => by
      rw [up_ne (by omega), a4 t (by omega), f3 t ht]
    refine ⟨mm_up μ2 8 0 3 (jI ((d + 1 : Nat) : Int)), ?_, ⟨?_, ?_, fun j hj => ?_, fun i hi => ?_, ?_, ?_⟩, ?_, ?_, k50⟩
    · rw [e1, a1', Option.bind_some]
      simp only [e2, wr_def]
    · exact mSt_congr c1 w1.1 w1.2.1 w1.2.2.1 (fun t ht => k50 t (by omega))
    · rw [up_eq]
      show jI ((d + 1 : Nat) : Int) = jI ((min (aD A + 1) 16 : Nat) : Int)
      rw [hdd]
    · have hj' : j < min (aD A + 1) 16 := hj
      show mSt (pP A j) _
      by_cases c : j = d
      · subst c
        rw [hPd]
        refine mSt_congr c1 w1.1 w1.2.1 w1.2.2.1 (fun t ht => ?_)
        show (mm_up μ2 8 0 3 (jI ((j + 1 : Nat) : Int))) 50 0 (825 + 275 * j + t) = μ 50 0 t
        rw [up_ne (by omega), a3 t ht, Nat.zero_add, f3 t (by omega)]
      · rw [hPP j (by omega)]
        obtain ⟨g1, g2⟩ := hP j (by omega)
        refine mSt_congr g2 g1.1 g1.2.1 g1.2.2.1 (fun t ht => ?_)
        show (mm_up μ2 8 0 3 (jI ((d + 1 : Nat) : Int))) 50 0 (825 + 275 * j + t) = μ1 50 0 (825 + 275 * j + t)
        rw [up_ne (by omega), a4 _ (by omega)]
    · obtain ⟨g1, g2⟩ := c4 i hi
      refine ⟨?_, fun q => ⟨?_, ?_⟩⟩
      · rw [up_ne (by omega), a2 51 0 (by omega), f1 51 0 (by omega)]; exact g1
      · have hwi := (w5.1 i hi q).1
        refine mSt_congr (g2 q).1 hwi.1 hwi.2.1 hwi.2.2.1 (fun t ht => ?_)
        exact k50 (275 + 275 * i + t) (by omega)
      · rw [up_ne (by omega), a2 52 0 (by omega), f1 52 0 (by omega)]; exact (g2 q).2
    · rw [up_j (by omega), a2 8 0 (by omega), f2 4 (by omega)]; exact c5
    · unfold mSee
      rw [up_j (by omega), a2 8 0 (by omega), f2 8 (by omega), up_ne (by omega), a2 56 0 (by omega), f1 56 0 (by omega), up_ne (by omega), a2 57 0 (by omega), f1 57 0 (by omega), up_ne (by omega), a2 58 0 (by omega), f1 58 0 (by omega)]
      exact c6
    · intro k i hk
      rw [up_ne (by omega), a2 k i (by omega), f1 k i (by omega)]
    · intro f hf
      rw [up_j (by omega), a2 8 0 (by omega), f2 f hf]
  rw [e_X8_remember, c2]
  by_cases c : aD A < 16
  · have e16 : ¬ (jI (aD A : Int) = 16) := fun q => by rw [j_16] at q; have := (jI_eq (by omega) (by omega)).mp q; omega
    rw [if_neg e16]
    have h := fin (aD A) (aP A) μ c (fun _ _ _ => rfl) (fun _ _ => rfl) (fun _ _ => rfl) c2 (fun j hj => ⟨w4 j hj, c3 j hj⟩) (fun j hj => by unfold pP; rw [if_pos c, if_neg (by omega)]) (by unfold pP; rw [if_pos c, if_pos rfl]) (by omega)
    rw [c2] at h
    exact h
  · have e16 : aD A = 16 := by omega
    have e16' : jI (aD A : Int) = 16 := by rw [e16]; decide
    rw [if_pos e16']
    obtain ⟨μ1, a1, a2, a3, a4⟩ := m_shift 4125 0 μ (by omega)
    have a1' : r_X8_remember_11 0 μ = r_X8_remember_11 (jI ((4125 : Nat) : Int)) μ1 := a1
    rw [a1', e_X8_remember_11, show (4125 : Int32) = jI 4125 by decide]
    have e3 : (μ1 8 0 3) - 1 = jI ((15 : Nat) : Int) := by rw [a2 8 0 (by omega), c2, e16]; decide
    have h := fin 15 (fun j => aP A (j + 1)) (mm_up μ1 8 0 3 (jI ((15 : Nat) : Int))) (by omega) (fun k i hk => by rw [up_ne (by omega), a2 k i (by omega)]) (fun f hf => by rw [up_j (by omega), a2 8 0 (by omega)]) (fun t ht => by rw [up_ne (by omega), a4 t (by omega)]) (by rw [up_eq]) (fun j hj => ⟨w4 (j + 1) (by omega), by
      have hwj := w4 (j + 1) (by omega)
      refine mSt_congr (c3 (j + 1) (by omega)) hwj.1 hwj.2.1 hwj.2.2.1 (fun t ht => ?_)
      show (mm_up μ1 8 0 3 (jI ((15 : Nat) : Int))) 50 0 (825 + 275 * j + t) = μ 50 0 (825 + 275 * (j + 1) + t)
      rw [up_ne (by omega), show 825 + 275 * j + t = 825 + (275 * j + t) by omega, a3 (275 * j + t) (by omega) (by omega)]
      congr 1
      omega⟩) (fun j hj => by unfold pP; rw [if_neg c, if_neg (by omega)]) (by unfold pP; rw [if_neg c, if_pos rfl]) (by omega)
    rw [e3]
    rw [n_lt (by omega)]
    exact h
