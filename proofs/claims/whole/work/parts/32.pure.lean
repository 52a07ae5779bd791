def jL (z : Int) : Int64 := Int64.ofInt z
theorem jL_toInt {z : Int} (h1 : -9223372036854775808 ≤ z) (h2 : z < 9223372036854775808) : (jL z).toInt = z := by
  unfold jL
  rw [Int64.toInt_ofInt]
  have e : ((Int64.size : Nat) : Int) = 18446744073709551616 := rfl
  rw [Int.bmod_def, e]
  omega
theorem jI_long {z : Int} (h1 : -2147483648 ≤ z ∧ z < 2147483648) : (jI z).toInt64 = jL z := by
  apply Int64.toInt_inj.mp
  rw [Int32.toInt_toInt64, jI_toInt h1.1 h1.2, jL_toInt (by omega) (by omega)]
theorem l_0 : (0 : Int64) = jL 0 := by decide
theorem l_1 : (1 : Int64) = jL 1 := by decide
theorem l_3 : (3 : Int64) = jL 3 := by decide
theorem l_4 : (4 : Int64) = jL 4 := by decide
theorem l_9 : (9 : Int64) = jL 9 := by decide
theorem l_16 : (16 : Int64) = jL 16 := by decide
theorem l_20 : (20 : Int64) = jL 20 := by decide
theorem l_999 : (999 : Int64) = jL 999 := by decide
theorem l_9999 : (9999 : Int64) = jL 9999 := by decide
theorem f_in (a b c : Int) (ha : -2147483648 ≤ a ∧ a < 2147483648) (hb : -2147483648 ≤ b ∧ b < 2147483648) (hc : -2147483648 ≤ c ∧ c < 2147483648) (μ : mM) : f_X8_in [vl (jL a), vl (jL b), vl (jL c)] μ = some (jI (if b ≤ a ∧ a ≤ c then 1 else 0), μ) := by
  rw [e_X8_in]
  have ea := jL_toInt (z := a) (by omega) (by omega)
  have eb := jL_toInt (z := b) (by omega) (by omega)
  have ec := jL_toInt (z := c) (by omega) (by omega)
  have h1 : (lg_cmp (jL a) (jL b) < 0) ↔ a < b := by
    rw [← Int32.not_le, lg_cmp_ge, Int64.le_iff_toInt_le, ea, eb]
    omega
  have h2 : (0 < lg_cmp (jL a) (jL c)) ↔ c < a := by
    rw [← Int32.not_le, lg_cmp_le, Int64.le_iff_toInt_le, ea, ec]
    omega
  by_cases g1 : a < b
  · rw [if_pos (h1.mpr g1), if_neg (by omega)]; rfl
  · rw [if_neg (fun q => g1 (h1.mp q))]
    by_cases g2 : c < a
    · rw [if_pos (h2.mpr g2), if_neg (by omega)]; rfl
    · rw [if_neg (fun q => g2 (h2.mp q)), if_pos (by omega)]; rfl
theorem jI_01 {P : Prop} [Decidable P] : jI (if P then 1 else 0) = 0 ∨ jI (if P then 1 else 0) = 1 := by
  by_cases h : P
  · rw [if_pos h]; exact Or.inr rfl
  · rw [if_neg h]; exact Or.inl rfl
theorem f_isGrade (a : Int) (ha : -2147483648 ≤ a ∧ a < 2147483648) (μ : mM) : f_X8_isGrade [vi (jI a)] μ = some (jI (if 0 ≤ a ∧ a < 4 then 1 else 0), μ) := by
  rw [e_X8_isGrade, jI_long ha, l_0, l_3, f_in a 0 3 ha (by omega) (by omega), Option.bind_some, if_pos jI_01]
  have e : (0 ≤ a ∧ a ≤ 3) ↔ (0 ≤ a ∧ a < 4) := by omega
  simp only [e]
theorem f_isSize (a : Int) (ha : -2147483648 ≤ a ∧ a < 2147483648) (μ : mM) : f_X8_isSize [vi (jI a)] μ = some (jI (if 0 ≤ a ∧ a < 10000 then 1 else 0), μ) := by
  rw [e_X8_isSize, jI_long ha, l_0, l_9999, f_in a 0 9999 ha (by omega) (by omega), Option.bind_some, if_pos jI_01]
  have e : (0 ≤ a ∧ a ≤ 9999) ↔ (0 ≤ a ∧ a < 10000) := by omega
  simp only [e]
/-- where a shaft's span begins, ends -/
def beg (σ : sT) (s : Nat) : Int := sZ σ s + sL σ (sG σ s).toNat
def enn (σ : sT) (s : Nat) : Int := sZ σ s + sM σ (sG σ s).toNat
theorem wf_be {σ : sT} (hw : wf σ) {s : Nat} (hs : s < sNs σ) : 0 ≤ beg σ s ∧ beg σ s ≤ enn σ s ∧ enn σ s < 11000 ∧ sZ σ s ≤ beg σ s := by
  have h1 := hw.2.2.2.1 s hs
  have h2 := hw.2.2.2.2.2.1 (sG σ s).toNat (by omega)
  unfold beg enn
  omega
theorem f_beginK {σ : sT} {a : Nat} {μ : mM} (h : cSt σ a μ) (g z : Int) (hg : 0 ≤ g ∧ g < 4) (hz : 0 ≤ z ∧ z < 10000) : f_X6_begin [vr 6 a, vi (jI (g * 10000 + z))] μ = some (jI (z + sL σ g.toNat), μ) := by
  have h1 := h.2.2.2.2.2.1 g.toNat (by omega)
  rw [e_X6_begin, f_gradeOf g z μ (by omega) hz]
  simp only [Option.bind_some]
  rw [j_4, f_isIn g 4 (by omega) (by omega), if_pos hg]
  simp only [Option.bind_some]
  rw [f_sizeOf g z μ (by omega) hz]
  simp (disch := omega) only [j_0, j_1, j_2, j_3, j_4, j_5, j_6, j_8, j_9, j_16, j_20, j_24, j_33, j_48, j_49, j_57, j_58, j_82, j_83, j_100, j_131, j_179, j_227, j_275, j_512, j_825, j_999, j_1000, j_9999, j_10000, j_11000, j_65536, j_m1, jI_add, jI_sub, jI_mul, jI_neg, nca_9, nca_33, nca_58, nca_83, nca_131, nca_179, nca_227, nca_825, nca_4, nca_24, nca_275, ncb_1, ncb_275, ncb_24, nc_1add, Int.toNat_natCast, tz_0, tz_1, tz_2, tz_3, tz_4, tz_5, tz_6, tz_8, tz_9, tz_16, tz_20, tz_24, tz_33, tz_48, tz_49, tz_57, tz_58, tz_82, tz_83, tz_100, tz_131, tz_179, tz_227, tz_275, tz_512, tz_825, tz_999, tz_1000, tz_9999, tz_10000, tz_11000, tz_65536, nc_sub1, i_lt, n_lt, i_eq, n_eq, jI_natc, jI_nat, ck_ok, nc_lt, nc_le, if_true, if_false, Option.bind_some, wr_def, and_true, true_and, and_false, false_and, or_true, true_or, or_false, false_or, not_true, not_false_eq_true, not_true_eq_false, ite_true, ite_false, Nat.zero_add, Nat.add_zero, Int.add_zero, Int.zero_add, Int.sub_zero, up_eq, up_ne, up_i, up_j, h1]
theorem f_endK {σ : sT} {a : Nat} {μ : mM} (h : cSt σ a μ) (g z : Int) (hg : 0 ≤ g ∧ g < 4) (hz : 0 ≤ z ∧ z < 10000) : f_X6_end [vr 6 a, vi (jI (g * 10000 + z))] μ = some (jI (z + sM σ g.toNat), μ) := by
  have h1 := h.2.2.2.2.2.2.1 g.toNat (by omega)
  rw [e_X6_end, f_gradeOf g z μ (by omega) hz]
  simp only [Option.bind_some]
  rw [j_4, f_isIn g 4 (by omega) (by omega), if_pos hg]
  simp only [Option.bind_some]
  rw [f_sizeOf g z μ (by omega) hz]
  simp (disch := omega) only [j_0, j_1, j_2, j_3, j_4, j_5, j_6, j_8, j_9, j_16, j_20, j_24, j_33, j_48, j_49, j_57, j_58, j_82, j_83, j_100, j_131, j_179, j_227, j_275, j_512, j_825, j_999, j_1000, j_9999, j_10000, j_11000, j_65536, j_m1, jI_add, jI_sub, jI_mul, jI_neg, nca_9, nca_33, nca_58, nca_83, nca_131, nca_179, nca_227, nca_825, nca_4, nca_24, nca_275, ncb_1, ncb_275, ncb_24, nc_1add, Int.toNat_natCast, tz_0, tz_1, tz_2, tz_3, tz_4, tz_5, tz_6, tz_8, tz_9, tz_16, tz_20, tz_24, tz_33, tz_48, tz_49, tz_57, tz_58, tz_82, tz_83, tz_100, tz_131, tz_179, tz_227, tz_275, tz_512, tz_825, tz_999, tz_1000, tz_9999, tz_10000, tz_11000, tz_65536, nc_sub1, i_lt, n_lt, i_eq, n_eq, jI_natc, jI_nat, ck_ok, nc_lt, nc_le, if_true, if_false, Option.bind_some, wr_def, and_true, true_and, and_false, false_and, or_true, true_or, or_false, false_or, not_true, not_false_eq_true, not_true_eq_false, ite_true, ite_false, Nat.zero_add, Nat.add_zero, Int.add_zero, Int.zero_add, Int.sub_zero, up_eq, up_ne, up_i, up_j, h1]
theorem f_begin {σ : sT} {a : Nat} {μ : mM} (h : cSt σ a μ) (hw : wf σ) {s : Nat} (hs : s < sNs σ) : f_X6_begin [vr 6 a, vi (μ 10 a s)] μ = some (jI (beg σ s), μ) := by
  have h1 := hw.2.2.2.1 s hs
  rw [h.2.2.2.1 s hs, f_beginK h _ _ (by omega) (by omega)]
  rfl
theorem f_end {σ : sT} {a : Nat} {μ : mM} (h : cSt σ a μ) (hw : wf σ) {s : Nat} (hs : s < sNs σ) : f_X6_end [vr 6 a, vi (μ 10 a s)] μ = some (jI (enn σ s), μ) := by
  have h1 := hw.2.2.2.1 s hs
  rw [h.2.2.2.1 s hs, f_endK h _ _ (by omega) (by omega)]
  rfl
/-- the model's live state -/
abbrev mL (σ : sT) (μ : mM) : Prop := mSt σ (μ 50 0)
theorem m_begin {σ : sT} {μ : mM} (h : mL σ μ) (hw : wf σ) {s : Nat} (hs : s < sNs σ) : f_X8_begin [vr 8 0, vi (jI (s : Int))] μ = some (jI (beg σ s), μ) := by
  have h0 := hw.1
  have h1 := hw.2.2.2.1 s hs
  have h2 := h.2.2.2.1 s hs
  have h3 := h.2.2.2.2.1 s hs
  have h4 := h.2.2.2.2.2.2.1 (sG σ s).toNat (by omega)
  rw [e_X8_begin]
  simp (disch := omega) only [j_0, j_1, j_2, j_3, j_4, j_5, j_6, j_8, j_9, j_16, j_20, j_24, j_33, j_48, j_49, j_57, j_58, j_82, j_83, j_100, j_131, j_179, j_227, j_275, j_512, j_825, j_999, j_1000, j_9999, j_10000, j_11000, j_65536, j_m1, jI_add, jI_sub, jI_mul, jI_neg, nca_9, nca_33, nca_58, nca_83, nca_131, nca_179, nca_227, nca_825, nca_4, nca_24, nca_275, ncb_1, ncb_275, ncb_24, nc_1add, Int.toNat_natCast, tz_0, tz_1, tz_2, tz_3, tz_4, tz_5, tz_6, tz_8, tz_9, tz_16, tz_20, tz_24, tz_33, tz_48, tz_49, tz_57, tz_58, tz_82, tz_83, tz_100, tz_131, tz_179, tz_227, tz_275, tz_512, tz_825, tz_999, tz_1000, tz_9999, tz_10000, tz_11000, tz_65536, nc_sub1, i_lt, n_lt, i_eq, n_eq, jI_natc, jI_nat, ck_ok, nc_lt, nc_le, if_true, if_false, Option.bind_some, wr_def, and_true, true_and, and_false, false_and, or_true, true_or, or_false, false_or, not_true, not_false_eq_true, not_true_eq_false, ite_true, ite_false, Nat.zero_add, Nat.add_zero, Int.add_zero, Int.zero_add, Int.sub_zero, up_eq, up_ne, up_i, up_j, h2, h3, h4]
  rfl
theorem m_end {σ : sT} {μ : mM} (h : mL σ μ) (hw : wf σ) {s : Nat} (hs : s < sNs σ) : f_X8_end [vr 8 0, vi (jI (s : Int))] μ = some (jI (enn σ s), μ) := by
  have h0 := hw.1
  have h1 := hw.2.2.2.1 s hs
  have h2 := h.2.2.2.1 s hs
  have h3 := h.2.2.2.2.1 s hs
  have h4 := h.2.2.2.2.2.2.2.1 (sG σ s).toNat (by omega)
  have e : (jI (4 + sG σ s)).toNatClampNeg = 4 + (sG σ s).toNat := by rw [jI_nat (by omega) (by omega)]; omega
  rw [e_X8_end]
  simp (disch := omega) only [j_9, j_33, j_4, jI_add, nca_9, nca_33, ck_ok, jI_natc, h2, h3, e, h4]
  rfl
theorem m_fits {σ : sT} {μ : mM} (h : mL σ μ) (hw : wf σ) {s : Nat} (hs : s < sNs σ) {z : Int} (hz : 0 ≤ z ∧ z < 20000) : f_X8_fits [vr 8 0, vi (jI (s : Int)), vi (jI z)] μ = some (jI (if beg σ s ≤ z ∧ z ≤ enn σ s then 1 else 0), μ) := by
  have h1 := wf_be hw hs
  rw [e_X8_fits, m_begin h hw hs]
  simp only [Option.bind_some]
  rw [m_end h hw hs]
  simp only [Option.bind_some]
  rw [jI_long (by omega), jI_long (by omega), jI_long (by omega), f_in _ _ _ (by omega) (by omega) (by omega), Option.bind_some, if_pos jI_01]
theorem m_sortOf {σ : sT} {μ : mM} (h : mL σ μ) (hw : wf σ) (g z : Int) (hg : 0 ≤ g ∧ g ≤ 4) (hz : 0 ≤ z ∧ z < 10000) : f_X8_sortOf [vr 8 0, vi (jI g), vi (jI z)] μ = some (jI (fst (fun j => decide (sKg σ j = g ∧ sKz σ j = z)) (sNk σ) 0), μ) := by
  rw [e_X8_sortOf]
  have hk := hw.2.2.1
  have e82 : Int32.toNatClampNeg (jI 82) = 82 := by decide
  refine loop_fst (r := fun i => r_X8_sortOf_2 (jI g) (jI z) i μ) (sNk σ) 0 (fun j _ hj => ?_) ?_
  · have h1 := h.2.2.2.2.2.2.2.2.1 j (by omega)
    have h3 := h.2.2.2.2.2.2.2.2.2.1 j (by omega)
    have h2 := hw.2.2.2.2.2.2.1 j (by omega)
    show r_X8_sortOf_2 (jI g) (jI z) (jI (j : Int)) μ = _
    rw [e_X8_sortOf_2]
    by_cases hc1 : sKg σ j = g
    · by_cases hc2 : sKz σ j = z
      · rw [if_pos (show decide (sKg σ j = g ∧ sKz σ j = z) = true from decide_eq_true ⟨hc1, hc2⟩)]
        simp (disch := omega) only [j_0, j_1, j_2, j_3, j_4, j_5, j_6, j_8, j_9, j_16, j_20, j_24, j_33, j_48, j_49, j_57, j_58, j_82, j_83, j_100, j_131, j_179, j_227, j_275, j_512, j_825, j_999, j_1000, j_9999, j_10000, j_11000, j_65536, j_m1, jI_add, jI_sub, jI_mul, jI_neg, nca_9, nca_33, nca_58, nca_83, nca_131, nca_179, nca_227, nca_825, nca_4, nca_24, nca_275, ncb_1, ncb_275, ncb_24, nc_1add, Int.toNat_natCast, tz_0, tz_1, tz_2, tz_3, tz_4, tz_5, tz_6, tz_8, tz_9, tz_16, tz_20, tz_24, tz_33, tz_48, tz_49, tz_57, tz_58, tz_82, tz_83, tz_100, tz_131, tz_179, tz_227, tz_275, tz_512, tz_825, tz_999, tz_1000, tz_9999, tz_10000, tz_11000, tz_65536, nc_sub1, i_lt, n_lt, i_eq, n_eq, jI_natc, jI_nat, ck_ok, nc_lt, nc_le, if_true, if_false, Option.bind_some, wr_def, and_true, true_and, and_false, false_and, or_true, true_or, or_false, false_or, not_true, not_false_eq_true, not_true_eq_false, ite_true, ite_false, Nat.zero_add, Nat.add_zero, Int.add_zero, Int.zero_add, Int.sub_zero, up_eq, up_ne, up_i, up_j, e82, h.2.2.1, h1, h3]
      · rw [if_neg (show ¬ decide (sKg σ j = g ∧ sKz σ j = z) = true from fun q => hc2 (of_decide_eq_true q).2)]
        simp (disch := omega) only [j_0, j_1, j_2, j_3, j_4, j_5, j_6, j_8, j_9, j_16, j_20, j_24, j_33, j_48, j_49, j_57, j_58, j_82, j_83, j_100, j_131, j_179, j_227, j_275, j_512, j_825, j_999, j_1000, j_9999, j_10000, j_11000, j_65536, j_m1, jI_add, jI_sub, jI_mul, jI_neg, nca_9, nca_33, nca_58, nca_83, nca_131, nca_179, nca_227, nca_825, nca_4, nca_24, nca_275, ncb_1, ncb_275, ncb_24, nc_1add, Int.toNat_natCast, tz_0, tz_1, tz_2, tz_3, tz_4, tz_5, tz_6, tz_8, tz_9, tz_16, tz_20, tz_24, tz_33, tz_48, tz_49, tz_57, tz_58, tz_82, tz_83, tz_100, tz_131, tz_179, tz_227, tz_275, tz_512, tz_825, tz_999, tz_1000, tz_9999, tz_10000, tz_11000, tz_65536, nc_sub1, i_lt, n_lt, i_eq, n_eq, jI_natc, jI_nat, ck_ok, nc_lt, nc_le, if_true, if_false, Option.bind_some, wr_def, and_true, true_and, and_false, false_and, or_true, true_or, or_false, false_or, not_true, not_false_eq_true, not_true_eq_false, ite_true, ite_false, Nat.zero_add, Nat.add_zero, Int.add_zero, Int.zero_add, Int.sub_zero, up_eq, up_ne, up_i, up_j, e82, h.2.2.1, h1, h3]
    · rw [if_neg (show ¬ decide (sKg σ j = g ∧ sKz σ j = z) = true from fun q => hc1 (of_decide_eq_true q).1)]
      simp (disch := omega) only [j_0, j_1, j_2, j_3, j_4, j_5, j_6, j_8, j_9, j_16, j_20, j_24, j_33, j_48, j_49, j_57, j_58, j_82, j_83, j_100, j_131, j_179, j_227, j_275, j_512, j_825, j_999, j_1000, j_9999, j_10000, j_11000, j_65536, j_m1, jI_add, jI_sub, jI_mul, jI_neg, nca_9, nca_33, nca_58, nca_83, nca_131, nca_179, nca_227, nca_825, nca_4, nca_24, nca_275, ncb_1, ncb_275, ncb_24, nc_1add, Int.toNat_natCast, tz_0, tz_1, tz_2, tz_3, tz_4, tz_5, tz_6, tz_8, tz_9, tz_16, tz_20, tz_24, tz_33, tz_48, tz_49, tz_57, tz_58, tz_82, tz_83, tz_100, tz_131, tz_179, tz_227, tz_275, tz_512, tz_825, tz_999, tz_1000, tz_9999, tz_10000, tz_11000, tz_65536, nc_sub1, i_lt, n_lt, i_eq, n_eq, jI_natc, jI_nat, ck_ok, nc_lt, nc_le, if_true, if_false, Option.bind_some, wr_def, and_true, true_and, and_false, false_and, or_true, true_or, or_false, false_or, not_true, not_false_eq_true, not_true_eq_false, ite_true, ite_false, Nat.zero_add, Nat.add_zero, Int.add_zero, Int.zero_add, Int.sub_zero, up_eq, up_ne, up_i, up_j, e82, h.2.2.1, h1, h3]
  · show r_X8_sortOf_2 (jI g) (jI z) (jI ((0 + sNk σ : Nat) : Int)) μ = _
    rw [e_X8_sortOf_2]
    simp (disch := omega) only [j_0, j_1, j_2, j_3, j_4, j_5, j_6, j_8, j_9, j_16, j_20, j_24, j_33, j_48, j_49, j_57, j_58, j_82, j_83, j_100, j_131, j_179, j_227, j_275, j_512, j_825, j_999, j_1000, j_9999, j_10000, j_11000, j_65536, j_m1, jI_add, jI_sub, jI_mul, jI_neg, nca_9, nca_33, nca_58, nca_83, nca_131, nca_179, nca_227, nca_825, nca_4, nca_24, nca_275, ncb_1, ncb_275, ncb_24, nc_1add, Int.toNat_natCast, tz_0, tz_1, tz_2, tz_3, tz_4, tz_5, tz_6, tz_8, tz_9, tz_16, tz_20, tz_24, tz_33, tz_48, tz_49, tz_57, tz_58, tz_82, tz_83, tz_100, tz_131, tz_179, tz_227, tz_275, tz_512, tz_825, tz_999, tz_1000, tz_9999, tz_10000, tz_11000, tz_65536, nc_sub1, i_lt, n_lt, i_eq, n_eq, jI_natc, jI_nat, ck_ok, nc_lt, nc_le, if_true, if_false, Option.bind_some, wr_def, and_true, true_and, and_false, false_and, or_true, true_or, or_false, false_or, not_true, not_false_eq_true, not_true_eq_false, ite_true, ite_false, Nat.zero_add, Nat.add_zero, Int.add_zero, Int.zero_add, Int.sub_zero, up_eq, up_ne, up_i, up_j, e82, h.2.2.1]
