/-! a part goes -/
def dl (f : Nat → Int) (s j : Nat) : Int := if j < s then f j else f (j + 1)
def remS (σ : sT) (s : Nat) : sT := ((sNs σ - 1, dl (sG σ) s, dl (sZ σ) s), σ.2)
def remB (σ : sT) (b : Nat) : sT := (σ.1, (sNb σ - 1, dl (sB σ) b), σ.2.2)
theorem cnt_dl {P : Nat → Bool} {s : Nat} : ∀ n, s < n → cnt (fun j => P (if j < s then j else j + 1)) (n - 1) + (if P s then 1 else 0) = cnt P n
  | 0, h => by omega
  | k + 1, h => by
    show cnt (fun j => P (if j < s then j else j + 1)) k + (if P s then 1 else 0) = cnt P k + (if P k then 1 else 0)
    by_cases c : s = k
    · subst c
      rw [cnt_congr (P := fun j => P (if j < s then j else j + 1)) (Q := P) s (fun j hj => by simp only [if_pos hj])]
    · have ih := cnt_dl (P := P) (s := s) k (by omega)
      have e : k = (k - 1) + 1 := by omega
      have e2 : cnt (fun j => P (if j < s then j else j + 1)) k = cnt (fun j => P (if j < s then j else j + 1)) (k - 1) + (if P k then 1 else 0) := by
        have : cnt (fun j => P (if j < s then j else j + 1)) ((k - 1) + 1) = cnt (fun j => P (if j < s then j else j + 1)) (k - 1) + (if P (if k - 1 < s then k - 1 else (k - 1) + 1) then 1 else 0) := rfl
        rw [if_neg (show ¬ k - 1 < s by omega), ← e] at this
        exact this
      omega
theorem sCnt_remS {σ : sT} {s : Nat} (hs : s < sNs σ) (g z : Int) : sCnt (remS σ s) g z + (if sG σ s = g ∧ sZ σ s = z then 1 else 0) = sCnt σ g z := by
  have h := cnt_dl (P := fun j => decide (sG σ j = g ∧ sZ σ j = z)) (s := s) (sNs σ) hs
  have e : cnt (fun j => decide (dl (sG σ) s j = g ∧ dl (sZ σ) s j = z)) (sNs σ - 1) = cnt (fun j => decide (sG σ (if j < s then j else j + 1) = g ∧ sZ σ (if j < s then j else j + 1) = z)) (sNs σ - 1) := cnt_congr _ (fun j _ => by
    unfold dl
    by_cases c : j < s
    · simp only [if_pos c]
    · simp only [if_neg c])
  simp only [decide_eq_true_eq] at h
  unfold sCnt remS
  show cnt (fun j => decide (dl (sG σ) s j = g ∧ dl (sZ σ) s j = z)) (sNs σ - 1) + (if g = 4 then cnt (fun j => decide (sB σ j = z)) (sNb σ) else 0) + _ = _
  rw [e]
  omega
theorem sCnt_remB {σ : sT} {b : Nat} (hb : b < sNb σ) (g z : Int) : sCnt (remB σ b) g z + (if 4 = g ∧ sB σ b = z then 1 else 0) = sCnt σ g z := by
  have h := cnt_dl (P := fun j => decide (sB σ j = z)) (s := b) (sNb σ) hb
  have e : cnt (fun j => decide (dl (sB σ) b j = z)) (sNb σ - 1) = cnt (fun j => decide (sB σ (if j < b then j else j + 1) = z)) (sNb σ - 1) := cnt_congr _ (fun j _ => by
    unfold dl
    by_cases c : j < b
    · simp only [if_pos c]
    · simp only [if_neg c])
  simp only [decide_eq_true_eq] at h
  unfold sCnt remB
  show cnt (fun j => decide (sG σ j = g ∧ sZ σ j = z)) (sNs σ) + (if g = 4 then cnt (fun j => decide (dl (sB σ) b j = z)) (sNb σ - 1) else 0) + _ = _
  rw [e]
  by_cases c : g = 4
  · rw [if_pos c, if_pos c]
    by_cases d : sB σ b = z
    · rw [if_pos d] at h; rw [if_pos ⟨c.symm, d⟩]; omega
    · rw [if_neg d] at h; rw [if_neg (fun q => d q.2)]; omega
  · rw [if_neg c, if_neg c, if_neg (fun q => c q.1.symm)]
theorem remS_wf {σ : sT} (hw : wf σ) {s : Nat} (hs : s < sNs σ) : wf (remS σ s) := by
  obtain ⟨w1, w2, w3, w4, w5, w6, w7, w8, w9, w10⟩ := hw
  refine ⟨by show sNs σ - 1 ≤ 24; omega, w2, w3, fun j hj => ?_, w5, w6, w7, w8, fun j hj => ?_, w10⟩
  · have hj' : j < sNs σ - 1 := hj
    show 0 ≤ dl (sG σ) s j ∧ dl (sG σ) s j < 4 ∧ 0 ≤ dl (sZ σ) s j ∧ dl (sZ σ) s j < 10000
    unfold dl
    by_cases c : j < s
    · simp only [if_pos c]; exact w4 j (by omega)
    · simp only [if_neg c]; exact w4 (j + 1) (by omega)
  · have hj' : j < sNs σ - 1 := hj
    show ∃ k, k < sNk σ ∧ sKg σ k = dl (sG σ) s j ∧ sKz σ k = dl (sZ σ) s j
    unfold dl
    by_cases c : j < s
    · simp only [if_pos c]; exact w9 j (by omega)
    · simp only [if_neg c]; exact w9 (j + 1) (by omega)
theorem remB_wf {σ : sT} (hw : wf σ) {s : Nat} (hs : s < sNb σ) : wf (remB σ s) := by
  obtain ⟨w1, w2, w3, w4, w5, w6, w7, w8, w9, w10⟩ := hw
  refine ⟨w1, by show sNb σ - 1 ≤ 24; omega, w3, w4, fun j hj => ?_, w6, w7, w8, w9, fun j hj => ?_⟩
  · have hj' : j < sNb σ - 1 := hj
    show 0 ≤ dl (sB σ) s j ∧ dl (sB σ) s j < 10000
    unfold dl
    by_cases c : j < s
    · simp only [if_pos c]; exact w5 j (by omega)
    · simp only [if_neg c]; exact w5 (j + 1) (by omega)
  · have hj' : j < sNb σ - 1 := hj
    show ∃ k, k < sNk σ ∧ sKg σ k = 4 ∧ sKz σ k = dl (sB σ) s j
    unfold dl
    by_cases c : j < s
    · simp only [if_pos c]; exact w10 j (by omega)
    · simp only [if_neg c]; exact w10 (j + 1) (by omega)
theorem c_dropLoopS {n s : Nat} (hn : n ≤ 23) (V : Nat → Int32) : ∀ (m i : Nat) (x1 : mV) (μ : mM), i + m = n → s ≤ i → μ 6 0 6 = jI (n : Int) → (∀ j, j < n + 1 → μ 10 0 j = if j < i ∧ s ≤ j then V (j + 1) else V j) → ∃ μ', r_X6_dropShaft_24 0 x1 (jI (i : Int)) μ = some (0, μ') ∧ (∀ j, j < n → μ' 10 0 j = if s ≤ j then V (j + 1) else V j) ∧ (∀ k i, ¬ (k = 10 ∧ i = 0) → μ' k i = μ k i) := by
  intro m
  induction m with
  | zero =>
    intro i x1 μ hi hs h6 hV
    refine ⟨μ, ?_, fun j hj => ?_, fun _ _ _ => rfl⟩
    · rw [e_X6_dropShaft_24, h6]; simp (disch := omega) only [j_0, j_1, j_2, j_3, j_4, j_5, j_6, j_8, j_9, j_16, j_20, j_24, j_33, j_48, j_49, j_57, j_58, j_82, j_83, j_100, j_131, j_179, j_227, j_275, j_512, j_825, j_999, j_1000, j_9999, j_10000, j_11000, j_65536, j_m1, jI_add, jI_sub, jI_mul, jI_neg, nca_9, nca_33, nca_58, nca_83, nca_131, nca_179, nca_227, nca_825, nca_4, nca_24, nca_275, ncb_1, ncb_275, ncb_24, nc_1add, Int.toNat_natCast, tz_0, tz_1, tz_2, tz_3, tz_4, tz_5, tz_6, tz_8, tz_9, tz_16, tz_20, tz_24, tz_33, tz_48, tz_49, tz_57, tz_58, tz_82, tz_83, tz_100, tz_131, tz_179, tz_227, tz_275, tz_512, tz_825, tz_999, tz_1000, tz_9999, tz_10000, tz_11000, tz_65536, nc_sub1, i_lt, n_lt, i_eq, n_eq, jI_natc, jI_nat, ck_ok, nc_lt, nc_le, if_true, if_false, Option.bind_some, wr_def, and_true, true_and, and_false, false_and, or_true, true_or, or_false, false_or, not_true, not_false_eq_true, not_true_eq_false, ite_true, ite_false, Nat.zero_add, Nat.add_zero, Int.add_zero, Int.zero_add, Int.sub_zero, up_eq, up_ne, up_i, up_j]
    · rw [hV j (by omega)]
      by_cases c : s ≤ j
      · rw [if_pos ⟨by omega, c⟩, if_pos c]
      · rw [if_neg (fun q => c q.2), if_neg c]
  | succ m ih =>
    intro i x1 μ hi hs h6 hV
    have v1 := hV (i + 1) (by omega)
    rw [if_neg (by omega)] at v1
    obtain ⟨μ', a1, a2, a3⟩ := ih (i + 1) x1 (mm_up μ 10 0 i (V (i + 1))) (by omega) (by omega) (by simp (disch := omega) only [j_0, j_1, j_2, j_3, j_4, j_5, j_6, j_8, j_9, j_16, j_20, j_24, j_33, j_48, j_49, j_57, j_58, j_82, j_83, j_100, j_131, j_179, j_227, j_275, j_512, j_825, j_999, j_1000, j_9999, j_10000, j_11000, j_65536, j_m1, jI_add, jI_sub, jI_mul, jI_neg, nca_9, nca_33, nca_58, nca_83, nca_131, nca_179, nca_227, nca_825, nca_4, nca_24, nca_275, ncb_1, ncb_275, ncb_24, nc_1add, Int.toNat_natCast, tz_0, tz_1, tz_2, tz_3, tz_4, tz_5, tz_6, tz_8, tz_9, tz_16, tz_20, tz_24, tz_33, tz_48, tz_49, tz_57, tz_58, tz_82, tz_83, tz_100, tz_131, tz_179, tz_227, tz_275, tz_512, tz_825, tz_999, tz_1000, tz_9999, tz_10000, tz_11000, tz_65536, nc_sub1, i_lt, n_lt, i_eq, n_eq, jI_natc, jI_nat, ck_ok, nc_lt, nc_le, if_true, if_false, Option.bind_some, wr_def, and_true, true_and, and_false, false_and, or_true, true_or, or_false, false_or, not_true, not_false_eq_true, not_true_eq_false, ite_true, ite_false, Nat.zero_add, Nat.add_zero, Int.add_zero, Int.zero_add, Int.sub_zero, up_eq, up_ne, up_i, up_j, h6]) (fun j hj => by
      by_cases c : j = i
      · subst c; rw [up_eq, if_pos ⟨by omega, hs⟩]
      · rw [up_j (by omega), hV j hj]
        by_cases d : j < i ∧ s ≤ j
        · rw [if_pos d, if_pos ⟨by omega, d.2⟩]
        · rw [if_neg d, if_neg (fun q => d ⟨by omega, q.2⟩)])
    refine ⟨μ', ?_, a2, fun k i' hk => (a3 k i' hk).trans ?_⟩
    · rw [← a1, e_X6_dropShaft_24, h6]
      simp (disch := omega) only [j_0, j_1, j_2, j_3, j_4, j_5, j_6, j_8, j_9, j_16, j_20, j_24, j_33, j_48, j_49, j_57, j_58, j_82, j_83, j_100, j_131, j_179, j_227, j_275, j_512, j_825, j_999, j_1000, j_9999, j_10000, j_11000, j_65536, j_m1, jI_add, jI_sub, jI_mul, jI_neg, nca_9, nca_33, nca_58, nca_83, nca_131, nca_179, nca_227, nca_825, nca_4, nca_24, nca_275, ncb_1, ncb_275, ncb_24, nc_1add, Int.toNat_natCast, tz_0, tz_1, tz_2, tz_3, tz_4, tz_5, tz_6, tz_8, tz_9, tz_16, tz_20, tz_24, tz_33, tz_48, tz_49, tz_57, tz_58, tz_82, tz_83, tz_100, tz_131, tz_179, tz_227, tz_275, tz_512, tz_825, tz_999, tz_1000, tz_9999, tz_10000, tz_11000, tz_65536, nc_sub1, i_lt, n_lt, i_eq, n_eq, jI_natc, jI_nat, ck_ok, nc_lt, nc_le, if_true, if_false, Option.bind_some, wr_def, and_true, true_and, and_false, false_and, or_true, true_or, or_false, false_or, not_true, not_false_eq_true, not_true_eq_false, ite_true, ite_false, Nat.zero_add, Nat.add_zero, Int.add_zero, Int.zero_add, Int.sub_zero, up_eq, up_ne, up_i, up_j, v1]
    · by_cases c : k = 10
      · subst c; rw [up_i (by omega)]
      · rw [up_ne (by omega)]
theorem c_dropLoopB {n s : Nat} (hn : n ≤ 23) (V : Nat → Int32) : ∀ (m i : Nat) (x1 : mV) (μ : mM), i + m = n → s ≤ i → μ 6 0 7 = jI (n : Int) → (∀ j, j < n + 1 → μ 11 0 j = if j < i ∧ s ≤ j then V (j + 1) else V j) → ∃ μ', r_X6_dropBore_24 0 x1 (jI (i : Int)) μ = some (0, μ') ∧ (∀ j, j < n → μ' 11 0 j = if s ≤ j then V (j + 1) else V j) ∧ (∀ k i, ¬ (k = 11 ∧ i = 0) → μ' k i = μ k i) := by
  intro m
  induction m with
  | zero =>
    intro i x1 μ hi hs h6 hV
    refine ⟨μ, ?_, fun j hj => ?_, fun _ _ _ => rfl⟩
    · rw [e_X6_dropBore_24, h6]; simp (disch := omega) only [j_0, j_1, j_2, j_3, j_4, j_5, j_6, j_8, j_9, j_16, j_20, j_24, j_33, j_48, j_49, j_57, j_58, j_82, j_83, j_100, j_131, j_179, j_227, j_275, j_512, j_825, j_999, j_1000, j_9999, j_10000, j_11000, j_65536, j_m1, jI_add, jI_sub, jI_mul, jI_neg, nca_9, nca_33, nca_58, nca_83, nca_131, nca_179, nca_227, nca_825, nca_4, nca_24, nca_275, ncb_1, ncb_275, ncb_24, nc_1add, Int.toNat_natCast, tz_0, tz_1, tz_2, tz_3, tz_4, tz_5, tz_6, tz_8, tz_9, tz_16, tz_20, tz_24, tz_33, tz_48, tz_49, tz_57, tz_58, tz_82, tz_83, tz_100, tz_131, tz_179, tz_227, tz_275, tz_512, tz_825, tz_999, tz_1000, tz_9999, tz_10000, tz_11000, tz_65536, nc_sub1, i_lt, n_lt, i_eq, n_eq, jI_natc, jI_nat, ck_ok, nc_lt, nc_le, if_true, if_false, Option.bind_some, wr_def, and_true, true_and, and_false, false_and, or_true, true_or, or_false, false_or, not_true, not_false_eq_true, not_true_eq_false, ite_true, ite_false, Nat.zero_add, Nat.add_zero, Int.add_zero, Int.zero_add, Int.sub_zero, up_eq, up_ne, up_i, up_j]
    · rw [hV j (by omega)]
      by_cases c : s ≤ j
      · rw [if_pos ⟨by omega, c⟩, if_pos c]
      · rw [if_neg (fun q => c q.2), if_neg c]
  | succ m ih =>
    intro i x1 μ hi hs h6 hV
    have v1 := hV (i + 1) (by omega)
    rw [if_neg (by omega)] at v1
    obtain ⟨μ', a1, a2, a3⟩ := ih (i + 1) x1 (mm_up μ 11 0 i (V (i + 1))) (by omega) (by omega) (by simp (disch := omega) only [j_0, j_1, j_2, j_3, j_4, j_5, j_6, j_8, j_9, j_16, j_20, j_24, j_33, j_48, j_49, j_57, j_58, j_82, j_83, j_100, j_131, j_179, j_227, j_275, j_512, j_825, j_999, j_1000, j_9999, j_10000, j_11000, j_65536, j_m1, jI_add, jI_sub, jI_mul, jI_neg, nca_9, nca_33, nca_58, nca_83, nca_131, nca_179, nca_227, nca_825, nca_4, nca_24, nca_275, ncb_1, ncb_275, ncb_24, nc_1add, Int.toNat_natCast, tz_0, tz_1, tz_2, tz_3, tz_4, tz_5, tz_6, tz_8, tz_9, tz_16, tz_20, tz_24, tz_33, tz_48, tz_49, tz_57, tz_58, tz_82, tz_83, tz_100, tz_131, tz_179, tz_227, tz_275, tz_512, tz_825, tz_999, tz_1000, tz_9999, tz_10000, tz_11000, tz_65536, nc_sub1, i_lt, n_lt, i_eq, n_eq, jI_natc, jI_nat, ck_ok, nc_lt, nc_le, if_true, if_false, Option.bind_some, wr_def, and_true, true_and, and_false, false_and, or_true, true_or, or_false, false_or, not_true, not_false_eq_true, not_true_eq_false, ite_true, ite_false, Nat.zero_add, Nat.add_zero, Int.add_zero, Int.zero_add, Int.sub_zero, up_eq, up_ne, up_i, up_j, h6]) (fun j hj => by
      by_cases c : j = i
      · subst c; rw [up_eq, if_pos ⟨by omega, hs⟩]
      · rw [up_j (by omega), hV j hj]
        by_cases d : j < i ∧ s ≤ j
        · rw [if_pos d, if_pos ⟨by omega, d.2⟩]
        · rw [if_neg d, if_neg (fun q => d ⟨by omega, q.2⟩)])
    refine ⟨μ', ?_, a2, fun k i' hk => (a3 k i' hk).trans ?_⟩
    · rw [← a1, e_X6_dropBore_24, h6]
      simp (disch := omega) only [j_0, j_1, j_2, j_3, j_4, j_5, j_6, j_8, j_9, j_16, j_20, j_24, j_33, j_48, j_49, j_57, j_58, j_82, j_83, j_100, j_131, j_179, j_227, j_275, j_512, j_825, j_999, j_1000, j_9999, j_10000, j_11000, j_65536, j_m1, jI_add, jI_sub, jI_mul, jI_neg, nca_9, nca_33, nca_58, nca_83, nca_131, nca_179, nca_227, nca_825, nca_4, nca_24, nca_275, ncb_1, ncb_275, ncb_24, nc_1add, Int.toNat_natCast, tz_0, tz_1, tz_2, tz_3, tz_4, tz_5, tz_6, tz_8, tz_9, tz_16, tz_20, tz_24, tz_33, tz_48, tz_49, tz_57, tz_58, tz_82, tz_83, tz_100, tz_131, tz_179, tz_227, tz_275, tz_512, tz_825, tz_999, tz_1000, tz_9999, tz_10000, tz_11000, tz_65536, nc_sub1, i_lt, n_lt, i_eq, n_eq, jI_natc, jI_nat, ck_ok, nc_lt, nc_le, if_true, if_false, Option.bind_some, wr_def, and_true, true_and, and_false, false_and, or_true, true_or, or_false, false_or, not_true, not_false_eq_true, not_true_eq_false, ite_true, ite_false, Nat.zero_add, Nat.add_zero, Int.add_zero, Int.zero_add, Int.sub_zero, up_eq, up_ne, up_i, up_j, v1]
    · by_cases c : k = 11
      · subst c; rw [up_i (by omega)]
      · rw [up_ne (by omega)]
theorem c_dropS {σ : sT} {μ : mM} (h : cSt σ 0 μ) (hw : wf σ) {s : Nat} (hs : s < sNs σ) : ∃ μ', f_X6_dropShaft [vr 6 0, vi (jI (s : Int))] μ = some (0, μ') ∧ cSt (remS σ s) 0 μ' ∧ frS 0 μ μ' := by
  have hn := hw.1
  obtain ⟨c1, c2, c3, c4, c5, c6, c7, c8, c9⟩ := h
  obtain ⟨μ', a1, a2, a3⟩ := c_dropLoopS (n := sNs σ - 1) (s := s) (by omega) (μ 10 0) (sNs σ - 1 - s) s (vi (jI (s : Int))) (mm_up μ 6 0 6 (jI ((sNs σ - 1 : Nat) : Int))) (by omega) (Nat.le_refl _) (by simp (disch := omega) only [j_0, j_1, j_2, j_3, j_4, j_5, j_6, j_8, j_9, j_16, j_20, j_24, j_33, j_48, j_49, j_57, j_58, j_82, j_83, j_100, j_131, j_179, j_227, j_275, j_512, j_825, j_999, j_1000, j_9999, j_10000, j_11000, j_65536, j_m1, jI_add, jI_sub, jI_mul, jI_neg, nca_9, nca_33, nca_58, nca_83, nca_131, nca_179, nca_227, nca_825, nca_4, nca_24, nca_275, ncb_1, ncb_275, ncb_24, nc_1add, Int.toNat_natCast, tz_0, tz_1, tz_2, tz_3, tz_4, tz_5, tz_6, tz_8, tz_9, tz_16, tz_20, tz_24, tz_33, tz_48, tz_49, tz_57, tz_58, tz_82, tz_83, tz_100, tz_131, tz_179, tz_227, tz_275, tz_512, tz_825, tz_999, tz_1000, tz_9999, tz_10000, tz_11000, tz_65536, nc_sub1, i_lt, n_lt, i_eq, n_eq, jI_natc, jI_nat, ck_ok, nc_lt, nc_le, if_true, if_false, Option.bind_some, wr_def, and_true, true_and, and_false, false_and, or_true, true_or, or_false, false_or, not_true, not_false_eq_true, not_true_eq_false, ite_true, ite_false, Nat.zero_add, Nat.add_zero, Int.add_zero, Int.zero_add, Int.sub_zero, up_eq, up_ne, up_i, up_j]) (fun j hj => by rw [if_neg (by omega)]; simp (disch := omega) only [j_0, j_1, j_2, j_3, j_4, j_5, j_6, j_8, j_9, j_16, j_20, j_24, j_33, j_48, j_49, j_57, j_58, j_82, j_83, j_100, j_131, j_179, j_227, j_275, j_512, j_825, j_999, j_1000, j_9999, j_10000, j_11000, j_65536, j_m1, jI_add, jI_sub, jI_mul, jI_neg, nca_9, nca_33, nca_58, nca_83, nca_131, nca_179, nca_227, nca_825, nca_4, nca_24, nca_275, ncb_1, ncb_275, ncb_24, nc_1add, Int.toNat_natCast, tz_0, tz_1, tz_2, tz_3, tz_4, tz_5, tz_6, tz_8, tz_9, tz_16, tz_20, tz_24, tz_33, tz_48, tz_49, tz_57, tz_58, tz_82, tz_83, tz_100, tz_131, tz_179, tz_227, tz_275, tz_512, tz_825, tz_999, tz_1000, tz_9999, tz_10000, tz_11000, tz_65536, nc_sub1, i_lt, n_lt, i_eq, n_eq, jI_natc, jI_nat, ck_ok, nc_lt, nc_le, if_true, if_false, Option.bind_some, wr_def, and_true, true_and, and_false, false_and, or_true, true_or, or_false, false_or, not_true, not_false_eq_true, not_true_eq_false, ite_true, ite_false, Nat.zero_add, Nat.add_zero, Int.add_zero, Int.zero_add, Int.sub_zero, up_eq, up_ne, up_i, up_j])
  have hin := f_isIn s (sNs σ) (by omega) (by omega) μ
  rw [if_pos (by omega)] at hin
  have em : jI (sNs σ : Int) - 1 = jI ((sNs σ - 1 : Nat) : Int) := by rw [j_1, jI_sub]; congr 1; omega
  refine ⟨μ', ?_, ⟨?_, ?_, ?_, fun j hj => ?_, fun j hj => ?_, fun j hj => ?_, fun j hj => ?_, fun j hj => ?_, fun j hj => ?_⟩, fun k i hk => ?_⟩
  · rw [← a1, e_X6_dropShaft, c1, hin]
    simp only [Option.bind_some, c1, em, wr_def]
    rw [if_neg (fun q => by rw [j_0] at q; have := (jI_eq (by omega) (by omega)).mp q; omega)]
  · rw [a3 6 0 (by omega), up_eq]; rfl
  · rw [a3 6 0 (by omega), up_j (by omega)]; exact c2
  · rw [a3 6 0 (by omega), up_j (by omega)]; exact c3
  · have hj' : j < sNs σ - 1 := hj
    show μ' 10 0 j = jI (dl (sG σ) s j * 10000 + dl (sZ σ) s j)
    rw [a2 j hj']
    unfold dl
    by_cases c : j < s
    · rw [if_neg (by omega), if_pos c, if_pos c]; exact c4 j (by omega)
    · rw [if_pos (by omega), if_neg c, if_neg c]; exact c4 (j + 1) (by omega)
  · rw [a3 11 0 (by omega), up_ne (by omega)]; exact c5 j hj
  · rw [a3 12 0 (by omega), up_ne (by omega)]; exact c6 j hj
  · rw [a3 13 0 (by omega), up_ne (by omega)]; exact c7 j hj
  · rw [a3 14 0 (by omega), up_ne (by omega)]; exact c8 j hj
  · rw [a3 15 0 (by omega), up_ne (by omega)]; exact c9 j hj
  · rw [a3 k i (by omega), (frS.up (a := 0) (k := 6) (by omega)) k i hk]
theorem c_dropB {σ : sT} {μ : mM} (h : cSt σ 0 μ) (hw : wf σ) {s : Nat} (hs : s < sNb σ) : ∃ μ', f_X6_dropBore [vr 6 0, vi (jI (s : Int))] μ = some (0, μ') ∧ cSt (remB σ s) 0 μ' ∧ frS 0 μ μ' := by
  have hn := hw.2.1
  obtain ⟨c1, c2, c3, c4, c5, c6, c7, c8, c9⟩ := h
  obtain ⟨μ', a1, a2, a3⟩ := c_dropLoopB (n := sNb σ - 1) (s := s) (by omega) (μ 11 0) (sNb σ - 1 - s) s (vi (jI (s : Int))) (mm_up μ 6 0 7 (jI ((sNb σ - 1 : Nat) : Int))) (by omega) (Nat.le_refl _) (by simp (disch := omega) only [j_0, j_1, j_2, j_3, j_4, j_5, j_6, j_8, j_9, j_16, j_20, j_24, j_33, j_48, j_49, j_57, j_58, j_82, j_83, j_100, j_131, j_179, j_227, j_275, j_512, j_825, j_999, j_1000, j_9999, j_10000, j_11000, j_65536, j_m1, jI_add, jI_sub, jI_mul, jI_neg, nca_9, nca_33, nca_58, nca_83, nca_131, nca_179, nca_227, nca_825, nca_4, nca_24, nca_275, ncb_1, ncb_275, ncb_24, nc_1add, Int.toNat_natCast, tz_0, tz_1, tz_2, tz_3, tz_4, tz_5, tz_6, tz_8, tz_9, tz_16, tz_20, tz_24, tz_33, tz_48, tz_49, tz_57, tz_58, tz_82, tz_83, tz_100, tz_131, tz_179, tz_227, tz_275, tz_512, tz_825, tz_999, tz_1000, tz_9999, tz_10000, tz_11000, tz_65536, nc_sub1, i_lt, n_lt, i_eq, n_eq, jI_natc, jI_nat, ck_ok, nc_lt, nc_le, if_true, if_false, Option.bind_some, wr_def, and_true, true_and, and_false, false_and, or_true, true_or, or_false, false_or, not_true, not_false_eq_true, not_true_eq_false, ite_true, ite_false, Nat.zero_add, Nat.add_zero, Int.add_zero, Int.zero_add, Int.sub_zero, up_eq, up_ne, up_i, up_j]) (fun j hj => by rw [if_neg (by omega)]; simp (disch := omega) only [j_0, j_1, j_2, j_3, j_4, j_5, j_6, j_8, j_9, j_16, j_20, j_24, j_33, j_48, j_49, j_57, j_58, j_82, j_83, j_100, j_131, j_179, j_227, j_275, j_512, j_825, j_999, j_1000, j_9999, j_10000, j_11000, j_65536, j_m1, jI_add, jI_sub, jI_mul, jI_neg, nca_9, nca_33, nca_58, nca_83, nca_131, nca_179, nca_227, nca_825, nca_4, nca_24, nca_275, ncb_1, ncb_275, ncb_24, nc_1add, Int.toNat_natCast, tz_0, tz_1, tz_2, tz_3, tz_4, tz_5, tz_6, tz_8, tz_9, tz_16, tz_20, tz_24, tz_33, tz_48, tz_49, tz_57, tz_58, tz_82, tz_83, tz_100, tz_131, tz_179, tz_227, tz_275, tz_512, tz_825, tz_999, tz_1000, tz_9999, tz_10000, tz_11000, tz_65536, nc_sub1, i_lt, n_lt, i_eq, n_eq, jI_natc, jI_nat, ck_ok, nc_lt, nc_le, if_true, if_false, Option.bind_some, wr_def, and_true, true_and, and_false, false_and, or_true, true_or, or_false, false_or, not_true, not_false_eq_true, not_true_eq_false, ite_true, ite_false, Nat.zero_add, Nat.add_zero, Int.add_zero, Int.zero_add, Int.sub_zero, up_eq, up_ne, up_i, up_j])
  have hin := f_isIn s (sNb σ) (by omega) (by omega) μ
  rw [if_pos (by omega)] at hin
  have em : jI (sNb σ : Int) - 1 = jI ((sNb σ - 1 : Nat) : Int) := by rw [j_1, jI_sub]; congr 1; omega
  refine ⟨μ', ?_, ⟨?_, ?_, ?_, fun j hj => ?_, fun j hj => ?_, fun j hj => ?_, fun j hj => ?_, fun j hj => ?_, fun j hj => ?_⟩, fun k i hk => ?_⟩
  · rw [← a1, e_X6_dropBore, c2, hin]
    simp only [Option.bind_some, c2, em, wr_def]
    rw [if_neg (fun q => by rw [j_0] at q; have := (jI_eq (by omega) (by omega)).mp q; omega)]
  · rw [a3 6 0 (by omega), up_j (by omega)]; exact c1
  · rw [a3 6 0 (by omega), up_eq]; rfl
  · rw [a3 6 0 (by omega), up_j (by omega)]; exact c3
  · rw [a3 10 0 (by omega), up_ne (by omega)]; exact c4 j hj
  · have hj' : j < sNb σ - 1 := hj
    show μ' 11 0 j = jI (40000 + dl (sB σ) s j)
    rw [a2 j hj']
    unfold dl
    by_cases c : j < s
    · rw [if_neg (by omega), if_pos c]; exact c5 j (by omega)
    · rw [if_pos (by omega), if_neg c]; exact c5 (j + 1) (by omega)
  · rw [a3 12 0 (by omega), up_ne (by omega)]; exact c6 j hj
  · rw [a3 13 0 (by omega), up_ne (by omega)]; exact c7 j hj
  · rw [a3 14 0 (by omega), up_ne (by omega)]; exact c8 j hj
  · rw [a3 15 0 (by omega), up_ne (by omega)]; exact c9 j hj
  · rw [a3 k i (by omega), (frS.up (a := 0) (k := 6) (by omega)) k i hk]
/-! the model -/
theorem m_dropLoopS {n s : Nat} (hn : n ≤ 23) (V W : Nat → Int32) : ∀ (m i : Nat) (x1 : mV) (μ : mM), i + m = n → s ≤ i → μ 50 0 8 = jI (n : Int) → (∀ j, j < n + 1 → μ 50 0 (9 + j) = if j < i ∧ s ≤ j then V (j + 1) else V j) → (∀ j, j < n + 1 → μ 50 0 (33 + j) = if j < i ∧ s ≤ j then W (j + 1) else W j) → ∃ μ', r_X8_shaftGoes_48 x1 (jI (i : Int)) μ = some (0, μ') ∧ (∀ j, j < n → μ' 50 0 (9 + j) = if s ≤ j then V (j + 1) else V j) ∧ (∀ j, j < n → μ' 50 0 (33 + j) = if s ≤ j then W (j + 1) else W j) ∧ (∀ k i, k ≠ 50 → μ' k i = μ k i) ∧ (∀ t, ¬ (9 ≤ t ∧ t < 57) → μ' 50 0 t = μ 50 0 t) := by
  intro m
  induction m with
  | zero =>
    intro i x1 μ hi hs h6 hV hW
    refine ⟨μ, ?_, fun j hj => ?_, fun j hj => ?_, fun _ _ _ => rfl, fun _ _ => rfl⟩
    · rw [e_X8_shaftGoes_48]; simp (disch := omega) only [j_0, j_1, j_2, j_3, j_4, j_5, j_6, j_8, j_9, j_16, j_20, j_24, j_33, j_48, j_49, j_57, j_58, j_82, j_83, j_100, j_131, j_179, j_227, j_275, j_512, j_825, j_999, j_1000, j_9999, j_10000, j_11000, j_65536, j_m1, jI_add, jI_sub, jI_mul, jI_neg, nca_9, nca_33, nca_58, nca_83, nca_131, nca_179, nca_227, nca_825, nca_4, nca_24, nca_275, ncb_1, ncb_275, ncb_24, nc_1add, Int.toNat_natCast, tz_0, tz_1, tz_2, tz_3, tz_4, tz_5, tz_6, tz_8, tz_9, tz_16, tz_20, tz_24, tz_33, tz_48, tz_49, tz_57, tz_58, tz_82, tz_83, tz_100, tz_131, tz_179, tz_227, tz_275, tz_512, tz_825, tz_999, tz_1000, tz_9999, tz_10000, tz_11000, tz_65536, nc_sub1, i_lt, n_lt, i_eq, n_eq, jI_natc, jI_nat, ck_ok, nc_lt, nc_le, if_true, if_false, Option.bind_some, wr_def, and_true, true_and, and_false, false_and, or_true, true_or, or_false, false_or, not_true, not_false_eq_true, not_true_eq_false, ite_true, ite_false, Nat.zero_add, Nat.add_zero, Int.add_zero, Int.zero_add, Int.sub_zero, up_eq, up_ne, up_i, up_j, h6]
    · rw [hV j (by omega)]
      by_cases c : s ≤ j
      · rw [if_pos ⟨by omega, c⟩, if_pos c]
      · rw [if_neg (fun q => c q.2), if_neg c]
    · rw [hW j (by omega)]
      by_cases c : s ≤ j
      · rw [if_pos ⟨by omega, c⟩, if_pos c]
      · rw [if_neg (fun q => c q.2), if_neg c]
  | succ m ih =>
    intro i x1 μ hi hs h6 hV hW
    have v1 := hV (i + 1) (by omega)
    rw [if_neg (by omega)] at v1
    have w1 := hW (i + 1) (by omega)
    rw [if_neg (by omega)] at w1
    obtain ⟨μ', a1, a2, a2', a3, a4⟩ := ih (i + 1) x1 (mm_up (mm_up μ 50 0 (9 + i) (V (i + 1))) 50 0 (33 + i) (W (i + 1))) (by omega) (by omega) (by simp (disch := omega) only [j_0, j_1, j_2, j_3, j_4, j_5, j_6, j_8, j_9, j_16, j_20, j_24, j_33, j_48, j_49, j_57, j_58, j_82, j_83, j_100, j_131, j_179, j_227, j_275, j_512, j_825, j_999, j_1000, j_9999, j_10000, j_11000, j_65536, j_m1, jI_add, jI_sub, jI_mul, jI_neg, nca_9, nca_33, nca_58, nca_83, nca_131, nca_179, nca_227, nca_825, nca_4, nca_24, nca_275, ncb_1, ncb_275, ncb_24, nc_1add, Int.toNat_natCast, tz_0, tz_1, tz_2, tz_3, tz_4, tz_5, tz_6, tz_8, tz_9, tz_16, tz_20, tz_24, tz_33, tz_48, tz_49, tz_57, tz_58, tz_82, tz_83, tz_100, tz_131, tz_179, tz_227, tz_275, tz_512, tz_825, tz_999, tz_1000, tz_9999, tz_10000, tz_11000, tz_65536, nc_sub1, i_lt, n_lt, i_eq, n_eq, jI_natc, jI_nat, ck_ok, nc_lt, nc_le, if_true, if_false, Option.bind_some, wr_def, and_true, true_and, and_false, false_and, or_true, true_or, or_false, false_or, not_true, not_false_eq_true, not_true_eq_false, ite_true, ite_false, Nat.zero_add, Nat.add_zero, Int.add_zero, Int.zero_add, Int.sub_zero, up_eq, up_ne, up_i, up_j, h6]) (fun j hj => by
      by_cases c : j = i
      · subst c; rw [up_j (by omega), up_eq, if_pos ⟨by omega, hs⟩]
      · rw [up_j (by omega), up_j (by omega), hV j hj]
        by_cases d : j < i ∧ s ≤ j
        · rw [if_pos d, if_pos ⟨by omega, d.2⟩]
        · rw [if_neg d, if_neg (fun q => d ⟨by omega, q.2⟩)]) (fun j hj => by
      by_cases c : j = i
      · subst c; rw [up_eq, if_pos ⟨by omega, hs⟩]
      · rw [up_j (by omega), up_j (by omega), hW j hj]
        by_cases d : j < i ∧ s ≤ j
        · rw [if_pos d, if_pos ⟨by omega, d.2⟩]
        · rw [if_neg d, if_neg (fun q => d ⟨by omega, q.2⟩)])
    refine ⟨μ', ?_, a2, a2', fun k i' hk => (a3 k i' hk).trans (by rw [up_ne (by omega), up_ne (by omega)]), fun t ht => (a4 t ht).trans (by rw [up_j (by omega), up_j (by omega)])⟩
    rw [← a1, e_X8_shaftGoes_48]
    have e1 : (9 : Int32) + jI (i : Int) = jI ((9 + i : Nat) : Int) := by rw [j_9, jI_add]; rfl
    have e2 : jI ((9 + i : Nat) : Int) + 1 = jI ((9 + (i + 1) : Nat) : Int) := by rw [j_1, jI_add]; congr 1
    have e3 : (33 : Int32) + jI (i : Int) = jI ((33 + i : Nat) : Int) := by rw [j_33, jI_add]; rfl
    have e4 : jI ((33 + i : Nat) : Int) + 1 = jI ((33 + (i + 1) : Nat) : Int) := by rw [j_1, jI_add]; congr 1
    simp only [e1, e2, e3, e4]
    simp (disch := omega) only [j_0, j_1, j_2, j_3, j_4, j_5, j_6, j_8, j_9, j_16, j_20, j_24, j_33, j_48, j_49, j_57, j_58, j_82, j_83, j_100, j_131, j_179, j_227, j_275, j_512, j_825, j_999, j_1000, j_9999, j_10000, j_11000, j_65536, j_m1, jI_add, jI_sub, jI_mul, jI_neg, nca_9, nca_33, nca_58, nca_83, nca_131, nca_179, nca_227, nca_825, nca_4, nca_24, nca_275, ncb_1, ncb_275, ncb_24, nc_1add, Int.toNat_natCast, tz_0, tz_1, tz_2, tz_3, tz_4, tz_5, tz_6, tz_8, tz_9, tz_16, tz_20, tz_24, tz_33, tz_48, tz_49, tz_57, tz_58, tz_82, tz_83, tz_100, tz_131, tz_179, tz_227, tz_275, tz_512, tz_825, tz_999, tz_1000, tz_9999, tz_10000, tz_11000, tz_65536, nc_sub1, i_lt, n_lt, i_eq, n_eq, jI_natc, jI_nat, ck_ok, nc_lt, nc_le, if_true, if_false, Option.bind_some, wr_def, and_true, true_and, and_false, false_and, or_true, true_or, or_false, false_or, not_true, not_false_eq_true, not_true_eq_false, ite_true, ite_false, Nat.zero_add, Nat.add_zero, Int.add_zero, Int.zero_add, Int.sub_zero, up_eq, up_ne, up_i, up_j, h6, v1, w1]
theorem m_dropLoopB {n s : Nat} (hn : n ≤ 23) (V : Nat → Int32) : ∀ (m i : Nat) (x1 : mV) (μ : mM), i + m = n → s ≤ i → μ 50 0 57 = jI (n : Int) → (∀ j, j < n + 1 → μ 50 0 (58 + j) = if j < i ∧ s ≤ j then V (j + 1) else V j) → ∃ μ', r_X8_boreGoes_40 x1 (jI (i : Int)) μ = some (0, μ') ∧ (∀ j, j < n → μ' 50 0 (58 + j) = if s ≤ j then V (j + 1) else V j) ∧ (∀ k i, k ≠ 50 → μ' k i = μ k i) ∧ (∀ t, ¬ (58 ≤ t ∧ t < 82) → μ' 50 0 t = μ 50 0 t) := by
  intro m
  induction m with
  | zero =>
    intro i x1 μ hi hs h6 hV
    refine ⟨μ, ?_, fun j hj => ?_, fun _ _ _ => rfl, fun _ _ => rfl⟩
    · rw [e_X8_boreGoes_40]; simp (disch := omega) only [j_0, j_1, j_2, j_3, j_4, j_5, j_6, j_8, j_9, j_16, j_20, j_24, j_33, j_48, j_49, j_57, j_58, j_82, j_83, j_100, j_131, j_179, j_227, j_275, j_512, j_825, j_999, j_1000, j_9999, j_10000, j_11000, j_65536, j_m1, jI_add, jI_sub, jI_mul, jI_neg, nca_9, nca_33, nca_58, nca_83, nca_131, nca_179, nca_227, nca_825, nca_4, nca_24, nca_275, ncb_1, ncb_275, ncb_24, nc_1add, Int.toNat_natCast, tz_0, tz_1, tz_2, tz_3, tz_4, tz_5, tz_6, tz_8, tz_9, tz_16, tz_20, tz_24, tz_33, tz_48, tz_49, tz_57, tz_58, tz_82, tz_83, tz_100, tz_131, tz_179, tz_227, tz_275, tz_512, tz_825, tz_999, tz_1000, tz_9999, tz_10000, tz_11000, tz_65536, nc_sub1, i_lt, n_lt, i_eq, n_eq, jI_natc, jI_nat, ck_ok, nc_lt, nc_le, if_true, if_false, Option.bind_some, wr_def, and_true, true_and, and_false, false_and, or_true, true_or, or_false, false_or, not_true, not_false_eq_true, not_true_eq_false, ite_true, ite_false, Nat.zero_add, Nat.add_zero, Int.add_zero, Int.zero_add, Int.sub_zero, up_eq, up_ne, up_i, up_j, h6]
    · rw [hV j (by omega)]
      by_cases c : s ≤ j
      · rw [if_pos ⟨by omega, c⟩, if_pos c]
      · rw [if_neg (fun q => c q.2), if_neg c]
  | succ m ih =>
    intro i x1 μ hi hs h6 hV
    have v1 := hV (i + 1) (by omega)
    rw [if_neg (by omega)] at v1
    obtain ⟨μ', a1, a2, a3, a4⟩ := ih (i + 1) x1 (mm_up μ 50 0 (58 + i) (V (i + 1))) (by omega) (by omega) (by simp (disch := omega) only [j_0, j_1, j_2, j_3, j_4, j_5, j_6, j_8, j_9, j_16, j_20, j_24, j_33, j_48, j_49, j_57, j_58, j_82, j_83, j_100, j_131, j_179, j_227, j_275, j_512, j_825, j_999, j_1000, j_9999, j_10000, j_11000, j_65536, j_m1, jI_add, jI_sub, jI_mul, jI_neg, nca_9, nca_33, nca_58, nca_83, nca_131, nca_179, nca_227, nca_825, nca_4, nca_24, nca_275, ncb_1, ncb_275, ncb_24, nc_1add, Int.toNat_natCast, tz_0, tz_1, tz_2, tz_3, tz_4, tz_5, tz_6, tz_8, tz_9, tz_16, tz_20, tz_24, tz_33, tz_48, tz_49, tz_57, tz_58, tz_82, tz_83, tz_100, tz_131, tz_179, tz_227, tz_275, tz_512, tz_825, tz_999, tz_1000, tz_9999, tz_10000, tz_11000, tz_65536, nc_sub1, i_lt, n_lt, i_eq, n_eq, jI_natc, jI_nat, ck_ok, nc_lt, nc_le, if_true, if_false, Option.bind_some, wr_def, and_true, true_and, and_false, false_and, or_true, true_or, or_false, false_or, not_true, not_false_eq_true, not_true_eq_false, ite_true, ite_false, Nat.zero_add, Nat.add_zero, Int.add_zero, Int.zero_add, Int.sub_zero, up_eq, up_ne, up_i, up_j, h6]) (fun j hj => by
      by_cases c : j = i
      · subst c; rw [up_eq, if_pos ⟨by omega, hs⟩]
      · rw [up_j (by omega), hV j hj]
        by_cases d : j < i ∧ s ≤ j
        · rw [if_pos d, if_pos ⟨by omega, d.2⟩]
        · rw [if_neg d, if_neg (fun q => d ⟨by omega, q.2⟩)])
    refine ⟨μ', ?_, a2, fun k i' hk => (a3 k i' hk).trans (by rw [up_ne (by omega)]), fun t ht => (a4 t ht).trans (by rw [up_j (by omega)])⟩
    rw [← a1, e_X8_boreGoes_40]
    have e1 : (58 : Int32) + jI (i : Int) = jI ((58 + i : Nat) : Int) := by rw [j_58, jI_add]; rfl
    have e2 : jI ((58 + i : Nat) : Int) + 1 = jI ((58 + (i + 1) : Nat) : Int) := by rw [j_1, jI_add]; congr 1
    simp only [e1, e2]
    simp (disch := omega) only [j_0, j_1, j_2, j_3, j_4, j_5, j_6, j_8, j_9, j_16, j_20, j_24, j_33, j_48, j_49, j_57, j_58, j_82, j_83, j_100, j_131, j_179, j_227, j_275, j_512, j_825, j_999, j_1000, j_9999, j_10000, j_11000, j_65536, j_m1, jI_add, jI_sub, jI_mul, jI_neg, nca_9, nca_33, nca_58, nca_83, nca_131, nca_179, nca_227, nca_825, nca_4, nca_24, nca_275, ncb_1, ncb_275, ncb_24, nc_1add, Int.toNat_natCast, tz_0, tz_1, tz_2, tz_3, tz_4, tz_5, tz_6, tz_8, tz_9, tz_16, tz_20, tz_24, tz_33, tz_48, tz_49, tz_57, tz_58, tz_82, tz_83, tz_100, tz_131, tz_179, tz_227, tz_275, tz_512, tz_825, tz_999, tz_1000, tz_9999, tz_10000, tz_11000, tz_65536, nc_sub1, i_lt, n_lt, i_eq, n_eq, jI_natc, jI_nat, ck_ok, nc_lt, nc_le, if_true, if_false, Option.bind_some, wr_def, and_true, true_and, and_false, false_and, or_true, true_or, or_false, false_or, not_true, not_false_eq_true, not_true_eq_false, ite_true, ite_false, Nat.zero_add, Nat.add_zero, Int.add_zero, Int.zero_add, Int.sub_zero, up_eq, up_ne, up_i, up_j, h6, v1]
theorem m_dropS {σ : sT} {μ : mM} (h : mL σ μ) (hw : wf σ) {s : Nat} (hs : s < sNs σ) : ∃ μ', f_X8_shaftGoes [vr 8 0, vi (jI (s : Int))] μ = some (0, μ') ∧ mL (remS σ s) μ' ∧ frV μ μ' := by
  have hn := hw.1
  have hn3 := hw.2.2.1
  have hb := hw.2.2.2.1 s hs
  have hso := m_sort0 (mSt_0.mp h).1 hw.k (sG σ s) (sZ σ s) (by omega) (by omega)
  obtain ⟨k, k1, k2, k3, k4⟩ : ∃ k, k < sNk σ ∧ sIx σ (sG σ s) (sZ σ s) = (k : Int) ∧ sKg σ k = sG σ s ∧ sKz σ k = sZ σ s := by
    rcases sIx_c (σ := σ) (sG σ s) (sZ σ s) with ⟨-, e⟩ | e
    · obtain ⟨t, t1, t2, t3⟩ := hw.2.2.2.2.2.2.2.2.1 s hs
      exact absurd ⟨t2, t3⟩ (e t t1)
    · exact e
  rw [k2] at hso
  obtain ⟨c1, c2, c3, c4, c5, c6, c7, c8, c9, c10, c11, c12⟩ := h
  have hc := c12 k k1
  rw [k3, k4] at hc
  have hrm := fun g z => sCnt_remS hs g z
  have hrk := hrm (sG σ s) (sZ σ s)
  rw [if_pos ⟨rfl, rfl⟩] at hrk
  have em : jI (sNs σ : Int) - 1 = jI ((sNs σ - 1 : Nat) : Int) := by rw [j_1, jI_sub]; congr 1; omega
  have ec : jI (sCnt σ (sG σ s) (sZ σ s) : Int) - 1 = jI (sCnt (remS σ s) (sG σ s) (sZ σ s) : Int) := by rw [j_1, jI_sub]; congr 1; omega
  obtain ⟨μ', a1, a2, a2', a3, a4⟩ := m_dropLoopS (n := sNs σ - 1) (s := s) (by omega) (fun j => μ 50 0 (9 + j)) (fun j => μ 50 0 (33 + j)) (sNs σ - 1 - s) s (vi (jI (s : Int))) (mm_up (mm_up μ 50 0 (179 + k) (jI (sCnt (remS σ s) (sG σ s) (sZ σ s) : Int))) 50 0 8 (jI ((sNs σ - 1 : Nat) : Int))) (by omega) (Nat.le_refl _) (by simp (disch := omega) only [j_0, j_1, j_2, j_3, j_4, j_5, j_6, j_8, j_9, j_16, j_20, j_24, j_33, j_48, j_49, j_57, j_58, j_82, j_83, j_100, j_131, j_179, j_227, j_275, j_512, j_825, j_999, j_1000, j_9999, j_10000, j_11000, j_65536, j_m1, jI_add, jI_sub, jI_mul, jI_neg, nca_9, nca_33, nca_58, nca_83, nca_131, nca_179, nca_227, nca_825, nca_4, nca_24, nca_275, ncb_1, ncb_275, ncb_24, nc_1add, Int.toNat_natCast, tz_0, tz_1, tz_2, tz_3, tz_4, tz_5, tz_6, tz_8, tz_9, tz_16, tz_20, tz_24, tz_33, tz_48, tz_49, tz_57, tz_58, tz_82, tz_83, tz_100, tz_131, tz_179, tz_227, tz_275, tz_512, tz_825, tz_999, tz_1000, tz_9999, tz_10000, tz_11000, tz_65536, nc_sub1, i_lt, n_lt, i_eq, n_eq, jI_natc, jI_nat, ck_ok, nc_lt, nc_le, if_true, if_false, Option.bind_some, wr_def, and_true, true_and, and_false, false_and, or_true, true_or, or_false, false_or, not_true, not_false_eq_true, not_true_eq_false, ite_true, ite_false, Nat.zero_add, Nat.add_zero, Int.add_zero, Int.zero_add, Int.sub_zero, up_eq, up_ne, up_i, up_j]) (fun j hj => by rw [if_neg (by omega)]; simp (disch := omega) only [j_0, j_1, j_2, j_3, j_4, j_5, j_6, j_8, j_9, j_16, j_20, j_24, j_33, j_48, j_49, j_57, j_58, j_82, j_83, j_100, j_131, j_179, j_227, j_275, j_512, j_825, j_999, j_1000, j_9999, j_10000, j_11000, j_65536, j_m1, jI_add, jI_sub, jI_mul, jI_neg, nca_9, nca_33, nca_58, nca_83, nca_131, nca_179, nca_227, nca_825, nca_4, nca_24, nca_275, ncb_1, ncb_275, ncb_24, nc_1add, Int.toNat_natCast, tz_0, tz_1, tz_2, tz_3, tz_4, tz_5, tz_6, tz_8, tz_9, tz_16, tz_20, tz_24, tz_33, tz_48, tz_49, tz_57, tz_58, tz_82, tz_83, tz_100, tz_131, tz_179, tz_227, tz_275, tz_512, tz_825, tz_999, tz_1000, tz_9999, tz_10000, tz_11000, tz_65536, nc_sub1, i_lt, n_lt, i_eq, n_eq, jI_natc, jI_nat, ck_ok, nc_lt, nc_le, if_true, if_false, Option.bind_some, wr_def, and_true, true_and, and_false, false_and, or_true, true_or, or_false, false_or, not_true, not_false_eq_true, not_true_eq_false, ite_true, ite_false, Nat.zero_add, Nat.add_zero, Int.add_zero, Int.zero_add, Int.sub_zero, up_eq, up_ne, up_i, up_j]) (fun j hj => by rw [if_neg (by omega)]; simp (disch := omega) only [j_0, j_1, j_2, j_3, j_4, j_5, j_6, j_8, j_9, j_16, j_20, j_24, j_33, j_48, j_49, j_57, j_58, j_82, j_83, j_100, j_131, j_179, j_227, j_275, j_512, j_825, j_999, j_1000, j_9999, j_10000, j_11000, j_65536, j_m1, jI_add, jI_sub, jI_mul, jI_neg, nca_9, nca_33, nca_58, nca_83, nca_131, nca_179, nca_227, nca_825, nca_4, nca_24, nca_275, ncb_1, ncb_275, ncb_24, nc_1add, Int.toNat_natCast, tz_0, tz_1, tz_2, tz_3, tz_4, tz_5, tz_6, tz_8, tz_9, tz_16, tz_20, tz_24, tz_33, tz_48, tz_49, tz_57, tz_58, tz_82, tz_83, tz_100, tz_131, tz_179, tz_227, tz_275, tz_512, tz_825, tz_999, tz_1000, tz_9999, tz_10000, tz_11000, tz_65536, nc_sub1, i_lt, n_lt, i_eq, n_eq, jI_natc, jI_nat, ck_ok, nc_lt, nc_le, if_true, if_false, Option.bind_some, wr_def, and_true, true_and, and_false, false_and, or_true, true_or, or_false, false_or, not_true, not_false_eq_true, not_true_eq_false, ite_true, ite_false, Nat.zero_add, Nat.add_zero, Int.add_zero, Int.zero_add, Int.sub_zero, up_eq, up_ne, up_i, up_j])
  refine ⟨μ', ?_, ⟨?_, ?_, ?_, fun j hj => ?_, fun j hj => ?_, fun j hj => ?_, fun j hj => ?_, fun j hj => ?_, fun j hj => ?_, fun j hj => ?_, fun j hj => ?_, fun j hj => ?_⟩, fun k' i hk => ?_, fun t ht => ?_⟩
  · have p1 := c4 s hs
    have p2 := c5 s hs
    rw [← a1, e_X8_shaftGoes]
    simp (disch := omega) only [j_0, j_1, j_2, j_3, j_4, j_5, j_6, j_8, j_9, j_16, j_20, j_24, j_33, j_48, j_49, j_57, j_58, j_82, j_83, j_100, j_131, j_179, j_227, j_275, j_512, j_825, j_999, j_1000, j_9999, j_10000, j_11000, j_65536, j_m1, jI_add, jI_sub, jI_mul, jI_neg, nca_9, nca_33, nca_58, nca_83, nca_131, nca_179, nca_227, nca_825, nca_4, nca_24, nca_275, ncb_1, ncb_275, ncb_24, nc_1add, Int.toNat_natCast, tz_0, tz_1, tz_2, tz_3, tz_4, tz_5, tz_6, tz_8, tz_9, tz_16, tz_20, tz_24, tz_33, tz_48, tz_49, tz_57, tz_58, tz_82, tz_83, tz_100, tz_131, tz_179, tz_227, tz_275, tz_512, tz_825, tz_999, tz_1000, tz_9999, tz_10000, tz_11000, tz_65536, nc_sub1, i_lt, n_lt, i_eq, n_eq, jI_natc, jI_nat, ck_ok, nc_lt, nc_le, if_true, if_false, Option.bind_some, wr_def, and_true, true_and, and_false, false_and, or_true, true_or, or_false, false_or, not_true, not_false_eq_true, not_true_eq_false, ite_true, ite_false, Nat.zero_add, Nat.add_zero, Int.add_zero, Int.zero_add, Int.sub_zero, up_eq, up_ne, up_i, up_j, p1, p2, hso, hc, c1]
    rw [show sCnt σ (sG σ s) (sZ σ s) - 1 = sCnt (remS σ s) (sG σ s) (sZ σ s) by omega]
  · rw [a4 8 (by omega), up_eq]; rfl
  · rw [a4 57 (by omega), up_j (by omega), up_j (by omega)]; exact c2
  · rw [a4 82 (by omega), up_j (by omega), up_j (by omega)]; exact c3
  · have hj' : j < sNs σ - 1 := hj
    show _ = jI (dl (sG σ) s j)
    rw [a2 j hj']
    unfold dl
    by_cases c : j < s
    · rw [if_neg (by omega), if_pos c]; exact c4 j (by omega)
    · rw [if_pos (by omega), if_neg c]; exact c4 (j + 1) (by omega)
  · have hj' : j < sNs σ - 1 := hj
    show _ = jI (dl (sZ σ) s j)
    rw [a2' j hj']
    unfold dl
    by_cases c : j < s
    · rw [if_neg (by omega), if_pos c]; exact c5 j (by omega)
    · rw [if_pos (by omega), if_neg c]; exact c5 (j + 1) (by omega)
  · rw [a4 (58 + j) (by omega), up_j (by omega), up_j (by have hj' : j < sNb σ := hj; have := hw.2.1; omega)]; exact c6 j hj
  · rw [a4 j (by omega), up_j (by omega), up_j (by omega)]; exact c7 j hj
  · rw [a4 (4 + j) (by omega), up_j (by omega), up_j (by omega)]; exact c8 j hj
  · rw [a4 (83 + j) (by omega), up_j (by omega), up_j (by have hj' : j < sNk σ := hj; omega)]; exact c9 j hj
  · rw [a4 (131 + j) (by omega), up_j (by omega), up_j (by have hj' : j < sNk σ := hj; omega)]; exact c10 j hj
  · rw [a4 (227 + j) (by omega), up_j (by omega), up_j (by omega)]; exact c11 j hj
  · have hj' : j < sNk σ := hj
    show _ = jI (sCnt (remS σ s) (sKg σ j) (sKz σ j) : Int)
    rw [a4 (179 + j) (by omega), up_j (by omega)]
    by_cases c : j = k
    · rw [c, up_eq, k3, k4]
    · rw [up_j (by omega), c12 j hj']
      have := hrm (sKg σ j) (sKz σ j)
      rw [if_neg (fun q => c (hw.2.2.2.2.2.2.2.1 j k hj' k1 (q.1.symm.trans k3.symm) (q.2.symm.trans k4.symm)))] at this
      congr 2
      omega
  · rw [a3 k' i hk, up_ne (by omega), up_ne (by omega)]
  · rw [a4 t (by omega), up_j (by omega), up_j (by omega)]
theorem m_dropB {σ : sT} {μ : mM} (h : mL σ μ) (hw : wf σ) {s : Nat} (hs : s < sNb σ) : ∃ μ', f_X8_boreGoes [vr 8 0, vi (jI (s : Int))] μ = some (0, μ') ∧ mL (remB σ s) μ' ∧ frV μ μ' := by
  have hn := hw.2.1
  have hn3 := hw.2.2.1
  have hb := hw.2.2.2.2.1 s hs
  have hso := m_sort0 (mSt_0.mp h).1 hw.k 4 (sB σ s) (by omega) (by omega)
  obtain ⟨k, k1, k2, k3, k4⟩ : ∃ k, k < sNk σ ∧ sIx σ 4 (sB σ s) = (k : Int) ∧ sKg σ k = 4 ∧ sKz σ k = sB σ s := by
    rcases sIx_c (σ := σ) 4 (sB σ s) with ⟨-, e⟩ | e
    · obtain ⟨t, t1, t2, t3⟩ := hw.2.2.2.2.2.2.2.2.2 s hs
      exact absurd ⟨t2, t3⟩ (e t t1)
    · exact e
  rw [k2] at hso
  obtain ⟨c1, c2, c3, c4, c5, c6, c7, c8, c9, c10, c11, c12⟩ := h
  have hc := c12 k k1
  rw [k3, k4] at hc
  have hrm := fun g z => sCnt_remB hs g z
  have hrk := hrm 4 (sB σ s)
  rw [if_pos ⟨rfl, rfl⟩] at hrk
  obtain ⟨μ', a1, a2, a3, a4⟩ := m_dropLoopB (n := sNb σ - 1) (s := s) (by omega) (fun j => μ 50 0 (58 + j)) (sNb σ - 1 - s) s (vi (jI (s : Int))) (mm_up (mm_up μ 50 0 (179 + k) (jI (sCnt (remB σ s) 4 (sB σ s) : Int))) 50 0 57 (jI ((sNb σ - 1 : Nat) : Int))) (by omega) (Nat.le_refl _) (by simp (disch := omega) only [j_0, j_1, j_2, j_3, j_4, j_5, j_6, j_8, j_9, j_16, j_20, j_24, j_33, j_48, j_49, j_57, j_58, j_82, j_83, j_100, j_131, j_179, j_227, j_275, j_512, j_825, j_999, j_1000, j_9999, j_10000, j_11000, j_65536, j_m1, jI_add, jI_sub, jI_mul, jI_neg, nca_9, nca_33, nca_58, nca_83, nca_131, nca_179, nca_227, nca_825, nca_4, nca_24, nca_275, ncb_1, ncb_275, ncb_24, nc_1add, Int.toNat_natCast, tz_0, tz_1, tz_2, tz_3, tz_4, tz_5, tz_6, tz_8, tz_9, tz_16, tz_20, tz_24, tz_33, tz_48, tz_49, tz_57, tz_58, tz_82, tz_83, tz_100, tz_131, tz_179, tz_227, tz_275, tz_512, tz_825, tz_999, tz_1000, tz_9999, tz_10000, tz_11000, tz_65536, nc_sub1, i_lt, n_lt, i_eq, n_eq, jI_natc, jI_nat, ck_ok, nc_lt, nc_le, if_true, if_false, Option.bind_some, wr_def, and_true, true_and, and_false, false_and, or_true, true_or, or_false, false_or, not_true, not_false_eq_true, not_true_eq_false, ite_true, ite_false, Nat.zero_add, Nat.add_zero, Int.add_zero, Int.zero_add, Int.sub_zero, up_eq, up_ne, up_i, up_j]) (fun j hj => by rw [if_neg (by omega)]; simp (disch := omega) only [j_0, j_1, j_2, j_3, j_4, j_5, j_6, j_8, j_9, j_16, j_20, j_24, j_33, j_48, j_49, j_57, j_58, j_82, j_83, j_100, j_131, j_179, j_227, j_275, j_512, j_825, j_999, j_1000, j_9999, j_10000, j_11000, j_65536, j_m1, jI_add, jI_sub, jI_mul, jI_neg, nca_9, nca_33, nca_58, nca_83, nca_131, nca_179, nca_227, nca_825, nca_4, nca_24, nca_275, ncb_1, ncb_275, ncb_24, nc_1add, Int.toNat_natCast, tz_0, tz_1, tz_2, tz_3, tz_4, tz_5, tz_6, tz_8, tz_9, tz_16, tz_20, tz_24, tz_33, tz_48, tz_49, tz_57, tz_58, tz_82, tz_83, tz_100, tz_131, tz_179, tz_227, tz_275, tz_512, tz_825, tz_999, tz_1000, tz_9999, tz_10000, tz_11000, tz_65536, nc_sub1, i_lt, n_lt, i_eq, n_eq, jI_natc, jI_nat, ck_ok, nc_lt, nc_le, if_true, if_false, Option.bind_some, wr_def, and_true, true_and, and_false, false_and, or_true, true_or, or_false, false_or, not_true, not_false_eq_true, not_true_eq_false, ite_true, ite_false, Nat.zero_add, Nat.add_zero, Int.add_zero, Int.zero_add, Int.sub_zero, up_eq, up_ne, up_i, up_j])
  refine ⟨μ', ?_, ⟨?_, ?_, ?_, fun j hj => ?_, fun j hj => ?_, fun j hj => ?_, fun j hj => ?_, fun j hj => ?_, fun j hj => ?_, fun j hj => ?_, fun j hj => ?_, fun j hj => ?_⟩, fun k' i hk => ?_, fun t ht => ?_⟩
  · have p1 := c6 s hs
    rw [← a1, e_X8_boreGoes]
    simp (disch := omega) only [j_0, j_1, j_2, j_3, j_4, j_5, j_6, j_8, j_9, j_16, j_20, j_24, j_33, j_48, j_49, j_57, j_58, j_82, j_83, j_100, j_131, j_179, j_227, j_275, j_512, j_825, j_999, j_1000, j_9999, j_10000, j_11000, j_65536, j_m1, jI_add, jI_sub, jI_mul, jI_neg, nca_9, nca_33, nca_58, nca_83, nca_131, nca_179, nca_227, nca_825, nca_4, nca_24, nca_275, ncb_1, ncb_275, ncb_24, nc_1add, Int.toNat_natCast, tz_0, tz_1, tz_2, tz_3, tz_4, tz_5, tz_6, tz_8, tz_9, tz_16, tz_20, tz_24, tz_33, tz_48, tz_49, tz_57, tz_58, tz_82, tz_83, tz_100, tz_131, tz_179, tz_227, tz_275, tz_512, tz_825, tz_999, tz_1000, tz_9999, tz_10000, tz_11000, tz_65536, nc_sub1, i_lt, n_lt, i_eq, n_eq, jI_natc, jI_nat, ck_ok, nc_lt, nc_le, if_true, if_false, Option.bind_some, wr_def, and_true, true_and, and_false, false_and, or_true, true_or, or_false, false_or, not_true, not_false_eq_true, not_true_eq_false, ite_true, ite_false, Nat.zero_add, Nat.add_zero, Int.add_zero, Int.zero_add, Int.sub_zero, up_eq, up_ne, up_i, up_j, p1, hso, hc, c2]
    rw [show sCnt σ 4 (sB σ s) - 1 = sCnt (remB σ s) 4 (sB σ s) by omega]
  · rw [a4 8 (by omega), up_j (by omega), up_j (by omega)]; exact c1
  · rw [a4 57 (by omega), up_eq]; rfl
  · rw [a4 82 (by omega), up_j (by omega), up_j (by omega)]; exact c3
  · have hj' : j < sNs σ := hj
    have := hw.1
    rw [a4 (9 + j) (by omega), up_j (by omega), up_j (by omega)]; exact c4 j hj
  · have hj' : j < sNs σ := hj
    have := hw.1
    rw [a4 (33 + j) (by omega), up_j (by omega), up_j (by omega)]; exact c5 j hj
  · have hj' : j < sNb σ - 1 := hj
    show _ = jI (dl (sB σ) s j)
    rw [a2 j hj']
    unfold dl
    by_cases c : j < s
    · rw [if_neg (by omega), if_pos c]; exact c6 j (by omega)
    · rw [if_pos (by omega), if_neg c]; exact c6 (j + 1) (by omega)
  · rw [a4 j (by omega), up_j (by omega), up_j (by omega)]; exact c7 j hj
  · rw [a4 (4 + j) (by omega), up_j (by omega), up_j (by omega)]; exact c8 j hj
  · rw [a4 (83 + j) (by omega), up_j (by omega), up_j (by have hj' : j < sNk σ := hj; omega)]; exact c9 j hj
  · rw [a4 (131 + j) (by omega), up_j (by omega), up_j (by have hj' : j < sNk σ := hj; omega)]; exact c10 j hj
  · rw [a4 (227 + j) (by omega), up_j (by omega), up_j (by omega)]; exact c11 j hj
  · have hj' : j < sNk σ := hj
    show _ = jI (sCnt (remB σ s) (sKg σ j) (sKz σ j) : Int)
    rw [a4 (179 + j) (by omega), up_j (by omega)]
    by_cases c : j = k
    · rw [c, up_eq, k3, k4]
    · rw [up_j (by omega), c12 j hj']
      have := hrm (sKg σ j) (sKz σ j)
      rw [if_neg (fun q => c (hw.2.2.2.2.2.2.2.1 j k hj' k1 (q.1.symm.trans k3.symm) (q.2.symm.trans k4.symm)))] at this
      congr 2
      omega
  · rw [a3 k' i hk, up_ne (by omega), up_ne (by omega)]
  · rw [a4 t (by omega), up_j (by omega), up_j (by omega)]
