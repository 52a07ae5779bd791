theorem mW_zero {σ : sT} {π : Nat → Nat} {k : Nat} {μ : mM} (hN : pN σ ≤ 48) (hk : k ≤ 9) (hz : ∀ t, t < 490 → μ 60 0 t = jI 0) : mW σ π k 1 1 μ := by
  intro b' i' h1 h2 h3
  rw [hz _ (by omega)]
  rcases h3 with h | ⟨h, h'⟩ | h | h
  · have : b' = 0 := by omega
    rw [this]; rfl
  · have : i' = 0 := by omega
    rw [this, bW_0]
  · rw [h]; rfl
  · rw [h, bW_0]
theorem m_boxes {σ : sT} {μ : mM} (h : mL σ μ) (hw : wf σ) {k : Nat} (hk : k ≤ 9) : ∃ π μ', srt (pK σ) (fun _ => 0) π (pN σ) ∧ f_X8_boxes [vr 8 0, vi (jI (k : Int))] μ = some (jI (bW σ π k (pN σ)), μ') ∧ (∀ k' i, ¬ (k' = 59 ∨ k' = 60) → μ' k' i = μ k' i) := by
  have hN : pN σ ≤ 48 := by have := hw.1; have := hw.2.1; unfold pN; omega
  obtain ⟨μ1, π, a1, a2, a3, a4⟩ := m_lines h hw
  have l22 : ∀ (n t : Nat) (μ1 : mM), t + n = 490 → (∀ s, s < t → μ1 60 0 s = jI 0) → ∃ μ', r_X8_boxes_22 (jI (k : Int)) (jI (pN σ : Int)) (jI (t : Int)) μ1 = r_X8_boxes_44 (jI (k : Int)) (jI (pN σ : Int)) (jI ((1 : Nat) : Int)) vu vu vu vu vu vu vu μ' ∧ (∀ s, s < 490 → μ' 60 0 s = jI 0) ∧ (∀ k' i, k' ≠ 60 → μ' k' i = μ1 k' i) := by
    intro n
    induction n with
    | zero =>
      intro t μ1 ht hz
      refine ⟨μ1, ?_, fun s hs => hz s (by omega), fun _ _ _ => rfl⟩
      rw [e_X8_boxes_22, show (490 : Int32) = jI 490 by decide]
      simp (disch := omega) only [j_0, j_1, j_2, j_3, j_4, j_5, j_6, j_8, j_9, j_16, j_20, j_24, j_33, j_48, j_49, j_57, j_58, j_82, j_83, j_100, j_131, j_179, j_227, j_275, j_512, j_825, j_999, j_1000, j_9999, j_10000, j_11000, j_65536, j_m1, jI_add, jI_sub, jI_mul, jI_neg, nca_9, nca_33, nca_58, nca_83, nca_131, nca_179, nca_227, nca_825, nca_4, nca_24, nca_275, ncb_1, ncb_275, ncb_24, nc_1add, Int.toNat_natCast, tz_0, tz_1, tz_2, tz_3, tz_4, tz_5, tz_6, tz_8, tz_9, tz_16, tz_20, tz_24, tz_33, tz_48, tz_49, tz_57, tz_58, tz_82, tz_83, tz_100, tz_131, tz_179, tz_227, tz_275, tz_512, tz_825, tz_999, tz_1000, tz_9999, tz_10000, tz_11000, tz_65536, nc_sub1, i_lt, n_lt, i_eq, n_eq, jI_natc, jI_nat, ck_ok, nc_lt, nc_le, if_true, if_false, Option.bind_some, wr_def, and_true, true_and, and_false, false_and, or_true, true_or, or_false, false_or, not_true, not_false_eq_true, not_true_eq_false, ite_true, ite_false, Nat.zero_add, Nat.add_zero, Int.add_zero, Int.zero_add, Int.sub_zero, up_eq, up_ne, up_i, up_j]
      rfl
    | succ n ih =>
      intro t μ1 ht hz
      obtain ⟨μ', b1, b2, b3⟩ := ih (t + 1) (mm_up μ1 60 0 t (jI 0)) (by omega) (fun s hs => by
        by_cases c : s = t
        · rw [c, up_eq]
        · rw [up_j (by omega)]; exact hz s (by omega))
      refine ⟨μ', ?_, b2, fun k' i hk' => (b3 k' i hk').trans (by rw [up_ne (by omega)])⟩
      rw [← b1, e_X8_boxes_22, show (490 : Int32) = jI 490 by decide]
      simp (disch := omega) only [j_0, j_1, j_2, j_3, j_4, j_5, j_6, j_8, j_9, j_16, j_20, j_24, j_33, j_48, j_49, j_57, j_58, j_82, j_83, j_100, j_131, j_179, j_227, j_275, j_512, j_825, j_999, j_1000, j_9999, j_10000, j_11000, j_65536, j_m1, jI_add, jI_sub, jI_mul, jI_neg, nca_9, nca_33, nca_58, nca_83, nca_131, nca_179, nca_227, nca_825, nca_4, nca_24, nca_275, ncb_1, ncb_275, ncb_24, nc_1add, Int.toNat_natCast, tz_0, tz_1, tz_2, tz_3, tz_4, tz_5, tz_6, tz_8, tz_9, tz_16, tz_20, tz_24, tz_33, tz_48, tz_49, tz_57, tz_58, tz_82, tz_83, tz_100, tz_131, tz_179, tz_227, tz_275, tz_512, tz_825, tz_999, tz_1000, tz_9999, tz_10000, tz_11000, tz_65536, nc_sub1, i_lt, n_lt, i_eq, n_eq, jI_natc, jI_nat, ck_ok, nc_lt, nc_le, if_true, if_false, Option.bind_some, wr_def, and_true, true_and, and_false, false_and, or_true, true_or, or_false, false_or, not_true, not_false_eq_true, not_true_eq_false, ite_true, ite_false, Nat.zero_add, Nat.add_zero, Int.add_zero, Int.zero_add, Int.sub_zero, up_eq, up_ne, up_i, up_j]
  have l52 : ∀ (n b i : Nat) (x5 x6 x7 x8 x9 x10 : mV) (μ1 : mM), i + n = pN σ + 1 → 1 ≤ i → 1 ≤ b → b ≤ k → mL σ μ1 → lnR σ (pN σ) π μ1 → mW σ π k b i μ1 → ∃ y4 y5 y6 y7 y8 y9 y10 μ', r_X8_boxes_52 (jI (k : Int)) (jI (pN σ : Int)) (jI (b : Int)) (jI (i : Int)) x5 x6 x7 x8 x9 x10 μ1 = r_X8_boxes_44 (jI (k : Int)) (jI (pN σ : Int)) (jI ((b + 1 : Nat) : Int)) y4 y5 y6 y7 y8 y9 y10 μ' ∧ mW σ π k (b + 1) 1 μ' ∧ (∀ k' i, k' ≠ 60 → μ' k' i = μ1 k' i) := by
    intro n
    induction n with
    | zero =>
      intro b i x5 x6 x7 x8 x9 x10 μ1 hi h1 hb hbk hm hL hW
      refine ⟨vi (jI (i : Int)), x5, x6, x7, x8, x9, x10, μ1, ?_, fun b' i' g1 g2 g3 => hW b' i' g1 g2 (by omega), fun _ _ _ => rfl⟩
      rw [e_X8_boxes_52]
      simp (disch := omega) only [j_0, j_1, j_2, j_3, j_4, j_5, j_6, j_8, j_9, j_16, j_20, j_24, j_33, j_48, j_49, j_57, j_58, j_82, j_83, j_100, j_131, j_179, j_227, j_275, j_512, j_825, j_999, j_1000, j_9999, j_10000, j_11000, j_65536, j_m1, jI_add, jI_sub, jI_mul, jI_neg, nca_9, nca_33, nca_58, nca_83, nca_131, nca_179, nca_227, nca_825, nca_4, nca_24, nca_275, ncb_1, ncb_275, ncb_24, nc_1add, Int.toNat_natCast, tz_0, tz_1, tz_2, tz_3, tz_4, tz_5, tz_6, tz_8, tz_9, tz_16, tz_20, tz_24, tz_33, tz_48, tz_49, tz_57, tz_58, tz_82, tz_83, tz_100, tz_131, tz_179, tz_227, tz_275, tz_512, tz_825, tz_999, tz_1000, tz_9999, tz_10000, tz_11000, tz_65536, nc_sub1, i_lt, n_lt, i_eq, n_eq, jI_natc, jI_nat, ck_ok, nc_lt, nc_le, if_true, if_false, Option.bind_some, wr_def, and_true, true_and, and_false, false_and, or_true, true_or, or_false, false_or, not_true, not_false_eq_true, not_true_eq_false, ite_true, ite_false, Nat.zero_add, Nat.add_zero, Int.add_zero, Int.zero_add, Int.sub_zero, up_eq, up_ne, up_i, up_j]
    | succ n ih =>
      intro b i x5 x6 x7 x8 x9 x10 μ1 hi h1 hb hbk hm hL hW
      have wv := hW b (i - 1) hbk (by omega) (by omega)
      have wb := bW_bd (σ := σ) (π := π) b (i - 1) (by omega)
      obtain ⟨y5, y6, y7, y8, y9, y10, q⟩ := m_last hm hw hk ⟨hb, hbk⟩ ⟨h1, by omega⟩ a3.1 hL hW i (bW σ π b (i - 1)) x10 (Nat.le_refl _) okP_e wb.1 wb.2
      have ebx : bx σ π (bW σ π (b - 1)) i i (bW σ π b (i - 1)) = bW σ π b i := by
        have e1 : bW σ π b = rowN σ π (bW σ π (b - 1)) := by
          have : b = (b - 1) + 1 := by omega
          rw [this]; rfl
        have e2 : rowN σ π (bW σ π (b - 1)) i = bx σ π (bW σ π (b - 1)) i i (rowN σ π (bW σ π (b - 1)) (i - 1)) := by
          have : i = (i - 1) + 1 := by omega
          rw [this]; rfl
        rw [e1, e2]
      rw [ebx] at q
      obtain ⟨z4, z5, z6, z7, z8, z9, z10, μ', c1, c2, c3⟩ := ih b (i + 1) y5 y6 y7 y8 y9 y10 (mm_up μ1 60 0 (49 * b + i) (jI (bW σ π b i))) (by omega) (by omega) hb hbk (by unfold mL at *; rw [up_ne (by omega)]; exact hm) (by unfold lnR at *; rw [up_ne (by omega)]; exact hL) (fun b' i' g1 g2 g3 => by
        by_cases c : b' = b ∧ i' = i
        · obtain ⟨rfl, rfl⟩ := c
          rw [up_eq]
        · rw [up_j (by omega)]
          exact hW b' i' g1 g2 (by omega))
      refine ⟨z4, z5, z6, z7, z8, z9, z10, μ', ?_, c2, fun k' i hk' => (c3 k' i hk').trans (by rw [up_ne (by omega)])⟩
      rw [← c1, ← q, e_X8_boxes_52, cF_e, cF_e]
      have e1 : ((49 : Int32) * jI (b : Int) + jI (i : Int) - 1) = jI ((49 * b + (i - 1) : Nat) : Int) := by
        rw [j_49, j_1, jI_mul, jI_add, jI_sub]; congr 1; omega
      have e2 : jI (i : Int) - 1 = jI ((i : Int) - 1) := by rw [j_1, jI_sub]
      rw [e1, e2]
      simp (disch := omega) only [j_0, j_1, j_2, j_3, j_4, j_5, j_6, j_8, j_9, j_16, j_20, j_24, j_33, j_48, j_49, j_57, j_58, j_82, j_83, j_100, j_131, j_179, j_227, j_275, j_512, j_825, j_999, j_1000, j_9999, j_10000, j_11000, j_65536, j_m1, jI_add, jI_sub, jI_mul, jI_neg, nca_9, nca_33, nca_58, nca_83, nca_131, nca_179, nca_227, nca_825, nca_4, nca_24, nca_275, ncb_1, ncb_275, ncb_24, nc_1add, Int.toNat_natCast, tz_0, tz_1, tz_2, tz_3, tz_4, tz_5, tz_6, tz_8, tz_9, tz_16, tz_20, tz_24, tz_33, tz_48, tz_49, tz_57, tz_58, tz_82, tz_83, tz_100, tz_131, tz_179, tz_227, tz_275, tz_512, tz_825, tz_999, tz_1000, tz_9999, tz_10000, tz_11000, tz_65536, nc_sub1, i_lt, n_lt, i_eq, n_eq, jI_natc, jI_nat, ck_ok, nc_lt, nc_le, if_true, if_false, Option.bind_some, wr_def, and_true, true_and, and_false, false_and, or_true, true_or, or_false, false_or, not_true, not_false_eq_true, not_true_eq_false, ite_true, ite_false, Nat.zero_add, Nat.add_zero, Int.add_zero, Int.zero_add, Int.sub_zero, up_eq, up_ne, up_i, up_j, wv]
      rfl
  have l44 : ∀ (n b : Nat) (x4 x5 x6 x7 x8 x9 x10 : mV) (μ2 : mM), b + n = k + 1 → 1 ≤ b → (∀ k' i, k' ≠ 60 → μ2 k' i = μ1 k' i) → mW σ π k b 1 μ2 → ∃ μ', r_X8_boxes_44 (jI (k : Int)) (jI (pN σ : Int)) (jI (b : Int)) x4 x5 x6 x7 x8 x9 x10 μ2 = some (jI (bW σ π k (pN σ)), μ') ∧ (∀ k' i, k' ≠ 60 → μ' k' i = μ1 k' i) := by
    intro n
    induction n with
    | zero =>
      intro b x4 x5 x6 x7 x8 x9 x10 μ2 hb h1 hf hW
      refine ⟨μ2, ?_, hf⟩
      have wv := hW k (pN σ) (Nat.le_refl _) (Nat.le_refl _) (by omega)
      have e1 : ((49 : Int32) * jI (k : Int) + jI (pN σ : Int)) = jI ((49 * k + pN σ : Nat) : Int) := by
        rw [j_49, jI_mul, jI_add]; congr 1
      rw [e_X8_boxes_44, e1]
      simp (disch := omega) only [j_0, j_1, j_2, j_3, j_4, j_5, j_6, j_8, j_9, j_16, j_20, j_24, j_33, j_48, j_49, j_57, j_58, j_82, j_83, j_100, j_131, j_179, j_227, j_275, j_512, j_825, j_999, j_1000, j_9999, j_10000, j_11000, j_65536, j_m1, jI_add, jI_sub, jI_mul, jI_neg, nca_9, nca_33, nca_58, nca_83, nca_131, nca_179, nca_227, nca_825, nca_4, nca_24, nca_275, ncb_1, ncb_275, ncb_24, nc_1add, Int.toNat_natCast, tz_0, tz_1, tz_2, tz_3, tz_4, tz_5, tz_6, tz_8, tz_9, tz_16, tz_20, tz_24, tz_33, tz_48, tz_49, tz_57, tz_58, tz_82, tz_83, tz_100, tz_131, tz_179, tz_227, tz_275, tz_512, tz_825, tz_999, tz_1000, tz_9999, tz_10000, tz_11000, tz_65536, nc_sub1, i_lt, n_lt, i_eq, n_eq, jI_natc, jI_nat, ck_ok, nc_lt, nc_le, if_true, if_false, Option.bind_some, wr_def, and_true, true_and, and_false, false_and, or_true, true_or, or_false, false_or, not_true, not_false_eq_true, not_true_eq_false, ite_true, ite_false, Nat.zero_add, Nat.add_zero, Int.add_zero, Int.zero_add, Int.sub_zero, up_eq, up_ne, up_i, up_j, wv]
    | succ n ih =>
      intro b x4 x5 x6 x7 x8 x9 x10 μ2 hb h1 hf hW
      obtain ⟨y4, y5, y6, y7, y8, y9, y10, μ3, c1, c2, c3⟩ := l52 (pN σ) b 1 x5 x6 x7 x8 x9 x10 μ2 (by omega) (Nat.le_refl _) h1 (by omega) (by unfold mL at *; rw [hf 50 0 (by omega), a4 50 0 (by omega)]; exact h) (by unfold lnR at *; rw [hf 59 0 (by omega)]; exact a2) hW
      obtain ⟨μ', d1, d2⟩ := ih (b + 1) y4 y5 y6 y7 y8 y9 y10 μ3 (by omega) (by omega) (fun k' i hk' => (c3 k' i hk').trans (hf k' i hk')) c2
      refine ⟨μ', ?_, d2⟩
      rw [← d1, ← c1, e_X8_boxes_44]
      simp (disch := omega) only [j_0, j_1, j_2, j_3, j_4, j_5, j_6, j_8, j_9, j_16, j_20, j_24, j_33, j_48, j_49, j_57, j_58, j_82, j_83, j_100, j_131, j_179, j_227, j_275, j_512, j_825, j_999, j_1000, j_9999, j_10000, j_11000, j_65536, j_m1, jI_add, jI_sub, jI_mul, jI_neg, nca_9, nca_33, nca_58, nca_83, nca_131, nca_179, nca_227, nca_825, nca_4, nca_24, nca_275, ncb_1, ncb_275, ncb_24, nc_1add, Int.toNat_natCast, tz_0, tz_1, tz_2, tz_3, tz_4, tz_5, tz_6, tz_8, tz_9, tz_16, tz_20, tz_24, tz_33, tz_48, tz_49, tz_57, tz_58, tz_82, tz_83, tz_100, tz_131, tz_179, tz_227, tz_275, tz_512, tz_825, tz_999, tz_1000, tz_9999, tz_10000, tz_11000, tz_65536, nc_sub1, i_lt, n_lt, i_eq, n_eq, jI_natc, jI_nat, ck_ok, nc_lt, nc_le, if_true, if_false, Option.bind_some, wr_def, and_true, true_and, and_false, false_and, or_true, true_or, or_false, false_or, not_true, not_false_eq_true, not_true_eq_false, ite_true, ite_false, Nat.zero_add, Nat.add_zero, Int.add_zero, Int.zero_add, Int.sub_zero, up_eq, up_ne, up_i, up_j]
      rfl
  obtain ⟨μ2, b1, b2, b3⟩ := l22 490 0 μ1 (by omega) (fun s hs => by omega)
  obtain ⟨μ', c1, c2⟩ := l44 k 1 vu vu vu vu vu vu vu μ2 (by omega) (Nat.le_refl _) b3 (mW_zero hN hk b2)
  refine ⟨π, μ', a3, ?_, fun k' i hk' => (c2 k' i (by omega)).trans (a4 k' i (by omega))⟩
  have hin := f_in k 0 9 (by omega) (by omega) (by omega) μ
  rw [if_pos (by omega)] at hin
  have lw := jI_long (z := k) (by omega)
  rw [e_X8_boxes, lw, l_0, l_9, hin]
  rw [← c1, ← b1]
  simp (disch := omega) only [j_0, j_1, j_2, j_3, j_4, j_5, j_6, j_8, j_9, j_16, j_20, j_24, j_33, j_48, j_49, j_57, j_58, j_82, j_83, j_100, j_131, j_179, j_227, j_275, j_512, j_825, j_999, j_1000, j_9999, j_10000, j_11000, j_65536, j_m1, jI_add, jI_sub, jI_mul, jI_neg, nca_9, nca_33, nca_58, nca_83, nca_131, nca_179, nca_227, nca_825, nca_4, nca_24, nca_275, ncb_1, ncb_275, ncb_24, nc_1add, Int.toNat_natCast, tz_0, tz_1, tz_2, tz_3, tz_4, tz_5, tz_6, tz_8, tz_9, tz_16, tz_20, tz_24, tz_33, tz_48, tz_49, tz_57, tz_58, tz_82, tz_83, tz_100, tz_131, tz_179, tz_227, tz_275, tz_512, tz_825, tz_999, tz_1000, tz_9999, tz_10000, tz_11000, tz_65536, nc_sub1, i_lt, n_lt, i_eq, n_eq, jI_natc, jI_nat, ck_ok, nc_lt, nc_le, if_true, if_false, Option.bind_some, wr_def, and_true, true_and, and_false, false_and, or_true, true_or, or_false, false_or, not_true, not_false_eq_true, not_true_eq_false, ite_true, ite_false, Nat.zero_add, Nat.add_zero, Int.add_zero, Int.zero_add, Int.sub_zero, up_eq, up_ne, up_i, up_j, a1]
  rfl
theorem c_boxes {σ : sT} {μ : mM} (h : cSt σ 0 μ) (hw : wf σ) {k : Nat} (hk : k ≤ 9) (z0 : ∀ i, i ≤ 48 → μ 34 0 i = jI 0) (z1 : ∀ b, b ≤ 9 → μ 34 b 0 = jI 0) : ∃ π μ', srt (pK σ) (fun _ => 0) π (pN σ) ∧ f_X7_boxes [vr 7 0, vi (jI (k : Int))] μ = some (jI (bW σ π k (pN σ)), μ') ∧ qC μ μ' := by
  obtain ⟨μ1, π, a1, a2, a3, a4⟩ := f_boxRead h hw
  obtain ⟨μ', b1, b2, b3, b4⟩ := f_mostWorth (μ := μ1) hw hk a2 a3.1 (fun i hi => by rw [a4 34 0 (by omega)]; exact z0 i hi) (fun b hb => by rw [a4 34 b (by omega)]; exact z1 b hb)
  refine ⟨π, μ', a3, ?_, ?_⟩
  · have hin := f_isIn k 10 (by omega) (by omega) μ
    rw [if_pos (by omega)] at hin
    rw [e_X7_boxes, show (10 : Int32) = jI 10 by decide]
    simp (disch := omega) only [j_0, j_1, j_2, j_3, j_4, j_5, j_6, j_8, j_9, j_16, j_20, j_24, j_33, j_48, j_49, j_57, j_58, j_82, j_83, j_100, j_131, j_179, j_227, j_275, j_512, j_825, j_999, j_1000, j_9999, j_10000, j_11000, j_65536, j_m1, jI_add, jI_sub, jI_mul, jI_neg, nca_9, nca_33, nca_58, nca_83, nca_131, nca_179, nca_227, nca_825, nca_4, nca_24, nca_275, ncb_1, ncb_275, ncb_24, nc_1add, Int.toNat_natCast, tz_0, tz_1, tz_2, tz_3, tz_4, tz_5, tz_6, tz_8, tz_9, tz_16, tz_20, tz_24, tz_33, tz_48, tz_49, tz_57, tz_58, tz_82, tz_83, tz_100, tz_131, tz_179, tz_227, tz_275, tz_512, tz_825, tz_999, tz_1000, tz_9999, tz_10000, tz_11000, tz_65536, nc_sub1, i_lt, n_lt, i_eq, n_eq, jI_natc, jI_nat, ck_ok, nc_lt, nc_le, if_true, if_false, Option.bind_some, wr_def, and_true, true_and, and_false, false_and, or_true, true_or, or_false, false_or, not_true, not_false_eq_true, not_true_eq_false, ite_true, ite_false, Nat.zero_add, Nat.add_zero, Int.add_zero, Int.zero_add, Int.sub_zero, up_eq, up_ne, up_i, up_j, hin, a1, b1]
  · refine ⟨fun k' i hk' => by rw [b2 k' i (by omega), a4 k' i (by omega)], fun i => by rw [b2 4 i (by omega), a4 4 i (by omega)], by rw [b3, a4 34 0 (by omega)], fun i => by rw [b4, a4 34 i (by omega)]⟩
theorem cE_u {σ : sT} {π π' : Nat → Nat} {N : Nat} (hu : ∀ i, i < N → π i = π' i) {e : Int} {i : Nat} (hi : i ≤ N) : ∀ d, d ≤ i → cE σ π e i d = cE σ π' e i d
  | 0, _ => rfl
  | d + 1, hd => by rw [cE, cE, cE_u hu hi d (by omega), hu (i - 1 - d) (by omega)]
theorem okP_u {σ : sT} {π π' : Nat → Nat} {N : Nat} (hu : ∀ i, i < N → π i = π' i) {j i : Nat} (hi : i ≤ N) (h : okP σ π j i) : okP σ π' j i := fun p q h1 h2 h3 h4 h5 h6 => by
  have := h p q h1 h2 h3 h4
  rw [hu p (by omega), hu q (by omega)] at this
  exact this h5 h6
theorem bx_u {σ : sT} {π π' : Nat → Nat} {N : Nat} (hu : ∀ i, i < N → π i = π' i) {T T' : Nat → Int} {i : Nat} (hi : i ≤ N) : ∀ j a, j ≤ i → (∀ j', j' < j → T j' = T' j') → bx σ π T i j a = bx σ π' T' i j a
  | 0, a, _, _ => rfl
  | j + 1, a, hj, hT => by
    have hcf : ∀ e, cF σ π e i j = cF σ π' e i j := fun e => cE_u hu hi _ (by omega)
    rw [bx, bx]
    by_cases c : okP σ π j i
    · rw [if_pos c, if_pos (okP_u hu hi c), bx_u hu hi j _ (by omega) (fun j' h => hT j' (by omega)), hT j (by omega), hcf, hcf]
    · rw [if_neg c, if_neg (fun q => c (okP_u (fun i hi => (hu i hi).symm) hi q))]
theorem rowN_u {σ : sT} {π π' : Nat → Nat} {N : Nat} (hu : ∀ i, i < N → π i = π' i) {T T' : Nat → Int} : ∀ i, i ≤ N → (∀ j', j' < i → T j' = T' j') → rowN σ π T i = rowN σ π' T' i
  | 0, _, _ => rfl
  | i + 1, hi, hT => by rw [rowN, rowN, rowN_u hu i (by omega) (fun j' h => hT j' (by omega)), bx_u hu hi _ _ (Nat.le_refl _) hT]
theorem bW_u {σ : sT} {π π' : Nat → Nat} {N : Nat} (hu : ∀ i, i < N → π i = π' i) : ∀ b i, i ≤ N → bW σ π b i = bW σ π' b i
  | 0, _, _ => rfl
  | b + 1, i, hi => by rw [bW, bW]; exact rowN_u hu i hi (fun j' h => bW_u hu b j' (by omega))
