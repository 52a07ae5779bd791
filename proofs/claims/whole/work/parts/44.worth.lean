/-! boxes: the class's table, the model's -/
theorem f_mostWorth {σ : sT} {π : Nat → Nat} {k : Nat} {μ : mM} (hw : wf σ) (hk : k ≤ 9) (hR : bxR σ (pN σ) π μ) (hπ : ∀ p, p < pN σ → π p < pN σ) (z0 : ∀ i, i ≤ 48 → μ 34 0 i = jI 0) (z1 : ∀ b, b ≤ 9 → μ 34 b 0 = jI 0) : ∃ μ', f_X0_mostWorth [vr 0 0, vi (jI (k : Int))] μ = some (jI (bW σ π k (pN σ)), μ') ∧ (∀ k' b, k' ≠ 34 → μ' k' b = μ k' b) ∧ μ' 34 0 = μ 34 0 ∧ ∀ b, μ' 34 b 0 = μ 34 b 0 := by
  have hN : pN σ ≤ 48 := by have := hw.1; have := hw.2.1; unfold pN; omega
  have l12 : ∀ (n b i : Nat) (μ1 : mM), b + n = k + 1 → 1 ≤ b → 1 ≤ i → i ≤ pN σ → wS σ π k i μ1 → ∃ μ', r_X0_mostWorth_12 (jI (k : Int)) (jI (i : Int)) (jI (b : Int)) μ1 = r_X0_mostWorth_12 (jI (k : Int)) (jI (i : Int)) (jI ((k + 1 : Nat) : Int)) μ' ∧ fr34 k i μ1 μ' ∧ (∀ b', b ≤ b' → b' ≤ k → μ' 34 b' i = jI (bW σ π b' (i - 1))) ∧ (∀ b', b' < b → μ' 34 b' i = μ1 34 b' i) := by
    intro n
    induction n with
    | zero =>
      intro b i μ1 hb h1 hi hiN hW
      have e : b = k + 1 := by omega
      subst e
      exact ⟨μ1, rfl, ⟨fun _ _ _ => rfl, fun _ _ _ => rfl⟩, fun b' g1 g2 => by omega, fun _ _ => rfl⟩
    | succ n ih =>
      intro b i μ1 hb h1 hi hiN hW
      have hv := hW b (i - 1) (by omega) (by omega)
      obtain ⟨μ', a1, a2, a3, a4⟩ := ih (b + 1) i (mm_up μ1 34 b i (jI (bW σ π b (i - 1)))) (by omega) (by omega) hi hiN (fun b' i' g1 g2 => by
        rw [(fr34.one (k := k) (i := i) (μ := μ1) h1 (by omega)).2 b' i' (by omega)]; exact hW b' i' g1 g2)
      refine ⟨μ', ?_, (fr34.one h1 (by omega)).tr a2, fun b' g1 g2 => ?_, fun b' g1 => ?_⟩
      · rw [← a1, e_X0_mostWorth_12]
        simp (disch := omega) only [j_0, j_1, j_2, j_3, j_4, j_5, j_6, j_8, j_9, j_16, j_20, j_24, j_33, j_48, j_49, j_57, j_58, j_82, j_83, j_100, j_131, j_179, j_227, j_275, j_512, j_825, j_999, j_1000, j_9999, j_10000, j_11000, j_65536, j_m1, jI_add, jI_sub, jI_mul, jI_neg, nca_9, nca_33, nca_58, nca_83, nca_131, nca_179, nca_227, nca_825, nca_4, nca_24, nca_275, ncb_1, ncb_275, ncb_24, nc_1add, Int.toNat_natCast, tz_0, tz_1, tz_2, tz_3, tz_4, tz_5, tz_6, tz_8, tz_9, tz_16, tz_20, tz_24, tz_33, tz_48, tz_49, tz_57, tz_58, tz_82, tz_83, tz_100, tz_131, tz_179, tz_227, tz_275, tz_512, tz_825, tz_999, tz_1000, tz_9999, tz_10000, tz_11000, tz_65536, nc_sub1, i_lt, n_lt, i_eq, n_eq, jI_natc, jI_nat, ck_ok, nc_lt, nc_le, if_true, if_false, Option.bind_some, wr_def, and_true, true_and, and_false, false_and, or_true, true_or, or_false, false_or, not_true, not_false_eq_true, not_true_eq_false, ite_true, ite_false, Nat.zero_add, Nat.add_zero, Int.add_zero, Int.zero_add, Int.sub_zero, up_eq, up_ne, up_i, up_j, hv]
      · by_cases c : b' = b
        · subst c; rw [a4 b' (by omega), up_eq]
        · exact a3 b' (by omega) g2
      · rw [a4 b' (by omega), up_i (by omega)]
  have l2 : ∀ (n i : Nat) (μ1 : mM) (x3 : mV), i + n = pN σ + 1 → 1 ≤ i → bxR σ (pN σ) π μ1 → wS σ π k i μ1 → (∀ i, i ≤ 48 → μ1 34 0 i = jI 0) → ∃ μ', r_X0_mostWorth_2 (jI (k : Int)) (jI (i : Int)) x3 μ1 = some (jI (bW σ π k (pN σ)), μ') ∧ (∀ k' b, k' ≠ 34 → μ' k' b = μ1 k' b) ∧ μ' 34 0 = μ1 34 0 ∧ ∀ b, μ' 34 b 0 = μ1 34 b 0 := by
    intro n
    induction n with
    | zero =>
      intro i μ1 x3 hi h1 hR hW hz
      refine ⟨μ1, ?_, fun _ _ _ => rfl, rfl, fun _ => rfl⟩
      have hv := hW k (pN σ) (Nat.le_refl _) (by omega)
      rw [e_X0_mostWorth_2, hR.1]
      simp (disch := omega) only [j_0, j_1, j_2, j_3, j_4, j_5, j_6, j_8, j_9, j_16, j_20, j_24, j_33, j_48, j_49, j_57, j_58, j_82, j_83, j_100, j_131, j_179, j_227, j_275, j_512, j_825, j_999, j_1000, j_9999, j_10000, j_11000, j_65536, j_m1, jI_add, jI_sub, jI_mul, jI_neg, nca_9, nca_33, nca_58, nca_83, nca_131, nca_179, nca_227, nca_825, nca_4, nca_24, nca_275, ncb_1, ncb_275, ncb_24, nc_1add, Int.toNat_natCast, tz_0, tz_1, tz_2, tz_3, tz_4, tz_5, tz_6, tz_8, tz_9, tz_16, tz_20, tz_24, tz_33, tz_48, tz_49, tz_57, tz_58, tz_82, tz_83, tz_100, tz_131, tz_179, tz_227, tz_275, tz_512, tz_825, tz_999, tz_1000, tz_9999, tz_10000, tz_11000, tz_65536, nc_sub1, i_lt, n_lt, i_eq, n_eq, jI_natc, jI_nat, ck_ok, nc_lt, nc_le, if_true, if_false, Option.bind_some, wr_def, and_true, true_and, and_false, false_and, or_true, true_or, or_false, false_or, not_true, not_false_eq_true, not_true_eq_false, ite_true, ite_false, Nat.zero_add, Nat.add_zero, Int.add_zero, Int.zero_add, Int.sub_zero, up_eq, up_ne, up_i, up_j, hv]
    | succ n ih =>
      intro i μ1 x3 hi h1 hR hW hz
      obtain ⟨μ2, a1, a2, a3, -⟩ := l12 k 1 i μ1 (by omega) (Nat.le_refl _) h1 (by omega) hW
      have hR2 : bxR σ (pN σ) π μ2 := by
        unfold bxR bxAt at *
        rw [a2.1 0 0 (by omega), a2.1 30 0 (by omega), a2.1 31 0 (by omega), a2.1 32 0 (by omega)]
        exact hR
      have hW2 : wS σ π k i μ2 := fun b' i' g1 g2 => by rw [a2.2 b' i' (by omega)]; exact hW b' i' g1 g2
      obtain ⟨μ3, b1, b2, b3⟩ := f_tryLast hw hk (show i ≤ pN σ by omega) hπ i (fun b' => bW σ π b' (i - 1)) (-1) 11000 11000 (-1) μ2 (Nat.le_refl _) okP_e hR2 hW2 (fun b' g1 g2 => by
        have := bW_bd (σ := σ) (π := π) b' (i - 1) (by omega)
        exact ⟨a3 b' g1 g2, this⟩) ⟨by omega, by omega, fun t ht => ⟨fun _ p g1 g2 => by omega, fun _ => ht⟩⟩ ⟨by omega, by omega, fun t ht => ⟨fun _ p g1 g2 => by omega, fun _ => ht⟩⟩ ⟨by omega, by omega, fun t ht => ⟨fun _ p g1 g2 => by omega, fun _ => ht⟩⟩ ⟨by omega, by omega, fun t ht => ⟨fun _ p g1 g2 => by omega, fun _ => ht⟩⟩
      have hR3 : bxR σ (pN σ) π μ3 := by
        unfold bxR bxAt at *
        rw [b2.1 0 0 (by omega), b2.1 30 0 (by omega), b2.1 31 0 (by omega), b2.1 32 0 (by omega)]
        exact hR2
      have hW3 : wS σ π k (i + 1) μ3 := fun b' i' g1 g2 => by
        by_cases c : i' = i
        · subst c
          by_cases d : b' = 0
          · subst d
            rw [b2.2 0 i' (by omega), a2.2 0 i' (by omega), hz i' (by omega)]
            rfl
          · rw [b3 b' (by omega) g1]
            have e1 : bW σ π b' = rowN σ π (bW σ π (b' - 1)) := by
              have : b' = (b' - 1) + 1 := by omega
              rw [this]; rfl
            have e2 : rowN σ π (bW σ π (b' - 1)) i' = bx σ π (bW σ π (b' - 1)) i' i' (rowN σ π (bW σ π (b' - 1)) (i' - 1)) := by
              have : i' = (i' - 1) + 1 := by omega
              rw [this]; rfl
            rw [e1, e2]
        · rw [b2.2 b' i' (by omega)]; exact hW2 b' i' g1 (by omega)
      obtain ⟨μ', c1, c2, c3, c4⟩ := ih (i + 1) μ3 (vi (jI ((k + 1 : Nat) : Int))) (by omega) (by omega) hR3 hW3 (fun i' hi' => by rw [b2.2 0 i' (by omega), a2.2 0 i' (by omega)]; exact hz i' hi')
      refine ⟨μ', ?_, fun k' b hk' => by rw [c2 k' b hk', b2.1 k' b hk', a2.1 k' b hk'], by rw [c3]; funext i'; rw [b2.2 0 i' (by omega), a2.2 0 i' (by omega)], fun b => by rw [c4, b2.2 b 0 (by omega), a2.2 b 0 (by omega)]⟩
      have eT : f_X0_tryLastBox [vr 0 0, vi (jI (i : Int)), vi (jI (k : Int))] μ2 = some (0, μ3) := by
        rw [← b1, e_X0_tryLastBox, cF_e, cF_e]
        simp (disch := omega) only [j_0, j_1, j_2, j_3, j_4, j_5, j_6, j_8, j_9, j_16, j_20, j_24, j_33, j_48, j_49, j_57, j_58, j_82, j_83, j_100, j_131, j_179, j_227, j_275, j_512, j_825, j_999, j_1000, j_9999, j_10000, j_11000, j_65536, j_m1, jI_add, jI_sub, jI_mul, jI_neg, nca_9, nca_33, nca_58, nca_83, nca_131, nca_179, nca_227, nca_825, nca_4, nca_24, nca_275, ncb_1, ncb_275, ncb_24, nc_1add, Int.toNat_natCast, tz_0, tz_1, tz_2, tz_3, tz_4, tz_5, tz_6, tz_8, tz_9, tz_16, tz_20, tz_24, tz_33, tz_48, tz_49, tz_57, tz_58, tz_82, tz_83, tz_100, tz_131, tz_179, tz_227, tz_275, tz_512, tz_825, tz_999, tz_1000, tz_9999, tz_10000, tz_11000, tz_65536, nc_sub1, i_lt, n_lt, i_eq, n_eq, jI_natc, jI_nat, ck_ok, nc_lt, nc_le, if_true, if_false, Option.bind_some, wr_def, and_true, true_and, and_false, false_and, or_true, true_or, or_false, false_or, not_true, not_false_eq_true, not_true_eq_false, ite_true, ite_false, Nat.zero_add, Nat.add_zero, Int.add_zero, Int.zero_add, Int.sub_zero, up_eq, up_ne, up_i, up_j]
        rfl
      have e0 : r_X0_mostWorth_2 (jI (k : Int)) (jI (i : Int)) x3 μ1 = r_X0_mostWorth_12 (jI (k : Int)) (jI (i : Int)) (jI ((1 : Nat) : Int)) μ1 := by
        rw [e_X0_mostWorth_2, hR.1]
        simp (disch := omega) only [j_0, j_1, j_2, j_3, j_4, j_5, j_6, j_8, j_9, j_16, j_20, j_24, j_33, j_48, j_49, j_57, j_58, j_82, j_83, j_100, j_131, j_179, j_227, j_275, j_512, j_825, j_999, j_1000, j_9999, j_10000, j_11000, j_65536, j_m1, jI_add, jI_sub, jI_mul, jI_neg, nca_9, nca_33, nca_58, nca_83, nca_131, nca_179, nca_227, nca_825, nca_4, nca_24, nca_275, ncb_1, ncb_275, ncb_24, nc_1add, Int.toNat_natCast, tz_0, tz_1, tz_2, tz_3, tz_4, tz_5, tz_6, tz_8, tz_9, tz_16, tz_20, tz_24, tz_33, tz_48, tz_49, tz_57, tz_58, tz_82, tz_83, tz_100, tz_131, tz_179, tz_227, tz_275, tz_512, tz_825, tz_999, tz_1000, tz_9999, tz_10000, tz_11000, tz_65536, nc_sub1, i_lt, n_lt, i_eq, n_eq, jI_natc, jI_nat, ck_ok, nc_lt, nc_le, if_true, if_false, Option.bind_some, wr_def, and_true, true_and, and_false, false_and, or_true, true_or, or_false, false_or, not_true, not_false_eq_true, not_true_eq_false, ite_true, ite_false, Nat.zero_add, Nat.add_zero, Int.add_zero, Int.zero_add, Int.sub_zero, up_eq, up_ne, up_i, up_j]
        rfl
      rw [e0, a1, ← c1, e_X0_mostWorth_12]
      simp (disch := omega) only [j_0, j_1, j_2, j_3, j_4, j_5, j_6, j_8, j_9, j_16, j_20, j_24, j_33, j_48, j_49, j_57, j_58, j_82, j_83, j_100, j_131, j_179, j_227, j_275, j_512, j_825, j_999, j_1000, j_9999, j_10000, j_11000, j_65536, j_m1, jI_add, jI_sub, jI_mul, jI_neg, nca_9, nca_33, nca_58, nca_83, nca_131, nca_179, nca_227, nca_825, nca_4, nca_24, nca_275, ncb_1, ncb_275, ncb_24, nc_1add, Int.toNat_natCast, tz_0, tz_1, tz_2, tz_3, tz_4, tz_5, tz_6, tz_8, tz_9, tz_16, tz_20, tz_24, tz_33, tz_48, tz_49, tz_57, tz_58, tz_82, tz_83, tz_100, tz_131, tz_179, tz_227, tz_275, tz_512, tz_825, tz_999, tz_1000, tz_9999, tz_10000, tz_11000, tz_65536, nc_sub1, i_lt, n_lt, i_eq, n_eq, jI_natc, jI_nat, ck_ok, nc_lt, nc_le, if_true, if_false, Option.bind_some, wr_def, and_true, true_and, and_false, false_and, or_true, true_or, or_false, false_or, not_true, not_false_eq_true, not_true_eq_false, ite_true, ite_false, Nat.zero_add, Nat.add_zero, Int.add_zero, Int.zero_add, Int.sub_zero, up_eq, up_ne, up_i, up_j, eT]
  obtain ⟨μ', c1, c2⟩ := l2 (pN σ) 1 μ vu (by omega) (Nat.le_refl _) hR (fun b' i' g1 g2 => by
    have e : i' = 0 := by omega
    subst e
    rw [z1 b' (by omega), bW_0]) z0
  refine ⟨μ', ?_, c2⟩
  rw [← c1, e_X0_mostWorth]
  rfl
/-! the model -/
theorem m_goesWith {σ : sT} {π : Nat → Nat} {μ : mM} (h : mL σ μ) (hw : wf σ) (hL : lnR σ (pN σ) π μ) (hπ : ∀ p, p < pN σ → π p < pN σ) {j i : Nat} (hj : j < i) (hi : i ≤ pN σ) : ∀ (n p : Nat) (x2 x6 x7 : mV), p + n = i → ∃ r : Int, r_X8_goesWith_6 (jI (pI σ (π j))) x2 (jI (i : Int)) (jI 1) (jI (p : Int)) x6 x7 μ = some (jI r, μ) ∧ ((r = 1 ∧ ∀ q, p ≤ q → q < i → gW σ π j q) ∨ (r = 0 ∧ ¬ ∀ q, p ≤ q → q < i → gW σ π j q)) := by
  have hN : pN σ ≤ 48 := by have := hw.1; have := hw.2.1; unfold pN; omega
  have hns := hw.1
  have hnb := hw.2.1
  have pj := hπ j (by omega)
  have bj := pI_bd hw pj
  intro n
  induction n with
  | zero =>
    intro p x2 x6 x7 hp
    refine ⟨1, ?_, Or.inl ⟨rfl, fun q h1 h2 => by omega⟩⟩
    rw [e_X8_goesWith_6]
    simp (disch := omega) only [j_0, j_1, j_2, j_3, j_4, j_5, j_6, j_8, j_9, j_16, j_20, j_24, j_33, j_48, j_49, j_57, j_58, j_82, j_83, j_100, j_131, j_179, j_227, j_275, j_512, j_825, j_999, j_1000, j_9999, j_10000, j_11000, j_65536, j_m1, jI_add, jI_sub, jI_mul, jI_neg, nca_9, nca_33, nca_58, nca_83, nca_131, nca_179, nca_227, nca_825, nca_4, nca_24, nca_275, ncb_1, ncb_275, ncb_24, nc_1add, Int.toNat_natCast, tz_0, tz_1, tz_2, tz_3, tz_4, tz_5, tz_6, tz_8, tz_9, tz_16, tz_20, tz_24, tz_33, tz_48, tz_49, tz_57, tz_58, tz_82, tz_83, tz_100, tz_131, tz_179, tz_227, tz_275, tz_512, tz_825, tz_999, tz_1000, tz_9999, tz_10000, tz_11000, tz_65536, nc_sub1, i_lt, n_lt, i_eq, n_eq, jI_natc, jI_nat, ck_ok, nc_lt, nc_le, if_true, if_false, Option.bind_some, wr_def, and_true, true_and, and_false, false_and, or_true, true_or, or_false, false_or, not_true, not_false_eq_true, not_true_eq_false, ite_true, ite_false, Nat.zero_add, Nat.add_zero, Int.add_zero, Int.zero_add, Int.sub_zero, up_eq, up_ne, up_i, up_j]
  | succ n ih =>
    intro p x2 x6 x7 hp
    have hpp := hπ p (by omega)
    have bp := pI_bd hw hpp
    have lp := hL p (by omega)
    have yes : gW σ π j p → (∃ y6 y7, r_X8_goesWith_6 (jI (pI σ (π j))) x2 (jI (i : Int)) (jI 1) (jI (p : Int)) x6 x7 μ = r_X8_goesWith_6 (jI (pI σ (π j))) x2 (jI (i : Int)) (jI 1) (jI ((p + 1 : Nat) : Int)) y6 y7 μ) → ∃ r : Int, r_X8_goesWith_6 (jI (pI σ (π j))) x2 (jI (i : Int)) (jI 1) (jI (p : Int)) x6 x7 μ = some (jI r, μ) ∧ ((r = 1 ∧ ∀ q, p ≤ q → q < i → gW σ π j q) ∨ (r = 0 ∧ ¬ ∀ q, p ≤ q → q < i → gW σ π j q)) := by
      rintro hg ⟨y6, y7, e⟩
      obtain ⟨r, a1, a2⟩ := ih (p + 1) x2 y6 y7 (by omega)
      refine ⟨r, e.trans a1, ?_⟩
      rcases a2 with ⟨b1, b2⟩ | ⟨b1, b2⟩
      · refine Or.inl ⟨b1, fun q h1 h2 => ?_⟩
        by_cases c : q = p
        · rw [c]; exact hg
        · exact b2 q (by omega) h2
      · exact Or.inr ⟨b1, fun q => b2 (fun q' h1 h2 => q q' (by omega) h2)⟩
    have no : ¬ gW σ π j p → (∃ y6 y7, r_X8_goesWith_6 (jI (pI σ (π j))) x2 (jI (i : Int)) (jI 1) (jI (p : Int)) x6 x7 μ = r_X8_goesWith_6 (jI (pI σ (π j))) x2 (jI (i : Int)) (jI 0) (jI ((p + 1 : Nat) : Int)) y6 y7 μ) → ∃ r : Int, r_X8_goesWith_6 (jI (pI σ (π j))) x2 (jI (i : Int)) (jI 1) (jI (p : Int)) x6 x7 μ = some (jI r, μ) ∧ ((r = 1 ∧ ∀ q, p ≤ q → q < i → gW σ π j q) ∨ (r = 0 ∧ ¬ ∀ q, p ≤ q → q < i → gW σ π j q)) := by
      rintro hg ⟨y6, y7, e⟩
      refine ⟨0, e.trans ?_, Or.inr ⟨rfl, fun q => hg (q p (Nat.le_refl _) (by omega))⟩⟩
      rw [e_X8_goesWith_6]
      by_cases c : p + 1 < i
      · simp (disch := omega) only [j_0, j_1, j_2, j_3, j_4, j_5, j_6, j_8, j_9, j_16, j_20, j_24, j_33, j_48, j_49, j_57, j_58, j_82, j_83, j_100, j_131, j_179, j_227, j_275, j_512, j_825, j_999, j_1000, j_9999, j_10000, j_11000, j_65536, j_m1, jI_add, jI_sub, jI_mul, jI_neg, nca_9, nca_33, nca_58, nca_83, nca_131, nca_179, nca_227, nca_825, nca_4, nca_24, nca_275, ncb_1, ncb_275, ncb_24, nc_1add, Int.toNat_natCast, tz_0, tz_1, tz_2, tz_3, tz_4, tz_5, tz_6, tz_8, tz_9, tz_16, tz_20, tz_24, tz_33, tz_48, tz_49, tz_57, tz_58, tz_82, tz_83, tz_100, tz_131, tz_179, tz_227, tz_275, tz_512, tz_825, tz_999, tz_1000, tz_9999, tz_10000, tz_11000, tz_65536, nc_sub1, i_lt, n_lt, i_eq, n_eq, jI_natc, jI_nat, ck_ok, nc_lt, nc_le, if_true, if_false, Option.bind_some, wr_def, and_true, true_and, and_false, false_and, or_true, true_or, or_false, false_or, not_true, not_false_eq_true, not_true_eq_false, ite_true, ite_false, Nat.zero_add, Nat.add_zero, Int.add_zero, Int.zero_add, Int.sub_zero, up_eq, up_ne, up_i, up_j]
      · simp (disch := omega) only [j_0, j_1, j_2, j_3, j_4, j_5, j_6, j_8, j_9, j_16, j_20, j_24, j_33, j_48, j_49, j_57, j_58, j_82, j_83, j_100, j_131, j_179, j_227, j_275, j_512, j_825, j_999, j_1000, j_9999, j_10000, j_11000, j_65536, j_m1, jI_add, jI_sub, jI_mul, jI_neg, nca_9, nca_33, nca_58, nca_83, nca_131, nca_179, nca_227, nca_825, nca_4, nca_24, nca_275, ncb_1, ncb_275, ncb_24, nc_1add, Int.toNat_natCast, tz_0, tz_1, tz_2, tz_3, tz_4, tz_5, tz_6, tz_8, tz_9, tz_16, tz_20, tz_24, tz_33, tz_48, tz_49, tz_57, tz_58, tz_82, tz_83, tz_100, tz_131, tz_179, tz_227, tz_275, tz_512, tz_825, tz_999, tz_1000, tz_9999, tz_10000, tz_11000, tz_65536, nc_sub1, i_lt, n_lt, i_eq, n_eq, jI_natc, jI_nat, ck_ok, nc_lt, nc_le, if_true, if_false, Option.bind_some, wr_def, and_true, true_and, and_false, false_and, or_true, true_or, or_false, false_or, not_true, not_false_eq_true, not_true_eq_false, ite_true, ite_false, Nat.zero_add, Nat.add_zero, Int.add_zero, Int.zero_add, Int.sub_zero, up_eq, up_ne, up_i, up_j]
    by_cases cj : π j < sNs σ
    · have ej : pE σ (π j) = 0 := by unfold pE; rw [if_pos cj]
      have kj : pK σ (π j) = beg σ (π j) := by unfold pK; rw [if_pos cj]
      have cj' : pC σ (π j) = enn σ (π j) := by unfold pC; rw [if_pos cj]
      have ij : pI σ (π j) = (π j : Int) := by unfold pI; rw [if_pos cj]
      by_cases cp : π p < sNs σ
      · have ep : pE σ (π p) = 0 := by unfold pE; rw [if_pos cp]
        refine yes ⟨fun _ e => by omega, fun e _ => by omega⟩ ⟨vi (jI (pI σ (π p))), vi (jI 0), ?_⟩
        rw [e_X8_goesWith_6]
        simp (disch := omega) only [j_0, j_1, j_2, j_3, j_4, j_5, j_6, j_8, j_9, j_16, j_20, j_24, j_33, j_48, j_49, j_57, j_58, j_82, j_83, j_100, j_131, j_179, j_227, j_275, j_512, j_825, j_999, j_1000, j_9999, j_10000, j_11000, j_65536, j_m1, jI_add, jI_sub, jI_mul, jI_neg, nca_9, nca_33, nca_58, nca_83, nca_131, nca_179, nca_227, nca_825, nca_4, nca_24, nca_275, ncb_1, ncb_275, ncb_24, nc_1add, Int.toNat_natCast, tz_0, tz_1, tz_2, tz_3, tz_4, tz_5, tz_6, tz_8, tz_9, tz_16, tz_20, tz_24, tz_33, tz_48, tz_49, tz_57, tz_58, tz_82, tz_83, tz_100, tz_131, tz_179, tz_227, tz_275, tz_512, tz_825, tz_999, tz_1000, tz_9999, tz_10000, tz_11000, tz_65536, nc_sub1, i_lt, n_lt, i_eq, n_eq, jI_natc, jI_nat, ck_ok, nc_lt, nc_le, if_true, if_false, Option.bind_some, wr_def, and_true, true_and, and_false, false_and, or_true, true_or, or_false, false_or, not_true, not_false_eq_true, not_true_eq_false, ite_true, ite_false, Nat.zero_add, Nat.add_zero, Int.add_zero, Int.zero_add, Int.sub_zero, up_eq, up_ne, up_i, up_j, lp]
      · have ep : pE σ (π p) = 1 := by unfold pE; rw [if_neg cp]
        have kp : pK σ (π p) = sB σ (π p - sNs σ) := by unfold pK; rw [if_neg cp]
        have ip : pI σ (π p) = 24 + ((π p : Int) - sNs σ) := by unfold pI; rw [if_neg cp]
        have hlt : π p - sNs σ < sNb σ := by unfold pN at hpp; omega
        have hb := h.2.2.2.2.2.1 (π p - sNs σ) hlt
        have bb := hw.2.2.2.2.1 (π p - sNs σ) hlt
        have hf := m_fits h hw cj (z := sB σ (π p - sNs σ)) (by omega)
        have e1 : (58 + (24 + ((π p : Int) - (sNs σ : Int))) - 24) = ((58 + (π p - sNs σ) : Nat) : Int) := by omega
        by_cases g : beg σ (π j) ≤ sB σ (π p - sNs σ) ∧ sB σ (π p - sNs σ) ≤ enn σ (π j)
        · rw [if_pos g] at hf
          refine yes ⟨fun _ _ => by rw [kj, kp, cj']; exact g, fun e _ => by omega⟩ ⟨vi (jI (pI σ (π p))), vi (jI 1), ?_⟩
          rw [e_X8_goesWith_6, ij]
          simp (disch := omega) only [j_0, j_1, j_2, j_3, j_4, j_5, j_6, j_8, j_9, j_16, j_20, j_24, j_33, j_48, j_49, j_57, j_58, j_82, j_83, j_100, j_131, j_179, j_227, j_275, j_512, j_825, j_999, j_1000, j_9999, j_10000, j_11000, j_65536, j_m1, jI_add, jI_sub, jI_mul, jI_neg, nca_9, nca_33, nca_58, nca_83, nca_131, nca_179, nca_227, nca_825, nca_4, nca_24, nca_275, ncb_1, ncb_275, ncb_24, nc_1add, Int.toNat_natCast, tz_0, tz_1, tz_2, tz_3, tz_4, tz_5, tz_6, tz_8, tz_9, tz_16, tz_20, tz_24, tz_33, tz_48, tz_49, tz_57, tz_58, tz_82, tz_83, tz_100, tz_131, tz_179, tz_227, tz_275, tz_512, tz_825, tz_999, tz_1000, tz_9999, tz_10000, tz_11000, tz_65536, nc_sub1, i_lt, n_lt, i_eq, n_eq, jI_natc, jI_nat, ck_ok, nc_lt, nc_le, if_true, if_false, Option.bind_some, wr_def, and_true, true_and, and_false, false_and, or_true, true_or, or_false, false_or, not_true, not_false_eq_true, not_true_eq_false, ite_true, ite_false, Nat.zero_add, Nat.add_zero, Int.add_zero, Int.zero_add, Int.sub_zero, up_eq, up_ne, up_i, up_j, lp]
          rw [ip]
          simp (disch := omega) only [j_0, j_1, j_2, j_3, j_4, j_5, j_6, j_8, j_9, j_16, j_20, j_24, j_33, j_48, j_49, j_57, j_58, j_82, j_83, j_100, j_131, j_179, j_227, j_275, j_512, j_825, j_999, j_1000, j_9999, j_10000, j_11000, j_65536, j_m1, jI_add, jI_sub, jI_mul, jI_neg, nca_9, nca_33, nca_58, nca_83, nca_131, nca_179, nca_227, nca_825, nca_4, nca_24, nca_275, ncb_1, ncb_275, ncb_24, nc_1add, Int.toNat_natCast, tz_0, tz_1, tz_2, tz_3, tz_4, tz_5, tz_6, tz_8, tz_9, tz_16, tz_20, tz_24, tz_33, tz_48, tz_49, tz_57, tz_58, tz_82, tz_83, tz_100, tz_131, tz_179, tz_227, tz_275, tz_512, tz_825, tz_999, tz_1000, tz_9999, tz_10000, tz_11000, tz_65536, nc_sub1, i_lt, n_lt, i_eq, n_eq, jI_natc, jI_nat, ck_ok, nc_lt, nc_le, if_true, if_false, Option.bind_some, wr_def, and_true, true_and, and_false, false_and, or_true, true_or, or_false, false_or, not_true, not_false_eq_true, not_true_eq_false, ite_true, ite_false, Nat.zero_add, Nat.add_zero, Int.add_zero, Int.zero_add, Int.sub_zero, up_eq, up_ne, up_i, up_j, e1, hb, hf]
        · rw [if_neg g] at hf
          refine no (fun q => g (by have := q.1 ej ep; rw [kj, kp, cj'] at this; exact this)) ⟨vi (jI (pI σ (π p))), vi (jI 1), ?_⟩
          rw [e_X8_goesWith_6, ij]
          simp (disch := omega) only [j_0, j_1, j_2, j_3, j_4, j_5, j_6, j_8, j_9, j_16, j_20, j_24, j_33, j_48, j_49, j_57, j_58, j_82, j_83, j_100, j_131, j_179, j_227, j_275, j_512, j_825, j_999, j_1000, j_9999, j_10000, j_11000, j_65536, j_m1, jI_add, jI_sub, jI_mul, jI_neg, nca_9, nca_33, nca_58, nca_83, nca_131, nca_179, nca_227, nca_825, nca_4, nca_24, nca_275, ncb_1, ncb_275, ncb_24, nc_1add, Int.toNat_natCast, tz_0, tz_1, tz_2, tz_3, tz_4, tz_5, tz_6, tz_8, tz_9, tz_16, tz_20, tz_24, tz_33, tz_48, tz_49, tz_57, tz_58, tz_82, tz_83, tz_100, tz_131, tz_179, tz_227, tz_275, tz_512, tz_825, tz_999, tz_1000, tz_9999, tz_10000, tz_11000, tz_65536, nc_sub1, i_lt, n_lt, i_eq, n_eq, jI_natc, jI_nat, ck_ok, nc_lt, nc_le, if_true, if_false, Option.bind_some, wr_def, and_true, true_and, and_false, false_and, or_true, true_or, or_false, false_or, not_true, not_false_eq_true, not_true_eq_false, ite_true, ite_false, Nat.zero_add, Nat.add_zero, Int.add_zero, Int.zero_add, Int.sub_zero, up_eq, up_ne, up_i, up_j, lp]
          rw [ip]
          simp (disch := omega) only [j_0, j_1, j_2, j_3, j_4, j_5, j_6, j_8, j_9, j_16, j_20, j_24, j_33, j_48, j_49, j_57, j_58, j_82, j_83, j_100, j_131, j_179, j_227, j_275, j_512, j_825, j_999, j_1000, j_9999, j_10000, j_11000, j_65536, j_m1, jI_add, jI_sub, jI_mul, jI_neg, nca_9, nca_33, nca_58, nca_83, nca_131, nca_179, nca_227, nca_825, nca_4, nca_24, nca_275, ncb_1, ncb_275, ncb_24, nc_1add, Int.toNat_natCast, tz_0, tz_1, tz_2, tz_3, tz_4, tz_5, tz_6, tz_8, tz_9, tz_16, tz_20, tz_24, tz_33, tz_48, tz_49, tz_57, tz_58, tz_82, tz_83, tz_100, tz_131, tz_179, tz_227, tz_275, tz_512, tz_825, tz_999, tz_1000, tz_9999, tz_10000, tz_11000, tz_65536, nc_sub1, i_lt, n_lt, i_eq, n_eq, jI_natc, jI_nat, ck_ok, nc_lt, nc_le, if_true, if_false, Option.bind_some, wr_def, and_true, true_and, and_false, false_and, or_true, true_or, or_false, false_or, not_true, not_false_eq_true, not_true_eq_false, ite_true, ite_false, Nat.zero_add, Nat.add_zero, Int.add_zero, Int.zero_add, Int.sub_zero, up_eq, up_ne, up_i, up_j, e1, hb, hf]
    · have ej : pE σ (π j) = 1 := by unfold pE; rw [if_neg cj]
      have kj : pK σ (π j) = sB σ (π j - sNs σ) := by unfold pK; rw [if_neg cj]
      have ij : pI σ (π j) = 24 + ((π j : Int) - sNs σ) := by unfold pI; rw [if_neg cj]
      have hlt : π j - sNs σ < sNb σ := by unfold pN at pj; omega
      have hb := h.2.2.2.2.2.1 (π j - sNs σ) hlt
      have bb := hw.2.2.2.2.1 (π j - sNs σ) hlt
      have e1 : (58 + (24 + ((π j : Int) - (sNs σ : Int))) - 24) = ((58 + (π j - sNs σ) : Nat) : Int) := by omega
      by_cases cp : π p < sNs σ
      · have ep : pE σ (π p) = 0 := by unfold pE; rw [if_pos cp]
        have kp : pK σ (π p) = beg σ (π p) := by unfold pK; rw [if_pos cp]
        have cp' : pC σ (π p) = enn σ (π p) := by unfold pC; rw [if_pos cp]
        have ip : pI σ (π p) = (π p : Int) := by unfold pI; rw [if_pos cp]
        have hf := m_fits h hw cp (z := sB σ (π j - sNs σ)) (by omega)
        by_cases g : beg σ (π p) ≤ sB σ (π j - sNs σ) ∧ sB σ (π j - sNs σ) ≤ enn σ (π p)
        · rw [if_pos g] at hf
          refine yes ⟨fun e _ => by omega, fun _ _ => by rw [kj, kp, cp']; exact g⟩ ⟨vi (jI (pI σ (π p))), vi (jI 1), ?_⟩
          rw [e_X8_goesWith_6]
          simp (disch := omega) only [j_0, j_1, j_2, j_3, j_4, j_5, j_6, j_8, j_9, j_16, j_20, j_24, j_33, j_48, j_49, j_57, j_58, j_82, j_83, j_100, j_131, j_179, j_227, j_275, j_512, j_825, j_999, j_1000, j_9999, j_10000, j_11000, j_65536, j_m1, jI_add, jI_sub, jI_mul, jI_neg, nca_9, nca_33, nca_58, nca_83, nca_131, nca_179, nca_227, nca_825, nca_4, nca_24, nca_275, ncb_1, ncb_275, ncb_24, nc_1add, Int.toNat_natCast, tz_0, tz_1, tz_2, tz_3, tz_4, tz_5, tz_6, tz_8, tz_9, tz_16, tz_20, tz_24, tz_33, tz_48, tz_49, tz_57, tz_58, tz_82, tz_83, tz_100, tz_131, tz_179, tz_227, tz_275, tz_512, tz_825, tz_999, tz_1000, tz_9999, tz_10000, tz_11000, tz_65536, nc_sub1, i_lt, n_lt, i_eq, n_eq, jI_natc, jI_nat, ck_ok, nc_lt, nc_le, if_true, if_false, Option.bind_some, wr_def, and_true, true_and, and_false, false_and, or_true, true_or, or_false, false_or, not_true, not_false_eq_true, not_true_eq_false, ite_true, ite_false, Nat.zero_add, Nat.add_zero, Int.add_zero, Int.zero_add, Int.sub_zero, up_eq, up_ne, up_i, up_j, lp]
          rw [ij, ip]
          simp (disch := omega) only [j_0, j_1, j_2, j_3, j_4, j_5, j_6, j_8, j_9, j_16, j_20, j_24, j_33, j_48, j_49, j_57, j_58, j_82, j_83, j_100, j_131, j_179, j_227, j_275, j_512, j_825, j_999, j_1000, j_9999, j_10000, j_11000, j_65536, j_m1, jI_add, jI_sub, jI_mul, jI_neg, nca_9, nca_33, nca_58, nca_83, nca_131, nca_179, nca_227, nca_825, nca_4, nca_24, nca_275, ncb_1, ncb_275, ncb_24, nc_1add, Int.toNat_natCast, tz_0, tz_1, tz_2, tz_3, tz_4, tz_5, tz_6, tz_8, tz_9, tz_16, tz_20, tz_24, tz_33, tz_48, tz_49, tz_57, tz_58, tz_82, tz_83, tz_100, tz_131, tz_179, tz_227, tz_275, tz_512, tz_825, tz_999, tz_1000, tz_9999, tz_10000, tz_11000, tz_65536, nc_sub1, i_lt, n_lt, i_eq, n_eq, jI_natc, jI_nat, ck_ok, nc_lt, nc_le, if_true, if_false, Option.bind_some, wr_def, and_true, true_and, and_false, false_and, or_true, true_or, or_false, false_or, not_true, not_false_eq_true, not_true_eq_false, ite_true, ite_false, Nat.zero_add, Nat.add_zero, Int.add_zero, Int.zero_add, Int.sub_zero, up_eq, up_ne, up_i, up_j, e1, hb, hf]
        · rw [if_neg g] at hf
          refine no (fun q => g (by have := q.2 ej ep; rw [kj, kp, cp'] at this; exact this)) ⟨vi (jI (pI σ (π p))), vi (jI 1), ?_⟩
          rw [e_X8_goesWith_6]
          simp (disch := omega) only [j_0, j_1, j_2, j_3, j_4, j_5, j_6, j_8, j_9, j_16, j_20, j_24, j_33, j_48, j_49, j_57, j_58, j_82, j_83, j_100, j_131, j_179, j_227, j_275, j_512, j_825, j_999, j_1000, j_9999, j_10000, j_11000, j_65536, j_m1, jI_add, jI_sub, jI_mul, jI_neg, nca_9, nca_33, nca_58, nca_83, nca_131, nca_179, nca_227, nca_825, nca_4, nca_24, nca_275, ncb_1, ncb_275, ncb_24, nc_1add, Int.toNat_natCast, tz_0, tz_1, tz_2, tz_3, tz_4, tz_5, tz_6, tz_8, tz_9, tz_16, tz_20, tz_24, tz_33, tz_48, tz_49, tz_57, tz_58, tz_82, tz_83, tz_100, tz_131, tz_179, tz_227, tz_275, tz_512, tz_825, tz_999, tz_1000, tz_9999, tz_10000, tz_11000, tz_65536, nc_sub1, i_lt, n_lt, i_eq, n_eq, jI_natc, jI_nat, ck_ok, nc_lt, nc_le, if_true, if_false, Option.bind_some, wr_def, and_true, true_and, and_false, false_and, or_true, true_or, or_false, false_or, not_true, not_false_eq_true, not_true_eq_false, ite_true, ite_false, Nat.zero_add, Nat.add_zero, Int.add_zero, Int.zero_add, Int.sub_zero, up_eq, up_ne, up_i, up_j, lp]
          rw [ij, ip]
          simp (disch := omega) only [j_0, j_1, j_2, j_3, j_4, j_5, j_6, j_8, j_9, j_16, j_20, j_24, j_33, j_48, j_49, j_57, j_58, j_82, j_83, j_100, j_131, j_179, j_227, j_275, j_512, j_825, j_999, j_1000, j_9999, j_10000, j_11000, j_65536, j_m1, jI_add, jI_sub, jI_mul, jI_neg, nca_9, nca_33, nca_58, nca_83, nca_131, nca_179, nca_227, nca_825, nca_4, nca_24, nca_275, ncb_1, ncb_275, ncb_24, nc_1add, Int.toNat_natCast, tz_0, tz_1, tz_2, tz_3, tz_4, tz_5, tz_6, tz_8, tz_9, tz_16, tz_20, tz_24, tz_33, tz_48, tz_49, tz_57, tz_58, tz_82, tz_83, tz_100, tz_131, tz_179, tz_227, tz_275, tz_512, tz_825, tz_999, tz_1000, tz_9999, tz_10000, tz_11000, tz_65536, nc_sub1, i_lt, n_lt, i_eq, n_eq, jI_natc, jI_nat, ck_ok, nc_lt, nc_le, if_true, if_false, Option.bind_some, wr_def, and_true, true_and, and_false, false_and, or_true, true_or, or_false, false_or, not_true, not_false_eq_true, not_true_eq_false, ite_true, ite_false, Nat.zero_add, Nat.add_zero, Int.add_zero, Int.zero_add, Int.sub_zero, up_eq, up_ne, up_i, up_j, e1, hb, hf]
      · have ep : pE σ (π p) = 1 := by unfold pE; rw [if_neg cp]
        refine yes ⟨fun e _ => by omega, fun _ e => by omega⟩ ⟨vi (jI (pI σ (π p))), vi (jI 0), ?_⟩
        rw [e_X8_goesWith_6]
        simp (disch := omega) only [j_0, j_1, j_2, j_3, j_4, j_5, j_6, j_8, j_9, j_16, j_20, j_24, j_33, j_48, j_49, j_57, j_58, j_82, j_83, j_100, j_131, j_179, j_227, j_275, j_512, j_825, j_999, j_1000, j_9999, j_10000, j_11000, j_65536, j_m1, jI_add, jI_sub, jI_mul, jI_neg, nca_9, nca_33, nca_58, nca_83, nca_131, nca_179, nca_227, nca_825, nca_4, nca_24, nca_275, ncb_1, ncb_275, ncb_24, nc_1add, Int.toNat_natCast, tz_0, tz_1, tz_2, tz_3, tz_4, tz_5, tz_6, tz_8, tz_9, tz_16, tz_20, tz_24, tz_33, tz_48, tz_49, tz_57, tz_58, tz_82, tz_83, tz_100, tz_131, tz_179, tz_227, tz_275, tz_512, tz_825, tz_999, tz_1000, tz_9999, tz_10000, tz_11000, tz_65536, nc_sub1, i_lt, n_lt, i_eq, n_eq, jI_natc, jI_nat, ck_ok, nc_lt, nc_le, if_true, if_false, Option.bind_some, wr_def, and_true, true_and, and_false, false_and, or_true, true_or, or_false, false_or, not_true, not_false_eq_true, not_true_eq_false, ite_true, ite_false, Nat.zero_add, Nat.add_zero, Int.add_zero, Int.zero_add, Int.sub_zero, up_eq, up_ne, up_i, up_j, lp]
