/-! the model's table of boxes -/
def mW (σ : sT) (π : Nat → Nat) (k b i : Nat) (μ : mM) : Prop := ∀ b' i', b' ≤ k → i' ≤ pN σ → (b' < b ∨ (b' = b ∧ i' < i) ∨ b' = 0 ∨ i' = 0) → μ 60 0 (49 * b' + i') = jI (bW σ π b' i')
theorem m_last {σ : sT} {π : Nat → Nat} {k b i : Nat} {μ : mM} (h : mL σ μ) (hw : wf σ) (hk : k ≤ 9) (hb : 1 ≤ b ∧ b ≤ k) (hi : 1 ≤ i ∧ i ≤ pN σ) (hπ : ∀ p, p < pN σ → π p < pN σ) (hL : lnR σ (pN σ) π μ) (hW : mW σ π k b i μ) :
    ∀ (j : Nat) (a : Int) (x10 : mV), j ≤ i → okP σ π j i → 0 ≤ a → a ≤ 48 * (b : Int) → ∃ z5 z6 z7 z8 z9 z10, r_X8_boxes_89 (jI (k : Int)) (jI (pN σ : Int)) (jI (b : Int)) (jI (i : Int)) (jI a) (jI (cF σ π 0 i j : Int)) (jI (cF σ π 1 i j : Int)) (jI 1) (jI ((j : Int) - 1)) x10 μ = r_X8_boxes_52 (jI (k : Int)) (jI (pN σ : Int)) (jI (b : Int)) (jI ((i + 1 : Nat) : Int)) z5 z6 z7 z8 z9 z10 (mm_up μ 60 0 (49 * b + i) (jI (bx σ π (bW σ π (b - 1)) i j a))) := by
  have hN : pN σ ≤ 48 := by have := hw.1; have := hw.2.1; unfold pN; omega
  have eix : (49 * (b : Int) + (i : Int)) = ((49 * b + i : Nat) : Int) := by omega
  have fin : ∀ (a : Int) (l6 l7 l9 : Int) (l8 : Int) (x10 : mV), (l9 < 0 ∨ l8 = 0) → -1 ≤ l9 → l9 < 100 → 0 ≤ l8 → l8 ≤ 1 → ∃ z5 z6 z7 z8 z9 z10, r_X8_boxes_89 (jI (k : Int)) (jI (pN σ : Int)) (jI (b : Int)) (jI (i : Int)) (jI a) (jI l6) (jI l7) (jI l8) (jI l9) x10 μ = r_X8_boxes_52 (jI (k : Int)) (jI (pN σ : Int)) (jI (b : Int)) (jI ((i + 1 : Nat) : Int)) z5 z6 z7 z8 z9 z10 (mm_up μ 60 0 (49 * b + i) (jI a)) := by
    intro a l6 l7 l9 l8 x10 h1 h2 h3 h4 h5
    refine ⟨vi (jI a), vi (jI l6), vi (jI l7), vi (jI l8), vi (jI l9), x10, ?_⟩
    have e49 : (49 : Int32) * jI (b : Int) + jI (i : Int) = jI ((49 * b + i : Nat) : Int) := by rw [j_49, jI_mul, jI_add, eix]
    rw [e_X8_boxes_89, e49]
    by_cases c : l9 < 0
    · simp (disch := omega) only [j_0, j_1, j_2, j_3, j_4, j_5, j_6, j_8, j_9, j_16, j_20, j_24, j_33, j_48, j_49, j_57, j_58, j_82, j_83, j_100, j_131, j_179, j_227, j_275, j_512, j_825, j_999, j_1000, j_9999, j_10000, j_11000, j_65536, j_m1, jI_add, jI_sub, jI_mul, jI_neg, nca_9, nca_33, nca_58, nca_83, nca_131, nca_179, nca_227, nca_825, nca_4, nca_24, nca_275, ncb_1, ncb_275, ncb_24, nc_1add, Int.toNat_natCast, tz_0, tz_1, tz_2, tz_3, tz_4, tz_5, tz_6, tz_8, tz_9, tz_16, tz_20, tz_24, tz_33, tz_48, tz_49, tz_57, tz_58, tz_82, tz_83, tz_100, tz_131, tz_179, tz_227, tz_275, tz_512, tz_825, tz_999, tz_1000, tz_9999, tz_10000, tz_11000, tz_65536, nc_sub1, i_lt, n_lt, i_eq, n_eq, jI_natc, jI_nat, ck_ok, nc_lt, nc_le, if_true, if_false, Option.bind_some, wr_def, and_true, true_and, and_false, false_and, or_true, true_or, or_false, false_or, not_true, not_false_eq_true, not_true_eq_false, ite_true, ite_false, Nat.zero_add, Nat.add_zero, Int.add_zero, Int.zero_add, Int.sub_zero, up_eq, up_ne, up_i, up_j]
    · have c2 : l8 = 0 := by omega
      simp (disch := omega) only [j_0, j_1, j_2, j_3, j_4, j_5, j_6, j_8, j_9, j_16, j_20, j_24, j_33, j_48, j_49, j_57, j_58, j_82, j_83, j_100, j_131, j_179, j_227, j_275, j_512, j_825, j_999, j_1000, j_9999, j_10000, j_11000, j_65536, j_m1, jI_add, jI_sub, jI_mul, jI_neg, nca_9, nca_33, nca_58, nca_83, nca_131, nca_179, nca_227, nca_825, nca_4, nca_24, nca_275, ncb_1, ncb_275, ncb_24, nc_1add, Int.toNat_natCast, tz_0, tz_1, tz_2, tz_3, tz_4, tz_5, tz_6, tz_8, tz_9, tz_16, tz_20, tz_24, tz_33, tz_48, tz_49, tz_57, tz_58, tz_82, tz_83, tz_100, tz_131, tz_179, tz_227, tz_275, tz_512, tz_825, tz_999, tz_1000, tz_9999, tz_10000, tz_11000, tz_65536, nc_sub1, i_lt, n_lt, i_eq, n_eq, jI_natc, jI_nat, ck_ok, nc_lt, nc_le, if_true, if_false, Option.bind_some, wr_def, and_true, true_and, and_false, false_and, or_true, true_or, or_false, false_or, not_true, not_false_eq_true, not_true_eq_false, ite_true, ite_false, Nat.zero_add, Nat.add_zero, Int.add_zero, Int.zero_add, Int.sub_zero, up_eq, up_ne, up_i, up_j]
  intro j
  induction j with
  | zero =>
    intro a x10 hj hok h1 h2
    exact fin a _ _ _ _ x10 (Or.inl (by omega)) (by omega) (by omega) (by omega) (by omega)
  | succ j ih =>
    intro a x10 hj hok h1 h2
    have hjN : j < pN σ := by omega
    have hpj := hπ j hjN
    have ij := pI_bd hw hpj
    have lj := hL j hjN
    have ej : ((j + 1 : Nat) : Int) - 1 = (j : Int) := by omega
    have l1 := cF_le (σ := σ) (π := π) (e := 0) (i := i) (j := j)
    have l2 := cF_le (σ := σ) (π := π) (e := 1) (i := i) (j := j)
    have l3 := cF_le (σ := σ) (π := π) (e := 0) (i := i) (j := j + 1)
    have l4 := cF_le (σ := σ) (π := π) (e := 1) (i := i) (j := j + 1)
    have s0 := cF_s (σ := σ) (π := π) (e := 0) (show j < i by omega)
    have s1 := cF_s (σ := σ) (π := π) (e := 1) (show j < i by omega)
    have hmn := mn_bd (a := (cF σ π 0 i j : Int)) (b := (cF σ π 1 i j : Int))
    have wb := bW_bd (σ := σ) (π := π) (b - 1) j (by omega)
    have wv := hW (b - 1) j (by omega) (by omega) (by omega)
    have ew : ((49 : Int32) * (jI (b : Int) - 1) + jI (j : Int)) = jI ((49 * (b - 1) + j : Nat) : Int) := by
      rw [j_49, j_1, jI_sub, jI_mul, jI_add]; congr 1; omega
    obtain ⟨r, g1, g2⟩ := m_goesWith h hw hL hπ (show j < i by omega) hi.2 (i - (j + 1)) (j + 1) (vi (jI ((j + 1 : Nat) : Int))) vu vu (by omega)
    have gg : f_X8_goesWith [vr 8 0, vi (jI (pI σ (π j))), vi (jI ((j + 1 : Nat) : Int)), vi (jI (i : Int))] μ = some (jI r, μ) := by
      rw [← g1, e_X8_goesWith, j_1]
    have ed : jI (j : Int) + (-1) = jI ((j : Int) - 1) := by rw [j_m1, jI_add]; rfl
    have ei : jI (j : Int) + 1 = jI ((j + 1 : Nat) : Int) := by rw [j_1, jI_add]; rfl
    rcases g2 with ⟨rfl, hall⟩ | ⟨rfl, hno⟩
    · have ho : okP σ π j i := (okP_s (by omega)).mpr ⟨hok, hall⟩
      have mb := mx_bd (a := a) (b := bW σ π (b - 1) j + mnI (cF σ π 0 i j) (cF σ π 1 i j))
      obtain ⟨y5, y6, y7, y8, y9, y10, q⟩ := ih (mxI a (bW σ π (b - 1) j + mnI (cF σ π 0 i j) (cF σ π 1 i j))) (vi (jI (bW σ π (b - 1) j + mnI (cF σ π 0 i j) (cF σ π 1 i j)))) (by omega) ho (by omega) (by omega)
      refine ⟨y5, y6, y7, y8, y9, y10, ?_⟩
      rw [bx, if_pos ho, ← q, e_X8_boxes_89, ej]
      simp only [ew, ed, ei]
      rcases pE_01 σ (π j) with e0 | e0
      · have hid : π j < sNs σ := by unfold pE at e0; by_cases c : π j < sNs σ; exact c; rw [if_neg c] at e0; omega
        rw [if_pos e0] at s0
        rw [if_neg (by omega)] at s1
        have hid2 : pI σ (π j) < 24 := ij.2.2.mpr hid
        have ea : jI (cF σ π 0 i (j + 1) : Int) + 1 = jI (cF σ π 0 i j : Int) := by rw [s0, j_1, jI_add]; rfl
        have eb : jI (cF σ π 1 i (j + 1) : Int) + 0 = jI (cF σ π 1 i j : Int) := by rw [s1, j_0, jI_add, Int.add_zero]; rfl
        simp only [ea, eb]
        by_cases c1 : (cF σ π 0 i j : Int) < (cF σ π 1 i j : Int)
        · have em : mnI (cF σ π 0 i j) (cF σ π 1 i j) = (cF σ π 0 i j : Int) := by unfold mnI; rw [if_pos c1]
          rw [em] at mb ⊢
          by_cases c2 : a < bW σ π (b - 1) j + (cF σ π 0 i j : Int)
          · have ex : mxI a (bW σ π (b - 1) j + (cF σ π 0 i j : Int)) = bW σ π (b - 1) j + (cF σ π 0 i j : Int) := by unfold mxI; rw [if_pos c2]
            rw [ex]
            simp (disch := omega) only [j_0, j_1, j_2, j_3, j_4, j_5, j_6, j_8, j_9, j_16, j_20, j_24, j_33, j_48, j_49, j_57, j_58, j_82, j_83, j_100, j_131, j_179, j_227, j_275, j_512, j_825, j_999, j_1000, j_9999, j_10000, j_11000, j_65536, j_m1, jI_add, jI_sub, jI_mul, jI_neg, nca_9, nca_33, nca_58, nca_83, nca_131, nca_179, nca_227, nca_825, nca_4, nca_24, nca_275, ncb_1, ncb_275, ncb_24, nc_1add, Int.toNat_natCast, tz_0, tz_1, tz_2, tz_3, tz_4, tz_5, tz_6, tz_8, tz_9, tz_16, tz_20, tz_24, tz_33, tz_48, tz_49, tz_57, tz_58, tz_82, tz_83, tz_100, tz_131, tz_179, tz_227, tz_275, tz_512, tz_825, tz_999, tz_1000, tz_9999, tz_10000, tz_11000, tz_65536, nc_sub1, i_lt, n_lt, i_eq, n_eq, jI_natc, jI_nat, ck_ok, nc_lt, nc_le, if_true, if_false, Option.bind_some, wr_def, and_true, true_and, and_false, false_and, or_true, true_or, or_false, false_or, not_true, not_false_eq_true, not_true_eq_false, ite_true, ite_false, Nat.zero_add, Nat.add_zero, Int.add_zero, Int.zero_add, Int.sub_zero, up_eq, up_ne, up_i, up_j, lj, gg, wv]
          · have ex : mxI a (bW σ π (b - 1) j + (cF σ π 0 i j : Int)) = a := by unfold mxI; rw [if_neg c2]
            rw [ex]
            simp (disch := omega) only [j_0, j_1, j_2, j_3, j_4, j_5, j_6, j_8, j_9, j_16, j_20, j_24, j_33, j_48, j_49, j_57, j_58, j_82, j_83, j_100, j_131, j_179, j_227, j_275, j_512, j_825, j_999, j_1000, j_9999, j_10000, j_11000, j_65536, j_m1, jI_add, jI_sub, jI_mul, jI_neg, nca_9, nca_33, nca_58, nca_83, nca_131, nca_179, nca_227, nca_825, nca_4, nca_24, nca_275, ncb_1, ncb_275, ncb_24, nc_1add, Int.toNat_natCast, tz_0, tz_1, tz_2, tz_3, tz_4, tz_5, tz_6, tz_8, tz_9, tz_16, tz_20, tz_24, tz_33, tz_48, tz_49, tz_57, tz_58, tz_82, tz_83, tz_100, tz_131, tz_179, tz_227, tz_275, tz_512, tz_825, tz_999, tz_1000, tz_9999, tz_10000, tz_11000, tz_65536, nc_sub1, i_lt, n_lt, i_eq, n_eq, jI_natc, jI_nat, ck_ok, nc_lt, nc_le, if_true, if_false, Option.bind_some, wr_def, and_true, true_and, and_false, false_and, or_true, true_or, or_false, false_or, not_true, not_false_eq_true, not_true_eq_false, ite_true, ite_false, Nat.zero_add, Nat.add_zero, Int.add_zero, Int.zero_add, Int.sub_zero, up_eq, up_ne, up_i, up_j, lj, gg, wv]
        · have em : mnI (cF σ π 0 i j) (cF σ π 1 i j) = (cF σ π 1 i j : Int) := by unfold mnI; rw [if_neg c1]
          rw [em] at mb ⊢
          by_cases c2 : a < bW σ π (b - 1) j + (cF σ π 1 i j : Int)
          · have ex : mxI a (bW σ π (b - 1) j + (cF σ π 1 i j : Int)) = bW σ π (b - 1) j + (cF σ π 1 i j : Int) := by unfold mxI; rw [if_pos c2]
            rw [ex]
            simp (disch := omega) only [j_0, j_1, j_2, j_3, j_4, j_5, j_6, j_8, j_9, j_16, j_20, j_24, j_33, j_48, j_49, j_57, j_58, j_82, j_83, j_100, j_131, j_179, j_227, j_275, j_512, j_825, j_999, j_1000, j_9999, j_10000, j_11000, j_65536, j_m1, jI_add, jI_sub, jI_mul, jI_neg, nca_9, nca_33, nca_58, nca_83, nca_131, nca_179, nca_227, nca_825, nca_4, nca_24, nca_275, ncb_1, ncb_275, ncb_24, nc_1add, Int.toNat_natCast, tz_0, tz_1, tz_2, tz_3, tz_4, tz_5, tz_6, tz_8, tz_9, tz_16, tz_20, tz_24, tz_33, tz_48, tz_49, tz_57, tz_58, tz_82, tz_83, tz_100, tz_131, tz_179, tz_227, tz_275, tz_512, tz_825, tz_999, tz_1000, tz_9999, tz_10000, tz_11000, tz_65536, nc_sub1, i_lt, n_lt, i_eq, n_eq, jI_natc, jI_nat, ck_ok, nc_lt, nc_le, if_true, if_false, Option.bind_some, wr_def, and_true, true_and, and_false, false_and, or_true, true_or, or_false, false_or, not_true, not_false_eq_true, not_true_eq_false, ite_true, ite_false, Nat.zero_add, Nat.add_zero, Int.add_zero, Int.zero_add, Int.sub_zero, up_eq, up_ne, up_i, up_j, lj, gg, wv]
          · have ex : mxI a (bW σ π (b - 1) j + (cF σ π 1 i j : Int)) = a := by unfold mxI; rw [if_neg c2]
            rw [ex]
            simp (disch := omega) only [j_0, j_1, j_2, j_3, j_4, j_5, j_6, j_8, j_9, j_16, j_20, j_24, j_33, j_48, j_49, j_57, j_58, j_82, j_83, j_100, j_131, j_179, j_227, j_275, j_512, j_825, j_999, j_1000, j_9999, j_10000, j_11000, j_65536, j_m1, jI_add, jI_sub, jI_mul, jI_neg, nca_9, nca_33, nca_58, nca_83, nca_131, nca_179, nca_227, nca_825, nca_4, nca_24, nca_275, ncb_1, ncb_275, ncb_24, nc_1add, Int.toNat_natCast, tz_0, tz_1, tz_2, tz_3, tz_4, tz_5, tz_6, tz_8, tz_9, tz_16, tz_20, tz_24, tz_33, tz_48, tz_49, tz_57, tz_58, tz_82, tz_83, tz_100, tz_131, tz_179, tz_227, tz_275, tz_512, tz_825, tz_999, tz_1000, tz_9999, tz_10000, tz_11000, tz_65536, nc_sub1, i_lt, n_lt, i_eq, n_eq, jI_natc, jI_nat, ck_ok, nc_lt, nc_le, if_true, if_false, Option.bind_some, wr_def, and_true, true_and, and_false, false_and, or_true, true_or, or_false, false_or, not_true, not_false_eq_true, not_true_eq_false, ite_true, ite_false, Nat.zero_add, Nat.add_zero, Int.add_zero, Int.zero_add, Int.sub_zero, up_eq, up_ne, up_i, up_j, lj, gg, wv]
      · have hid : ¬ π j < sNs σ := by unfold pE at e0; by_cases c : π j < sNs σ; rw [if_pos c] at e0; omega; exact c
        rw [if_neg (by omega)] at s0
        rw [if_pos e0] at s1
        have hid2 : ¬ pI σ (π j) < 24 := fun q => hid (ij.2.2.mp q)
        have ea : jI (cF σ π 0 i (j + 1) : Int) + 0 = jI (cF σ π 0 i j : Int) := by rw [s0, j_0, jI_add, Int.add_zero]; rfl
        have eb : jI (cF σ π 1 i (j + 1) : Int) + 1 = jI (cF σ π 1 i j : Int) := by rw [s1, j_1, jI_add]; rfl
        simp only [ea, eb]
        by_cases c1 : (cF σ π 0 i j : Int) < (cF σ π 1 i j : Int)
        · have em : mnI (cF σ π 0 i j) (cF σ π 1 i j) = (cF σ π 0 i j : Int) := by unfold mnI; rw [if_pos c1]
          rw [em] at mb ⊢
          by_cases c2 : a < bW σ π (b - 1) j + (cF σ π 0 i j : Int)
          · have ex : mxI a (bW σ π (b - 1) j + (cF σ π 0 i j : Int)) = bW σ π (b - 1) j + (cF σ π 0 i j : Int) := by unfold mxI; rw [if_pos c2]
            rw [ex]
            simp (disch := omega) only [j_0, j_1, j_2, j_3, j_4, j_5, j_6, j_8, j_9, j_16, j_20, j_24, j_33, j_48, j_49, j_57, j_58, j_82, j_83, j_100, j_131, j_179, j_227, j_275, j_512, j_825, j_999, j_1000, j_9999, j_10000, j_11000, j_65536, j_m1, jI_add, jI_sub, jI_mul, jI_neg, nca_9, nca_33, nca_58, nca_83, nca_131, nca_179, nca_227, nca_825, nca_4, nca_24, nca_275, ncb_1, ncb_275, ncb_24, nc_1add, Int.toNat_natCast, tz_0, tz_1, tz_2, tz_3, tz_4, tz_5, tz_6, tz_8, tz_9, tz_16, tz_20, tz_24, tz_33, tz_48, tz_49, tz_57, tz_58, tz_82, tz_83, tz_100, tz_131, tz_179, tz_227, tz_275, tz_512, tz_825, tz_999, tz_1000, tz_9999, tz_10000, tz_11000, tz_65536, nc_sub1, i_lt, n_lt, i_eq, n_eq, jI_natc, jI_nat, ck_ok, nc_lt, nc_le, if_true, if_false, Option.bind_some, wr_def, and_true, true_and, and_false, false_and, or_true, true_or, or_false, false_or, not_true, not_false_eq_true, not_true_eq_false, ite_true, ite_false, Nat.zero_add, Nat.add_zero, Int.add_zero, Int.zero_add, Int.sub_zero, up_eq, up_ne, up_i, up_j, lj, gg, wv]
          · have ex : mxI a (bW σ π (b - 1) j + (cF σ π 0 i j : Int)) = a := by unfold mxI; rw [if_neg c2]
            rw [ex]
            simp (disch := omega) only [j_0, j_1, j_2, j_3, j_4, j_5, j_6, j_8, j_9, j_16, j_20, j_24, j_33, j_48, j_49, j_57, j_58, j_82, j_83, j_100, j_131, j_179, j_227, j_275, j_512, j_825, j_999, j_1000, j_9999, j_10000, j_11000, j_65536, j_m1, jI_add, jI_sub, jI_mul, jI_neg, nca_9, nca_33, nca_58, nca_83, nca_131, nca_179, nca_227, nca_825, nca_4, nca_24, nca_275, ncb_1, ncb_275, ncb_24, nc_1add, Int.toNat_natCast, tz_0, tz_1, tz_2, tz_3, tz_4, tz_5, tz_6, tz_8, tz_9, tz_16, tz_20, tz_24, tz_33, tz_48, tz_49, tz_57, tz_58, tz_82, tz_83, tz_100, tz_131, tz_179, tz_227, tz_275, tz_512, tz_825, tz_999, tz_1000, tz_9999, tz_10000, tz_11000, tz_65536, nc_sub1, i_lt, n_lt, i_eq, n_eq, jI_natc, jI_nat, ck_ok, nc_lt, nc_le, if_true, if_false, Option.bind_some, wr_def, and_true, true_and, and_false, false_and, or_true, true_or, or_false, false_or, not_true, not_false_eq_true, not_true_eq_false, ite_true, ite_false, Nat.zero_add, Nat.add_zero, Int.add_zero, Int.zero_add, Int.sub_zero, up_eq, up_ne, up_i, up_j, lj, gg, wv]
        · have em : mnI (cF σ π 0 i j) (cF σ π 1 i j) = (cF σ π 1 i j : Int) := by unfold mnI; rw [if_neg c1]
          rw [em] at mb ⊢
          by_cases c2 : a < bW σ π (b - 1) j + (cF σ π 1 i j : Int)
          · have ex : mxI a (bW σ π (b - 1) j + (cF σ π 1 i j : Int)) = bW σ π (b - 1) j + (cF σ π 1 i j : Int) := by unfold mxI; rw [if_pos c2]
            rw [ex]
            simp (disch := omega) only [j_0, j_1, j_2, j_3, j_4, j_5, j_6, j_8, j_9, j_16, j_20, j_24, j_33, j_48, j_49, j_57, j_58, j_82, j_83, j_100, j_131, j_179, j_227, j_275, j_512, j_825, j_999, j_1000, j_9999, j_10000, j_11000, j_65536, j_m1, jI_add, jI_sub, jI_mul, jI_neg, nca_9, nca_33, nca_58, nca_83, nca_131, nca_179, nca_227, nca_825, nca_4, nca_24, nca_275, ncb_1, ncb_275, ncb_24, nc_1add, Int.toNat_natCast, tz_0, tz_1, tz_2, tz_3, tz_4, tz_5, tz_6, tz_8, tz_9, tz_16, tz_20, tz_24, tz_33, tz_48, tz_49, tz_57, tz_58, tz_82, tz_83, tz_100, tz_131, tz_179, tz_227, tz_275, tz_512, tz_825, tz_999, tz_1000, tz_9999, tz_10000, tz_11000, tz_65536, nc_sub1, i_lt, n_lt, i_eq, n_eq, jI_natc, jI_nat, ck_ok, nc_lt, nc_le, if_true, if_false, Option.bind_some, wr_def, and_true, true_and, and_false, false_and, or_true, true_or, or_false, false_or, not_true, not_false_eq_true, not_true_eq_false, ite_true, ite_false, Nat.zero_add, Nat.add_zero, Int.add_zero, Int.zero_add, Int.sub_zero, up_eq, up_ne, up_i, up_j, lj, gg, wv]
          · have ex : mxI a (bW σ π (b - 1) j + (cF σ π 1 i j : Int)) = a := by unfold mxI; rw [if_neg c2]
            rw [ex]
            simp (disch := omega) only [j_0, j_1, j_2, j_3, j_4, j_5, j_6, j_8, j_9, j_16, j_20, j_24, j_33, j_48, j_49, j_57, j_58, j_82, j_83, j_100, j_131, j_179, j_227, j_275, j_512, j_825, j_999, j_1000, j_9999, j_10000, j_11000, j_65536, j_m1, jI_add, jI_sub, jI_mul, jI_neg, nca_9, nca_33, nca_58, nca_83, nca_131, nca_179, nca_227, nca_825, nca_4, nca_24, nca_275, ncb_1, ncb_275, ncb_24, nc_1add, Int.toNat_natCast, tz_0, tz_1, tz_2, tz_3, tz_4, tz_5, tz_6, tz_8, tz_9, tz_16, tz_20, tz_24, tz_33, tz_48, tz_49, tz_57, tz_58, tz_82, tz_83, tz_100, tz_131, tz_179, tz_227, tz_275, tz_512, tz_825, tz_999, tz_1000, tz_9999, tz_10000, tz_11000, tz_65536, nc_sub1, i_lt, n_lt, i_eq, n_eq, jI_natc, jI_nat, ck_ok, nc_lt, nc_le, if_true, if_false, Option.bind_some, wr_def, and_true, true_and, and_false, false_and, or_true, true_or, or_false, false_or, not_true, not_false_eq_true, not_true_eq_false, ite_true, ite_false, Nat.zero_add, Nat.add_zero, Int.add_zero, Int.zero_add, Int.sub_zero, up_eq, up_ne, up_i, up_j, lj, gg, wv]
    · have ho : ¬ okP σ π j i := fun q => hno ((okP_s (by omega)).mp q).2
      have ea : jI (cF σ π 0 i (j + 1) : Int) + 0 = jI (cF σ π 0 i (j + 1) : Int) := by rw [j_0, jI_add, Int.add_zero]
      have eb : jI (cF σ π 1 i (j + 1) : Int) + 0 = jI (cF σ π 1 i (j + 1) : Int) := by rw [j_0, jI_add, Int.add_zero]
      rw [bx, if_neg ho]
      by_cases c1 : (cF σ π 0 i (j + 1) : Int) < (cF σ π 1 i (j + 1) : Int)
      · obtain ⟨y5, y6, y7, y8, y9, y10, q⟩ := fin a (cF σ π 0 i (j + 1)) (cF σ π 1 i (j + 1)) ((j : Int) - 1) 0 (vi (jI (bW σ π (b - 1) j + (cF σ π 0 i (j + 1) : Int)))) (Or.inr rfl) (by omega) (by omega) (by omega) (by omega)
        refine ⟨y5, y6, y7, y8, y9, y10, ?_⟩
        rw [← q, e_X8_boxes_89, ej]
        simp only [ew, ed, ei, ea, eb]
        simp (disch := omega) only [j_0, j_1, j_2, j_3, j_4, j_5, j_6, j_8, j_9, j_16, j_20, j_24, j_33, j_48, j_49, j_57, j_58, j_82, j_83, j_100, j_131, j_179, j_227, j_275, j_512, j_825, j_999, j_1000, j_9999, j_10000, j_11000, j_65536, j_m1, jI_add, jI_sub, jI_mul, jI_neg, nca_9, nca_33, nca_58, nca_83, nca_131, nca_179, nca_227, nca_825, nca_4, nca_24, nca_275, ncb_1, ncb_275, ncb_24, nc_1add, Int.toNat_natCast, tz_0, tz_1, tz_2, tz_3, tz_4, tz_5, tz_6, tz_8, tz_9, tz_16, tz_20, tz_24, tz_33, tz_48, tz_49, tz_57, tz_58, tz_82, tz_83, tz_100, tz_131, tz_179, tz_227, tz_275, tz_512, tz_825, tz_999, tz_1000, tz_9999, tz_10000, tz_11000, tz_65536, nc_sub1, i_lt, n_lt, i_eq, n_eq, jI_natc, jI_nat, ck_ok, nc_lt, nc_le, if_true, if_false, Option.bind_some, wr_def, and_true, true_and, and_false, false_and, or_true, true_or, or_false, false_or, not_true, not_false_eq_true, not_true_eq_false, ite_true, ite_false, Nat.zero_add, Nat.add_zero, Int.add_zero, Int.zero_add, Int.sub_zero, up_eq, up_ne, up_i, up_j, lj, gg, wv]
      · obtain ⟨y5, y6, y7, y8, y9, y10, q⟩ := fin a (cF σ π 0 i (j + 1)) (cF σ π 1 i (j + 1)) ((j : Int) - 1) 0 (vi (jI (bW σ π (b - 1) j + (cF σ π 1 i (j + 1) : Int)))) (Or.inr rfl) (by omega) (by omega) (by omega) (by omega)
        refine ⟨y5, y6, y7, y8, y9, y10, ?_⟩
        rw [← q, e_X8_boxes_89, ej]
        simp only [ew, ed, ei, ea, eb]
        simp (disch := omega) only [j_0, j_1, j_2, j_3, j_4, j_5, j_6, j_8, j_9, j_16, j_20, j_24, j_33, j_48, j_49, j_57, j_58, j_82, j_83, j_100, j_131, j_179, j_227, j_275, j_512, j_825, j_999, j_1000, j_9999, j_10000, j_11000, j_65536, j_m1, jI_add, jI_sub, jI_mul, jI_neg, nca_9, nca_33, nca_58, nca_83, nca_131, nca_179, nca_227, nca_825, nca_4, nca_24, nca_275, ncb_1, ncb_275, ncb_24, nc_1add, Int.toNat_natCast, tz_0, tz_1, tz_2, tz_3, tz_4, tz_5, tz_6, tz_8, tz_9, tz_16, tz_20, tz_24, tz_33, tz_48, tz_49, tz_57, tz_58, tz_82, tz_83, tz_100, tz_131, tz_179, tz_227, tz_275, tz_512, tz_825, tz_999, tz_1000, tz_9999, tz_10000, tz_11000, tz_65536, nc_sub1, i_lt, n_lt, i_eq, n_eq, jI_natc, jI_nat, ck_ok, nc_lt, nc_le, if_true, if_false, Option.bind_some, wr_def, and_true, true_and, and_false, false_and, or_true, true_or, or_false, false_or, not_true, not_false_eq_true, not_true_eq_false, ite_true, ite_false, Nat.zero_add, Nat.add_zero, Int.add_zero, Int.zero_add, Int.sub_zero, up_eq, up_ne, up_i, up_j, lj, gg, wv]
