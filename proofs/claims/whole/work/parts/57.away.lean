/-! what was paired is put away -/
theorem k_putAway : alk (f_X7_putAway [vr 7 0]) (f_X8_putAway [vr 8 0]) := by
  have shafts : ∀ (bo : Nat → Int) (p : Int), (∀ j, -1 ≤ bo j ∧ bo j < 100) → ∀ (s : Nat) (A : aT) (μ : mM), s ≤ sNs (aS A) → WI A → CI A μ → (∀ j, j < s → μ 24 0 j = jI (bo j)) → ∃ A' μ1, r_X7_putAway_33 (jI p) (jI ((s : Int) - 1)) μ = r_X7_putAway_33 (jI p) (jI (-1)) μ1 ∧ CI A' μ1 ∧ fC μ μ1 ∧ WI A' ∧ μ1 27 0 = μ 27 0 ∧ sNb (aS A') = sNb (aS A) ∧ ∀ μ', MI A μ' → (∀ j, j < s → μ' 53 0 j = jI (bo j)) → ∃ μ2, r_X8_putAway_26 (jI p) (jI ((s : Int) - 1)) μ' = r_X8_putAway_26 (jI p) (jI (-1)) μ2 ∧ MI A' μ2 ∧ fM μ' μ2 ∧ μ2 54 0 = μ' 54 0 := by
    intro bo p hbo s
    induction s with
    | zero =>
      intro A μ hs hW hC h24
      exact ⟨A, μ, rfl, hC, fC.r μ, hW, rfl, rfl, fun μ' hM h53 => ⟨μ', rfl, hM, fM.r μ', rfl⟩⟩
    | succ s ih =>
      intro A μ hs hW hC h24
      have hn := hW.1.1
      have hss : s < sNs (aS A) := by omega
      have e24 := h24 s (by omega)
      have hb := hbo s
      have ed : ((s + 1 : Nat) : Int) - 1 = (s : Int) := by omega
      have em : jI (s : Int) + -1 = jI ((s : Int) - 1) := by rw [j_m1, jI_add]; rfl
      by_cases c : bo s = -1
      · obtain ⟨A', μ1, a1, a2, a3, a4, a5, a6, a7⟩ := ih A μ (by omega) hW hC (fun j hj => h24 j (by omega))
        refine ⟨A', μ1, ?_, a2, a3, a4, a5, a6, fun μ' hM h53 => ?_⟩
        · rw [c] at e24
          rw [← a1, ed, e_X7_putAway_33, em]
          simp (disch := omega) only [j_0, j_1, j_2, j_3, j_4, j_5, j_6, j_8, j_9, j_16, j_20, j_24, j_33, j_48, j_49, j_57, j_58, j_82, j_83, j_100, j_131, j_179, j_227, j_275, j_512, j_825, j_999, j_1000, j_9999, j_10000, j_11000, j_65536, j_m1, jI_add, jI_sub, jI_mul, jI_neg, nca_9, nca_33, nca_58, nca_83, nca_131, nca_179, nca_227, nca_825, nca_4, nca_24, nca_275, ncb_1, ncb_275, ncb_24, nc_1add, Int.toNat_natCast, tz_0, tz_1, tz_2, tz_3, tz_4, tz_5, tz_6, tz_8, tz_9, tz_16, tz_20, tz_24, tz_33, tz_48, tz_49, tz_57, tz_58, tz_82, tz_83, tz_100, tz_131, tz_179, tz_227, tz_275, tz_512, tz_825, tz_999, tz_1000, tz_9999, tz_10000, tz_11000, tz_65536, nc_sub1, i_lt, n_lt, i_eq, n_eq, jI_natc, jI_nat, ck_ok, nc_lt, nc_le, if_true, if_false, Option.bind_some, wr_def, and_true, true_and, and_false, false_and, or_true, true_or, or_false, false_or, not_true, not_false_eq_true, not_true_eq_false, ite_true, ite_false, Nat.zero_add, Nat.add_zero, Int.add_zero, Int.zero_add, Int.sub_zero, up_eq, up_ne, up_i, up_j, e24]
        · obtain ⟨μ2, b1, b2⟩ := a7 μ' hM (fun j hj => h53 j (by omega))
          refine ⟨μ2, ?_, b2⟩
          have e53 := h53 s (by omega)
          rw [c] at e53
          rw [← b1, ed, e_X8_putAway_26, em]
          simp (disch := omega) only [j_0, j_1, j_2, j_3, j_4, j_5, j_6, j_8, j_9, j_16, j_20, j_24, j_33, j_48, j_49, j_57, j_58, j_82, j_83, j_100, j_131, j_179, j_227, j_275, j_512, j_825, j_999, j_1000, j_9999, j_10000, j_11000, j_65536, j_m1, jI_add, jI_sub, jI_mul, jI_neg, nca_9, nca_33, nca_58, nca_83, nca_131, nca_179, nca_227, nca_825, nca_4, nca_24, nca_275, ncb_1, ncb_275, ncb_24, nc_1add, Int.toNat_natCast, tz_0, tz_1, tz_2, tz_3, tz_4, tz_5, tz_6, tz_8, tz_9, tz_16, tz_20, tz_24, tz_33, tz_48, tz_49, tz_57, tz_58, tz_82, tz_83, tz_100, tz_131, tz_179, tz_227, tz_275, tz_512, tz_825, tz_999, tz_1000, tz_9999, tz_10000, tz_11000, tz_65536, nc_sub1, i_lt, n_lt, i_eq, n_eq, jI_natc, jI_nat, ck_ok, nc_lt, nc_le, if_true, if_false, Option.bind_some, wr_def, and_true, true_and, and_false, false_and, or_true, true_or, or_false, false_or, not_true, not_false_eq_true, not_true_eq_false, ite_true, ite_false, Nat.zero_add, Nat.add_zero, Int.add_zero, Int.zero_add, Int.sub_zero, up_eq, up_ne, up_i, up_j, e53]
      · obtain ⟨μ0, d1, d2, d3⟩ := c_dropS hC.1 hW.1 hss
        obtain ⟨A', μ1, a1, a2, a3, a4, a5, a6, a7⟩ := ih (aSet A (remS (aS A) s)) μ0 (by show s ≤ sNs (aS A) - 1; omega) (wi_set hW (remS_wf hW.1 hss)) (ci_set hC d3 d2) (fun j hj => by rw [d3 24 0 (by omega)]; exact h24 j (by omega))
        refine ⟨A', μ1, ?_, a2, d3.fc.tr a3, a4, by rw [a5, d3 27 0 (by omega)], a6, fun μ' hM h53 => ?_⟩
        · rw [← a1, ed, e_X7_putAway_33, em]
          simp (disch := omega) only [j_0, j_1, j_2, j_3, j_4, j_5, j_6, j_8, j_9, j_16, j_20, j_24, j_33, j_48, j_49, j_57, j_58, j_82, j_83, j_100, j_131, j_179, j_227, j_275, j_512, j_825, j_999, j_1000, j_9999, j_10000, j_11000, j_65536, j_m1, jI_add, jI_sub, jI_mul, jI_neg, nca_9, nca_33, nca_58, nca_83, nca_131, nca_179, nca_227, nca_825, nca_4, nca_24, nca_275, ncb_1, ncb_275, ncb_24, nc_1add, Int.toNat_natCast, tz_0, tz_1, tz_2, tz_3, tz_4, tz_5, tz_6, tz_8, tz_9, tz_16, tz_20, tz_24, tz_33, tz_48, tz_49, tz_57, tz_58, tz_82, tz_83, tz_100, tz_131, tz_179, tz_227, tz_275, tz_512, tz_825, tz_999, tz_1000, tz_9999, tz_10000, tz_11000, tz_65536, nc_sub1, i_lt, n_lt, i_eq, n_eq, jI_natc, jI_nat, ck_ok, nc_lt, nc_le, if_true, if_false, Option.bind_some, wr_def, and_true, true_and, and_false, false_and, or_true, true_or, or_false, false_or, not_true, not_false_eq_true, not_true_eq_false, ite_true, ite_false, Nat.zero_add, Nat.add_zero, Int.add_zero, Int.zero_add, Int.sub_zero, up_eq, up_ne, up_i, up_j, e24, d1]
        · obtain ⟨μ5, f1, f2, f3⟩ := m_dropS hM.1 hW.1 hss
          obtain ⟨μ2, b1, b2, b3, b4⟩ := a7 μ5 (mi_set hM f3 f2) (fun j hj => by rw [f3.1 53 0 (by omega)]; exact h53 j (by omega))
          refine ⟨μ2, ?_, b2, f3.fm.tr b3, by rw [b4, f3.1 54 0 (by omega)]⟩
          have e53 := h53 s (by omega)
          rw [← b1, ed, e_X8_putAway_26, em]
          simp (disch := omega) only [j_0, j_1, j_2, j_3, j_4, j_5, j_6, j_8, j_9, j_16, j_20, j_24, j_33, j_48, j_49, j_57, j_58, j_82, j_83, j_100, j_131, j_179, j_227, j_275, j_512, j_825, j_999, j_1000, j_9999, j_10000, j_11000, j_65536, j_m1, jI_add, jI_sub, jI_mul, jI_neg, nca_9, nca_33, nca_58, nca_83, nca_131, nca_179, nca_227, nca_825, nca_4, nca_24, nca_275, ncb_1, ncb_275, ncb_24, nc_1add, Int.toNat_natCast, tz_0, tz_1, tz_2, tz_3, tz_4, tz_5, tz_6, tz_8, tz_9, tz_16, tz_20, tz_24, tz_33, tz_48, tz_49, tz_57, tz_58, tz_82, tz_83, tz_100, tz_131, tz_179, tz_227, tz_275, tz_512, tz_825, tz_999, tz_1000, tz_9999, tz_10000, tz_11000, tz_65536, nc_sub1, i_lt, n_lt, i_eq, n_eq, jI_natc, jI_nat, ck_ok, nc_lt, nc_le, if_true, if_false, Option.bind_some, wr_def, and_true, true_and, and_false, false_and, or_true, true_or, or_false, false_or, not_true, not_false_eq_true, not_true_eq_false, ite_true, ite_false, Nat.zero_add, Nat.add_zero, Int.add_zero, Int.zero_add, Int.sub_zero, up_eq, up_ne, up_i, up_j, e53, f1]
  have bores : ∀ (bo : Nat → Int) (p : Int), (∀ j, -1 ≤ bo j ∧ bo j < 100) → ∀ (s : Nat) (A : aT) (μ : mM), s ≤ sNb (aS A) → WI A → CI A μ → (∀ j, j < s → μ 27 0 j = jI (bo j)) → ∃ A' μ1, r_X7_putAway_74 (jI p) (jI ((s : Int) - 1)) μ = some (jI p, μ1) ∧ CI A' μ1 ∧ fC μ μ1 ∧ WI A' ∧ ∀ μ', MI A μ' → (∀ j, j < s → μ' 54 0 j = jI (bo j)) → ∃ μ2, r_X8_putAway_61 (jI p) (jI ((s : Int) - 1)) μ' = some (jI p, μ2) ∧ MI A' μ2 ∧ fM μ' μ2 := by
    intro bo p hbo s
    induction s with
    | zero =>
      intro A μ hs hW hC h24
      refine ⟨A, μ, ?_, hC, fC.r μ, hW, fun μ' hM h53 => ⟨μ', ?_, hM, fM.r μ'⟩⟩
      · rw [e_X7_putAway_74]; simp (disch := omega) only [j_0, j_1, j_2, j_3, j_4, j_5, j_6, j_8, j_9, j_16, j_20, j_24, j_33, j_48, j_49, j_57, j_58, j_82, j_83, j_100, j_131, j_179, j_227, j_275, j_512, j_825, j_999, j_1000, j_9999, j_10000, j_11000, j_65536, j_m1, jI_add, jI_sub, jI_mul, jI_neg, nca_9, nca_33, nca_58, nca_83, nca_131, nca_179, nca_227, nca_825, nca_4, nca_24, nca_275, ncb_1, ncb_275, ncb_24, nc_1add, Int.toNat_natCast, tz_0, tz_1, tz_2, tz_3, tz_4, tz_5, tz_6, tz_8, tz_9, tz_16, tz_20, tz_24, tz_33, tz_48, tz_49, tz_57, tz_58, tz_82, tz_83, tz_100, tz_131, tz_179, tz_227, tz_275, tz_512, tz_825, tz_999, tz_1000, tz_9999, tz_10000, tz_11000, tz_65536, nc_sub1, i_lt, n_lt, i_eq, n_eq, jI_natc, jI_nat, ck_ok, nc_lt, nc_le, if_true, if_false, Option.bind_some, wr_def, and_true, true_and, and_false, false_and, or_true, true_or, or_false, false_or, not_true, not_false_eq_true, not_true_eq_false, ite_true, ite_false, Nat.zero_add, Nat.add_zero, Int.add_zero, Int.zero_add, Int.sub_zero, up_eq, up_ne, up_i, up_j]
      · rw [e_X8_putAway_61]; simp (disch := omega) only [j_0, j_1, j_2, j_3, j_4, j_5, j_6, j_8, j_9, j_16, j_20, j_24, j_33, j_48, j_49, j_57, j_58, j_82, j_83, j_100, j_131, j_179, j_227, j_275, j_512, j_825, j_999, j_1000, j_9999, j_10000, j_11000, j_65536, j_m1, jI_add, jI_sub, jI_mul, jI_neg, nca_9, nca_33, nca_58, nca_83, nca_131, nca_179, nca_227, nca_825, nca_4, nca_24, nca_275, ncb_1, ncb_275, ncb_24, nc_1add, Int.toNat_natCast, tz_0, tz_1, tz_2, tz_3, tz_4, tz_5, tz_6, tz_8, tz_9, tz_16, tz_20, tz_24, tz_33, tz_48, tz_49, tz_57, tz_58, tz_82, tz_83, tz_100, tz_131, tz_179, tz_227, tz_275, tz_512, tz_825, tz_999, tz_1000, tz_9999, tz_10000, tz_11000, tz_65536, nc_sub1, i_lt, n_lt, i_eq, n_eq, jI_natc, jI_nat, ck_ok, nc_lt, nc_le, if_true, if_false, Option.bind_some, wr_def, and_true, true_and, and_false, false_and, or_true, true_or, or_false, false_or, not_true, not_false_eq_true, not_true_eq_false, ite_true, ite_false, Nat.zero_add, Nat.add_zero, Int.add_zero, Int.zero_add, Int.sub_zero, up_eq, up_ne, up_i, up_j]
    | succ s ih =>
      intro A μ hs hW hC h24
      have hn := hW.1.2.1
      have hss : s < sNb (aS A) := by omega
      have e24 := h24 s (by omega)
      have hb := hbo s
      have ed : ((s + 1 : Nat) : Int) - 1 = (s : Int) := by omega
      have em : jI (s : Int) + -1 = jI ((s : Int) - 1) := by rw [j_m1, jI_add]; rfl
      by_cases c : bo s = -1
      · obtain ⟨A', μ1, a1, a2, a3, a4, a7⟩ := ih A μ (by omega) hW hC (fun j hj => h24 j (by omega))
        refine ⟨A', μ1, ?_, a2, a3, a4, fun μ' hM h53 => ?_⟩
        · rw [c] at e24
          rw [← a1, ed, e_X7_putAway_74, em]
          simp (disch := omega) only [j_0, j_1, j_2, j_3, j_4, j_5, j_6, j_8, j_9, j_16, j_20, j_24, j_33, j_48, j_49, j_57, j_58, j_82, j_83, j_100, j_131, j_179, j_227, j_275, j_512, j_825, j_999, j_1000, j_9999, j_10000, j_11000, j_65536, j_m1, jI_add, jI_sub, jI_mul, jI_neg, nca_9, nca_33, nca_58, nca_83, nca_131, nca_179, nca_227, nca_825, nca_4, nca_24, nca_275, ncb_1, ncb_275, ncb_24, nc_1add, Int.toNat_natCast, tz_0, tz_1, tz_2, tz_3, tz_4, tz_5, tz_6, tz_8, tz_9, tz_16, tz_20, tz_24, tz_33, tz_48, tz_49, tz_57, tz_58, tz_82, tz_83, tz_100, tz_131, tz_179, tz_227, tz_275, tz_512, tz_825, tz_999, tz_1000, tz_9999, tz_10000, tz_11000, tz_65536, nc_sub1, i_lt, n_lt, i_eq, n_eq, jI_natc, jI_nat, ck_ok, nc_lt, nc_le, if_true, if_false, Option.bind_some, wr_def, and_true, true_and, and_false, false_and, or_true, true_or, or_false, false_or, not_true, not_false_eq_true, not_true_eq_false, ite_true, ite_false, Nat.zero_add, Nat.add_zero, Int.add_zero, Int.zero_add, Int.sub_zero, up_eq, up_ne, up_i, up_j, e24]
        · obtain ⟨μ2, b1, b2⟩ := a7 μ' hM (fun j hj => h53 j (by omega))
          refine ⟨μ2, ?_, b2⟩
          have e53 := h53 s (by omega)
          rw [c] at e53
          rw [← b1, ed, e_X8_putAway_61, em]
          simp (disch := omega) only [j_0, j_1, j_2, j_3, j_4, j_5, j_6, j_8, j_9, j_16, j_20, j_24, j_33, j_48, j_49, j_57, j_58, j_82, j_83, j_100, j_131, j_179, j_227, j_275, j_512, j_825, j_999, j_1000, j_9999, j_10000, j_11000, j_65536, j_m1, jI_add, jI_sub, jI_mul, jI_neg, nca_9, nca_33, nca_58, nca_83, nca_131, nca_179, nca_227, nca_825, nca_4, nca_24, nca_275, ncb_1, ncb_275, ncb_24, nc_1add, Int.toNat_natCast, tz_0, tz_1, tz_2, tz_3, tz_4, tz_5, tz_6, tz_8, tz_9, tz_16, tz_20, tz_24, tz_33, tz_48, tz_49, tz_57, tz_58, tz_82, tz_83, tz_100, tz_131, tz_179, tz_227, tz_275, tz_512, tz_825, tz_999, tz_1000, tz_9999, tz_10000, tz_11000, tz_65536, nc_sub1, i_lt, n_lt, i_eq, n_eq, jI_natc, jI_nat, ck_ok, nc_lt, nc_le, if_true, if_false, Option.bind_some, wr_def, and_true, true_and, and_false, false_and, or_true, true_or, or_false, false_or, not_true, not_false_eq_true, not_true_eq_false, ite_true, ite_false, Nat.zero_add, Nat.add_zero, Int.add_zero, Int.zero_add, Int.sub_zero, up_eq, up_ne, up_i, up_j, e53]
      · obtain ⟨μ0, d1, d2, d3⟩ := c_dropB hC.1 hW.1 hss
        obtain ⟨A', μ1, a1, a2, a3, a4, a7⟩ := ih (aSet A (remB (aS A) s)) μ0 (by show s ≤ sNb (aS A) - 1; omega) (wi_set hW (remB_wf hW.1 hss)) (ci_set hC d3 d2) (fun j hj => by rw [d3 27 0 (by omega)]; exact h24 j (by omega))
        refine ⟨A', μ1, ?_, a2, d3.fc.tr a3, a4, fun μ' hM h53 => ?_⟩
        · rw [← a1, ed, e_X7_putAway_74, em]
          simp (disch := omega) only [j_0, j_1, j_2, j_3, j_4, j_5, j_6, j_8, j_9, j_16, j_20, j_24, j_33, j_48, j_49, j_57, j_58, j_82, j_83, j_100, j_131, j_179, j_227, j_275, j_512, j_825, j_999, j_1000, j_9999, j_10000, j_11000, j_65536, j_m1, jI_add, jI_sub, jI_mul, jI_neg, nca_9, nca_33, nca_58, nca_83, nca_131, nca_179, nca_227, nca_825, nca_4, nca_24, nca_275, ncb_1, ncb_275, ncb_24, nc_1add, Int.toNat_natCast, tz_0, tz_1, tz_2, tz_3, tz_4, tz_5, tz_6, tz_8, tz_9, tz_16, tz_20, tz_24, tz_33, tz_48, tz_49, tz_57, tz_58, tz_82, tz_83, tz_100, tz_131, tz_179, tz_227, tz_275, tz_512, tz_825, tz_999, tz_1000, tz_9999, tz_10000, tz_11000, tz_65536, nc_sub1, i_lt, n_lt, i_eq, n_eq, jI_natc, jI_nat, ck_ok, nc_lt, nc_le, if_true, if_false, Option.bind_some, wr_def, and_true, true_and, and_false, false_and, or_true, true_or, or_false, false_or, not_true, not_false_eq_true, not_true_eq_false, ite_true, ite_false, Nat.zero_add, Nat.add_zero, Int.add_zero, Int.zero_add, Int.sub_zero, up_eq, up_ne, up_i, up_j, e24, d1]
        · obtain ⟨μ5, f1, f2, f3⟩ := m_dropB hM.1 hW.1 hss
          obtain ⟨μ2, b1, b2, b3⟩ := a7 μ5 (mi_set hM f3 f2) (fun j hj => by rw [f3.1 54 0 (by omega)]; exact h53 j (by omega))
          refine ⟨μ2, ?_, b2, f3.fm.tr b3⟩
          have e53 := h53 s (by omega)
          rw [← b1, ed, e_X8_putAway_61, em]
          simp (disch := omega) only [j_0, j_1, j_2, j_3, j_4, j_5, j_6, j_8, j_9, j_16, j_20, j_24, j_33, j_48, j_49, j_57, j_58, j_82, j_83, j_100, j_131, j_179, j_227, j_275, j_512, j_825, j_999, j_1000, j_9999, j_10000, j_11000, j_65536, j_m1, jI_add, jI_sub, jI_mul, jI_neg, nca_9, nca_33, nca_58, nca_83, nca_131, nca_179, nca_227, nca_825, nca_4, nca_24, nca_275, ncb_1, ncb_275, ncb_24, nc_1add, Int.toNat_natCast, tz_0, tz_1, tz_2, tz_3, tz_4, tz_5, tz_6, tz_8, tz_9, tz_16, tz_20, tz_24, tz_33, tz_48, tz_49, tz_57, tz_58, tz_82, tz_83, tz_100, tz_131, tz_179, tz_227, tz_275, tz_512, tz_825, tz_999, tz_1000, tz_9999, tz_10000, tz_11000, tz_65536, nc_sub1, i_lt, n_lt, i_eq, n_eq, jI_natc, jI_nat, ck_ok, nc_lt, nc_le, if_true, if_false, Option.bind_some, wr_def, and_true, true_and, and_false, false_and, or_true, true_or, or_false, false_or, not_true, not_false_eq_true, not_true_eq_false, ite_true, ite_false, Nat.zero_add, Nat.add_zero, Int.add_zero, Int.zero_add, Int.sub_zero, up_eq, up_ne, up_i, up_j, e53, f1]
  refine alk_of fun A μ hW hC => ?_
  have hn := hW.1.1
  have hnb := hW.1.2.1
  obtain ⟨μ1, ρ, τ, a1, a2, a3, a4, -⟩ := f_pairUp hC.1 hW.1
  have gb := (gr0_bd hW.1 (e := 0) (B := sB (aS A)) (N := sNb (aS A)) (by omega))
  have gb2 : ∀ b, -1 ≤ (gr0 (aS A) 0 (sB (aS A)) (sNb (aS A))).2.1 b ∧ (gr0 (aS A) 0 (sB (aS A)) (sNb (aS A))).2.1 b < 100 := fun b => by
    have := (grd_bd (n := sNs (aS A)) (zs := sZ (aS A)) (bs := beg (aS A)) (es := enn (aS A)) (e := 0) (B := sB (aS A)) (ρ := tau (sB (aS A)) (sNb (aS A))) (N := sNb (aS A)) (fun i hi => by have := (tau_srt (sB (aS A)) (sNb (aS A))).1 i hi; omega) (sNb (aS A)) (Nat.le_refl _)).2.1 b
    unfold gr0
    omega
  by_cases z0 : (gr0 (aS A) 0 (sB (aS A)) (sNb (aS A))).2.2 = 0
  · rw [z0] at a1
    have a1' : f_X7_pairUp [vr 7 0] μ = some (jI 0, μ1) := a1
    refine ⟨_, μ1, A, by rw [e_X7_putAway]; simp (disch := omega) only [j_0, j_1, j_2, j_3, j_4, j_5, j_6, j_8, j_9, j_16, j_20, j_24, j_33, j_48, j_49, j_57, j_58, j_82, j_83, j_100, j_131, j_179, j_227, j_275, j_512, j_825, j_999, j_1000, j_9999, j_10000, j_11000, j_65536, j_m1, jI_add, jI_sub, jI_mul, jI_neg, nca_9, nca_33, nca_58, nca_83, nca_131, nca_179, nca_227, nca_825, nca_4, nca_24, nca_275, ncb_1, ncb_275, ncb_24, nc_1add, Int.toNat_natCast, tz_0, tz_1, tz_2, tz_3, tz_4, tz_5, tz_6, tz_8, tz_9, tz_16, tz_20, tz_24, tz_33, tz_48, tz_49, tz_57, tz_58, tz_82, tz_83, tz_100, tz_131, tz_179, tz_227, tz_275, tz_512, tz_825, tz_999, tz_1000, tz_9999, tz_10000, tz_11000, tz_65536, nc_sub1, i_lt, n_lt, i_eq, n_eq, jI_natc, jI_nat, ck_ok, nc_lt, nc_le, if_true, if_false, Option.bind_some, wr_def, and_true, true_and, and_false, false_and, or_true, true_or, or_false, false_or, not_true, not_false_eq_true, not_true_eq_false, ite_true, ite_false, Nat.zero_add, Nat.add_zero, Int.add_zero, Int.zero_add, Int.sub_zero, up_eq, up_ne, up_i, up_j, a1']; rfl, (qC.sp a2).ci hC, (qC.sp a2).fc, hW, fun μ' hM => ?_⟩
    obtain ⟨μ2, b1, b2, -⟩ := m_now hM.1 hW.1
    rw [z0] at b1
    have b1' : f_X8_now [vr 8 0] μ' = some (jI 0, μ2) := b1
    refine ⟨μ2, ?_, (qM.pr b2).mi hM, (qM.pr b2).fm⟩
    rw [e_X8_putAway]; simp (disch := omega) only [j_0, j_1, j_2, j_3, j_4, j_5, j_6, j_8, j_9, j_16, j_20, j_24, j_33, j_48, j_49, j_57, j_58, j_82, j_83, j_100, j_131, j_179, j_227, j_275, j_512, j_825, j_999, j_1000, j_9999, j_10000, j_11000, j_65536, j_m1, jI_add, jI_sub, jI_mul, jI_neg, nca_9, nca_33, nca_58, nca_83, nca_131, nca_179, nca_227, nca_825, nca_4, nca_24, nca_275, ncb_1, ncb_275, ncb_24, nc_1add, Int.toNat_natCast, tz_0, tz_1, tz_2, tz_3, tz_4, tz_5, tz_6, tz_8, tz_9, tz_16, tz_20, tz_24, tz_33, tz_48, tz_49, tz_57, tz_58, tz_82, tz_83, tz_100, tz_131, tz_179, tz_227, tz_275, tz_512, tz_825, tz_999, tz_1000, tz_9999, tz_10000, tz_11000, tz_65536, nc_sub1, i_lt, n_lt, i_eq, n_eq, jI_natc, jI_nat, ck_ok, nc_lt, nc_le, if_true, if_false, Option.bind_some, wr_def, and_true, true_and, and_false, false_and, or_true, true_or, or_false, false_or, not_true, not_false_eq_true, not_true_eq_false, ite_true, ite_false, Nat.zero_add, Nat.add_zero, Int.add_zero, Int.zero_add, Int.sub_zero, up_eq, up_ne, up_i, up_j, b1']
  · obtain ⟨μ2, b1, b2, b3⟩ := f_note hW ((qC.sp a2).ci hC)
    obtain ⟨A3, μ3, c1, c2, c3, c4, c5, c6, c7⟩ := shafts (gr0 (aS A) 0 (sB (aS A)) (sNb (aS A))).1 ((gr0 (aS A) 0 (sB (aS A)) (sNb (aS A))).2.2 : Int) (fun j => by have := gb.1 j; omega) (sNs (aS A)) (aNote A) μ2 (Nat.le_refl _) (wi_note hW) b2 (fun j hj => by rw [b3 24 0 (by omega)]; exact a3 j hj)
    obtain ⟨A4, μ4, d1, d2, d3, d4, d5⟩ := bores (gr0 (aS A) 0 (sB (aS A)) (sNb (aS A))).2.1 ((gr0 (aS A) 0 (sB (aS A)) (sNb (aS A))).2.2 : Int) gb2 (sNb (aS A3)) A3 μ3 (Nat.le_refl _) c4 c2 (fun j hj => by
      have hj' : j < sNb (aS A) := by rw [c6] at hj; exact hj
      rw [c5, b3 27 0 (by omega)]; exact a4 j hj')
    have k1 : μ2 6 0 6 = jI (sNs (aS A) : Int) := b2.1.1
    have k2 := c2.1.2.1
    have hnb3 : sNb (aS A3) ≤ 24 := c4.1.2.1
    refine ⟨jI ((gr0 (aS A) 0 (sB (aS A)) (sNb (aS A))).2.2 : Int), μ4, A4, ?_, d2, (((qC.sp a2).fc.tr b3.fc).tr c3).tr d3, d4, fun μ' hM => ?_⟩
    · rw [e_X7_putAway]
      have e1 : jI (sNs (aS A) : Int) - 1 = jI ((sNs (aS A) : Int) - 1) := by rw [j_1, jI_sub]
      have e2 : r_X7_putAway_33 (jI ((gr0 (aS A) 0 (sB (aS A)) (sNb (aS A))).2.2 : Int)) (jI (-1)) μ3 = r_X7_putAway_74 (jI ((gr0 (aS A) 0 (sB (aS A)) (sNb (aS A))).2.2 : Int)) (jI ((sNb (aS A3) : Int) - 1)) μ3 := by
        rw [e_X7_putAway_33, k2, j_0, i_lt (by omega), j_1, jI_sub]
      rw [a1, Option.bind_some]
      simp only [b1, Option.bind_some, k1, e1]
      rw [c1, e2, d1]
      have hz : ¬ (jI ((gr0 (aS A) 0 (sB (aS A)) (sNb (aS A))).2.2 : Int) = 0) := fun q => by rw [j_0] at q; have := (jI_eq (by omega) (by omega)).mp q; omega
      rw [if_neg hz]
    · obtain ⟨μ5, f1, f2, f3, f4⟩ := m_now hM.1 hW.1
      obtain ⟨μ6, g1, g2, g3⟩ := m_remember hW ((qM.pr f2).mi hM)
      obtain ⟨μ7, h1, h2, h3, h4⟩ := c7 μ6 g2 (fun j hj => by rw [g3.1 53 0 (by omega)]; exact f3 j hj)
      obtain ⟨μ8, i1, i2, i3⟩ := d5 μ7 h2 (fun j hj => by
        have hj' : j < sNb (aS A) := by rw [c6] at hj; exact hj
        rw [h4, g3.1 54 0 (by omega)]; exact f4 j hj')
      refine ⟨μ8, ?_, i2, (((qM.pr f2).fm.tr g3.fm).tr h3).tr i3⟩
      have p1 : μ6 50 0 (Int32.toNatClampNeg 8) = jI (sNs (aS A) : Int) := g2.1.1
      have p2 : μ7 50 0 (Int32.toNatClampNeg 57) = jI (sNb (aS A3) : Int) := h2.1.2.1
      have e1 : jI (sNs (aS A) : Int) - 1 = jI ((sNs (aS A) : Int) - 1) := by rw [j_1, jI_sub]
      have e2 : r_X8_putAway_26 (jI ((gr0 (aS A) 0 (sB (aS A)) (sNb (aS A))).2.2 : Int)) (jI (-1)) μ7 = r_X8_putAway_61 (jI ((gr0 (aS A) 0 (sB (aS A)) (sNb (aS A))).2.2 : Int)) (jI ((sNb (aS A3) : Int) - 1)) μ7 := by
        rw [e_X8_putAway_26, p2, j_0, i_lt (by omega), j_1, jI_sub, j_57, ck_ok (by omega) (by omega) (by omega)]
      rw [e_X8_putAway, f1, Option.bind_some]
      simp only [g1, Option.bind_some, p1, e1]
      rw [j_8, ck_ok (by omega) (by omega) (by omega), h1, e2, i1]
      have hz : ¬ (jI ((gr0 (aS A) 0 (sB (aS A)) (sNb (aS A))).2.2 : Int) = 0) := fun q => by rw [j_0] at q; have := (jI_eq (by omega) (by omega)).mp q; omega
      rw [if_neg hz]
/-! draws -/
def nxt (e : Int) : Int := (e * 1103515245 + 12345) % 2147483648
def dr (e n : Int) : Int := nxt e / 65536 % n
theorem nxt_bd (e : Int) : 0 ≤ nxt e ∧ nxt e < 2147483648 := by unfold nxt; omega
theorem jL_add (a b : Int) : jL a + jL b = jL (a + b) := by unfold jL; rw [Int64.ofInt_add]
theorem jL_sub (a b : Int) : jL a - jL b = jL (a - b) := by unfold jL; rw [Int64.ofInt_sub]
theorem jL_mul (a b : Int) : jL a * jL b = jL (a * b) := by unfold jL; rw [Int64.ofInt_mul]
theorem jL_div {a b : Int} (h1 : 0 ≤ a) (h2 : a < 9223372036854775808) (h3 : 0 < b) (h4 : b < 9223372036854775808) : jL a / jL b = jL (a / b) := by
  apply Int64.toInt_inj.mp
  rw [Int64.toInt_div_of_ne_left, jL_toInt (by omega) h2, jL_toInt (by omega) h4, Int.tdiv_eq_ediv_of_nonneg h1, jL_toInt]
  · have := Int.ediv_nonneg h1 (Int.le_of_lt h3); omega
  · have := Int.ediv_le_self b h1; omega
  · intro h
    have h5 := congrArg Int64.toInt h
    rw [jL_toInt (by omega) h2] at h5
    have h6 : Int64.minValue.toInt = -9223372036854775808 := by decide
    omega
theorem jL_32 (z : Int) : (jL z).toInt32 = jI z := by
  unfold jL jI
  rw [Int64.toInt32_ofInt]
theorem seed_step {e : Int} (h : 0 ≤ e ∧ e < 2147483648) : Int64.toInt32 ((((Int32.toInt64 (jI e)) * 1103515245) + 12345) - (((Int32.toInt64 (jI e)) * 1103515245) + 12345) / 2147483648 * 2147483648) = jI (nxt e) := by
  have a1 : (1103515245 : Int64) = jL 1103515245 := by decide
  have a2 : (12345 : Int64) = jL 12345 := by decide
  have a3 : (2147483648 : Int64) = jL 2147483648 := by decide
  rw [jI_long (by omega), a1, a2, a3, jL_mul, jL_add, jL_div (by omega) (by omega) (by omega) (by omega), jL_mul, jL_sub, jL_32]
  congr 1
  unfold nxt
  omega
theorem draw_val {e n : Int} (hn : 0 < n ∧ n < 1000) : (jI (nxt e) / 65536) - (jI (nxt e) / 65536) / jI n * jI n = jI (dr e n) := by
  have b := nxt_bd e
  rw [j_65536, jI_div (by omega) (by omega) (by omega) (by omega), jI_div (by omega) (by omega) (by omega) (by omega), jI_mul, jI_sub]
  congr 1
  unfold dr
  rw [Int.emod_def, Int.mul_comm]
def aSeed (A : aT) (e : Int) : aT := (A.1, A.2.1, e, A.2.2.2)
theorem c_draw {A : aT} {μ : mM} (hW : WI A) (hC : CI A μ) {n : Int} (hn : 0 < n ∧ n < 1000) : ∃ μ', f_X7_draw [vr 7 0, vi (jI n)] μ = some (jI (dr (aE A) n), μ') ∧ CI (aSeed A (nxt (aE A))) μ' ∧ fC μ μ' := by
  have hs := seed_step ⟨hW.2.2.2.2.2.1, hW.2.2.2.2.2.2.1⟩
  obtain ⟨c1, c2, c3, c4, c5, c6, c7, c8, c9⟩ := hC
  have hf : ∀ k i, k ≠ 7 → (mm_up μ 7 0 7 (jI (nxt (aE A)))) k i = μ k i := fun k i hk => by rw [up_ne hk]
  have st : ∀ σ a, cSt σ a μ → cSt σ a (mm_up μ 7 0 7 (jI (nxt (aE A)))) := fun σ a h => by
    unfold cSt
    rw [hf 6 a (by omega), hf 10 a (by omega), hf 11 a (by omega), hf 12 a (by omega), hf 13 a (by omega), hf 14 a (by omega), hf 15 a (by omega)]
    exact h
  refine ⟨mm_up μ 7 0 7 (jI (nxt (aE A))), ?_, ⟨st _ _ c1, ?_, ?_, fun j hj => st _ _ (c4 j hj), fun i hi => ?_, up_eq, ?_, fun i hi => ?_, fun b hb => ?_⟩, fun k i hk => hf k i (by omega)⟩
  · rw [e_X7_draw, c6, hs, wr_def, up_eq, draw_val hn, j_1, n_lt (by omega), j_0, n_eq (by omega)]
  · rw [hf 3 0 (by omega)]; exact c2
  · rw [hf 3 0 (by omega)]; exact c3
  · rw [hf 2 i (by omega)]; exact ⟨(c5 i hi).1, fun q => ⟨st _ _ ((c5 i hi).2 q).1, ((c5 i hi).2 q).2⟩⟩
  · unfold cSee; rw [hf 4 0 (by omega), hf 40 0 (by omega), hf 41 0 (by omega)]; exact c7
  · rw [hf 34 0 (by omega)]; exact c8 i hi
  · rw [hf 34 b (by omega)]; exact c9 b hb
theorem m_draw {A : aT} {μ : mM} (hW : WI A) (hM : MI A μ) {n : Int} (hn : 0 < n ∧ n < 1000) : ∃ μ', f_X8_draw [vr 8 0, vi (jI n)] μ = some (jI (dr (aE A) n), μ') ∧ MI (aSeed A (nxt (aE A))) μ' ∧ fM μ μ' := by
  have hs := seed_step ⟨hW.2.2.2.2.2.1, hW.2.2.2.2.2.2.1⟩
  obtain ⟨c1, c2, c3, c4, c5, c6⟩ := hM
  have hf : ∀ k i, k ≠ 8 → (mm_up μ 8 0 4 (jI (nxt (aE A)))) k i = μ k i := fun k i hk => by rw [up_ne hk]
  refine ⟨mm_up μ 8 0 4 (jI (nxt (aE A))), ?_, ⟨?_, ?_, ?_, ?_, up_eq, ?_⟩, fun k i hk => hf k i (by omega)⟩
  · rw [e_X8_draw, c5, hs, wr_def, up_eq, draw_val hn, j_0, n_eq (by omega)]
  · unfold mL; rw [hf 50 0 (by omega)]; exact c1
  · rw [up_j (by omega)]; exact c2
  · rw [hf 50 0 (by omega)]; exact c3
  · rw [hf 50 0 (by omega), hf 51 0 (by omega), hf 52 0 (by omega)]; exact c4
  · unfold mSee; rw [up_j (by omega), hf 56 0 (by omega), hf 57 0 (by omega), hf 58 0 (by omega)]; exact c6
theorem wi_seed {A : aT} (h : WI A) (e : Int) : WI (aSeed A (nxt e)) := by
  obtain ⟨w1, w2, w3, w4, w5, w6, w7, w8⟩ := h
  have := nxt_bd e
  exact ⟨w1, w2, w3, w4, w5, this.1, this.2, w8⟩
theorem k_batch (l1 : Int32) : alk (f_X7_batch [vr 7 0, vi l1]) (f_X8_batch [vr 8 0, vi l1]) := by
  obtain ⟨n, rfl, hn1, hn2⟩ := jI_ex l1
  refine alk_of fun A μ hW hC => ?_
  have ln := jI_long (z := n) (by omega)
  have hin := fun μ' => f_in n 1 20 (by omega) (by omega) (by omega) μ'
  by_cases c : 1 ≤ n ∧ n ≤ 20
  · rw [if_pos c] at hin
    have loop : ∀ (m i k : Nat) (x4 x5 y4 y5 : mV) (A : aT) (μ : mM), (i : Int) + m = n → k ≤ i → WI A → CI A μ → ∃ (k' : Nat) (A' : aT) (μ1 : mM), r_X7_batch_29 (jI n) (jI (k : Int)) (jI (i : Int)) x4 x5 μ = some (jI (k' : Int), μ1) ∧ CI A' μ1 ∧ fC μ μ1 ∧ WI A' ∧ ∀ μ', MI A μ' → ∃ μ2, r_X8_batch_23 (jI n) (jI (k : Int)) (jI (i : Int)) y4 y5 μ' = some (jI (k' : Int), μ2) ∧ MI A' μ2 ∧ fM μ' μ2 := by
      intro m
      induction m with
      | zero =>
        intro i k x4 x5 y4 y5 A μ hi hk hW hC
        refine ⟨k, A, μ, ?_, hC, fC.r μ, hW, fun μ' hM => ⟨μ', ?_, hM, fM.r μ'⟩⟩
        · rw [e_X7_batch_29]; simp (disch := omega) only [j_0, j_1, j_2, j_3, j_4, j_5, j_6, j_8, j_9, j_16, j_20, j_24, j_33, j_48, j_49, j_57, j_58, j_82, j_83, j_100, j_131, j_179, j_227, j_275, j_512, j_825, j_999, j_1000, j_9999, j_10000, j_11000, j_65536, j_m1, jI_add, jI_sub, jI_mul, jI_neg, nca_9, nca_33, nca_58, nca_83, nca_131, nca_179, nca_227, nca_825, nca_4, nca_24, nca_275, ncb_1, ncb_275, ncb_24, nc_1add, Int.toNat_natCast, tz_0, tz_1, tz_2, tz_3, tz_4, tz_5, tz_6, tz_8, tz_9, tz_16, tz_20, tz_24, tz_33, tz_48, tz_49, tz_57, tz_58, tz_82, tz_83, tz_100, tz_131, tz_179, tz_227, tz_275, tz_512, tz_825, tz_999, tz_1000, tz_9999, tz_10000, tz_11000, tz_65536, nc_sub1, i_lt, n_lt, i_eq, n_eq, jI_natc, jI_nat, ck_ok, nc_lt, nc_le, if_true, if_false, Option.bind_some, wr_def, and_true, true_and, and_false, false_and, or_true, true_or, or_false, false_or, not_true, not_false_eq_true, not_true_eq_false, ite_true, ite_false, Nat.zero_add, Nat.add_zero, Int.add_zero, Int.zero_add, Int.sub_zero, up_eq, up_ne, up_i, up_j]
        · rw [e_X8_batch_23]; simp (disch := omega) only [j_0, j_1, j_2, j_3, j_4, j_5, j_6, j_8, j_9, j_16, j_20, j_24, j_33, j_48, j_49, j_57, j_58, j_82, j_83, j_100, j_131, j_179, j_227, j_275, j_512, j_825, j_999, j_1000, j_9999, j_10000, j_11000, j_65536, j_m1, jI_add, jI_sub, jI_mul, jI_neg, nca_9, nca_33, nca_58, nca_83, nca_131, nca_179, nca_227, nca_825, nca_4, nca_24, nca_275, ncb_1, ncb_275, ncb_24, nc_1add, Int.toNat_natCast, tz_0, tz_1, tz_2, tz_3, tz_4, tz_5, tz_6, tz_8, tz_9, tz_16, tz_20, tz_24, tz_33, tz_48, tz_49, tz_57, tz_58, tz_82, tz_83, tz_100, tz_131, tz_179, tz_227, tz_275, tz_512, tz_825, tz_999, tz_1000, tz_9999, tz_10000, tz_11000, tz_65536, nc_sub1, i_lt, n_lt, i_eq, n_eq, jI_natc, jI_nat, ck_ok, nc_lt, nc_le, if_true, if_false, Option.bind_some, wr_def, and_true, true_and, and_false, false_and, or_true, true_or, or_false, false_or, not_true, not_false_eq_true, not_true_eq_false, ite_true, ite_false, Nat.zero_add, Nat.add_zero, Int.add_zero, Int.zero_add, Int.sub_zero, up_eq, up_ne, up_i, up_j]
      | succ m ih =>
        intro i k x4 x5 y4 y5 A μ hi hk hW hC
        have hd1 : 0 ≤ dr (aE A) 5 ∧ dr (aE A) 5 < 5 := by unfold dr; omega
        have hd2 : 0 ≤ dr (nxt (aE A)) 100 ∧ dr (nxt (aE A)) 100 < 100 := by unfold dr; omega
        obtain ⟨μa, a1, a2, a3⟩ := c_draw hW hC (n := 5) (by omega)
        have hWa := wi_seed hW (aE A)
        obtain ⟨μb, b1, b2, b3⟩ := c_draw hWa a2 (n := 100) (by omega)
        have hWb := wi_seed hWa (nxt (aE A))
        have b1' : f_X7_draw [vr 7 0, vi (jI 100)] μa = some (jI (dr (nxt (aE A)) 100), μb) := b1
        have hk1 := f_kindOf (dr (aE A) 5) (dr (nxt (aE A)) 100 + 1000) μb
        have hz : 0 ≤ dr (nxt (aE A)) 100 + 1000 ∧ dr (nxt (aE A)) 100 + 1000 < 10000 := by omega
        have hro := c_hasRoom b2.1 hWb.1 (g := dr (aE A) 5) (z := dr (nxt (aE A)) 100 + 1000) (by omega) hz
        have ec : (1000 : Int) + dr (nxt (aE A)) 100 = dr (nxt (aE A)) 100 + 1000 := by omega
        have mod : ∀ μ', MI A μ' → ∃ μc μd, f_X8_draw [vr 8 0, vi (jI 5)] μ' = some (jI (dr (aE A) 5), μc) ∧ f_X8_draw [vr 8 0, vi (jI 100)] μc = some (jI (dr (nxt (aE A)) 100), μd) ∧ MI (aSeed (aSeed A (nxt (aE A))) (nxt (nxt (aE A)))) μd ∧ fM μ' μd := fun μ' hM => by
          obtain ⟨μc, d1, d2, d3⟩ := m_draw hW hM (n := 5) (by omega)
          obtain ⟨μd, e1, e2, e3⟩ := m_draw hWa d2 (n := 100) (by omega)
          exact ⟨μc, μd, d1, e1, e2, d3.tr e3⟩
        generalize hB : aSeed (aSeed A (nxt (aE A))) (nxt (nxt (aE A))) = B at *
        have hB' : aSeed (aSeed A (nxt (aE A))) (nxt (aE (aSeed A (nxt (aE A))))) = B := hB
        replace b2 : CI B μb := by rw [← hB']; exact b2
        replace hro : f_X6_hasRoom [vr 6 0, vi (jI (dr (aE A) 5 * 10000 + (dr (nxt (aE A)) 100 + 1000)))] μb = some (jI (if room (aS B) (dr (aE A) 5) (dr (nxt (aE A)) 100 + 1000) = true then 1 else 0), μb) := by rw [← hB']; exact hro
        generalize dr (aE A) 5 = g at *
        generalize dr (nxt (aE A)) 100 = z at *
        cases hr : room (aS B) g (z + 1000) with
        | true =>
          rw [hr, if_pos rfl] at hro
          obtain ⟨μe, f1, f2, f3⟩ := c_put b2.1 hWb.1 (g := g) (z := z + 1000) (by omega) hz hr
          obtain ⟨k', A', μ1, g1, g2, g3, g4, g5⟩ := ih (i + 1) (k + 1) (vi (jI g)) (vi (jI (z + 1000))) (vi (jI g)) (vi (jI (z + 1000))) (aSet B (putP (aS B) g (z + 1000))) μe (by omega) (by omega) (wi_set hWb (put_wf hWb.1 (by omega) hz hr)) (ci_set b2 f3 f2)
          refine ⟨k', A', μ1, ?_, g2, ((a3.tr b3).tr f3.fc).tr g3, g4, fun μ' hM => ?_⟩
          · rw [← g1, e_X7_batch_29, show (-1000000004 : Int32) = jI (-1000000004) by decide]
            have hn24 := hWb.1.1
            have hb24 := hWb.1.2.1
            by_cases c4 : g = 4
            · rw [if_pos c4] at f1
              simp (disch := omega) only [j_0, j_1, j_2, j_3, j_4, j_5, j_6, j_8, j_9, j_16, j_20, j_24, j_33, j_48, j_49, j_57, j_58, j_82, j_83, j_100, j_131, j_179, j_227, j_275, j_512, j_825, j_999, j_1000, j_9999, j_10000, j_11000, j_65536, j_m1, jI_add, jI_sub, jI_mul, jI_neg, nca_9, nca_33, nca_58, nca_83, nca_131, nca_179, nca_227, nca_825, nca_4, nca_24, nca_275, ncb_1, ncb_275, ncb_24, nc_1add, Int.toNat_natCast, tz_0, tz_1, tz_2, tz_3, tz_4, tz_5, tz_6, tz_8, tz_9, tz_16, tz_20, tz_24, tz_33, tz_48, tz_49, tz_57, tz_58, tz_82, tz_83, tz_100, tz_131, tz_179, tz_227, tz_275, tz_512, tz_825, tz_999, tz_1000, tz_9999, tz_10000, tz_11000, tz_65536, nc_sub1, i_lt, n_lt, i_eq, n_eq, jI_natc, jI_nat, ck_ok, nc_lt, nc_le, if_true, if_false, Option.bind_some, wr_def, and_true, true_and, and_false, false_and, or_true, true_or, or_false, false_or, not_true, not_false_eq_true, not_true_eq_false, ite_true, ite_false, Nat.zero_add, Nat.add_zero, Int.add_zero, Int.zero_add, Int.sub_zero, up_eq, up_ne, up_i, up_j, a1, b1', hk1, f1]
            · rw [if_neg c4] at f1
              simp (disch := omega) only [j_0, j_1, j_2, j_3, j_4, j_5, j_6, j_8, j_9, j_16, j_20, j_24, j_33, j_48, j_49, j_57, j_58, j_82, j_83, j_100, j_131, j_179, j_227, j_275, j_512, j_825, j_999, j_1000, j_9999, j_10000, j_11000, j_65536, j_m1, jI_add, jI_sub, jI_mul, jI_neg, nca_9, nca_33, nca_58, nca_83, nca_131, nca_179, nca_227, nca_825, nca_4, nca_24, nca_275, ncb_1, ncb_275, ncb_24, nc_1add, Int.toNat_natCast, tz_0, tz_1, tz_2, tz_3, tz_4, tz_5, tz_6, tz_8, tz_9, tz_16, tz_20, tz_24, tz_33, tz_48, tz_49, tz_57, tz_58, tz_82, tz_83, tz_100, tz_131, tz_179, tz_227, tz_275, tz_512, tz_825, tz_999, tz_1000, tz_9999, tz_10000, tz_11000, tz_65536, nc_sub1, i_lt, n_lt, i_eq, n_eq, jI_natc, jI_nat, ck_ok, nc_lt, nc_le, if_true, if_false, Option.bind_some, wr_def, and_true, true_and, and_false, false_and, or_true, true_or, or_false, false_or, not_true, not_false_eq_true, not_true_eq_false, ite_true, ite_false, Nat.zero_add, Nat.add_zero, Int.add_zero, Int.zero_add, Int.sub_zero, up_eq, up_ne, up_i, up_j, a1, b1', hk1, f1]
          · obtain ⟨μc, μd, d1, d2, d3, d4⟩ := mod μ' hM
            have hro2 := m_isRoom d3.1 hWb.1 (g := g) (z := z + 1000) (by omega) hz
            rw [hr, if_pos rfl] at hro2
            obtain ⟨μf, i1, i2, i3⟩ := m_comes d3.1 hWb.1 (g := g) (z := z + 1000) (by omega) hz hr
            obtain ⟨μ2, j1, j2, j3⟩ := g5 μf (mi_set d3 i3 i2)
            refine ⟨μ2, ?_, j2, (d4.tr i3.fm).tr j3⟩
            rw [← j1, e_X8_batch_23]
            simp (disch := omega) only [j_0, j_1, j_2, j_3, j_4, j_5, j_6, j_8, j_9, j_16, j_20, j_24, j_33, j_48, j_49, j_57, j_58, j_82, j_83, j_100, j_131, j_179, j_227, j_275, j_512, j_825, j_999, j_1000, j_9999, j_10000, j_11000, j_65536, j_m1, jI_add, jI_sub, jI_mul, jI_neg, nca_9, nca_33, nca_58, nca_83, nca_131, nca_179, nca_227, nca_825, nca_4, nca_24, nca_275, ncb_1, ncb_275, ncb_24, nc_1add, Int.toNat_natCast, tz_0, tz_1, tz_2, tz_3, tz_4, tz_5, tz_6, tz_8, tz_9, tz_16, tz_20, tz_24, tz_33, tz_48, tz_49, tz_57, tz_58, tz_82, tz_83, tz_100, tz_131, tz_179, tz_227, tz_275, tz_512, tz_825, tz_999, tz_1000, tz_9999, tz_10000, tz_11000, tz_65536, nc_sub1, i_lt, n_lt, i_eq, n_eq, jI_natc, jI_nat, ck_ok, nc_lt, nc_le, if_true, if_false, Option.bind_some, wr_def, and_true, true_and, and_false, false_and, or_true, true_or, or_false, false_or, not_true, not_false_eq_true, not_true_eq_false, ite_true, ite_false, Nat.zero_add, Nat.add_zero, Int.add_zero, Int.zero_add, Int.sub_zero, up_eq, up_ne, up_i, up_j, d1, d2, ec, hro2, i1]
        | false =>
          rw [hr, if_neg (by simp)] at hro
          have hput : f_X6_put [vr 6 0, vi (jI (g * 10000 + (z + 1000)))] μb = some (jI (-1000000004), μb) := by
            rw [e_X6_put]; simp (disch := omega) only [j_0, j_1, j_2, j_3, j_4, j_5, j_6, j_8, j_9, j_16, j_20, j_24, j_33, j_48, j_49, j_57, j_58, j_82, j_83, j_100, j_131, j_179, j_227, j_275, j_512, j_825, j_999, j_1000, j_9999, j_10000, j_11000, j_65536, j_m1, jI_add, jI_sub, jI_mul, jI_neg, nca_9, nca_33, nca_58, nca_83, nca_131, nca_179, nca_227, nca_825, nca_4, nca_24, nca_275, ncb_1, ncb_275, ncb_24, nc_1add, Int.toNat_natCast, tz_0, tz_1, tz_2, tz_3, tz_4, tz_5, tz_6, tz_8, tz_9, tz_16, tz_20, tz_24, tz_33, tz_48, tz_49, tz_57, tz_58, tz_82, tz_83, tz_100, tz_131, tz_179, tz_227, tz_275, tz_512, tz_825, tz_999, tz_1000, tz_9999, tz_10000, tz_11000, tz_65536, nc_sub1, i_lt, n_lt, i_eq, n_eq, jI_natc, jI_nat, ck_ok, nc_lt, nc_le, if_true, if_false, Option.bind_some, wr_def, and_true, true_and, and_false, false_and, or_true, true_or, or_false, false_or, not_true, not_false_eq_true, not_true_eq_false, ite_true, ite_false, Nat.zero_add, Nat.add_zero, Int.add_zero, Int.zero_add, Int.sub_zero, up_eq, up_ne, up_i, up_j, hro]; rfl
          obtain ⟨k', A', μ1, g1, g2, g3, g4, g5⟩ := ih (i + 1) k (vi (jI g)) (vi (jI (z + 1000))) (vi (jI g)) (vi (jI (z + 1000))) B μb (by omega) (by omega) hWb b2
          refine ⟨k', A', μ1, ?_, g2, (a3.tr b3).tr g3, g4, fun μ' hM => ?_⟩
          · rw [← g1, e_X7_batch_29, show (-1000000004 : Int32) = jI (-1000000004) by decide]
            simp (disch := omega) only [j_0, j_1, j_2, j_3, j_4, j_5, j_6, j_8, j_9, j_16, j_20, j_24, j_33, j_48, j_49, j_57, j_58, j_82, j_83, j_100, j_131, j_179, j_227, j_275, j_512, j_825, j_999, j_1000, j_9999, j_10000, j_11000, j_65536, j_m1, jI_add, jI_sub, jI_mul, jI_neg, nca_9, nca_33, nca_58, nca_83, nca_131, nca_179, nca_227, nca_825, nca_4, nca_24, nca_275, ncb_1, ncb_275, ncb_24, nc_1add, Int.toNat_natCast, tz_0, tz_1, tz_2, tz_3, tz_4, tz_5, tz_6, tz_8, tz_9, tz_16, tz_20, tz_24, tz_33, tz_48, tz_49, tz_57, tz_58, tz_82, tz_83, tz_100, tz_131, tz_179, tz_227, tz_275, tz_512, tz_825, tz_999, tz_1000, tz_9999, tz_10000, tz_11000, tz_65536, nc_sub1, i_lt, n_lt, i_eq, n_eq, jI_natc, jI_nat, ck_ok, nc_lt, nc_le, if_true, if_false, Option.bind_some, wr_def, and_true, true_and, and_false, false_and, or_true, true_or, or_false, false_or, not_true, not_false_eq_true, not_true_eq_false, ite_true, ite_false, Nat.zero_add, Nat.add_zero, Int.add_zero, Int.zero_add, Int.sub_zero, up_eq, up_ne, up_i, up_j, a1, b1', hk1, hput]
          · obtain ⟨μc, μd, d1, d2, d3, d4⟩ := mod μ' hM
            have hro2 := m_isRoom d3.1 hWb.1 (g := g) (z := z + 1000) (by omega) hz
            rw [hr, if_neg (by simp)] at hro2
            obtain ⟨μ2, j1, j2, j3⟩ := g5 μd d3
            refine ⟨μ2, ?_, j2, d4.tr j3⟩
            rw [← j1, e_X8_batch_23]
            simp (disch := omega) only [j_0, j_1, j_2, j_3, j_4, j_5, j_6, j_8, j_9, j_16, j_20, j_24, j_33, j_48, j_49, j_57, j_58, j_82, j_83, j_100, j_131, j_179, j_227, j_275, j_512, j_825, j_999, j_1000, j_9999, j_10000, j_11000, j_65536, j_m1, jI_add, jI_sub, jI_mul, jI_neg, nca_9, nca_33, nca_58, nca_83, nca_131, nca_179, nca_227, nca_825, nca_4, nca_24, nca_275, ncb_1, ncb_275, ncb_24, nc_1add, Int.toNat_natCast, tz_0, tz_1, tz_2, tz_3, tz_4, tz_5, tz_6, tz_8, tz_9, tz_16, tz_20, tz_24, tz_33, tz_48, tz_49, tz_57, tz_58, tz_82, tz_83, tz_100, tz_131, tz_179, tz_227, tz_275, tz_512, tz_825, tz_999, tz_1000, tz_9999, tz_10000, tz_11000, tz_65536, nc_sub1, i_lt, n_lt, i_eq, n_eq, jI_natc, jI_nat, ck_ok, nc_lt, nc_le, if_true, if_false, Option.bind_some, wr_def, and_true, true_and, and_false, false_and, or_true, true_or, or_false, false_or, not_true, not_false_eq_true, not_true_eq_false, ite_true, ite_false, Nat.zero_add, Nat.add_zero, Int.add_zero, Int.zero_add, Int.sub_zero, up_eq, up_ne, up_i, up_j, d1, d2, ec, hro2]
    obtain ⟨μ1, a1, a2, a3⟩ := f_note hW hC
    obtain ⟨k', A', μ2, b1, b2, b3, b4, b5⟩ := loop n.toNat 0 0 vu vu vu vu (aNote A) μ1 (by omega) (Nat.le_refl _) (wi_note hW) a2
    refine ⟨jI (k' : Int), μ2, A', ?_, b2, a3.fc.tr b3, b4, fun μ' hM => ?_⟩
    · rw [← b1, e_X7_batch]; simp (disch := omega) only [j_0, j_1, j_2, j_3, j_4, j_5, j_6, j_8, j_9, j_16, j_20, j_24, j_33, j_48, j_49, j_57, j_58, j_82, j_83, j_100, j_131, j_179, j_227, j_275, j_512, j_825, j_999, j_1000, j_9999, j_10000, j_11000, j_65536, j_m1, jI_add, jI_sub, jI_mul, jI_neg, nca_9, nca_33, nca_58, nca_83, nca_131, nca_179, nca_227, nca_825, nca_4, nca_24, nca_275, ncb_1, ncb_275, ncb_24, nc_1add, Int.toNat_natCast, tz_0, tz_1, tz_2, tz_3, tz_4, tz_5, tz_6, tz_8, tz_9, tz_16, tz_20, tz_24, tz_33, tz_48, tz_49, tz_57, tz_58, tz_82, tz_83, tz_100, tz_131, tz_179, tz_227, tz_275, tz_512, tz_825, tz_999, tz_1000, tz_9999, tz_10000, tz_11000, tz_65536, nc_sub1, i_lt, n_lt, i_eq, n_eq, jI_natc, jI_nat, ck_ok, nc_lt, nc_le, if_true, if_false, Option.bind_some, wr_def, and_true, true_and, and_false, false_and, or_true, true_or, or_false, false_or, not_true, not_false_eq_true, not_true_eq_false, ite_true, ite_false, Nat.zero_add, Nat.add_zero, Int.add_zero, Int.zero_add, Int.sub_zero, up_eq, up_ne, up_i, up_j, a1]; rfl
    · obtain ⟨μ3, c1, c2, c3⟩ := m_remember hW hM
      obtain ⟨μ4, d1, d2, d3⟩ := b5 μ3 c2
      refine ⟨μ4, ?_, d2, c3.fm.tr d3⟩
      have hi := hin μ'
      rw [← d1, e_X8_batch, ln, l_1, l_20]; simp (disch := omega) only [j_0, j_1, j_2, j_3, j_4, j_5, j_6, j_8, j_9, j_16, j_20, j_24, j_33, j_48, j_49, j_57, j_58, j_82, j_83, j_100, j_131, j_179, j_227, j_275, j_512, j_825, j_999, j_1000, j_9999, j_10000, j_11000, j_65536, j_m1, jI_add, jI_sub, jI_mul, jI_neg, nca_9, nca_33, nca_58, nca_83, nca_131, nca_179, nca_227, nca_825, nca_4, nca_24, nca_275, ncb_1, ncb_275, ncb_24, nc_1add, Int.toNat_natCast, tz_0, tz_1, tz_2, tz_3, tz_4, tz_5, tz_6, tz_8, tz_9, tz_16, tz_20, tz_24, tz_33, tz_48, tz_49, tz_57, tz_58, tz_82, tz_83, tz_100, tz_131, tz_179, tz_227, tz_275, tz_512, tz_825, tz_999, tz_1000, tz_9999, tz_10000, tz_11000, tz_65536, nc_sub1, i_lt, n_lt, i_eq, n_eq, jI_natc, jI_nat, ck_ok, nc_lt, nc_le, if_true, if_false, Option.bind_some, wr_def, and_true, true_and, and_false, false_and, or_true, true_or, or_false, false_or, not_true, not_false_eq_true, not_true_eq_false, ite_true, ite_false, Nat.zero_add, Nat.add_zero, Int.add_zero, Int.zero_add, Int.sub_zero, up_eq, up_ne, up_i, up_j, hi, c1]; rfl
  · rw [if_neg c] at hin
    refine ⟨-1000000002, μ, A, ?_, hC, fC.r μ, hW, fun μ' hM => ⟨μ', ?_, hM, fM.r μ'⟩⟩
    · rw [e_X7_batch]
      by_cases d : n < 1
      · simp (disch := omega) only [j_0, j_1, j_2, j_3, j_4, j_5, j_6, j_8, j_9, j_16, j_20, j_24, j_33, j_48, j_49, j_57, j_58, j_82, j_83, j_100, j_131, j_179, j_227, j_275, j_512, j_825, j_999, j_1000, j_9999, j_10000, j_11000, j_65536, j_m1, jI_add, jI_sub, jI_mul, jI_neg, nca_9, nca_33, nca_58, nca_83, nca_131, nca_179, nca_227, nca_825, nca_4, nca_24, nca_275, ncb_1, ncb_275, ncb_24, nc_1add, Int.toNat_natCast, tz_0, tz_1, tz_2, tz_3, tz_4, tz_5, tz_6, tz_8, tz_9, tz_16, tz_20, tz_24, tz_33, tz_48, tz_49, tz_57, tz_58, tz_82, tz_83, tz_100, tz_131, tz_179, tz_227, tz_275, tz_512, tz_825, tz_999, tz_1000, tz_9999, tz_10000, tz_11000, tz_65536, nc_sub1, i_lt, n_lt, i_eq, n_eq, jI_natc, jI_nat, ck_ok, nc_lt, nc_le, if_true, if_false, Option.bind_some, wr_def, and_true, true_and, and_false, false_and, or_true, true_or, or_false, false_or, not_true, not_false_eq_true, not_true_eq_false, ite_true, ite_false, Nat.zero_add, Nat.add_zero, Int.add_zero, Int.zero_add, Int.sub_zero, up_eq, up_ne, up_i, up_j]
      · simp (disch := omega) only [j_0, j_1, j_2, j_3, j_4, j_5, j_6, j_8, j_9, j_16, j_20, j_24, j_33, j_48, j_49, j_57, j_58, j_82, j_83, j_100, j_131, j_179, j_227, j_275, j_512, j_825, j_999, j_1000, j_9999, j_10000, j_11000, j_65536, j_m1, jI_add, jI_sub, jI_mul, jI_neg, nca_9, nca_33, nca_58, nca_83, nca_131, nca_179, nca_227, nca_825, nca_4, nca_24, nca_275, ncb_1, ncb_275, ncb_24, nc_1add, Int.toNat_natCast, tz_0, tz_1, tz_2, tz_3, tz_4, tz_5, tz_6, tz_8, tz_9, tz_16, tz_20, tz_24, tz_33, tz_48, tz_49, tz_57, tz_58, tz_82, tz_83, tz_100, tz_131, tz_179, tz_227, tz_275, tz_512, tz_825, tz_999, tz_1000, tz_9999, tz_10000, tz_11000, tz_65536, nc_sub1, i_lt, n_lt, i_eq, n_eq, jI_natc, jI_nat, ck_ok, nc_lt, nc_le, if_true, if_false, Option.bind_some, wr_def, and_true, true_and, and_false, false_and, or_true, true_or, or_false, false_or, not_true, not_false_eq_true, not_true_eq_false, ite_true, ite_false, Nat.zero_add, Nat.add_zero, Int.add_zero, Int.zero_add, Int.sub_zero, up_eq, up_ne, up_i, up_j]
    · have hi := hin μ'
      rw [e_X8_batch, ln, l_1, l_20]; simp (disch := omega) only [j_0, j_1, j_2, j_3, j_4, j_5, j_6, j_8, j_9, j_16, j_20, j_24, j_33, j_48, j_49, j_57, j_58, j_82, j_83, j_100, j_131, j_179, j_227, j_275, j_512, j_825, j_999, j_1000, j_9999, j_10000, j_11000, j_65536, j_m1, jI_add, jI_sub, jI_mul, jI_neg, nca_9, nca_33, nca_58, nca_83, nca_131, nca_179, nca_227, nca_825, nca_4, nca_24, nca_275, ncb_1, ncb_275, ncb_24, nc_1add, Int.toNat_natCast, tz_0, tz_1, tz_2, tz_3, tz_4, tz_5, tz_6, tz_8, tz_9, tz_16, tz_20, tz_24, tz_33, tz_48, tz_49, tz_57, tz_58, tz_82, tz_83, tz_100, tz_131, tz_179, tz_227, tz_275, tz_512, tz_825, tz_999, tz_1000, tz_9999, tz_10000, tz_11000, tz_65536, nc_sub1, i_lt, n_lt, i_eq, n_eq, jI_natc, jI_nat, ck_ok, nc_lt, nc_le, if_true, if_false, Option.bind_some, wr_def, and_true, true_and, and_false, false_and, or_true, true_or, or_false, false_or, not_true, not_false_eq_true, not_true_eq_false, ite_true, ite_false, Nat.zero_add, Nat.add_zero, Int.add_zero, Int.zero_add, Int.sub_zero, up_eq, up_ne, up_i, up_j, hi]
