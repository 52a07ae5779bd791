/-! the model's pairing -/
theorem t_8 : Int32.toNatClampNeg (jI 8) = 8 := by decide
theorem t_57 : Int32.toNatClampNeg (jI 57) = 57 := by decide
theorem t_82 : Int32.toNatClampNeg (jI 82) = 82 := by decide
theorem m_closesFirst {σ : sT} {μ : mM} {bo : Nat → Int} {e z : Int} (h : mL σ μ) (hw : wf σ) (he : 0 ≤ e ∧ e < 1000) (hz : 0 ≤ z ∧ z < 20000) (hbo : ∀ s, s < sNs σ → μ 53 0 s = jI (bo s)) (bb : ∀ s, -1 ≤ bo s ∧ bo s < 25) :
    f_X8_closesFirst [vr 8 0, vi (jI z), vi (jI e)] μ = some (jI (pk (sZ σ) (beg σ) (enn σ) e bo z (sNs σ)), μ) := by
  rw [e_X8_closesFirst]
  have hn := hw.1
  have key : ∀ (m i : Nat) (x5 : mV), i + m = sNs σ → r_X8_closesFirst_5 (jI z) (jI e) (jI (pk (sZ σ) (beg σ) (enn σ) e bo z i)) (jI (i : Int)) x5 μ = some (jI (pk (sZ σ) (beg σ) (enn σ) e bo z (sNs σ)), μ) := by
    intro m
    induction m with
    | zero =>
      intro i x5 him
      have e0 : i = sNs σ := by omega
      subst e0
      rw [e_X8_closesFirst_5]
      simp (disch := omega) only [j_0, j_1, j_2, j_3, j_4, j_5, j_6, j_8, j_9, j_16, j_20, j_24, j_33, j_48, j_49, j_57, j_58, j_82, j_83, j_100, j_131, j_179, j_227, j_275, j_512, j_825, j_999, j_1000, j_9999, j_10000, j_11000, j_65536, j_m1, jI_add, jI_sub, jI_mul, jI_neg, nca_9, nca_33, nca_58, nca_83, nca_131, nca_179, nca_227, nca_825, nca_4, nca_24, nca_275, ncb_1, ncb_275, ncb_24, nc_1add, Int.toNat_natCast, tz_0, tz_1, tz_2, tz_3, tz_4, tz_5, tz_6, tz_8, tz_9, tz_16, tz_20, tz_24, tz_33, tz_48, tz_49, tz_57, tz_58, tz_82, tz_83, tz_100, tz_131, tz_179, tz_227, tz_275, tz_512, tz_825, tz_999, tz_1000, tz_9999, tz_10000, tz_11000, tz_65536, nc_sub1, i_lt, n_lt, i_eq, n_eq, jI_natc, jI_nat, ck_ok, nc_lt, nc_le, if_true, if_false, Option.bind_some, wr_def, and_true, true_and, and_false, false_and, or_true, true_or, or_false, false_or, not_true, not_false_eq_true, not_true_eq_false, ite_true, ite_false, Nat.zero_add, Nat.add_zero, Int.add_zero, Int.zero_add, Int.sub_zero, up_eq, up_ne, up_i, up_j, t_8, h.1]
    | succ m ih =>
      intro i x5 him
      have hi : i < sNs σ := by omega
      have hb := hbo i hi
      have hbe := wf_be hw hi
      have hbi := bb i
      have hbg := m_begin h hw hi
      have hen := m_end h hw hi
      have hzi := h.2.2.2.2.1 i hi
      have hpl := pck_lt (zs := sZ σ) (bs := beg σ) (es := enn σ) (e := e) (bo := bo) (z := z) (n := i)
      have hz2 := hw.2.2.2.1 i hi
      have hin := f_in z (beg σ i - e) (enn σ i + e) (by omega) (by omega) (by omega) μ
      have l1 := jI_long (z := z) (by omega)
      have l2 := jI_long (z := beg σ i - e) (by omega)
      have l3 := jI_long (z := enn σ i + e) (by omega)
      have hpk : pk (sZ σ) (beg σ) (enn σ) e bo z (i + 1) = if bo i = -1 ∧ beg σ i - e ≤ z ∧ z ≤ enn σ i + e ∧ (pk (sZ σ) (beg σ) (enn σ) e bo z i = -1 ∨ enn σ i < enn σ (pk (sZ σ) (beg σ) (enn σ) e bo z i).toNat ∨ (enn σ i = enn σ (pk (sZ σ) (beg σ) (enn σ) e bo z i).toNat ∧ sZ σ i < sZ σ (pk (sZ σ) (beg σ) (enn σ) e bo z i).toNat)) then (i : Int) else pk (sZ σ) (beg σ) (enn σ) e bo z i := rfl
      have ih2 := fun x5 => ih (i + 1) x5 (by omega)
      generalize hr : pk (sZ σ) (beg σ) (enn σ) e bo z i = r at hpl hpk ⊢
      rw [e_X8_closesFirst_5]
      by_cases a1 : bo i = -1
      · rw [a1] at hb
        by_cases a2 : beg σ i - e ≤ z ∧ z ≤ enn σ i + e
        · rw [if_pos a2] at hin
          by_cases a3 : r = -1
          · rw [if_pos ⟨a1, a2.1, a2.2, Or.inl a3⟩] at hpk
            have := ih2 (vi (jI 1))
            rw [hpk] at this
            simp (disch := omega) only [j_0, j_1, j_2, j_3, j_4, j_5, j_6, j_8, j_9, j_16, j_20, j_24, j_33, j_48, j_49, j_57, j_58, j_82, j_83, j_100, j_131, j_179, j_227, j_275, j_512, j_825, j_999, j_1000, j_9999, j_10000, j_11000, j_65536, j_m1, jI_add, jI_sub, jI_mul, jI_neg, nca_9, nca_33, nca_58, nca_83, nca_131, nca_179, nca_227, nca_825, nca_4, nca_24, nca_275, ncb_1, ncb_275, ncb_24, nc_1add, Int.toNat_natCast, tz_0, tz_1, tz_2, tz_3, tz_4, tz_5, tz_6, tz_8, tz_9, tz_16, tz_20, tz_24, tz_33, tz_48, tz_49, tz_57, tz_58, tz_82, tz_83, tz_100, tz_131, tz_179, tz_227, tz_275, tz_512, tz_825, tz_999, tz_1000, tz_9999, tz_10000, tz_11000, tz_65536, nc_sub1, i_lt, n_lt, i_eq, n_eq, jI_natc, jI_nat, ck_ok, nc_lt, nc_le, if_true, if_false, Option.bind_some, wr_def, and_true, true_and, and_false, false_and, or_true, true_or, or_false, false_or, not_true, not_false_eq_true, not_true_eq_false, ite_true, ite_false, Nat.zero_add, Nat.add_zero, Int.add_zero, Int.zero_add, Int.sub_zero, up_eq, up_ne, up_i, up_j, t_8, h.1, hb, hbg, hen, l1, l2, l3, hin, a3]
            exact this
          · obtain ⟨t, rfl⟩ : ∃ t : Nat, r = (t : Int) := ⟨r.toNat, by omega⟩
            have htn : t < sNs σ := by omega
            have hent := m_end h hw htn
            have hbt := wf_be hw htn
            have hzt := h.2.2.2.2.1 t htn
            have hzt2 := hw.2.2.2.1 t htn
            rw [Int.toNat_natCast] at hpk
            by_cases a4 : enn σ i < enn σ t
            · rw [if_pos ⟨a1, a2.1, a2.2, Or.inr (Or.inl a4)⟩] at hpk
              have := ih2 (vi (jI 1))
              rw [hpk] at this
              simp (disch := omega) only [j_0, j_1, j_2, j_3, j_4, j_5, j_6, j_8, j_9, j_16, j_20, j_24, j_33, j_48, j_49, j_57, j_58, j_82, j_83, j_100, j_131, j_179, j_227, j_275, j_512, j_825, j_999, j_1000, j_9999, j_10000, j_11000, j_65536, j_m1, jI_add, jI_sub, jI_mul, jI_neg, nca_9, nca_33, nca_58, nca_83, nca_131, nca_179, nca_227, nca_825, nca_4, nca_24, nca_275, ncb_1, ncb_275, ncb_24, nc_1add, Int.toNat_natCast, tz_0, tz_1, tz_2, tz_3, tz_4, tz_5, tz_6, tz_8, tz_9, tz_16, tz_20, tz_24, tz_33, tz_48, tz_49, tz_57, tz_58, tz_82, tz_83, tz_100, tz_131, tz_179, tz_227, tz_275, tz_512, tz_825, tz_999, tz_1000, tz_9999, tz_10000, tz_11000, tz_65536, nc_sub1, i_lt, n_lt, i_eq, n_eq, jI_natc, jI_nat, ck_ok, nc_lt, nc_le, if_true, if_false, Option.bind_some, wr_def, and_true, true_and, and_false, false_and, or_true, true_or, or_false, false_or, not_true, not_false_eq_true, not_true_eq_false, ite_true, ite_false, Nat.zero_add, Nat.add_zero, Int.add_zero, Int.zero_add, Int.sub_zero, up_eq, up_ne, up_i, up_j, t_8, h.1, hb, hbg, hen, l1, l2, l3, hin, hent]
              exact this
            · by_cases a5 : enn σ i = enn σ t
              · by_cases a6 : sZ σ i < sZ σ t
                · rw [if_pos ⟨a1, a2.1, a2.2, Or.inr (Or.inr ⟨a5, a6⟩)⟩] at hpk
                  have := ih2 (vi (jI 1))
                  rw [hpk] at this
                  simp (disch := omega) only [j_0, j_1, j_2, j_3, j_4, j_5, j_6, j_8, j_9, j_16, j_20, j_24, j_33, j_48, j_49, j_57, j_58, j_82, j_83, j_100, j_131, j_179, j_227, j_275, j_512, j_825, j_999, j_1000, j_9999, j_10000, j_11000, j_65536, j_m1, jI_add, jI_sub, jI_mul, jI_neg, nca_9, nca_33, nca_58, nca_83, nca_131, nca_179, nca_227, nca_825, nca_4, nca_24, nca_275, ncb_1, ncb_275, ncb_24, nc_1add, Int.toNat_natCast, tz_0, tz_1, tz_2, tz_3, tz_4, tz_5, tz_6, tz_8, tz_9, tz_16, tz_20, tz_24, tz_33, tz_48, tz_49, tz_57, tz_58, tz_82, tz_83, tz_100, tz_131, tz_179, tz_227, tz_275, tz_512, tz_825, tz_999, tz_1000, tz_9999, tz_10000, tz_11000, tz_65536, nc_sub1, i_lt, n_lt, i_eq, n_eq, jI_natc, jI_nat, ck_ok, nc_lt, nc_le, if_true, if_false, Option.bind_some, wr_def, and_true, true_and, and_false, false_and, or_true, true_or, or_false, false_or, not_true, not_false_eq_true, not_true_eq_false, ite_true, ite_false, Nat.zero_add, Nat.add_zero, Int.add_zero, Int.zero_add, Int.sub_zero, up_eq, up_ne, up_i, up_j, t_8, h.1, hb, hbg, hen, l1, l2, l3, hin, hent, hzi, hzt]
                  exact this
                · rw [if_neg (by omega)] at hpk
                  have := ih2 (vi (jI 0))
                  rw [hpk] at this
                  simp (disch := omega) only [j_0, j_1, j_2, j_3, j_4, j_5, j_6, j_8, j_9, j_16, j_20, j_24, j_33, j_48, j_49, j_57, j_58, j_82, j_83, j_100, j_131, j_179, j_227, j_275, j_512, j_825, j_999, j_1000, j_9999, j_10000, j_11000, j_65536, j_m1, jI_add, jI_sub, jI_mul, jI_neg, nca_9, nca_33, nca_58, nca_83, nca_131, nca_179, nca_227, nca_825, nca_4, nca_24, nca_275, ncb_1, ncb_275, ncb_24, nc_1add, Int.toNat_natCast, tz_0, tz_1, tz_2, tz_3, tz_4, tz_5, tz_6, tz_8, tz_9, tz_16, tz_20, tz_24, tz_33, tz_48, tz_49, tz_57, tz_58, tz_82, tz_83, tz_100, tz_131, tz_179, tz_227, tz_275, tz_512, tz_825, tz_999, tz_1000, tz_9999, tz_10000, tz_11000, tz_65536, nc_sub1, i_lt, n_lt, i_eq, n_eq, jI_natc, jI_nat, ck_ok, nc_lt, nc_le, if_true, if_false, Option.bind_some, wr_def, and_true, true_and, and_false, false_and, or_true, true_or, or_false, false_or, not_true, not_false_eq_true, not_true_eq_false, ite_true, ite_false, Nat.zero_add, Nat.add_zero, Int.add_zero, Int.zero_add, Int.sub_zero, up_eq, up_ne, up_i, up_j, t_8, h.1, hb, hbg, hen, l1, l2, l3, hin, hent, hzi, hzt]
                  exact this
              · rw [if_neg (by omega)] at hpk
                have := ih2 (vi (jI 0))
                rw [hpk] at this
                simp (disch := omega) only [j_0, j_1, j_2, j_3, j_4, j_5, j_6, j_8, j_9, j_16, j_20, j_24, j_33, j_48, j_49, j_57, j_58, j_82, j_83, j_100, j_131, j_179, j_227, j_275, j_512, j_825, j_999, j_1000, j_9999, j_10000, j_11000, j_65536, j_m1, jI_add, jI_sub, jI_mul, jI_neg, nca_9, nca_33, nca_58, nca_83, nca_131, nca_179, nca_227, nca_825, nca_4, nca_24, nca_275, ncb_1, ncb_275, ncb_24, nc_1add, Int.toNat_natCast, tz_0, tz_1, tz_2, tz_3, tz_4, tz_5, tz_6, tz_8, tz_9, tz_16, tz_20, tz_24, tz_33, tz_48, tz_49, tz_57, tz_58, tz_82, tz_83, tz_100, tz_131, tz_179, tz_227, tz_275, tz_512, tz_825, tz_999, tz_1000, tz_9999, tz_10000, tz_11000, tz_65536, nc_sub1, i_lt, n_lt, i_eq, n_eq, jI_natc, jI_nat, ck_ok, nc_lt, nc_le, if_true, if_false, Option.bind_some, wr_def, and_true, true_and, and_false, false_and, or_true, true_or, or_false, false_or, not_true, not_false_eq_true, not_true_eq_false, ite_true, ite_false, Nat.zero_add, Nat.add_zero, Int.add_zero, Int.zero_add, Int.sub_zero, up_eq, up_ne, up_i, up_j, t_8, h.1, hb, hbg, hen, l1, l2, l3, hin, hent, hzi, hzt]
                exact this
        · rw [if_neg a2] at hin
          rw [if_neg (fun q => a2 ⟨q.2.1, q.2.2.1⟩)] at hpk
          have := ih2 x5
          rw [hpk] at this
          simp (disch := omega) only [j_0, j_1, j_2, j_3, j_4, j_5, j_6, j_8, j_9, j_16, j_20, j_24, j_33, j_48, j_49, j_57, j_58, j_82, j_83, j_100, j_131, j_179, j_227, j_275, j_512, j_825, j_999, j_1000, j_9999, j_10000, j_11000, j_65536, j_m1, jI_add, jI_sub, jI_mul, jI_neg, nca_9, nca_33, nca_58, nca_83, nca_131, nca_179, nca_227, nca_825, nca_4, nca_24, nca_275, ncb_1, ncb_275, ncb_24, nc_1add, Int.toNat_natCast, tz_0, tz_1, tz_2, tz_3, tz_4, tz_5, tz_6, tz_8, tz_9, tz_16, tz_20, tz_24, tz_33, tz_48, tz_49, tz_57, tz_58, tz_82, tz_83, tz_100, tz_131, tz_179, tz_227, tz_275, tz_512, tz_825, tz_999, tz_1000, tz_9999, tz_10000, tz_11000, tz_65536, nc_sub1, i_lt, n_lt, i_eq, n_eq, jI_natc, jI_nat, ck_ok, nc_lt, nc_le, if_true, if_false, Option.bind_some, wr_def, and_true, true_and, and_false, false_and, or_true, true_or, or_false, false_or, not_true, not_false_eq_true, not_true_eq_false, ite_true, ite_false, Nat.zero_add, Nat.add_zero, Int.add_zero, Int.zero_add, Int.sub_zero, up_eq, up_ne, up_i, up_j, t_8, h.1, hb, hbg, hen, l1, l2, l3, hin]
          exact this
      · rw [if_neg (fun q => a1 q.1)] at hpk
        have := ih2 x5
        rw [hpk] at this
        simp (disch := omega) only [j_0, j_1, j_2, j_3, j_4, j_5, j_6, j_8, j_9, j_16, j_20, j_24, j_33, j_48, j_49, j_57, j_58, j_82, j_83, j_100, j_131, j_179, j_227, j_275, j_512, j_825, j_999, j_1000, j_9999, j_10000, j_11000, j_65536, j_m1, jI_add, jI_sub, jI_mul, jI_neg, nca_9, nca_33, nca_58, nca_83, nca_131, nca_179, nca_227, nca_825, nca_4, nca_24, nca_275, ncb_1, ncb_275, ncb_24, nc_1add, Int.toNat_natCast, tz_0, tz_1, tz_2, tz_3, tz_4, tz_5, tz_6, tz_8, tz_9, tz_16, tz_20, tz_24, tz_33, tz_48, tz_49, tz_57, tz_58, tz_82, tz_83, tz_100, tz_131, tz_179, tz_227, tz_275, tz_512, tz_825, tz_999, tz_1000, tz_9999, tz_10000, tz_11000, tz_65536, nc_sub1, i_lt, n_lt, i_eq, n_eq, jI_natc, jI_nat, ck_ok, nc_lt, nc_le, if_true, if_false, Option.bind_some, wr_def, and_true, true_and, and_false, false_and, or_true, true_or, or_false, false_or, not_true, not_false_eq_true, not_true_eq_false, ite_true, ite_false, Nat.zero_add, Nat.add_zero, Int.add_zero, Int.zero_add, Int.sub_zero, up_eq, up_ne, up_i, up_j, t_8, h.1, hb]
        exact this
  exact key (sNs σ) 0 vu (by omega)
/-- the bores that the model goes through -/
def bhd (B : Nat → Int) (la : Int) (ls : Int) (k : Nat) : Prop := ls < B k ∨ (B k = ls ∧ la < (k : Int))
theorem m_next {N : Nat} {B : Nat → Int} {μ : mM} {la lz : Int} {w : Nat} (hN : N ≤ 25) (hsz : ∀ i, i < N → μ 55 0 i = jI (B i)) (bB : ∀ i, i < N → 0 ≤ B i ∧ B i < 20000) (hla : -1 ≤ la ∧ la < 25) (hlz : -1 ≤ lz ∧ lz < 20000) (hw : w < N) (hbw : bhd B la lz w) (hmin : ∀ k, k < N → bhd B la lz k → k = w ∨ lx B (fun _ => 0) w k) (l1 : Int32) (x2 : mV) (l4 l7 : Int32) :
    ∀ (m : Nat) (r : Int) (x10 : mV), m ≤ N → ((r = -1 ∧ ∀ k, m ≤ k → k < N → ¬ bhd B la lz k) ∨ ∃ b : Nat, r = (b : Int) ∧ m ≤ b ∧ b < N ∧ bhd B la lz b ∧ ∀ k, m ≤ k → k < N → bhd B la lz k → k = b ∨ lx B (fun _ => 0) b k) →
      ∃ x10', r_X8_pairs_129 l1 x2 (jI (N : Int)) l4 (jI la) (jI lz) l7 (jI r) (jI ((m : Int) - 1)) x10 μ = r_X8_pairs_129 l1 x2 (jI (N : Int)) l4 (jI la) (jI lz) l7 (jI (w : Int)) (jI (-1)) x10' μ := by
  intro m
  induction m with
  | zero =>
    intro r x10 hm hr
    have hrw : r = (w : Int) := by
      rcases hr with ⟨-, h2⟩ | ⟨b, h1, -, h3, h4, h5⟩
      · exact absurd hbw (h2 w (by omega) hw)
      · rcases hmin b h3 h4 with c | c
        · rw [h1, c]
        · rcases h5 w (by omega) hw hbw with c2 | c2
          · rw [h1, c2]
          · exact absurd c (lx_irr c2)
    rw [hrw]
    exact ⟨x10, rfl⟩
  | succ m ih =>
    intro r x10 hm hr
    have hmN : m < N := by omega
    have h1 := hsz m hmN
    have h2 := bB m hmN
    have em : ((m + 1 : Nat) : Int) - 1 = (m : Int) := by omega
    have em2 : (m : Int) + -1 = (m : Int) - 1 := by omega
    rw [em]
    -- the new choice
    have step : ∀ (r' : Int) (x : mV), ((r' = -1 ∧ ∀ k, m ≤ k → k < N → ¬ bhd B la lz k) ∨ ∃ b : Nat, r' = (b : Int) ∧ m ≤ b ∧ b < N ∧ bhd B la lz b ∧ ∀ k, m ≤ k → k < N → bhd B la lz k → k = b ∨ lx B (fun _ => 0) b k) → r_X8_pairs_129 l1 x2 (jI (N : Int)) l4 (jI la) (jI lz) l7 (jI r) (jI (m : Int)) x10 μ = r_X8_pairs_129 l1 x2 (jI (N : Int)) l4 (jI la) (jI lz) l7 (jI r') (jI ((m : Int) - 1)) x μ → ∃ x10', r_X8_pairs_129 l1 x2 (jI (N : Int)) l4 (jI la) (jI lz) l7 (jI r) (jI (m : Int)) x10 μ = r_X8_pairs_129 l1 x2 (jI (N : Int)) l4 (jI la) (jI lz) l7 (jI (w : Int)) (jI (-1)) x10' μ := by
      intro r' x hr' he
      obtain ⟨x', hx'⟩ := ih r' x (by omega) hr'
      exact ⟨x', he.trans hx'⟩
    by_cases hb : bhd B la lz m
    · -- m is behind
      rcases hr with ⟨rfl, g2⟩ | ⟨b, rfl, g2, g3, g4, g5⟩
      · refine step (m : Int) (vi 1) (Or.inr ⟨m, rfl, Nat.le_refl m, hmN, hb, fun k k1 k2 k3 => ?_⟩) ?_
        · by_cases c : k = m
          · exact Or.inl c
          · exact absurd k3 (g2 k (by omega) k2)
        · rw [e_X8_pairs_129]
          rcases hb with c | ⟨c1, c2⟩
          · simp (disch := omega) only [j_0, j_1, j_2, j_3, j_4, j_5, j_6, j_8, j_9, j_16, j_20, j_24, j_33, j_48, j_49, j_57, j_58, j_82, j_83, j_100, j_131, j_179, j_227, j_275, j_512, j_825, j_999, j_1000, j_9999, j_10000, j_11000, j_65536, j_m1, jI_add, jI_sub, jI_mul, jI_neg, nca_9, nca_33, nca_58, nca_83, nca_131, nca_179, nca_227, nca_825, nca_4, nca_24, nca_275, ncb_1, ncb_275, ncb_24, nc_1add, Int.toNat_natCast, tz_0, tz_1, tz_2, tz_3, tz_4, tz_5, tz_6, tz_8, tz_9, tz_16, tz_20, tz_24, tz_33, tz_48, tz_49, tz_57, tz_58, tz_82, tz_83, tz_100, tz_131, tz_179, tz_227, tz_275, tz_512, tz_825, tz_999, tz_1000, tz_9999, tz_10000, tz_11000, tz_65536, nc_sub1, i_lt, n_lt, i_eq, n_eq, jI_natc, jI_nat, ck_ok, nc_lt, nc_le, if_true, if_false, Option.bind_some, wr_def, and_true, true_and, and_false, false_and, or_true, true_or, or_false, false_or, not_true, not_false_eq_true, not_true_eq_false, ite_true, ite_false, Nat.zero_add, Nat.add_zero, Int.add_zero, Int.zero_add, Int.sub_zero, up_eq, up_ne, up_i, up_j, h1, em2]
          · simp (disch := omega) only [j_0, j_1, j_2, j_3, j_4, j_5, j_6, j_8, j_9, j_16, j_20, j_24, j_33, j_48, j_49, j_57, j_58, j_82, j_83, j_100, j_131, j_179, j_227, j_275, j_512, j_825, j_999, j_1000, j_9999, j_10000, j_11000, j_65536, j_m1, jI_add, jI_sub, jI_mul, jI_neg, nca_9, nca_33, nca_58, nca_83, nca_131, nca_179, nca_227, nca_825, nca_4, nca_24, nca_275, ncb_1, ncb_275, ncb_24, nc_1add, Int.toNat_natCast, tz_0, tz_1, tz_2, tz_3, tz_4, tz_5, tz_6, tz_8, tz_9, tz_16, tz_20, tz_24, tz_33, tz_48, tz_49, tz_57, tz_58, tz_82, tz_83, tz_100, tz_131, tz_179, tz_227, tz_275, tz_512, tz_825, tz_999, tz_1000, tz_9999, tz_10000, tz_11000, tz_65536, nc_sub1, i_lt, n_lt, i_eq, n_eq, jI_natc, jI_nat, ck_ok, nc_lt, nc_le, if_true, if_false, Option.bind_some, wr_def, and_true, true_and, and_false, false_and, or_true, true_or, or_false, false_or, not_true, not_false_eq_true, not_true_eq_false, ite_true, ite_false, Nat.zero_add, Nat.add_zero, Int.add_zero, Int.zero_add, Int.sub_zero, up_eq, up_ne, up_i, up_j, h1, em2]
      · have h3 := hsz b g3
        have h4 := bB b g3
        by_cases c0 : B b < B m
        · refine step (b : Int) (vi 1) (Or.inr ⟨b, rfl, by omega, g3, g4, fun k k1 k2 k3 => ?_⟩) ?_
          · by_cases c : k = m
            · right; rw [c]; exact Or.inl c0
            · exact g5 k (by omega) k2 k3
          · rw [e_X8_pairs_129]
            rcases hb with c | ⟨c1, c2⟩
            · simp (disch := omega) only [j_0, j_1, j_2, j_3, j_4, j_5, j_6, j_8, j_9, j_16, j_20, j_24, j_33, j_48, j_49, j_57, j_58, j_82, j_83, j_100, j_131, j_179, j_227, j_275, j_512, j_825, j_999, j_1000, j_9999, j_10000, j_11000, j_65536, j_m1, jI_add, jI_sub, jI_mul, jI_neg, nca_9, nca_33, nca_58, nca_83, nca_131, nca_179, nca_227, nca_825, nca_4, nca_24, nca_275, ncb_1, ncb_275, ncb_24, nc_1add, Int.toNat_natCast, tz_0, tz_1, tz_2, tz_3, tz_4, tz_5, tz_6, tz_8, tz_9, tz_16, tz_20, tz_24, tz_33, tz_48, tz_49, tz_57, tz_58, tz_82, tz_83, tz_100, tz_131, tz_179, tz_227, tz_275, tz_512, tz_825, tz_999, tz_1000, tz_9999, tz_10000, tz_11000, tz_65536, nc_sub1, i_lt, n_lt, i_eq, n_eq, jI_natc, jI_nat, ck_ok, nc_lt, nc_le, if_true, if_false, Option.bind_some, wr_def, and_true, true_and, and_false, false_and, or_true, true_or, or_false, false_or, not_true, not_false_eq_true, not_true_eq_false, ite_true, ite_false, Nat.zero_add, Nat.add_zero, Int.add_zero, Int.zero_add, Int.sub_zero, up_eq, up_ne, up_i, up_j, h1, h3, em2]
            · simp (disch := omega) only [j_0, j_1, j_2, j_3, j_4, j_5, j_6, j_8, j_9, j_16, j_20, j_24, j_33, j_48, j_49, j_57, j_58, j_82, j_83, j_100, j_131, j_179, j_227, j_275, j_512, j_825, j_999, j_1000, j_9999, j_10000, j_11000, j_65536, j_m1, jI_add, jI_sub, jI_mul, jI_neg, nca_9, nca_33, nca_58, nca_83, nca_131, nca_179, nca_227, nca_825, nca_4, nca_24, nca_275, ncb_1, ncb_275, ncb_24, nc_1add, Int.toNat_natCast, tz_0, tz_1, tz_2, tz_3, tz_4, tz_5, tz_6, tz_8, tz_9, tz_16, tz_20, tz_24, tz_33, tz_48, tz_49, tz_57, tz_58, tz_82, tz_83, tz_100, tz_131, tz_179, tz_227, tz_275, tz_512, tz_825, tz_999, tz_1000, tz_9999, tz_10000, tz_11000, tz_65536, nc_sub1, i_lt, n_lt, i_eq, n_eq, jI_natc, jI_nat, ck_ok, nc_lt, nc_le, if_true, if_false, Option.bind_some, wr_def, and_true, true_and, and_false, false_and, or_true, true_or, or_false, false_or, not_true, not_false_eq_true, not_true_eq_false, ite_true, ite_false, Nat.zero_add, Nat.add_zero, Int.add_zero, Int.zero_add, Int.sub_zero, up_eq, up_ne, up_i, up_j, h1, h3, em2]
        · refine step (m : Int) (vi 1) (Or.inr ⟨m, rfl, Nat.le_refl m, hmN, hb, fun k k1 k2 k3 => ?_⟩) ?_
          · by_cases c : k = m
            · exact Or.inl c
            · right
              have hle : B m ≤ B b := Int.not_lt.mp c0
              have hmb : lx B (fun _ => 0) m b := by
                rcases Int.lt_or_eq_of_le hle with q | q
                · exact Or.inl q
                · exact Or.inr ⟨q, Or.inr ⟨rfl, by omega⟩⟩
              rcases g5 k (by omega) k2 k3 with c2 | c2
              · rw [c2]; exact hmb
              · exact lx_tr hmb c2
          · rw [e_X8_pairs_129]
            rcases hb with c | ⟨c1, c2⟩
            · simp (disch := omega) only [j_0, j_1, j_2, j_3, j_4, j_5, j_6, j_8, j_9, j_16, j_20, j_24, j_33, j_48, j_49, j_57, j_58, j_82, j_83, j_100, j_131, j_179, j_227, j_275, j_512, j_825, j_999, j_1000, j_9999, j_10000, j_11000, j_65536, j_m1, jI_add, jI_sub, jI_mul, jI_neg, nca_9, nca_33, nca_58, nca_83, nca_131, nca_179, nca_227, nca_825, nca_4, nca_24, nca_275, ncb_1, ncb_275, ncb_24, nc_1add, Int.toNat_natCast, tz_0, tz_1, tz_2, tz_3, tz_4, tz_5, tz_6, tz_8, tz_9, tz_16, tz_20, tz_24, tz_33, tz_48, tz_49, tz_57, tz_58, tz_82, tz_83, tz_100, tz_131, tz_179, tz_227, tz_275, tz_512, tz_825, tz_999, tz_1000, tz_9999, tz_10000, tz_11000, tz_65536, nc_sub1, i_lt, n_lt, i_eq, n_eq, jI_natc, jI_nat, ck_ok, nc_lt, nc_le, if_true, if_false, Option.bind_some, wr_def, and_true, true_and, and_false, false_and, or_true, true_or, or_false, false_or, not_true, not_false_eq_true, not_true_eq_false, ite_true, ite_false, Nat.zero_add, Nat.add_zero, Int.add_zero, Int.zero_add, Int.sub_zero, up_eq, up_ne, up_i, up_j, h1, h3, em2]
            · simp (disch := omega) only [j_0, j_1, j_2, j_3, j_4, j_5, j_6, j_8, j_9, j_16, j_20, j_24, j_33, j_48, j_49, j_57, j_58, j_82, j_83, j_100, j_131, j_179, j_227, j_275, j_512, j_825, j_999, j_1000, j_9999, j_10000, j_11000, j_65536, j_m1, jI_add, jI_sub, jI_mul, jI_neg, nca_9, nca_33, nca_58, nca_83, nca_131, nca_179, nca_227, nca_825, nca_4, nca_24, nca_275, ncb_1, ncb_275, ncb_24, nc_1add, Int.toNat_natCast, tz_0, tz_1, tz_2, tz_3, tz_4, tz_5, tz_6, tz_8, tz_9, tz_16, tz_20, tz_24, tz_33, tz_48, tz_49, tz_57, tz_58, tz_82, tz_83, tz_100, tz_131, tz_179, tz_227, tz_275, tz_512, tz_825, tz_999, tz_1000, tz_9999, tz_10000, tz_11000, tz_65536, nc_sub1, i_lt, n_lt, i_eq, n_eq, jI_natc, jI_nat, ck_ok, nc_lt, nc_le, if_true, if_false, Option.bind_some, wr_def, and_true, true_and, and_false, false_and, or_true, true_or, or_false, false_or, not_true, not_false_eq_true, not_true_eq_false, ite_true, ite_false, Nat.zero_add, Nat.add_zero, Int.add_zero, Int.zero_add, Int.sub_zero, up_eq, up_ne, up_i, up_j, h1, h3, em2]
    · refine step r (vi 0) ?_ ?_
      · rcases hr with ⟨rfl, g2⟩ | ⟨b, rfl, g2, g3, g4, g5⟩
        · refine Or.inl ⟨rfl, fun k k1 k2 k3 => ?_⟩
          by_cases c : k = m
          · rw [c] at k3; exact hb k3
          · exact g2 k (by omega) k2 k3
        · refine Or.inr ⟨b, rfl, by omega, g3, g4, fun k k1 k2 k3 => ?_⟩
          by_cases c : k = m
          · rw [c] at k3; exact absurd k3 hb
          · exact g5 k (by omega) k2 k3
      · rw [e_X8_pairs_129]
        unfold bhd at hb
        by_cases c1 : B m = lz
        · simp (disch := omega) only [j_0, j_1, j_2, j_3, j_4, j_5, j_6, j_8, j_9, j_16, j_20, j_24, j_33, j_48, j_49, j_57, j_58, j_82, j_83, j_100, j_131, j_179, j_227, j_275, j_512, j_825, j_999, j_1000, j_9999, j_10000, j_11000, j_65536, j_m1, jI_add, jI_sub, jI_mul, jI_neg, nca_9, nca_33, nca_58, nca_83, nca_131, nca_179, nca_227, nca_825, nca_4, nca_24, nca_275, ncb_1, ncb_275, ncb_24, nc_1add, Int.toNat_natCast, tz_0, tz_1, tz_2, tz_3, tz_4, tz_5, tz_6, tz_8, tz_9, tz_16, tz_20, tz_24, tz_33, tz_48, tz_49, tz_57, tz_58, tz_82, tz_83, tz_100, tz_131, tz_179, tz_227, tz_275, tz_512, tz_825, tz_999, tz_1000, tz_9999, tz_10000, tz_11000, tz_65536, nc_sub1, i_lt, n_lt, i_eq, n_eq, jI_natc, jI_nat, ck_ok, nc_lt, nc_le, if_true, if_false, Option.bind_some, wr_def, and_true, true_and, and_false, false_and, or_true, true_or, or_false, false_or, not_true, not_false_eq_true, not_true_eq_false, ite_true, ite_false, Nat.zero_add, Nat.add_zero, Int.add_zero, Int.zero_add, Int.sub_zero, up_eq, up_ne, up_i, up_j, h1, em2]
        · simp (disch := omega) only [j_0, j_1, j_2, j_3, j_4, j_5, j_6, j_8, j_9, j_16, j_20, j_24, j_33, j_48, j_49, j_57, j_58, j_82, j_83, j_100, j_131, j_179, j_227, j_275, j_512, j_825, j_999, j_1000, j_9999, j_10000, j_11000, j_65536, j_m1, jI_add, jI_sub, jI_mul, jI_neg, nca_9, nca_33, nca_58, nca_83, nca_131, nca_179, nca_227, nca_825, nca_4, nca_24, nca_275, ncb_1, ncb_275, ncb_24, nc_1add, Int.toNat_natCast, tz_0, tz_1, tz_2, tz_3, tz_4, tz_5, tz_6, tz_8, tz_9, tz_16, tz_20, tz_24, tz_33, tz_48, tz_49, tz_57, tz_58, tz_82, tz_83, tz_100, tz_131, tz_179, tz_227, tz_275, tz_512, tz_825, tz_999, tz_1000, tz_9999, tz_10000, tz_11000, tz_65536, nc_sub1, i_lt, n_lt, i_eq, n_eq, jI_natc, jI_nat, ck_ok, nc_lt, nc_le, if_true, if_false, Option.bind_some, wr_def, and_true, true_and, and_false, false_and, or_true, true_or, or_false, false_or, not_true, not_false_eq_true, not_true_eq_false, ite_true, ite_false, Nat.zero_add, Nat.add_zero, Int.add_zero, Int.zero_add, Int.sub_zero, up_eq, up_ne, up_i, up_j, h1, em2]

/-- the model's pairing goes along any sorted order -/
theorem m_pairs {σ : sT} {μ : mM} {e mo : Int} {N : Nat} {B : Nat → Int} {τ : Nat → Nat} (h : mL σ μ) (hw : wf σ) (he : 0 ≤ e ∧ e < 1000) (hmo : (mo = -1 ∧ N = sNb σ ∧ ∀ i, i < N → B i = sB σ i) ∨ (0 ≤ mo ∧ mo < 20000 ∧ N = sNb σ + 1 ∧ B (sNb σ) = mo ∧ ∀ i, i < sNb σ → B i = sB σ i)) (ht : srt B (fun _ => 0) τ N) :
    ∃ μ', f_X8_pairs [vr 8 0, vi (jI e), vi (jI mo)] μ = some (jI ((grd (sNs σ) (sZ σ) (beg σ) (enn σ) e B τ N).2.2 : Int), μ') ∧ (∀ k i, ¬ (k = 53 ∨ k = 54 ∨ k = 55) → μ' k i = μ k i) ∧ (∀ s, s < sNs σ → μ' 53 0 s = jI ((grd (sNs σ) (sZ σ) (beg σ) (enn σ) e B τ N).1 s)) ∧ (∀ i, i < N → μ' 54 0 (τ i) = jI ((grd (sNs σ) (sZ σ) (beg σ) (enn σ) e B τ N).2.1 (τ i))) := by
  have hn := hw.1
  have hnb := hw.2.1
  have hN : N ≤ 25 := by omega
  have bB : ∀ i, i < N → 0 ≤ B i ∧ B i < 20000 := by
    intro i hi
    rcases hmo with ⟨-, h2, h3⟩ | ⟨h1, h1', h2, h3, h4⟩
    · have := hw.2.2.2.2.1 i (by omega)
      rw [h3 i hi]; omega
    · by_cases c : i = sNb σ
      · rw [c, h3]; omega
      · have := hw.2.2.2.2.1 i (by omega)
        rw [h4 i (by omega)]; omega
  -- the sizes
  have l11 : ∀ (m i : Nat) (μ1 : mM), i + m = sNb σ → (∀ k j, ¬ (k = 53 ∨ k = 54 ∨ k = 55) → μ1 k j = μ k j) → (∀ j, j < i → μ1 55 0 j = jI (sB σ j)) → ∃ μ2 x2, r_X8_pairs_11 (jI e) (jI mo) (jI (sNb σ : Int)) (jI (i : Int)) μ1 = r_X8_pairs_58 (jI e) x2 (jI (N : Int)) (jI ((0 : Nat) : Int)) μ2 ∧ (∀ k j, ¬ (k = 53 ∨ k = 54 ∨ k = 55) → μ2 k j = μ k j) ∧ (∀ j, j < N → μ2 55 0 j = jI (B j)) := by
    intro m
    induction m with
    | zero =>
      intro i μ1 him hf hs
      rcases hmo with ⟨h1, h2, h3⟩ | ⟨h1, h1', h2, h3, h4⟩
      · refine ⟨μ1, vi (jI mo), ?_, hf, fun j hj => by rw [hs j (by omega), h3 j hj]⟩
        rw [e_X8_pairs_11, h1, h2]
        simp (disch := omega) only [j_0, j_1, j_2, j_3, j_4, j_5, j_6, j_8, j_9, j_16, j_20, j_24, j_33, j_48, j_49, j_57, j_58, j_82, j_83, j_100, j_131, j_179, j_227, j_275, j_512, j_825, j_999, j_1000, j_9999, j_10000, j_11000, j_65536, j_m1, jI_add, jI_sub, jI_mul, jI_neg, nca_9, nca_33, nca_58, nca_83, nca_131, nca_179, nca_227, nca_825, nca_4, nca_24, nca_275, ncb_1, ncb_275, ncb_24, nc_1add, Int.toNat_natCast, tz_0, tz_1, tz_2, tz_3, tz_4, tz_5, tz_6, tz_8, tz_9, tz_16, tz_20, tz_24, tz_33, tz_48, tz_49, tz_57, tz_58, tz_82, tz_83, tz_100, tz_131, tz_179, tz_227, tz_275, tz_512, tz_825, tz_999, tz_1000, tz_9999, tz_10000, tz_11000, tz_65536, nc_sub1, i_lt, n_lt, i_eq, n_eq, jI_natc, jI_nat, ck_ok, nc_lt, nc_le, if_true, if_false, Option.bind_some, wr_def, and_true, true_and, and_false, false_and, or_true, true_or, or_false, false_or, not_true, not_false_eq_true, not_true_eq_false, ite_true, ite_false, Nat.zero_add, Nat.add_zero, Int.add_zero, Int.zero_add, Int.sub_zero, up_eq, up_ne, up_i, up_j]
        rfl
      · refine ⟨mm_up μ1 55 0 (sNb σ) (jI mo), vi (jI mo), ?_, fun k j hk => by rw [up_ne (by omega)]; exact hf k j hk, fun j hj => ?_⟩
        · rw [e_X8_pairs_11, h2]
          simp (disch := omega) only [j_0, j_1, j_2, j_3, j_4, j_5, j_6, j_8, j_9, j_16, j_20, j_24, j_33, j_48, j_49, j_57, j_58, j_82, j_83, j_100, j_131, j_179, j_227, j_275, j_512, j_825, j_999, j_1000, j_9999, j_10000, j_11000, j_65536, j_m1, jI_add, jI_sub, jI_mul, jI_neg, nca_9, nca_33, nca_58, nca_83, nca_131, nca_179, nca_227, nca_825, nca_4, nca_24, nca_275, ncb_1, ncb_275, ncb_24, nc_1add, Int.toNat_natCast, tz_0, tz_1, tz_2, tz_3, tz_4, tz_5, tz_6, tz_8, tz_9, tz_16, tz_20, tz_24, tz_33, tz_48, tz_49, tz_57, tz_58, tz_82, tz_83, tz_100, tz_131, tz_179, tz_227, tz_275, tz_512, tz_825, tz_999, tz_1000, tz_9999, tz_10000, tz_11000, tz_65536, nc_sub1, i_lt, n_lt, i_eq, n_eq, jI_natc, jI_nat, ck_ok, nc_lt, nc_le, if_true, if_false, Option.bind_some, wr_def, and_true, true_and, and_false, false_and, or_true, true_or, or_false, false_or, not_true, not_false_eq_true, not_true_eq_false, ite_true, ite_false, Nat.zero_add, Nat.add_zero, Int.add_zero, Int.zero_add, Int.sub_zero, up_eq, up_ne, up_i, up_j]
          rfl
        · by_cases c : j = sNb σ
          · rw [c, h3]; simp (disch := omega) only [j_0, j_1, j_2, j_3, j_4, j_5, j_6, j_8, j_9, j_16, j_20, j_24, j_33, j_48, j_49, j_57, j_58, j_82, j_83, j_100, j_131, j_179, j_227, j_275, j_512, j_825, j_999, j_1000, j_9999, j_10000, j_11000, j_65536, j_m1, jI_add, jI_sub, jI_mul, jI_neg, nca_9, nca_33, nca_58, nca_83, nca_131, nca_179, nca_227, nca_825, nca_4, nca_24, nca_275, ncb_1, ncb_275, ncb_24, nc_1add, Int.toNat_natCast, tz_0, tz_1, tz_2, tz_3, tz_4, tz_5, tz_6, tz_8, tz_9, tz_16, tz_20, tz_24, tz_33, tz_48, tz_49, tz_57, tz_58, tz_82, tz_83, tz_100, tz_131, tz_179, tz_227, tz_275, tz_512, tz_825, tz_999, tz_1000, tz_9999, tz_10000, tz_11000, tz_65536, nc_sub1, i_lt, n_lt, i_eq, n_eq, jI_natc, jI_nat, ck_ok, nc_lt, nc_le, if_true, if_false, Option.bind_some, wr_def, and_true, true_and, and_false, false_and, or_true, true_or, or_false, false_or, not_true, not_false_eq_true, not_true_eq_false, ite_true, ite_false, Nat.zero_add, Nat.add_zero, Int.add_zero, Int.zero_add, Int.sub_zero, up_eq, up_ne, up_i, up_j]
          · rw [h4 j (by omega)]; simp (disch := omega) only [j_0, j_1, j_2, j_3, j_4, j_5, j_6, j_8, j_9, j_16, j_20, j_24, j_33, j_48, j_49, j_57, j_58, j_82, j_83, j_100, j_131, j_179, j_227, j_275, j_512, j_825, j_999, j_1000, j_9999, j_10000, j_11000, j_65536, j_m1, jI_add, jI_sub, jI_mul, jI_neg, nca_9, nca_33, nca_58, nca_83, nca_131, nca_179, nca_227, nca_825, nca_4, nca_24, nca_275, ncb_1, ncb_275, ncb_24, nc_1add, Int.toNat_natCast, tz_0, tz_1, tz_2, tz_3, tz_4, tz_5, tz_6, tz_8, tz_9, tz_16, tz_20, tz_24, tz_33, tz_48, tz_49, tz_57, tz_58, tz_82, tz_83, tz_100, tz_131, tz_179, tz_227, tz_275, tz_512, tz_825, tz_999, tz_1000, tz_9999, tz_10000, tz_11000, tz_65536, nc_sub1, i_lt, n_lt, i_eq, n_eq, jI_natc, jI_nat, ck_ok, nc_lt, nc_le, if_true, if_false, Option.bind_some, wr_def, and_true, true_and, and_false, false_and, or_true, true_or, or_false, false_or, not_true, not_false_eq_true, not_true_eq_false, ite_true, ite_false, Nat.zero_add, Nat.add_zero, Int.add_zero, Int.zero_add, Int.sub_zero, up_eq, up_ne, up_i, up_j, hs j (by omega)]
    | succ m ih =>
      intro i μ1 him hf hs
      have hb := h.2.2.2.2.2.1 i (by omega)
      obtain ⟨μ2, x2, e1, e2, e3⟩ := ih (i + 1) (mm_up μ1 55 0 i (jI (sB σ i))) (by omega) (fun k j hk => by rw [up_ne (by omega)]; exact hf k j hk) (fun j hj => by
        by_cases c : j = i
        · subst c; simp (disch := omega) only [j_0, j_1, j_2, j_3, j_4, j_5, j_6, j_8, j_9, j_16, j_20, j_24, j_33, j_48, j_49, j_57, j_58, j_82, j_83, j_100, j_131, j_179, j_227, j_275, j_512, j_825, j_999, j_1000, j_9999, j_10000, j_11000, j_65536, j_m1, jI_add, jI_sub, jI_mul, jI_neg, nca_9, nca_33, nca_58, nca_83, nca_131, nca_179, nca_227, nca_825, nca_4, nca_24, nca_275, ncb_1, ncb_275, ncb_24, nc_1add, Int.toNat_natCast, tz_0, tz_1, tz_2, tz_3, tz_4, tz_5, tz_6, tz_8, tz_9, tz_16, tz_20, tz_24, tz_33, tz_48, tz_49, tz_57, tz_58, tz_82, tz_83, tz_100, tz_131, tz_179, tz_227, tz_275, tz_512, tz_825, tz_999, tz_1000, tz_9999, tz_10000, tz_11000, tz_65536, nc_sub1, i_lt, n_lt, i_eq, n_eq, jI_natc, jI_nat, ck_ok, nc_lt, nc_le, if_true, if_false, Option.bind_some, wr_def, and_true, true_and, and_false, false_and, or_true, true_or, or_false, false_or, not_true, not_false_eq_true, not_true_eq_false, ite_true, ite_false, Nat.zero_add, Nat.add_zero, Int.add_zero, Int.zero_add, Int.sub_zero, up_eq, up_ne, up_i, up_j]
        · simp (disch := omega) only [j_0, j_1, j_2, j_3, j_4, j_5, j_6, j_8, j_9, j_16, j_20, j_24, j_33, j_48, j_49, j_57, j_58, j_82, j_83, j_100, j_131, j_179, j_227, j_275, j_512, j_825, j_999, j_1000, j_9999, j_10000, j_11000, j_65536, j_m1, jI_add, jI_sub, jI_mul, jI_neg, nca_9, nca_33, nca_58, nca_83, nca_131, nca_179, nca_227, nca_825, nca_4, nca_24, nca_275, ncb_1, ncb_275, ncb_24, nc_1add, Int.toNat_natCast, tz_0, tz_1, tz_2, tz_3, tz_4, tz_5, tz_6, tz_8, tz_9, tz_16, tz_20, tz_24, tz_33, tz_48, tz_49, tz_57, tz_58, tz_82, tz_83, tz_100, tz_131, tz_179, tz_227, tz_275, tz_512, tz_825, tz_999, tz_1000, tz_9999, tz_10000, tz_11000, tz_65536, nc_sub1, i_lt, n_lt, i_eq, n_eq, jI_natc, jI_nat, ck_ok, nc_lt, nc_le, if_true, if_false, Option.bind_some, wr_def, and_true, true_and, and_false, false_and, or_true, true_or, or_false, false_or, not_true, not_false_eq_true, not_true_eq_false, ite_true, ite_false, Nat.zero_add, Nat.add_zero, Int.add_zero, Int.zero_add, Int.sub_zero, up_eq, up_ne, up_i, up_j, hs j (by omega)])
      refine ⟨μ2, x2, ?_, e2, e3⟩
      rw [← e1, e_X8_pairs_11, hf 50 0 (by omega)]
      simp (disch := omega) only [j_0, j_1, j_2, j_3, j_4, j_5, j_6, j_8, j_9, j_16, j_20, j_24, j_33, j_48, j_49, j_57, j_58, j_82, j_83, j_100, j_131, j_179, j_227, j_275, j_512, j_825, j_999, j_1000, j_9999, j_10000, j_11000, j_65536, j_m1, jI_add, jI_sub, jI_mul, jI_neg, nca_9, nca_33, nca_58, nca_83, nca_131, nca_179, nca_227, nca_825, nca_4, nca_24, nca_275, ncb_1, ncb_275, ncb_24, nc_1add, Int.toNat_natCast, tz_0, tz_1, tz_2, tz_3, tz_4, tz_5, tz_6, tz_8, tz_9, tz_16, tz_20, tz_24, tz_33, tz_48, tz_49, tz_57, tz_58, tz_82, tz_83, tz_100, tz_131, tz_179, tz_227, tz_275, tz_512, tz_825, tz_999, tz_1000, tz_9999, tz_10000, tz_11000, tz_65536, nc_sub1, i_lt, n_lt, i_eq, n_eq, jI_natc, jI_nat, ck_ok, nc_lt, nc_le, if_true, if_false, Option.bind_some, wr_def, and_true, true_and, and_false, false_and, or_true, true_or, or_false, false_or, not_true, not_false_eq_true, not_true_eq_false, ite_true, ite_false, Nat.zero_add, Nat.add_zero, Int.add_zero, Int.zero_add, Int.sub_zero, up_eq, up_ne, up_i, up_j, hb]
  obtain ⟨μa, x2, ea, hfa, hsa⟩ := l11 (sNb σ) 0 μ (by omega) (fun _ _ _ => rfl) (fun j hj => by omega)
  have l58 : ∀ (m i : Nat) (μ1 : mM), i + m = 24 → (∀ k j, ¬ (k = 53 ∨ k = 54 ∨ k = 55) → μ1 k j = μ k j) → (∀ j, j < N → μ1 55 0 j = jI (B j)) → (∀ s, s < i → μ1 53 0 s = jI (-1)) → ∃ μ2, r_X8_pairs_58 (jI e) x2 (jI (N : Int)) (jI (i : Int)) μ1 = r_X8_pairs_82 (jI e) x2 (jI (N : Int)) (jI ((0 : Nat) : Int)) μ2 ∧ (∀ k j, ¬ (k = 53 ∨ k = 54 ∨ k = 55) → μ2 k j = μ k j) ∧ (∀ j, j < N → μ2 55 0 j = jI (B j)) ∧ (∀ s, s < 24 → μ2 53 0 s = jI (-1)) := by
    intro m
    induction m with
    | zero =>
      intro i μ1 him hf hs hb
      refine ⟨μ1, ?_, hf, hs, fun s hs => hb s (by omega)⟩
      rw [e_X8_pairs_58]
      simp (disch := omega) only [j_0, j_1, j_2, j_3, j_4, j_5, j_6, j_8, j_9, j_16, j_20, j_24, j_33, j_48, j_49, j_57, j_58, j_82, j_83, j_100, j_131, j_179, j_227, j_275, j_512, j_825, j_999, j_1000, j_9999, j_10000, j_11000, j_65536, j_m1, jI_add, jI_sub, jI_mul, jI_neg, nca_9, nca_33, nca_58, nca_83, nca_131, nca_179, nca_227, nca_825, nca_4, nca_24, nca_275, ncb_1, ncb_275, ncb_24, nc_1add, Int.toNat_natCast, tz_0, tz_1, tz_2, tz_3, tz_4, tz_5, tz_6, tz_8, tz_9, tz_16, tz_20, tz_24, tz_33, tz_48, tz_49, tz_57, tz_58, tz_82, tz_83, tz_100, tz_131, tz_179, tz_227, tz_275, tz_512, tz_825, tz_999, tz_1000, tz_9999, tz_10000, tz_11000, tz_65536, nc_sub1, i_lt, n_lt, i_eq, n_eq, jI_natc, jI_nat, ck_ok, nc_lt, nc_le, if_true, if_false, Option.bind_some, wr_def, and_true, true_and, and_false, false_and, or_true, true_or, or_false, false_or, not_true, not_false_eq_true, not_true_eq_false, ite_true, ite_false, Nat.zero_add, Nat.add_zero, Int.add_zero, Int.zero_add, Int.sub_zero, up_eq, up_ne, up_i, up_j]
      rfl
    | succ m ih =>
      intro i μ1 him hf hs hb
      obtain ⟨μ2, e1, e2⟩ := ih (i + 1) (mm_up μ1 53 0 i (jI (-1))) (by omega) (fun k j hk => by rw [up_ne (by omega)]; exact hf k j hk) (fun j hj => by simp (disch := omega) only [j_0, j_1, j_2, j_3, j_4, j_5, j_6, j_8, j_9, j_16, j_20, j_24, j_33, j_48, j_49, j_57, j_58, j_82, j_83, j_100, j_131, j_179, j_227, j_275, j_512, j_825, j_999, j_1000, j_9999, j_10000, j_11000, j_65536, j_m1, jI_add, jI_sub, jI_mul, jI_neg, nca_9, nca_33, nca_58, nca_83, nca_131, nca_179, nca_227, nca_825, nca_4, nca_24, nca_275, ncb_1, ncb_275, ncb_24, nc_1add, Int.toNat_natCast, tz_0, tz_1, tz_2, tz_3, tz_4, tz_5, tz_6, tz_8, tz_9, tz_16, tz_20, tz_24, tz_33, tz_48, tz_49, tz_57, tz_58, tz_82, tz_83, tz_100, tz_131, tz_179, tz_227, tz_275, tz_512, tz_825, tz_999, tz_1000, tz_9999, tz_10000, tz_11000, tz_65536, nc_sub1, i_lt, n_lt, i_eq, n_eq, jI_natc, jI_nat, ck_ok, nc_lt, nc_le, if_true, if_false, Option.bind_some, wr_def, and_true, true_and, and_false, false_and, or_true, true_or, or_false, false_or, not_true, not_false_eq_true, not_true_eq_false, ite_true, ite_false, Nat.zero_add, Nat.add_zero, Int.add_zero, Int.zero_add, Int.sub_zero, up_eq, up_ne, up_i, up_j, hs j hj]) (fun s hs => by
        by_cases c : s = i
        · subst c; simp (disch := omega) only [j_0, j_1, j_2, j_3, j_4, j_5, j_6, j_8, j_9, j_16, j_20, j_24, j_33, j_48, j_49, j_57, j_58, j_82, j_83, j_100, j_131, j_179, j_227, j_275, j_512, j_825, j_999, j_1000, j_9999, j_10000, j_11000, j_65536, j_m1, jI_add, jI_sub, jI_mul, jI_neg, nca_9, nca_33, nca_58, nca_83, nca_131, nca_179, nca_227, nca_825, nca_4, nca_24, nca_275, ncb_1, ncb_275, ncb_24, nc_1add, Int.toNat_natCast, tz_0, tz_1, tz_2, tz_3, tz_4, tz_5, tz_6, tz_8, tz_9, tz_16, tz_20, tz_24, tz_33, tz_48, tz_49, tz_57, tz_58, tz_82, tz_83, tz_100, tz_131, tz_179, tz_227, tz_275, tz_512, tz_825, tz_999, tz_1000, tz_9999, tz_10000, tz_11000, tz_65536, nc_sub1, i_lt, n_lt, i_eq, n_eq, jI_natc, jI_nat, ck_ok, nc_lt, nc_le, if_true, if_false, Option.bind_some, wr_def, and_true, true_and, and_false, false_and, or_true, true_or, or_false, false_or, not_true, not_false_eq_true, not_true_eq_false, ite_true, ite_false, Nat.zero_add, Nat.add_zero, Int.add_zero, Int.zero_add, Int.sub_zero, up_eq, up_ne, up_i, up_j]
        · simp (disch := omega) only [j_0, j_1, j_2, j_3, j_4, j_5, j_6, j_8, j_9, j_16, j_20, j_24, j_33, j_48, j_49, j_57, j_58, j_82, j_83, j_100, j_131, j_179, j_227, j_275, j_512, j_825, j_999, j_1000, j_9999, j_10000, j_11000, j_65536, j_m1, jI_add, jI_sub, jI_mul, jI_neg, nca_9, nca_33, nca_58, nca_83, nca_131, nca_179, nca_227, nca_825, nca_4, nca_24, nca_275, ncb_1, ncb_275, ncb_24, nc_1add, Int.toNat_natCast, tz_0, tz_1, tz_2, tz_3, tz_4, tz_5, tz_6, tz_8, tz_9, tz_16, tz_20, tz_24, tz_33, tz_48, tz_49, tz_57, tz_58, tz_82, tz_83, tz_100, tz_131, tz_179, tz_227, tz_275, tz_512, tz_825, tz_999, tz_1000, tz_9999, tz_10000, tz_11000, tz_65536, nc_sub1, i_lt, n_lt, i_eq, n_eq, jI_natc, jI_nat, ck_ok, nc_lt, nc_le, if_true, if_false, Option.bind_some, wr_def, and_true, true_and, and_false, false_and, or_true, true_or, or_false, false_or, not_true, not_false_eq_true, not_true_eq_false, ite_true, ite_false, Nat.zero_add, Nat.add_zero, Int.add_zero, Int.zero_add, Int.sub_zero, up_eq, up_ne, up_i, up_j, hb s (by omega)])
      refine ⟨μ2, ?_, e2⟩
      rw [← e1, e_X8_pairs_58]
      simp (disch := omega) only [j_0, j_1, j_2, j_3, j_4, j_5, j_6, j_8, j_9, j_16, j_20, j_24, j_33, j_48, j_49, j_57, j_58, j_82, j_83, j_100, j_131, j_179, j_227, j_275, j_512, j_825, j_999, j_1000, j_9999, j_10000, j_11000, j_65536, j_m1, jI_add, jI_sub, jI_mul, jI_neg, nca_9, nca_33, nca_58, nca_83, nca_131, nca_179, nca_227, nca_825, nca_4, nca_24, nca_275, ncb_1, ncb_275, ncb_24, nc_1add, Int.toNat_natCast, tz_0, tz_1, tz_2, tz_3, tz_4, tz_5, tz_6, tz_8, tz_9, tz_16, tz_20, tz_24, tz_33, tz_48, tz_49, tz_57, tz_58, tz_82, tz_83, tz_100, tz_131, tz_179, tz_227, tz_275, tz_512, tz_825, tz_999, tz_1000, tz_9999, tz_10000, tz_11000, tz_65536, nc_sub1, i_lt, n_lt, i_eq, n_eq, jI_natc, jI_nat, ck_ok, nc_lt, nc_le, if_true, if_false, Option.bind_some, wr_def, and_true, true_and, and_false, false_and, or_true, true_or, or_false, false_or, not_true, not_false_eq_true, not_true_eq_false, ite_true, ite_false, Nat.zero_add, Nat.add_zero, Int.add_zero, Int.zero_add, Int.sub_zero, up_eq, up_ne, up_i, up_j]
  obtain ⟨μb, eb, hfb, hsb, hbb⟩ := l58 24 0 μa (by omega) hfa hsa (fun s hs => by omega)
  have l82 : ∀ (m i : Nat) (μ1 : mM), i + m = 25 → (∀ k j, ¬ (k = 53 ∨ k = 54 ∨ k = 55) → μ1 k j = μ k j) → (∀ j, j < N → μ1 55 0 j = jI (B j)) → (∀ s, s < 24 → μ1 53 0 s = jI (-1)) → ∃ μ2, r_X8_pairs_82 (jI e) x2 (jI (N : Int)) (jI (i : Int)) μ1 = r_X8_pairs_115 (jI e) x2 (jI (N : Int)) 0 (-1) (-1) 0 vu vu vu μ2 ∧ (∀ k j, ¬ (k = 53 ∨ k = 54 ∨ k = 55) → μ2 k j = μ k j) ∧ (∀ j, j < N → μ2 55 0 j = jI (B j)) ∧ (∀ s, s < 24 → μ2 53 0 s = jI (-1)) := by
    intro m
    induction m with
    | zero =>
      intro i μ1 him hf hs hb
      refine ⟨μ1, ?_, hf, hs, hb⟩
      rw [e_X8_pairs_82]
      simp (disch := omega) only [j_0, j_1, j_2, j_3, j_4, j_5, j_6, j_8, j_9, j_16, j_20, j_24, j_33, j_48, j_49, j_57, j_58, j_82, j_83, j_100, j_131, j_179, j_227, j_275, j_512, j_825, j_999, j_1000, j_9999, j_10000, j_11000, j_65536, j_m1, jI_add, jI_sub, jI_mul, jI_neg, nca_9, nca_33, nca_58, nca_83, nca_131, nca_179, nca_227, nca_825, nca_4, nca_24, nca_275, ncb_1, ncb_275, ncb_24, nc_1add, Int.toNat_natCast, tz_0, tz_1, tz_2, tz_3, tz_4, tz_5, tz_6, tz_8, tz_9, tz_16, tz_20, tz_24, tz_33, tz_48, tz_49, tz_57, tz_58, tz_82, tz_83, tz_100, tz_131, tz_179, tz_227, tz_275, tz_512, tz_825, tz_999, tz_1000, tz_9999, tz_10000, tz_11000, tz_65536, nc_sub1, i_lt, n_lt, i_eq, n_eq, jI_natc, jI_nat, ck_ok, nc_lt, nc_le, if_true, if_false, Option.bind_some, wr_def, and_true, true_and, and_false, false_and, or_true, true_or, or_false, false_or, not_true, not_false_eq_true, not_true_eq_false, ite_true, ite_false, Nat.zero_add, Nat.add_zero, Int.add_zero, Int.zero_add, Int.sub_zero, up_eq, up_ne, up_i, up_j]
    | succ m ih =>
      intro i μ1 him hf hs hb
      obtain ⟨μ2, e1, e2⟩ := ih (i + 1) (mm_up μ1 54 0 i (jI (-1))) (by omega) (fun k j hk => by rw [up_ne (by omega)]; exact hf k j hk) (fun j hj => by simp (disch := omega) only [j_0, j_1, j_2, j_3, j_4, j_5, j_6, j_8, j_9, j_16, j_20, j_24, j_33, j_48, j_49, j_57, j_58, j_82, j_83, j_100, j_131, j_179, j_227, j_275, j_512, j_825, j_999, j_1000, j_9999, j_10000, j_11000, j_65536, j_m1, jI_add, jI_sub, jI_mul, jI_neg, nca_9, nca_33, nca_58, nca_83, nca_131, nca_179, nca_227, nca_825, nca_4, nca_24, nca_275, ncb_1, ncb_275, ncb_24, nc_1add, Int.toNat_natCast, tz_0, tz_1, tz_2, tz_3, tz_4, tz_5, tz_6, tz_8, tz_9, tz_16, tz_20, tz_24, tz_33, tz_48, tz_49, tz_57, tz_58, tz_82, tz_83, tz_100, tz_131, tz_179, tz_227, tz_275, tz_512, tz_825, tz_999, tz_1000, tz_9999, tz_10000, tz_11000, tz_65536, nc_sub1, i_lt, n_lt, i_eq, n_eq, jI_natc, jI_nat, ck_ok, nc_lt, nc_le, if_true, if_false, Option.bind_some, wr_def, and_true, true_and, and_false, false_and, or_true, true_or, or_false, false_or, not_true, not_false_eq_true, not_true_eq_false, ite_true, ite_false, Nat.zero_add, Nat.add_zero, Int.add_zero, Int.zero_add, Int.sub_zero, up_eq, up_ne, up_i, up_j, hs j hj]) (fun s hs => by simp (disch := omega) only [j_0, j_1, j_2, j_3, j_4, j_5, j_6, j_8, j_9, j_16, j_20, j_24, j_33, j_48, j_49, j_57, j_58, j_82, j_83, j_100, j_131, j_179, j_227, j_275, j_512, j_825, j_999, j_1000, j_9999, j_10000, j_11000, j_65536, j_m1, jI_add, jI_sub, jI_mul, jI_neg, nca_9, nca_33, nca_58, nca_83, nca_131, nca_179, nca_227, nca_825, nca_4, nca_24, nca_275, ncb_1, ncb_275, ncb_24, nc_1add, Int.toNat_natCast, tz_0, tz_1, tz_2, tz_3, tz_4, tz_5, tz_6, tz_8, tz_9, tz_16, tz_20, tz_24, tz_33, tz_48, tz_49, tz_57, tz_58, tz_82, tz_83, tz_100, tz_131, tz_179, tz_227, tz_275, tz_512, tz_825, tz_999, tz_1000, tz_9999, tz_10000, tz_11000, tz_65536, nc_sub1, i_lt, n_lt, i_eq, n_eq, jI_natc, jI_nat, ck_ok, nc_lt, nc_le, if_true, if_false, Option.bind_some, wr_def, and_true, true_and, and_false, false_and, or_true, true_or, or_false, false_or, not_true, not_false_eq_true, not_true_eq_false, ite_true, ite_false, Nat.zero_add, Nat.add_zero, Int.add_zero, Int.zero_add, Int.sub_zero, up_eq, up_ne, up_i, up_j, hb s hs])
      refine ⟨μ2, ?_, e2⟩
      rw [← e1, e_X8_pairs_82]
      simp (disch := omega) only [j_0, j_1, j_2, j_3, j_4, j_5, j_6, j_8, j_9, j_16, j_20, j_24, j_33, j_48, j_49, j_57, j_58, j_82, j_83, j_100, j_131, j_179, j_227, j_275, j_512, j_825, j_999, j_1000, j_9999, j_10000, j_11000, j_65536, j_m1, jI_add, jI_sub, jI_mul, jI_neg, nca_9, nca_33, nca_58, nca_83, nca_131, nca_179, nca_227, nca_825, nca_4, nca_24, nca_275, ncb_1, ncb_275, ncb_24, nc_1add, Int.toNat_natCast, tz_0, tz_1, tz_2, tz_3, tz_4, tz_5, tz_6, tz_8, tz_9, tz_16, tz_20, tz_24, tz_33, tz_48, tz_49, tz_57, tz_58, tz_82, tz_83, tz_100, tz_131, tz_179, tz_227, tz_275, tz_512, tz_825, tz_999, tz_1000, tz_9999, tz_10000, tz_11000, tz_65536, nc_sub1, i_lt, n_lt, i_eq, n_eq, jI_natc, jI_nat, ck_ok, nc_lt, nc_le, if_true, if_false, Option.bind_some, wr_def, and_true, true_and, and_false, false_and, or_true, true_or, or_false, false_or, not_true, not_false_eq_true, not_true_eq_false, ite_true, ite_false, Nat.zero_add, Nat.add_zero, Int.add_zero, Int.zero_add, Int.sub_zero, up_eq, up_ne, up_i, up_j]
  obtain ⟨μc, ec, hfc, hsc, hbc⟩ := l82 25 0 μb (by omega) hfb hsb hbb
  -- the turns
  have l115 : ∀ (m i : Nat) (μ1 : mM) (la lz : Int) (x8 x9 x10 : mV), i + m = N → (∀ k j, ¬ (k = 53 ∨ k = 54 ∨ k = 55) → μ1 k j = μ k j) → (∀ j, j < N → μ1 55 0 j = jI (B j)) → (∀ s, s < sNs σ → μ1 53 0 s = jI ((grd (sNs σ) (sZ σ) (beg σ) (enn σ) e B τ i).1 s)) → (∀ j, j < i → ∃ b, b = τ j ∧ μ1 54 0 b = jI ((grd (sNs σ) (sZ σ) (beg σ) (enn σ) e B τ i).2.1 b)) →
      ((i = 0 ∧ la = -1 ∧ lz = -1) ∨ (0 < i ∧ la = (τ (i - 1) : Int) ∧ lz = B (τ (i - 1)))) →
      ∃ μ', r_X8_pairs_115 (jI e) x2 (jI (N : Int)) (jI ((grd (sNs σ) (sZ σ) (beg σ) (enn σ) e B τ i).2.2 : Int)) (jI la) (jI lz) (jI (i : Int)) x8 x9 x10 μ1 = some (jI ((grd (sNs σ) (sZ σ) (beg σ) (enn σ) e B τ N).2.2 : Int), μ') ∧ (∀ k j, ¬ (k = 53 ∨ k = 54 ∨ k = 55) → μ' k j = μ k j) ∧ (∀ s, s < sNs σ → μ' 53 0 s = jI ((grd (sNs σ) (sZ σ) (beg σ) (enn σ) e B τ N).1 s)) ∧ (∀ j, j < N → μ' 54 0 (τ j) = jI ((grd (sNs σ) (sZ σ) (beg σ) (enn σ) e B τ N).2.1 (τ j))) := by
    intro m
    induction m with
    | zero =>
      intro i μ1 la lz x8 x9 x10 him hf hs hb hso hl
      have e0 : i = N := by omega
      subst e0
      refine ⟨μ1, ?_, hf, hb, fun j hj => by obtain ⟨b, rfl, h2⟩ := hso j hj; exact h2⟩
      rw [e_X8_pairs_115]
      simp (disch := omega) only [j_0, j_1, j_2, j_3, j_4, j_5, j_6, j_8, j_9, j_16, j_20, j_24, j_33, j_48, j_49, j_57, j_58, j_82, j_83, j_100, j_131, j_179, j_227, j_275, j_512, j_825, j_999, j_1000, j_9999, j_10000, j_11000, j_65536, j_m1, jI_add, jI_sub, jI_mul, jI_neg, nca_9, nca_33, nca_58, nca_83, nca_131, nca_179, nca_227, nca_825, nca_4, nca_24, nca_275, ncb_1, ncb_275, ncb_24, nc_1add, Int.toNat_natCast, tz_0, tz_1, tz_2, tz_3, tz_4, tz_5, tz_6, tz_8, tz_9, tz_16, tz_20, tz_24, tz_33, tz_48, tz_49, tz_57, tz_58, tz_82, tz_83, tz_100, tz_131, tz_179, tz_227, tz_275, tz_512, tz_825, tz_999, tz_1000, tz_9999, tz_10000, tz_11000, tz_65536, nc_sub1, i_lt, n_lt, i_eq, n_eq, jI_natc, jI_nat, ck_ok, nc_lt, nc_le, if_true, if_false, Option.bind_some, wr_def, and_true, true_and, and_false, false_and, or_true, true_or, or_false, false_or, not_true, not_false_eq_true, not_true_eq_false, ite_true, ite_false, Nat.zero_add, Nat.add_zero, Int.add_zero, Int.zero_add, Int.sub_zero, up_eq, up_ne, up_i, up_j]
    | succ m ih =>
      intro i μ1 la lz x8 x9 x10 him hf hs hb hso hl
      have hi : i < N := by omega
      have hτ := ht.1 i hi
      have hBi := bB (τ i) hτ
      have bd := grd_bd (n := sNs σ) (zs := sZ σ) (bs := beg σ) (es := enn σ) (e := e) (B := B) (ρ := τ) (N := N) (fun i hi => by have := ht.1 i hi; omega) i (by omega)
      have hlab : -1 ≤ la ∧ la < 25 ∧ -1 ≤ lz ∧ lz < 20000 := by
        rcases hl with ⟨-, rfl, rfl⟩ | ⟨h1, rfl, rfl⟩
        · omega
        · have := ht.1 (i - 1) (by omega)
          have := bB (τ (i - 1)) this
          omega
      have hbh : ∀ k, k < N → (bhd B la lz k ↔ ∃ j, i ≤ j ∧ j < N ∧ τ j = k) := by
        intro k hk
        obtain ⟨j, hj, rfl⟩ := ht.2.2 k hk
        have hbk := bB (τ j) hk
        rcases hl with ⟨h1, rfl, rfl⟩ | ⟨h1, rfl, rfl⟩
        · constructor
          · intro _; exact ⟨j, by omega, hj, rfl⟩
          · intro _; exact Or.inl (by omega)
        · constructor
          · intro q
            refine ⟨j, ?_, hj, rfl⟩
            rcases Nat.lt_or_ge j i with c | c
            · exfalso
              by_cases c2 : j = i - 1
              · subst c2; unfold bhd at q; omega
              · have := ht.2.1 j (i - 1) (by omega) (by omega)
                unfold bhd at q
                unfold lx at this
                simp only at this
                omega
            · exact c
          · rintro ⟨j', g1, g2, g3⟩
            have e2 := srt_inj ht g2 hj g3
            subst e2
            have := ht.2.1 (i - 1) j' (by omega) hj
            unfold bhd
            unfold lx at this
            simp only at this
            omega
      have hbw : bhd B la lz (τ i) := (hbh (τ i) hτ).mpr ⟨i, Nat.le_refl i, hi, rfl⟩
      have hmin : ∀ k, k < N → bhd B la lz k → k = τ i ∨ lx B (fun _ => 0) (τ i) k := by
        intro k hk hbk
        obtain ⟨j, g1, g2, rfl⟩ := (hbh k hk).mp hbk
        by_cases c : j = i
        · exact Or.inl (by rw [c])
        · exact Or.inr (ht.2.1 i j (by omega) g2)
      obtain ⟨x10', hnext⟩ := m_next hN hs bB ⟨hlab.1, hlab.2.1⟩ ⟨hlab.2.2.1, hlab.2.2.2⟩ hτ hbw hmin (jI e) x2 (jI ((grd (sNs σ) (sZ σ) (beg σ) (enn σ) e B τ i).2.2 : Int)) (jI (i : Int)) N (-1) x10 (Nat.le_refl N) (Or.inl ⟨rfl, fun k k1 k2 => by omega⟩)
      have hm1 : mL σ μ1 := by
        show mSt σ (μ1 50 0)
        rw [hf 50 0 (by omega)]
        exact h
      have hcf := m_closesFirst (z := B (τ i)) hm1 hw he hBi hb bd.1
      have hpk := pck_lt (zs := sZ σ) (bs := beg σ) (es := enn σ) (e := e) (bo := (grd (sNs σ) (sZ σ) (beg σ) (enn σ) e B τ i).1) (z := B (τ i)) (n := sNs σ)
      have hg : grd (sNs σ) (sZ σ) (beg σ) (enn σ) e B τ (i + 1) = if pk (sZ σ) (beg σ) (enn σ) e (grd (sNs σ) (sZ σ) (beg σ) (enn σ) e B τ i).1 (B (τ i)) (sNs σ) = -1 then ((grd (sNs σ) (sZ σ) (beg σ) (enn σ) e B τ i).1, upI (grd (sNs σ) (sZ σ) (beg σ) (enn σ) e B τ i).2.1 (τ i) (-1), (grd (sNs σ) (sZ σ) (beg σ) (enn σ) e B τ i).2.2) else (upI (grd (sNs σ) (sZ σ) (beg σ) (enn σ) e B τ i).1 (pk (sZ σ) (beg σ) (enn σ) e (grd (sNs σ) (sZ σ) (beg σ) (enn σ) e B τ i).1 (B (τ i)) (sNs σ)).toNat (τ i : Int), upI (grd (sNs σ) (sZ σ) (beg σ) (enn σ) e B τ i).2.1 (τ i) (pk (sZ σ) (beg σ) (enn σ) e (grd (sNs σ) (sZ σ) (beg σ) (enn σ) e B τ i).1 (B (τ i)) (sNs σ)), (grd (sNs σ) (sZ σ) (beg σ) (enn σ) e B τ i).2.2 + 1) := rfl
      generalize hr : pk (sZ σ) (beg σ) (enn σ) e (grd (sNs σ) (sZ σ) (beg σ) (enn σ) e B τ i).1 (B (τ i)) (sNs σ) = r at hcf hpk hg
      have hsz := hs (τ i) hτ
      have hso' : ∀ (v : Int32) (μx : mM), (∀ b, b ≠ τ i → μx 54 0 b = μ1 54 0 b) → μx 54 0 (τ i) = jI r → ∀ j, j < i + 1 → ∃ b, b = τ j ∧ μx 54 0 b = jI (upI (grd (sNs σ) (sZ σ) (beg σ) (enn σ) e B τ i).2.1 (τ i) r b) := by
        intro v μx h1 h2 j hj
        refine ⟨τ j, rfl, ?_⟩
        by_cases c2 : τ j = τ i
        · rw [c2, h2, upI_eq]
        · rw [h1 _ c2, upI_ne c2]
          rcases Nat.lt_or_ge j i with c3 | c3
          · obtain ⟨b, rfl, h3⟩ := hso j c3
            exact h3
          · exact absurd (by rw [show j = i by omega]) c2
      rw [e_X8_pairs_115]
      have q0 : (if jI (i : Int) < jI (N : Int) then r_X8_pairs_129 (jI e) x2 (jI (N : Int)) (jI ((grd (sNs σ) (sZ σ) (beg σ) (enn σ) e B τ i).2.2 : Int)) (jI la) (jI lz) (jI (i : Int)) (-1) (jI (N : Int) - 1) x10 μ1 else some (jI ((grd (sNs σ) (sZ σ) (beg σ) (enn σ) e B τ i).2.2 : Int), μ1)) = r_X8_pairs_129 (jI e) x2 (jI (N : Int)) (jI ((grd (sNs σ) (sZ σ) (beg σ) (enn σ) e B τ i).2.2 : Int)) (jI la) (jI lz) (jI (i : Int)) (jI (τ i : Int)) (jI (-1)) x10' μ1 := by
        rw [i_lt (by omega), j_m1, j_1, jI_sub]
        exact hnext
      rw [q0, e_X8_pairs_129]
      by_cases c : r = -1
      · rw [if_pos c] at hg
        obtain ⟨μ', a1, a2, a3, a4⟩ := ih (i + 1) (mm_up μ1 54 0 (τ i) (jI r)) (τ i : Int) (B (τ i)) (vi (jI (τ i : Int))) (vi (jI r)) x10' (by omega) (fun k j hk => by rw [up_ne (by omega)]; exact hf k j hk) (fun j hj => by simp (disch := omega) only [j_0, j_1, j_2, j_3, j_4, j_5, j_6, j_8, j_9, j_16, j_20, j_24, j_33, j_48, j_49, j_57, j_58, j_82, j_83, j_100, j_131, j_179, j_227, j_275, j_512, j_825, j_999, j_1000, j_9999, j_10000, j_11000, j_65536, j_m1, jI_add, jI_sub, jI_mul, jI_neg, nca_9, nca_33, nca_58, nca_83, nca_131, nca_179, nca_227, nca_825, nca_4, nca_24, nca_275, ncb_1, ncb_275, ncb_24, nc_1add, Int.toNat_natCast, tz_0, tz_1, tz_2, tz_3, tz_4, tz_5, tz_6, tz_8, tz_9, tz_16, tz_20, tz_24, tz_33, tz_48, tz_49, tz_57, tz_58, tz_82, tz_83, tz_100, tz_131, tz_179, tz_227, tz_275, tz_512, tz_825, tz_999, tz_1000, tz_9999, tz_10000, tz_11000, tz_65536, nc_sub1, i_lt, n_lt, i_eq, n_eq, jI_natc, jI_nat, ck_ok, nc_lt, nc_le, if_true, if_false, Option.bind_some, wr_def, and_true, true_and, and_false, false_and, or_true, true_or, or_false, false_or, not_true, not_false_eq_true, not_true_eq_false, ite_true, ite_false, Nat.zero_add, Nat.add_zero, Int.add_zero, Int.zero_add, Int.sub_zero, up_eq, up_ne, up_i, up_j, hs j hj]) (fun s hsn => by rw [hg]; simp (disch := omega) only [j_0, j_1, j_2, j_3, j_4, j_5, j_6, j_8, j_9, j_16, j_20, j_24, j_33, j_48, j_49, j_57, j_58, j_82, j_83, j_100, j_131, j_179, j_227, j_275, j_512, j_825, j_999, j_1000, j_9999, j_10000, j_11000, j_65536, j_m1, jI_add, jI_sub, jI_mul, jI_neg, nca_9, nca_33, nca_58, nca_83, nca_131, nca_179, nca_227, nca_825, nca_4, nca_24, nca_275, ncb_1, ncb_275, ncb_24, nc_1add, Int.toNat_natCast, tz_0, tz_1, tz_2, tz_3, tz_4, tz_5, tz_6, tz_8, tz_9, tz_16, tz_20, tz_24, tz_33, tz_48, tz_49, tz_57, tz_58, tz_82, tz_83, tz_100, tz_131, tz_179, tz_227, tz_275, tz_512, tz_825, tz_999, tz_1000, tz_9999, tz_10000, tz_11000, tz_65536, nc_sub1, i_lt, n_lt, i_eq, n_eq, jI_natc, jI_nat, ck_ok, nc_lt, nc_le, if_true, if_false, Option.bind_some, wr_def, and_true, true_and, and_false, false_and, or_true, true_or, or_false, false_or, not_true, not_false_eq_true, not_true_eq_false, ite_true, ite_false, Nat.zero_add, Nat.add_zero, Int.add_zero, Int.zero_add, Int.sub_zero, up_eq, up_ne, up_i, up_j, hb s hsn]) (by
          rw [hg]
          have := hso' 0 (mm_up μ1 54 0 (τ i) (jI r)) (fun b hb => by simp (disch := omega) only [j_0, j_1, j_2, j_3, j_4, j_5, j_6, j_8, j_9, j_16, j_20, j_24, j_33, j_48, j_49, j_57, j_58, j_82, j_83, j_100, j_131, j_179, j_227, j_275, j_512, j_825, j_999, j_1000, j_9999, j_10000, j_11000, j_65536, j_m1, jI_add, jI_sub, jI_mul, jI_neg, nca_9, nca_33, nca_58, nca_83, nca_131, nca_179, nca_227, nca_825, nca_4, nca_24, nca_275, ncb_1, ncb_275, ncb_24, nc_1add, Int.toNat_natCast, tz_0, tz_1, tz_2, tz_3, tz_4, tz_5, tz_6, tz_8, tz_9, tz_16, tz_20, tz_24, tz_33, tz_48, tz_49, tz_57, tz_58, tz_82, tz_83, tz_100, tz_131, tz_179, tz_227, tz_275, tz_512, tz_825, tz_999, tz_1000, tz_9999, tz_10000, tz_11000, tz_65536, nc_sub1, i_lt, n_lt, i_eq, n_eq, jI_natc, jI_nat, ck_ok, nc_lt, nc_le, if_true, if_false, Option.bind_some, wr_def, and_true, true_and, and_false, false_and, or_true, true_or, or_false, false_or, not_true, not_false_eq_true, not_true_eq_false, ite_true, ite_false, Nat.zero_add, Nat.add_zero, Int.add_zero, Int.zero_add, Int.sub_zero, up_eq, up_ne, up_i, up_j]) (by simp (disch := omega) only [j_0, j_1, j_2, j_3, j_4, j_5, j_6, j_8, j_9, j_16, j_20, j_24, j_33, j_48, j_49, j_57, j_58, j_82, j_83, j_100, j_131, j_179, j_227, j_275, j_512, j_825, j_999, j_1000, j_9999, j_10000, j_11000, j_65536, j_m1, jI_add, jI_sub, jI_mul, jI_neg, nca_9, nca_33, nca_58, nca_83, nca_131, nca_179, nca_227, nca_825, nca_4, nca_24, nca_275, ncb_1, ncb_275, ncb_24, nc_1add, Int.toNat_natCast, tz_0, tz_1, tz_2, tz_3, tz_4, tz_5, tz_6, tz_8, tz_9, tz_16, tz_20, tz_24, tz_33, tz_48, tz_49, tz_57, tz_58, tz_82, tz_83, tz_100, tz_131, tz_179, tz_227, tz_275, tz_512, tz_825, tz_999, tz_1000, tz_9999, tz_10000, tz_11000, tz_65536, nc_sub1, i_lt, n_lt, i_eq, n_eq, jI_natc, jI_nat, ck_ok, nc_lt, nc_le, if_true, if_false, Option.bind_some, wr_def, and_true, true_and, and_false, false_and, or_true, true_or, or_false, false_or, not_true, not_false_eq_true, not_true_eq_false, ite_true, ite_false, Nat.zero_add, Nat.add_zero, Int.add_zero, Int.zero_add, Int.sub_zero, up_eq, up_ne, up_i, up_j])
          rw [c] at this
          rw [c]
          exact this) (Or.inr ⟨by omega, by simp, by simp⟩)
        refine ⟨μ', ?_, a2, a3, a4⟩
        rw [← a1, hg]
        simp (disch := omega) only [j_0, j_1, j_2, j_3, j_4, j_5, j_6, j_8, j_9, j_16, j_20, j_24, j_33, j_48, j_49, j_57, j_58, j_82, j_83, j_100, j_131, j_179, j_227, j_275, j_512, j_825, j_999, j_1000, j_9999, j_10000, j_11000, j_65536, j_m1, jI_add, jI_sub, jI_mul, jI_neg, nca_9, nca_33, nca_58, nca_83, nca_131, nca_179, nca_227, nca_825, nca_4, nca_24, nca_275, ncb_1, ncb_275, ncb_24, nc_1add, Int.toNat_natCast, tz_0, tz_1, tz_2, tz_3, tz_4, tz_5, tz_6, tz_8, tz_9, tz_16, tz_20, tz_24, tz_33, tz_48, tz_49, tz_57, tz_58, tz_82, tz_83, tz_100, tz_131, tz_179, tz_227, tz_275, tz_512, tz_825, tz_999, tz_1000, tz_9999, tz_10000, tz_11000, tz_65536, nc_sub1, i_lt, n_lt, i_eq, n_eq, jI_natc, jI_nat, ck_ok, nc_lt, nc_le, if_true, if_false, Option.bind_some, wr_def, and_true, true_and, and_false, false_and, or_true, true_or, or_false, false_or, not_true, not_false_eq_true, not_true_eq_false, ite_true, ite_false, Nat.zero_add, Nat.add_zero, Int.add_zero, Int.zero_add, Int.sub_zero, up_eq, up_ne, up_i, up_j, hsz, hcf, c]
      · rw [if_neg c] at hg
        obtain ⟨μ', a1, a2, a3, a4⟩ := ih (i + 1) (mm_up (mm_up μ1 54 0 (τ i) (jI r)) 53 0 r.toNat (jI (τ i : Int))) (τ i : Int) (B (τ i)) (vi (jI (τ i : Int))) (vi (jI r)) x10' (by omega) (fun k j hk => by rw [up_ne (by omega), up_ne (by omega)]; exact hf k j hk) (fun j hj => by simp (disch := omega) only [j_0, j_1, j_2, j_3, j_4, j_5, j_6, j_8, j_9, j_16, j_20, j_24, j_33, j_48, j_49, j_57, j_58, j_82, j_83, j_100, j_131, j_179, j_227, j_275, j_512, j_825, j_999, j_1000, j_9999, j_10000, j_11000, j_65536, j_m1, jI_add, jI_sub, jI_mul, jI_neg, nca_9, nca_33, nca_58, nca_83, nca_131, nca_179, nca_227, nca_825, nca_4, nca_24, nca_275, ncb_1, ncb_275, ncb_24, nc_1add, Int.toNat_natCast, tz_0, tz_1, tz_2, tz_3, tz_4, tz_5, tz_6, tz_8, tz_9, tz_16, tz_20, tz_24, tz_33, tz_48, tz_49, tz_57, tz_58, tz_82, tz_83, tz_100, tz_131, tz_179, tz_227, tz_275, tz_512, tz_825, tz_999, tz_1000, tz_9999, tz_10000, tz_11000, tz_65536, nc_sub1, i_lt, n_lt, i_eq, n_eq, jI_natc, jI_nat, ck_ok, nc_lt, nc_le, if_true, if_false, Option.bind_some, wr_def, and_true, true_and, and_false, false_and, or_true, true_or, or_false, false_or, not_true, not_false_eq_true, not_true_eq_false, ite_true, ite_false, Nat.zero_add, Nat.add_zero, Int.add_zero, Int.zero_add, Int.sub_zero, up_eq, up_ne, up_i, up_j, hs j hj]) (fun s hsn => by
          rw [hg]
          by_cases c2 : s = r.toNat
          · rw [c2]; simp (disch := omega) only [j_0, j_1, j_2, j_3, j_4, j_5, j_6, j_8, j_9, j_16, j_20, j_24, j_33, j_48, j_49, j_57, j_58, j_82, j_83, j_100, j_131, j_179, j_227, j_275, j_512, j_825, j_999, j_1000, j_9999, j_10000, j_11000, j_65536, j_m1, jI_add, jI_sub, jI_mul, jI_neg, nca_9, nca_33, nca_58, nca_83, nca_131, nca_179, nca_227, nca_825, nca_4, nca_24, nca_275, ncb_1, ncb_275, ncb_24, nc_1add, Int.toNat_natCast, tz_0, tz_1, tz_2, tz_3, tz_4, tz_5, tz_6, tz_8, tz_9, tz_16, tz_20, tz_24, tz_33, tz_48, tz_49, tz_57, tz_58, tz_82, tz_83, tz_100, tz_131, tz_179, tz_227, tz_275, tz_512, tz_825, tz_999, tz_1000, tz_9999, tz_10000, tz_11000, tz_65536, nc_sub1, i_lt, n_lt, i_eq, n_eq, jI_natc, jI_nat, ck_ok, nc_lt, nc_le, if_true, if_false, Option.bind_some, wr_def, and_true, true_and, and_false, false_and, or_true, true_or, or_false, false_or, not_true, not_false_eq_true, not_true_eq_false, ite_true, ite_false, Nat.zero_add, Nat.add_zero, Int.add_zero, Int.zero_add, Int.sub_zero, up_eq, up_ne, up_i, up_j, upI_eq]
          · simp (disch := omega) only [j_0, j_1, j_2, j_3, j_4, j_5, j_6, j_8, j_9, j_16, j_20, j_24, j_33, j_48, j_49, j_57, j_58, j_82, j_83, j_100, j_131, j_179, j_227, j_275, j_512, j_825, j_999, j_1000, j_9999, j_10000, j_11000, j_65536, j_m1, jI_add, jI_sub, jI_mul, jI_neg, nca_9, nca_33, nca_58, nca_83, nca_131, nca_179, nca_227, nca_825, nca_4, nca_24, nca_275, ncb_1, ncb_275, ncb_24, nc_1add, Int.toNat_natCast, tz_0, tz_1, tz_2, tz_3, tz_4, tz_5, tz_6, tz_8, tz_9, tz_16, tz_20, tz_24, tz_33, tz_48, tz_49, tz_57, tz_58, tz_82, tz_83, tz_100, tz_131, tz_179, tz_227, tz_275, tz_512, tz_825, tz_999, tz_1000, tz_9999, tz_10000, tz_11000, tz_65536, nc_sub1, i_lt, n_lt, i_eq, n_eq, jI_natc, jI_nat, ck_ok, nc_lt, nc_le, if_true, if_false, Option.bind_some, wr_def, and_true, true_and, and_false, false_and, or_true, true_or, or_false, false_or, not_true, not_false_eq_true, not_true_eq_false, ite_true, ite_false, Nat.zero_add, Nat.add_zero, Int.add_zero, Int.zero_add, Int.sub_zero, up_eq, up_ne, up_i, up_j, upI_ne, hb s hsn]) (by
          rw [hg]
          exact hso' 0 _ (fun b hb => by simp (disch := omega) only [j_0, j_1, j_2, j_3, j_4, j_5, j_6, j_8, j_9, j_16, j_20, j_24, j_33, j_48, j_49, j_57, j_58, j_82, j_83, j_100, j_131, j_179, j_227, j_275, j_512, j_825, j_999, j_1000, j_9999, j_10000, j_11000, j_65536, j_m1, jI_add, jI_sub, jI_mul, jI_neg, nca_9, nca_33, nca_58, nca_83, nca_131, nca_179, nca_227, nca_825, nca_4, nca_24, nca_275, ncb_1, ncb_275, ncb_24, nc_1add, Int.toNat_natCast, tz_0, tz_1, tz_2, tz_3, tz_4, tz_5, tz_6, tz_8, tz_9, tz_16, tz_20, tz_24, tz_33, tz_48, tz_49, tz_57, tz_58, tz_82, tz_83, tz_100, tz_131, tz_179, tz_227, tz_275, tz_512, tz_825, tz_999, tz_1000, tz_9999, tz_10000, tz_11000, tz_65536, nc_sub1, i_lt, n_lt, i_eq, n_eq, jI_natc, jI_nat, ck_ok, nc_lt, nc_le, if_true, if_false, Option.bind_some, wr_def, and_true, true_and, and_false, false_and, or_true, true_or, or_false, false_or, not_true, not_false_eq_true, not_true_eq_false, ite_true, ite_false, Nat.zero_add, Nat.add_zero, Int.add_zero, Int.zero_add, Int.sub_zero, up_eq, up_ne, up_i, up_j]) (by simp (disch := omega) only [j_0, j_1, j_2, j_3, j_4, j_5, j_6, j_8, j_9, j_16, j_20, j_24, j_33, j_48, j_49, j_57, j_58, j_82, j_83, j_100, j_131, j_179, j_227, j_275, j_512, j_825, j_999, j_1000, j_9999, j_10000, j_11000, j_65536, j_m1, jI_add, jI_sub, jI_mul, jI_neg, nca_9, nca_33, nca_58, nca_83, nca_131, nca_179, nca_227, nca_825, nca_4, nca_24, nca_275, ncb_1, ncb_275, ncb_24, nc_1add, Int.toNat_natCast, tz_0, tz_1, tz_2, tz_3, tz_4, tz_5, tz_6, tz_8, tz_9, tz_16, tz_20, tz_24, tz_33, tz_48, tz_49, tz_57, tz_58, tz_82, tz_83, tz_100, tz_131, tz_179, tz_227, tz_275, tz_512, tz_825, tz_999, tz_1000, tz_9999, tz_10000, tz_11000, tz_65536, nc_sub1, i_lt, n_lt, i_eq, n_eq, jI_natc, jI_nat, ck_ok, nc_lt, nc_le, if_true, if_false, Option.bind_some, wr_def, and_true, true_and, and_false, false_and, or_true, true_or, or_false, false_or, not_true, not_false_eq_true, not_true_eq_false, ite_true, ite_false, Nat.zero_add, Nat.add_zero, Int.add_zero, Int.zero_add, Int.sub_zero, up_eq, up_ne, up_i, up_j])) (Or.inr ⟨by omega, by simp, by simp⟩)
        refine ⟨μ', ?_, a2, a3, a4⟩
        rw [← a1, hg]
        simp (disch := omega) only [j_0, j_1, j_2, j_3, j_4, j_5, j_6, j_8, j_9, j_16, j_20, j_24, j_33, j_48, j_49, j_57, j_58, j_82, j_83, j_100, j_131, j_179, j_227, j_275, j_512, j_825, j_999, j_1000, j_9999, j_10000, j_11000, j_65536, j_m1, jI_add, jI_sub, jI_mul, jI_neg, nca_9, nca_33, nca_58, nca_83, nca_131, nca_179, nca_227, nca_825, nca_4, nca_24, nca_275, ncb_1, ncb_275, ncb_24, nc_1add, Int.toNat_natCast, tz_0, tz_1, tz_2, tz_3, tz_4, tz_5, tz_6, tz_8, tz_9, tz_16, tz_20, tz_24, tz_33, tz_48, tz_49, tz_57, tz_58, tz_82, tz_83, tz_100, tz_131, tz_179, tz_227, tz_275, tz_512, tz_825, tz_999, tz_1000, tz_9999, tz_10000, tz_11000, tz_65536, nc_sub1, i_lt, n_lt, i_eq, n_eq, jI_natc, jI_nat, ck_ok, nc_lt, nc_le, if_true, if_false, Option.bind_some, wr_def, and_true, true_and, and_false, false_and, or_true, true_or, or_false, false_or, not_true, not_false_eq_true, not_true_eq_false, ite_true, ite_false, Nat.zero_add, Nat.add_zero, Int.add_zero, Int.zero_add, Int.sub_zero, up_eq, up_ne, up_i, up_j, hsz, hcf]
  obtain ⟨μ', a1, a2, a3, a4⟩ := l115 N 0 μc (-1) (-1) vu vu vu (by omega) hfc hsc (fun s hs => by rw [hbc s (by omega)]; rfl) (fun j hj => by omega) (Or.inl ⟨rfl, rfl, rfl⟩)
  refine ⟨μ', ?_, a2, a3, a4⟩
  rw [← a1, e_X8_pairs]
  have e57 : ck 5225 57 (r_X8_pairs_11 (jI e) (jI mo) (μ 50 0 (Int32.toNatClampNeg 57)) 0 μ) = r_X8_pairs_11 (jI e) (jI mo) (jI (sNb σ : Int)) (jI ((0 : Nat) : Int)) μ := by
    simp (disch := omega) only [j_0, j_1, j_2, j_3, j_4, j_5, j_6, j_8, j_9, j_16, j_20, j_24, j_33, j_48, j_49, j_57, j_58, j_82, j_83, j_100, j_131, j_179, j_227, j_275, j_512, j_825, j_999, j_1000, j_9999, j_10000, j_11000, j_65536, j_m1, jI_add, jI_sub, jI_mul, jI_neg, nca_9, nca_33, nca_58, nca_83, nca_131, nca_179, nca_227, nca_825, nca_4, nca_24, nca_275, ncb_1, ncb_275, ncb_24, nc_1add, Int.toNat_natCast, tz_0, tz_1, tz_2, tz_3, tz_4, tz_5, tz_6, tz_8, tz_9, tz_16, tz_20, tz_24, tz_33, tz_48, tz_49, tz_57, tz_58, tz_82, tz_83, tz_100, tz_131, tz_179, tz_227, tz_275, tz_512, tz_825, tz_999, tz_1000, tz_9999, tz_10000, tz_11000, tz_65536, nc_sub1, i_lt, n_lt, i_eq, n_eq, jI_natc, jI_nat, ck_ok, nc_lt, nc_le, if_true, if_false, Option.bind_some, wr_def, and_true, true_and, and_false, false_and, or_true, true_or, or_false, false_or, not_true, not_false_eq_true, not_true_eq_false, ite_true, ite_false, Nat.zero_add, Nat.add_zero, Int.add_zero, Int.zero_add, Int.sub_zero, up_eq, up_ne, up_i, up_j, h.2.1]
    rfl
  rw [e57, ea, eb, ec]
  rfl
