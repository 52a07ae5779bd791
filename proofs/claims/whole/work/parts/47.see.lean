/-! what is seen -/
def qT : Type := Nat × (Nat → Int) × (Nat → Int) × (Nat → Int)
def qN (ν : qT) : Nat := ν.1
def qG (ν : qT) : Nat → Int := ν.2.1
def qZ (ν : qT) : Nat → Int := ν.2.2.1
def qW (ν : qT) : Nat → Int := ν.2.2.2
def cSee (ν : qT) (μ : mM) : Prop := μ 4 0 4 = jI (qN ν : Int) ∧ ∀ i, i < qN ν → μ 40 0 i = jI (qG ν i * 10000 + qZ ν i) ∧ μ 41 0 i = jI (qW ν i)
def mSee (ν : qT) (μ : mM) : Prop := μ 8 0 8 = jI (qN ν : Int) ∧ ∀ i, i < qN ν → μ 56 0 i = jI (qG ν i) ∧ μ 57 0 i = jI (qZ ν i) ∧ μ 58 0 i = jI (qW ν i)
def wfS (ν : qT) : Prop := qN ν ≤ 6 ∧ ∀ i, i < qN ν → 0 ≤ qG ν i ∧ qG ν i < 4 ∧ 0 ≤ qZ ν i ∧ qZ ν i < 10000 ∧ 0 ≤ qW ν i ∧ qW ν i ≤ 1
def qB (σ : sT) (ν : qT) (i : Nat) : Int := qZ ν i + sL σ (qG ν i).toNat
def qE (σ : sT) (ν : qT) (i : Nat) : Int := qZ ν i + sM σ (qG ν i).toNat
theorem qBE {σ : sT} {ν : qT} (hw : wf σ) (hs : wfS ν) {i : Nat} (hi : i < qN ν) : 0 ≤ qB σ ν i ∧ qB σ ν i ≤ qE σ ν i ∧ qE σ ν i < 11000 := by
  have h1 := hs.2 i hi
  have h2 := hw.2.2.2.2.2.1 (qG ν i).toNat (by omega)
  unfold qB qE
  omega
/-- z goes with the first n that are seen -/
def so (σ : sT) (ν : qT) (z : Int) : Nat → Bool
  | 0 => true
  | n + 1 => so σ ν z n && decide ((if qB σ ν n ≤ z ∧ z ≤ qE σ ν n then (1 : Int) else 0) = qW ν n)
theorem so_le {σ : sT} {ν : qT} {z : Int} {n : Nat} (h : so σ ν z n = false) : ∀ m, n ≤ m → so σ ν z m = false
  | 0, hm => by rw [show (0 : Nat) = n by omega]; exact h
  | m + 1, hm => by
    by_cases c : n = m + 1
    · rw [← c]; exact h
    · rw [so, so_le h m (by omega)]; rfl
theorem m_isSo {σ : sT} {ν : qT} {μ : mM} (h : mL σ μ) (hw : wf σ) (hS : mSee ν μ) (hs : wfS ν) {z : Int} (hz : 0 ≤ z ∧ z < 20000) : f_X8_isSo [vr 8 0, vi (jI z)] μ = some (jI (if so σ ν z (qN ν) = true then 1 else 0), μ) := by
  have hn := hs.1
  have key : ∀ (n i : Nat) (x4 : mV), i + n = qN ν → r_X8_isSo_4 (jI z) (jI (if so σ ν z i = true then 1 else 0)) (jI (i : Int)) x4 μ = some (jI (if so σ ν z (qN ν) = true then 1 else 0), μ) := by
    intro n
    induction n with
    | zero =>
      intro i x4 hi
      have e : i = qN ν := by omega
      subst e
      rw [e_X8_isSo_4, hS.1]
      by_cases c : so σ ν z (qN ν) = true
      · rw [if_pos c]; simp (disch := omega) only [j_0, j_1, j_2, j_3, j_4, j_5, j_6, j_8, j_9, j_16, j_20, j_24, j_33, j_48, j_49, j_57, j_58, j_82, j_83, j_100, j_131, j_179, j_227, j_275, j_512, j_825, j_999, j_1000, j_9999, j_10000, j_11000, j_65536, j_m1, jI_add, jI_sub, jI_mul, jI_neg, nca_9, nca_33, nca_58, nca_83, nca_131, nca_179, nca_227, nca_825, nca_4, nca_24, nca_275, ncb_1, ncb_275, ncb_24, nc_1add, Int.toNat_natCast, tz_0, tz_1, tz_2, tz_3, tz_4, tz_5, tz_6, tz_8, tz_9, tz_16, tz_20, tz_24, tz_33, tz_48, tz_49, tz_57, tz_58, tz_82, tz_83, tz_100, tz_131, tz_179, tz_227, tz_275, tz_512, tz_825, tz_999, tz_1000, tz_9999, tz_10000, tz_11000, tz_65536, nc_sub1, i_lt, n_lt, i_eq, n_eq, jI_natc, jI_nat, ck_ok, nc_lt, nc_le, if_true, if_false, Option.bind_some, wr_def, and_true, true_and, and_false, false_and, or_true, true_or, or_false, false_or, not_true, not_false_eq_true, not_true_eq_false, ite_true, ite_false, Nat.zero_add, Nat.add_zero, Int.add_zero, Int.zero_add, Int.sub_zero, up_eq, up_ne, up_i, up_j]
      · rw [if_neg c]; simp (disch := omega) only [j_0, j_1, j_2, j_3, j_4, j_5, j_6, j_8, j_9, j_16, j_20, j_24, j_33, j_48, j_49, j_57, j_58, j_82, j_83, j_100, j_131, j_179, j_227, j_275, j_512, j_825, j_999, j_1000, j_9999, j_10000, j_11000, j_65536, j_m1, jI_add, jI_sub, jI_mul, jI_neg, nca_9, nca_33, nca_58, nca_83, nca_131, nca_179, nca_227, nca_825, nca_4, nca_24, nca_275, ncb_1, ncb_275, ncb_24, nc_1add, Int.toNat_natCast, tz_0, tz_1, tz_2, tz_3, tz_4, tz_5, tz_6, tz_8, tz_9, tz_16, tz_20, tz_24, tz_33, tz_48, tz_49, tz_57, tz_58, tz_82, tz_83, tz_100, tz_131, tz_179, tz_227, tz_275, tz_512, tz_825, tz_999, tz_1000, tz_9999, tz_10000, tz_11000, tz_65536, nc_sub1, i_lt, n_lt, i_eq, n_eq, jI_natc, jI_nat, ck_ok, nc_lt, nc_le, if_true, if_false, Option.bind_some, wr_def, and_true, true_and, and_false, false_and, or_true, true_or, or_false, false_or, not_true, not_false_eq_true, not_true_eq_false, ite_true, ite_false, Nat.zero_add, Nat.add_zero, Int.add_zero, Int.zero_add, Int.sub_zero, up_eq, up_ne, up_i, up_j]
    | succ n ih =>
      intro i x4 hi
      have hin : i < qN ν := by omega
      obtain ⟨m1, m2, m3⟩ := hS.2 i hin
      have hq := hs.2 i hin
      have be := qBE hw hs hin
      by_cases c : so σ ν z i = true
      · have hin2 := f_in z (qB σ ν i) (qE σ ν i) (by omega) (by omega) (by omega) μ
        have lz := jI_long (z := z) (by omega)
        have lb := jI_long (z := qB σ ν i) (by omega)
        have le := jI_long (z := qE σ ν i) (by omega)
        have w1 := h.2.2.2.2.2.2.1 (qG ν i).toNat (by omega)
        have w2 := h.2.2.2.2.2.2.2.1 (qG ν i).toNat (by omega)
        have eb : jI (qZ ν i) + μ 50 0 (qG ν i).toNat = jI (qB σ ν i) := by
          rw [w1, jI_add]; rfl
        have ee : jI (qZ ν i) + μ 50 0 (4 + qG ν i).toNat = jI (qE σ ν i) := by
          rw [show (4 + qG ν i).toNat = 4 + (qG ν i).toNat by omega, w2, jI_add]; rfl
        rw [if_pos c, e_X8_isSo_4, hS.1]
        by_cases d : (if qB σ ν i ≤ z ∧ z ≤ qE σ ν i then (1 : Int) else 0) = qW ν i
        · have hi2 := ih (i + 1) (vi (jI (qW ν i))) (by omega)
          rw [if_pos (by rw [so, c, decide_eq_true d]; rfl)] at hi2
          rw [← hi2]
          rw [d] at hin2
          simp (disch := omega) only [j_0, j_1, j_2, j_3, j_4, j_5, j_6, j_8, j_9, j_16, j_20, j_24, j_33, j_48, j_49, j_57, j_58, j_82, j_83, j_100, j_131, j_179, j_227, j_275, j_512, j_825, j_999, j_1000, j_9999, j_10000, j_11000, j_65536, j_m1, jI_add, jI_sub, jI_mul, jI_neg, nca_9, nca_33, nca_58, nca_83, nca_131, nca_179, nca_227, nca_825, nca_4, nca_24, nca_275, ncb_1, ncb_275, ncb_24, nc_1add, Int.toNat_natCast, tz_0, tz_1, tz_2, tz_3, tz_4, tz_5, tz_6, tz_8, tz_9, tz_16, tz_20, tz_24, tz_33, tz_48, tz_49, tz_57, tz_58, tz_82, tz_83, tz_100, tz_131, tz_179, tz_227, tz_275, tz_512, tz_825, tz_999, tz_1000, tz_9999, tz_10000, tz_11000, tz_65536, nc_sub1, i_lt, n_lt, i_eq, n_eq, jI_natc, jI_nat, ck_ok, nc_lt, nc_le, if_true, if_false, Option.bind_some, wr_def, and_true, true_and, and_false, false_and, or_true, true_or, or_false, false_or, not_true, not_false_eq_true, not_true_eq_false, ite_true, ite_false, Nat.zero_add, Nat.add_zero, Int.add_zero, Int.zero_add, Int.sub_zero, up_eq, up_ne, up_i, up_j, m1, m2, m3, eb, ee, lz, lb, le, hin2]
        · have hi2 := ih (i + 1) (vi (jI (if qB σ ν i ≤ z ∧ z ≤ qE σ ν i then (1 : Int) else 0))) (by omega)
          rw [if_neg (by rw [so, c, decide_eq_false d]; simp)] at hi2
          rw [← hi2]
          have b01 : 0 ≤ (if qB σ ν i ≤ z ∧ z ≤ qE σ ν i then (1 : Int) else 0) ∧ (if qB σ ν i ≤ z ∧ z ≤ qE σ ν i then (1 : Int) else 0) ≤ 1 := by split <;> omega
          generalize (if qB σ ν i ≤ z ∧ z ≤ qE σ ν i then (1 : Int) else 0) = w at *
          simp (disch := omega) only [j_0, j_1, j_2, j_3, j_4, j_5, j_6, j_8, j_9, j_16, j_20, j_24, j_33, j_48, j_49, j_57, j_58, j_82, j_83, j_100, j_131, j_179, j_227, j_275, j_512, j_825, j_999, j_1000, j_9999, j_10000, j_11000, j_65536, j_m1, jI_add, jI_sub, jI_mul, jI_neg, nca_9, nca_33, nca_58, nca_83, nca_131, nca_179, nca_227, nca_825, nca_4, nca_24, nca_275, ncb_1, ncb_275, ncb_24, nc_1add, Int.toNat_natCast, tz_0, tz_1, tz_2, tz_3, tz_4, tz_5, tz_6, tz_8, tz_9, tz_16, tz_20, tz_24, tz_33, tz_48, tz_49, tz_57, tz_58, tz_82, tz_83, tz_100, tz_131, tz_179, tz_227, tz_275, tz_512, tz_825, tz_999, tz_1000, tz_9999, tz_10000, tz_11000, tz_65536, nc_sub1, i_lt, n_lt, i_eq, n_eq, jI_natc, jI_nat, ck_ok, nc_lt, nc_le, if_true, if_false, Option.bind_some, wr_def, and_true, true_and, and_false, false_and, or_true, true_or, or_false, false_or, not_true, not_false_eq_true, not_true_eq_false, ite_true, ite_false, Nat.zero_add, Nat.add_zero, Int.add_zero, Int.zero_add, Int.sub_zero, up_eq, up_ne, up_i, up_j, m1, m2, m3, eb, ee, lz, lb, le, hin2]
      · have c' : so σ ν z i = false := by simpa using c
        have ef := so_le c' (qN ν) (by omega)
        rw [if_neg c, if_neg (by rw [ef]; simp), e_X8_isSo_4, hS.1]
        simp (disch := omega) only [j_0, j_1, j_2, j_3, j_4, j_5, j_6, j_8, j_9, j_16, j_20, j_24, j_33, j_48, j_49, j_57, j_58, j_82, j_83, j_100, j_131, j_179, j_227, j_275, j_512, j_825, j_999, j_1000, j_9999, j_10000, j_11000, j_65536, j_m1, jI_add, jI_sub, jI_mul, jI_neg, nca_9, nca_33, nca_58, nca_83, nca_131, nca_179, nca_227, nca_825, nca_4, nca_24, nca_275, ncb_1, ncb_275, ncb_24, nc_1add, Int.toNat_natCast, tz_0, tz_1, tz_2, tz_3, tz_4, tz_5, tz_6, tz_8, tz_9, tz_16, tz_20, tz_24, tz_33, tz_48, tz_49, tz_57, tz_58, tz_82, tz_83, tz_100, tz_131, tz_179, tz_227, tz_275, tz_512, tz_825, tz_999, tz_1000, tz_9999, tz_10000, tz_11000, tz_65536, nc_sub1, i_lt, n_lt, i_eq, n_eq, jI_natc, jI_nat, ck_ok, nc_lt, nc_le, if_true, if_false, Option.bind_some, wr_def, and_true, true_and, and_false, false_and, or_true, true_or, or_false, false_or, not_true, not_false_eq_true, not_true_eq_false, ite_true, ite_false, Nat.zero_add, Nat.add_zero, Int.add_zero, Int.zero_add, Int.sub_zero, up_eq, up_ne, up_i, up_j]
  have := key (qN ν) 0 vu (by omega)
  rw [e_X8_isSo]
  rw [if_pos (show so σ ν z 0 = true from rfl)] at this
  exact this
def sZP (σ : sT) (ν : qT) (z : Nat) : Bool := so σ ν (z : Int) (qN ν)
def loZ (P : Nat → Bool) : Nat → Int
  | 0 => -1
  | n + 1 => if P n = true ∧ cnt P n = 0 then (n : Int) else loZ P n
def hiZ (P : Nat → Bool) : Nat → Int
  | 0 => -1
  | n + 1 => if P n = true then (n : Int) else hiZ P n
/-- what is left after a question about what is seen -/
theorem m_lay {σ : sT} {ν : qT} {μ : mM} (h : mL σ μ) (hw : wf σ) (hS : mSee ν μ) (hs : wfS ν) : ∃ μ', f_X8_laySizes [vr 8 0] μ = some (0, μ') ∧ μ' 8 0 12 = jI (cnt (sZP σ ν) 10000 : Int) ∧ μ' 8 0 13 = jI (loZ (sZP σ ν) 10000) ∧ μ' 8 0 14 = jI (hiZ (sZP σ ν) 10000) ∧ (∀ k i, k ≠ 8 → μ' k i = μ k i) ∧ (∀ f, f ≠ 12 → f ≠ 13 → f ≠ 14 → μ' 8 0 f = μ 8 0 f) := by
  have keep : ∀ μ1 : mM, (∀ k i, k ≠ 8 → μ1 k i = μ k i) → (∀ f, f ≠ 12 → f ≠ 13 → f ≠ 14 → μ1 8 0 f = μ 8 0 f) → mL σ μ1 ∧ mSee ν μ1 := by
    intro μ1 h1 h2
    constructor
    · unfold mL at *; rw [h1 50 0 (by omega)]; exact h
    · unfold mSee at *; rw [h2 8 (by omega) (by omega) (by omega), h1 56 0 (by omega), h1 57 0 (by omega), h1 58 0 (by omega)]; exact hS
  have key : ∀ (m n : Nat) (x2 : mV) (μ1 : mM), n + m = 10000 → (∀ k i, k ≠ 8 → μ1 k i = μ k i) → (∀ f, f ≠ 12 → f ≠ 13 → f ≠ 14 → μ1 8 0 f = μ 8 0 f) → μ1 8 0 12 = jI (cnt (sZP σ ν) n : Int) → μ1 8 0 13 = jI (loZ (sZP σ ν) n) → μ1 8 0 14 = jI (hiZ (sZP σ ν) n) → ∃ μ', r_X8_laySizes_17 (jI (n : Int)) x2 μ1 = some (0, μ') ∧ μ' 8 0 12 = jI (cnt (sZP σ ν) 10000 : Int) ∧ μ' 8 0 13 = jI (loZ (sZP σ ν) 10000) ∧ μ' 8 0 14 = jI (hiZ (sZP σ ν) 10000) ∧ (∀ k i, k ≠ 8 → μ' k i = μ k i) ∧ (∀ f, f ≠ 12 → f ≠ 13 → f ≠ 14 → μ' 8 0 f = μ 8 0 f) := by
    intro m
    induction m with
    | zero =>
      intro n x2 μ1 hn f1 f2 h12 h13 h14
      have e : n = 10000 := by omega
      subst e
      refine ⟨μ1, ?_, h12, h13, h14, f1, f2⟩
      rw [e_X8_laySizes_17]
      simp (disch := omega) only [j_0, j_1, j_2, j_3, j_4, j_5, j_6, j_8, j_9, j_16, j_20, j_24, j_33, j_48, j_49, j_57, j_58, j_82, j_83, j_100, j_131, j_179, j_227, j_275, j_512, j_825, j_999, j_1000, j_9999, j_10000, j_11000, j_65536, j_m1, jI_add, jI_sub, jI_mul, jI_neg, nca_9, nca_33, nca_58, nca_83, nca_131, nca_179, nca_227, nca_825, nca_4, nca_24, nca_275, ncb_1, ncb_275, ncb_24, nc_1add, Int.toNat_natCast, tz_0, tz_1, tz_2, tz_3, tz_4, tz_5, tz_6, tz_8, tz_9, tz_16, tz_20, tz_24, tz_33, tz_48, tz_49, tz_57, tz_58, tz_82, tz_83, tz_100, tz_131, tz_179, tz_227, tz_275, tz_512, tz_825, tz_999, tz_1000, tz_9999, tz_10000, tz_11000, tz_65536, nc_sub1, i_lt, n_lt, i_eq, n_eq, jI_natc, jI_nat, ck_ok, nc_lt, nc_le, if_true, if_false, Option.bind_some, wr_def, and_true, true_and, and_false, false_and, or_true, true_or, or_false, false_or, not_true, not_false_eq_true, not_true_eq_false, ite_true, ite_false, Nat.zero_add, Nat.add_zero, Int.add_zero, Int.zero_add, Int.sub_zero, up_eq, up_ne, up_i, up_j]
    | succ m ih =>
      intro n x2 μ1 hn f1 f2 h12 h13 h14
      obtain ⟨k1, k2⟩ := keep μ1 f1 f2
      have hso := m_isSo k1 hw k2 hs (z := (n : Int)) (by omega)
      have hc := cnt_le (sZP σ ν) n
      have fr : ∀ v12 v13 v14 : Int32, (∀ k i, k ≠ 8 → (mm_up (mm_up (mm_up μ1 8 0 13 v13) 8 0 14 v14) 8 0 12 v12) k i = μ k i) ∧ (∀ f, f ≠ 12 → f ≠ 13 → f ≠ 14 → (mm_up (mm_up (mm_up μ1 8 0 13 v13) 8 0 14 v14) 8 0 12 v12) 8 0 f = μ 8 0 f) := fun v12 v13 v14 => ⟨fun k i hk => by rw [up_ne (by omega), up_ne (by omega), up_ne (by omega)]; exact f1 k i hk, fun f g1 g2 g3 => by rw [up_j (by omega), up_j (by omega), up_j (by omega)]; exact f2 f g1 g2 g3⟩
      by_cases c : sZP σ ν n = true
      · have c' : so σ ν (n : Int) (qN ν) = true := c
        rw [if_pos c'] at hso
        have e12 : cnt (sZP σ ν) (n + 1) = cnt (sZP σ ν) n + 1 := by rw [cnt, if_pos c]
        have e14 : hiZ (sZP σ ν) (n + 1) = (n : Int) := by rw [hiZ, if_pos c]
        by_cases d : cnt (sZP σ ν) n = 0
        · have e13 : loZ (sZP σ ν) (n + 1) = (n : Int) := by rw [loZ, if_pos ⟨c, d⟩]
          obtain ⟨g1, g2⟩ := fr (jI ((cnt (sZP σ ν) n + 1 : Nat) : Int)) (jI (n : Int)) (jI (n : Int))
          obtain ⟨μ', a1, a2⟩ := ih (n + 1) (vi (jI 1)) _ (by omega) g1 g2 (by rw [e12]; simp (disch := omega) only [j_0, j_1, j_2, j_3, j_4, j_5, j_6, j_8, j_9, j_16, j_20, j_24, j_33, j_48, j_49, j_57, j_58, j_82, j_83, j_100, j_131, j_179, j_227, j_275, j_512, j_825, j_999, j_1000, j_9999, j_10000, j_11000, j_65536, j_m1, jI_add, jI_sub, jI_mul, jI_neg, nca_9, nca_33, nca_58, nca_83, nca_131, nca_179, nca_227, nca_825, nca_4, nca_24, nca_275, ncb_1, ncb_275, ncb_24, nc_1add, Int.toNat_natCast, tz_0, tz_1, tz_2, tz_3, tz_4, tz_5, tz_6, tz_8, tz_9, tz_16, tz_20, tz_24, tz_33, tz_48, tz_49, tz_57, tz_58, tz_82, tz_83, tz_100, tz_131, tz_179, tz_227, tz_275, tz_512, tz_825, tz_999, tz_1000, tz_9999, tz_10000, tz_11000, tz_65536, nc_sub1, i_lt, n_lt, i_eq, n_eq, jI_natc, jI_nat, ck_ok, nc_lt, nc_le, if_true, if_false, Option.bind_some, wr_def, and_true, true_and, and_false, false_and, or_true, true_or, or_false, false_or, not_true, not_false_eq_true, not_true_eq_false, ite_true, ite_false, Nat.zero_add, Nat.add_zero, Int.add_zero, Int.zero_add, Int.sub_zero, up_eq, up_ne, up_i, up_j]) (by rw [e13]; simp (disch := omega) only [j_0, j_1, j_2, j_3, j_4, j_5, j_6, j_8, j_9, j_16, j_20, j_24, j_33, j_48, j_49, j_57, j_58, j_82, j_83, j_100, j_131, j_179, j_227, j_275, j_512, j_825, j_999, j_1000, j_9999, j_10000, j_11000, j_65536, j_m1, jI_add, jI_sub, jI_mul, jI_neg, nca_9, nca_33, nca_58, nca_83, nca_131, nca_179, nca_227, nca_825, nca_4, nca_24, nca_275, ncb_1, ncb_275, ncb_24, nc_1add, Int.toNat_natCast, tz_0, tz_1, tz_2, tz_3, tz_4, tz_5, tz_6, tz_8, tz_9, tz_16, tz_20, tz_24, tz_33, tz_48, tz_49, tz_57, tz_58, tz_82, tz_83, tz_100, tz_131, tz_179, tz_227, tz_275, tz_512, tz_825, tz_999, tz_1000, tz_9999, tz_10000, tz_11000, tz_65536, nc_sub1, i_lt, n_lt, i_eq, n_eq, jI_natc, jI_nat, ck_ok, nc_lt, nc_le, if_true, if_false, Option.bind_some, wr_def, and_true, true_and, and_false, false_and, or_true, true_or, or_false, false_or, not_true, not_false_eq_true, not_true_eq_false, ite_true, ite_false, Nat.zero_add, Nat.add_zero, Int.add_zero, Int.zero_add, Int.sub_zero, up_eq, up_ne, up_i, up_j]) (by rw [e14]; simp (disch := omega) only [j_0, j_1, j_2, j_3, j_4, j_5, j_6, j_8, j_9, j_16, j_20, j_24, j_33, j_48, j_49, j_57, j_58, j_82, j_83, j_100, j_131, j_179, j_227, j_275, j_512, j_825, j_999, j_1000, j_9999, j_10000, j_11000, j_65536, j_m1, jI_add, jI_sub, jI_mul, jI_neg, nca_9, nca_33, nca_58, nca_83, nca_131, nca_179, nca_227, nca_825, nca_4, nca_24, nca_275, ncb_1, ncb_275, ncb_24, nc_1add, Int.toNat_natCast, tz_0, tz_1, tz_2, tz_3, tz_4, tz_5, tz_6, tz_8, tz_9, tz_16, tz_20, tz_24, tz_33, tz_48, tz_49, tz_57, tz_58, tz_82, tz_83, tz_100, tz_131, tz_179, tz_227, tz_275, tz_512, tz_825, tz_999, tz_1000, tz_9999, tz_10000, tz_11000, tz_65536, nc_sub1, i_lt, n_lt, i_eq, n_eq, jI_natc, jI_nat, ck_ok, nc_lt, nc_le, if_true, if_false, Option.bind_some, wr_def, and_true, true_and, and_false, false_and, or_true, true_or, or_false, false_or, not_true, not_false_eq_true, not_true_eq_false, ite_true, ite_false, Nat.zero_add, Nat.add_zero, Int.add_zero, Int.zero_add, Int.sub_zero, up_eq, up_ne, up_i, up_j])
          refine ⟨μ', ?_, a2⟩
          rw [d] at h12
          rw [← a1, e_X8_laySizes_17, d]
          simp (disch := omega) only [j_0, j_1, j_2, j_3, j_4, j_5, j_6, j_8, j_9, j_16, j_20, j_24, j_33, j_48, j_49, j_57, j_58, j_82, j_83, j_100, j_131, j_179, j_227, j_275, j_512, j_825, j_999, j_1000, j_9999, j_10000, j_11000, j_65536, j_m1, jI_add, jI_sub, jI_mul, jI_neg, nca_9, nca_33, nca_58, nca_83, nca_131, nca_179, nca_227, nca_825, nca_4, nca_24, nca_275, ncb_1, ncb_275, ncb_24, nc_1add, Int.toNat_natCast, tz_0, tz_1, tz_2, tz_3, tz_4, tz_5, tz_6, tz_8, tz_9, tz_16, tz_20, tz_24, tz_33, tz_48, tz_49, tz_57, tz_58, tz_82, tz_83, tz_100, tz_131, tz_179, tz_227, tz_275, tz_512, tz_825, tz_999, tz_1000, tz_9999, tz_10000, tz_11000, tz_65536, nc_sub1, i_lt, n_lt, i_eq, n_eq, jI_natc, jI_nat, ck_ok, nc_lt, nc_le, if_true, if_false, Option.bind_some, wr_def, and_true, true_and, and_false, false_and, or_true, true_or, or_false, false_or, not_true, not_false_eq_true, not_true_eq_false, ite_true, ite_false, Nat.zero_add, Nat.add_zero, Int.add_zero, Int.zero_add, Int.sub_zero, up_eq, up_ne, up_i, up_j, hso, h12]
        · have e13 : loZ (sZP σ ν) (n + 1) = loZ (sZP σ ν) n := by rw [loZ, if_neg (fun q => d q.2)]
          obtain ⟨g1, g2⟩ := fr (jI ((cnt (sZP σ ν) n + 1 : Nat) : Int)) (jI (loZ (sZP σ ν) n)) (jI (n : Int))
          obtain ⟨μ', a1, a2⟩ := ih (n + 1) (vi (jI 1)) _ (by omega) g1 g2 (by rw [e12]; simp (disch := omega) only [j_0, j_1, j_2, j_3, j_4, j_5, j_6, j_8, j_9, j_16, j_20, j_24, j_33, j_48, j_49, j_57, j_58, j_82, j_83, j_100, j_131, j_179, j_227, j_275, j_512, j_825, j_999, j_1000, j_9999, j_10000, j_11000, j_65536, j_m1, jI_add, jI_sub, jI_mul, jI_neg, nca_9, nca_33, nca_58, nca_83, nca_131, nca_179, nca_227, nca_825, nca_4, nca_24, nca_275, ncb_1, ncb_275, ncb_24, nc_1add, Int.toNat_natCast, tz_0, tz_1, tz_2, tz_3, tz_4, tz_5, tz_6, tz_8, tz_9, tz_16, tz_20, tz_24, tz_33, tz_48, tz_49, tz_57, tz_58, tz_82, tz_83, tz_100, tz_131, tz_179, tz_227, tz_275, tz_512, tz_825, tz_999, tz_1000, tz_9999, tz_10000, tz_11000, tz_65536, nc_sub1, i_lt, n_lt, i_eq, n_eq, jI_natc, jI_nat, ck_ok, nc_lt, nc_le, if_true, if_false, Option.bind_some, wr_def, and_true, true_and, and_false, false_and, or_true, true_or, or_false, false_or, not_true, not_false_eq_true, not_true_eq_false, ite_true, ite_false, Nat.zero_add, Nat.add_zero, Int.add_zero, Int.zero_add, Int.sub_zero, up_eq, up_ne, up_i, up_j]) (by rw [e13]; simp (disch := omega) only [j_0, j_1, j_2, j_3, j_4, j_5, j_6, j_8, j_9, j_16, j_20, j_24, j_33, j_48, j_49, j_57, j_58, j_82, j_83, j_100, j_131, j_179, j_227, j_275, j_512, j_825, j_999, j_1000, j_9999, j_10000, j_11000, j_65536, j_m1, jI_add, jI_sub, jI_mul, jI_neg, nca_9, nca_33, nca_58, nca_83, nca_131, nca_179, nca_227, nca_825, nca_4, nca_24, nca_275, ncb_1, ncb_275, ncb_24, nc_1add, Int.toNat_natCast, tz_0, tz_1, tz_2, tz_3, tz_4, tz_5, tz_6, tz_8, tz_9, tz_16, tz_20, tz_24, tz_33, tz_48, tz_49, tz_57, tz_58, tz_82, tz_83, tz_100, tz_131, tz_179, tz_227, tz_275, tz_512, tz_825, tz_999, tz_1000, tz_9999, tz_10000, tz_11000, tz_65536, nc_sub1, i_lt, n_lt, i_eq, n_eq, jI_natc, jI_nat, ck_ok, nc_lt, nc_le, if_true, if_false, Option.bind_some, wr_def, and_true, true_and, and_false, false_and, or_true, true_or, or_false, false_or, not_true, not_false_eq_true, not_true_eq_false, ite_true, ite_false, Nat.zero_add, Nat.add_zero, Int.add_zero, Int.zero_add, Int.sub_zero, up_eq, up_ne, up_i, up_j]) (by rw [e14]; simp (disch := omega) only [j_0, j_1, j_2, j_3, j_4, j_5, j_6, j_8, j_9, j_16, j_20, j_24, j_33, j_48, j_49, j_57, j_58, j_82, j_83, j_100, j_131, j_179, j_227, j_275, j_512, j_825, j_999, j_1000, j_9999, j_10000, j_11000, j_65536, j_m1, jI_add, jI_sub, jI_mul, jI_neg, nca_9, nca_33, nca_58, nca_83, nca_131, nca_179, nca_227, nca_825, nca_4, nca_24, nca_275, ncb_1, ncb_275, ncb_24, nc_1add, Int.toNat_natCast, tz_0, tz_1, tz_2, tz_3, tz_4, tz_5, tz_6, tz_8, tz_9, tz_16, tz_20, tz_24, tz_33, tz_48, tz_49, tz_57, tz_58, tz_82, tz_83, tz_100, tz_131, tz_179, tz_227, tz_275, tz_512, tz_825, tz_999, tz_1000, tz_9999, tz_10000, tz_11000, tz_65536, nc_sub1, i_lt, n_lt, i_eq, n_eq, jI_natc, jI_nat, ck_ok, nc_lt, nc_le, if_true, if_false, Option.bind_some, wr_def, and_true, true_and, and_false, false_and, or_true, true_or, or_false, false_or, not_true, not_false_eq_true, not_true_eq_false, ite_true, ite_false, Nat.zero_add, Nat.add_zero, Int.add_zero, Int.zero_add, Int.sub_zero, up_eq, up_ne, up_i, up_j])
          refine ⟨μ', ?_, a2⟩
          rw [← a1, e_X8_laySizes_17]
          simp (disch := omega) only [j_0, j_1, j_2, j_3, j_4, j_5, j_6, j_8, j_9, j_16, j_20, j_24, j_33, j_48, j_49, j_57, j_58, j_82, j_83, j_100, j_131, j_179, j_227, j_275, j_512, j_825, j_999, j_1000, j_9999, j_10000, j_11000, j_65536, j_m1, jI_add, jI_sub, jI_mul, jI_neg, nca_9, nca_33, nca_58, nca_83, nca_131, nca_179, nca_227, nca_825, nca_4, nca_24, nca_275, ncb_1, ncb_275, ncb_24, nc_1add, Int.toNat_natCast, tz_0, tz_1, tz_2, tz_3, tz_4, tz_5, tz_6, tz_8, tz_9, tz_16, tz_20, tz_24, tz_33, tz_48, tz_49, tz_57, tz_58, tz_82, tz_83, tz_100, tz_131, tz_179, tz_227, tz_275, tz_512, tz_825, tz_999, tz_1000, tz_9999, tz_10000, tz_11000, tz_65536, nc_sub1, i_lt, n_lt, i_eq, n_eq, jI_natc, jI_nat, ck_ok, nc_lt, nc_le, if_true, if_false, Option.bind_some, wr_def, and_true, true_and, and_false, false_and, or_true, true_or, or_false, false_or, not_true, not_false_eq_true, not_true_eq_false, ite_true, ite_false, Nat.zero_add, Nat.add_zero, Int.add_zero, Int.zero_add, Int.sub_zero, up_eq, up_ne, up_i, up_j, hso, h12, h13]
      · have c' : ¬ so σ ν (n : Int) (qN ν) = true := c
        rw [if_neg c'] at hso
        have e12 : cnt (sZP σ ν) (n + 1) = cnt (sZP σ ν) n := by rw [cnt, if_neg c]; rfl
        have e14 : hiZ (sZP σ ν) (n + 1) = hiZ (sZP σ ν) n := by rw [hiZ, if_neg c]
        have e13 : loZ (sZP σ ν) (n + 1) = loZ (sZP σ ν) n := by rw [loZ, if_neg (fun q => c q.1)]
        obtain ⟨g1, g2⟩ := fr (jI (cnt (sZP σ ν) n : Int)) (jI (loZ (sZP σ ν) n)) (jI (hiZ (sZP σ ν) n))
        obtain ⟨μ', a1, a2⟩ := ih (n + 1) (vi (jI 0)) _ (by omega) g1 g2 (by rw [e12]; simp (disch := omega) only [j_0, j_1, j_2, j_3, j_4, j_5, j_6, j_8, j_9, j_16, j_20, j_24, j_33, j_48, j_49, j_57, j_58, j_82, j_83, j_100, j_131, j_179, j_227, j_275, j_512, j_825, j_999, j_1000, j_9999, j_10000, j_11000, j_65536, j_m1, jI_add, jI_sub, jI_mul, jI_neg, nca_9, nca_33, nca_58, nca_83, nca_131, nca_179, nca_227, nca_825, nca_4, nca_24, nca_275, ncb_1, ncb_275, ncb_24, nc_1add, Int.toNat_natCast, tz_0, tz_1, tz_2, tz_3, tz_4, tz_5, tz_6, tz_8, tz_9, tz_16, tz_20, tz_24, tz_33, tz_48, tz_49, tz_57, tz_58, tz_82, tz_83, tz_100, tz_131, tz_179, tz_227, tz_275, tz_512, tz_825, tz_999, tz_1000, tz_9999, tz_10000, tz_11000, tz_65536, nc_sub1, i_lt, n_lt, i_eq, n_eq, jI_natc, jI_nat, ck_ok, nc_lt, nc_le, if_true, if_false, Option.bind_some, wr_def, and_true, true_and, and_false, false_and, or_true, true_or, or_false, false_or, not_true, not_false_eq_true, not_true_eq_false, ite_true, ite_false, Nat.zero_add, Nat.add_zero, Int.add_zero, Int.zero_add, Int.sub_zero, up_eq, up_ne, up_i, up_j]) (by rw [e13]; simp (disch := omega) only [j_0, j_1, j_2, j_3, j_4, j_5, j_6, j_8, j_9, j_16, j_20, j_24, j_33, j_48, j_49, j_57, j_58, j_82, j_83, j_100, j_131, j_179, j_227, j_275, j_512, j_825, j_999, j_1000, j_9999, j_10000, j_11000, j_65536, j_m1, jI_add, jI_sub, jI_mul, jI_neg, nca_9, nca_33, nca_58, nca_83, nca_131, nca_179, nca_227, nca_825, nca_4, nca_24, nca_275, ncb_1, ncb_275, ncb_24, nc_1add, Int.toNat_natCast, tz_0, tz_1, tz_2, tz_3, tz_4, tz_5, tz_6, tz_8, tz_9, tz_16, tz_20, tz_24, tz_33, tz_48, tz_49, tz_57, tz_58, tz_82, tz_83, tz_100, tz_131, tz_179, tz_227, tz_275, tz_512, tz_825, tz_999, tz_1000, tz_9999, tz_10000, tz_11000, tz_65536, nc_sub1, i_lt, n_lt, i_eq, n_eq, jI_natc, jI_nat, ck_ok, nc_lt, nc_le, if_true, if_false, Option.bind_some, wr_def, and_true, true_and, and_false, false_and, or_true, true_or, or_false, false_or, not_true, not_false_eq_true, not_true_eq_false, ite_true, ite_false, Nat.zero_add, Nat.add_zero, Int.add_zero, Int.zero_add, Int.sub_zero, up_eq, up_ne, up_i, up_j]) (by rw [e14]; simp (disch := omega) only [j_0, j_1, j_2, j_3, j_4, j_5, j_6, j_8, j_9, j_16, j_20, j_24, j_33, j_48, j_49, j_57, j_58, j_82, j_83, j_100, j_131, j_179, j_227, j_275, j_512, j_825, j_999, j_1000, j_9999, j_10000, j_11000, j_65536, j_m1, jI_add, jI_sub, jI_mul, jI_neg, nca_9, nca_33, nca_58, nca_83, nca_131, nca_179, nca_227, nca_825, nca_4, nca_24, nca_275, ncb_1, ncb_275, ncb_24, nc_1add, Int.toNat_natCast, tz_0, tz_1, tz_2, tz_3, tz_4, tz_5, tz_6, tz_8, tz_9, tz_16, tz_20, tz_24, tz_33, tz_48, tz_49, tz_57, tz_58, tz_82, tz_83, tz_100, tz_131, tz_179, tz_227, tz_275, tz_512, tz_825, tz_999, tz_1000, tz_9999, tz_10000, tz_11000, tz_65536, nc_sub1, i_lt, n_lt, i_eq, n_eq, jI_natc, jI_nat, ck_ok, nc_lt, nc_le, if_true, if_false, Option.bind_some, wr_def, and_true, true_and, and_false, false_and, or_true, true_or, or_false, false_or, not_true, not_false_eq_true, not_true_eq_false, ite_true, ite_false, Nat.zero_add, Nat.add_zero, Int.add_zero, Int.zero_add, Int.sub_zero, up_eq, up_ne, up_i, up_j])
        refine ⟨μ', ?_, a2⟩
        rw [← a1, e_X8_laySizes_17]
        simp (disch := omega) only [j_0, j_1, j_2, j_3, j_4, j_5, j_6, j_8, j_9, j_16, j_20, j_24, j_33, j_48, j_49, j_57, j_58, j_82, j_83, j_100, j_131, j_179, j_227, j_275, j_512, j_825, j_999, j_1000, j_9999, j_10000, j_11000, j_65536, j_m1, jI_add, jI_sub, jI_mul, jI_neg, nca_9, nca_33, nca_58, nca_83, nca_131, nca_179, nca_227, nca_825, nca_4, nca_24, nca_275, ncb_1, ncb_275, ncb_24, nc_1add, Int.toNat_natCast, tz_0, tz_1, tz_2, tz_3, tz_4, tz_5, tz_6, tz_8, tz_9, tz_16, tz_20, tz_24, tz_33, tz_48, tz_49, tz_57, tz_58, tz_82, tz_83, tz_100, tz_131, tz_179, tz_227, tz_275, tz_512, tz_825, tz_999, tz_1000, tz_9999, tz_10000, tz_11000, tz_65536, nc_sub1, i_lt, n_lt, i_eq, n_eq, jI_natc, jI_nat, ck_ok, nc_lt, nc_le, if_true, if_false, Option.bind_some, wr_def, and_true, true_and, and_false, false_and, or_true, true_or, or_false, false_or, not_true, not_false_eq_true, not_true_eq_false, ite_true, ite_false, Nat.zero_add, Nat.add_zero, Int.add_zero, Int.zero_add, Int.sub_zero, up_eq, up_ne, up_i, up_j, hso, h12, h13, h14]
  obtain ⟨μ', a1, a2⟩ := key 10000 0 vu (mm_up (mm_up (mm_up μ 8 0 12 (jI 0)) 8 0 13 (jI (-1))) 8 0 14 (jI (-1))) (by omega) (fun k i hk => by rw [up_ne (by omega), up_ne (by omega), up_ne (by omega)]) (fun f g1 g2 g3 => by rw [up_j (by omega), up_j (by omega), up_j (by omega)]) (by simp (disch := omega) only [j_0, j_1, j_2, j_3, j_4, j_5, j_6, j_8, j_9, j_16, j_20, j_24, j_33, j_48, j_49, j_57, j_58, j_82, j_83, j_100, j_131, j_179, j_227, j_275, j_512, j_825, j_999, j_1000, j_9999, j_10000, j_11000, j_65536, j_m1, jI_add, jI_sub, jI_mul, jI_neg, nca_9, nca_33, nca_58, nca_83, nca_131, nca_179, nca_227, nca_825, nca_4, nca_24, nca_275, ncb_1, ncb_275, ncb_24, nc_1add, Int.toNat_natCast, tz_0, tz_1, tz_2, tz_3, tz_4, tz_5, tz_6, tz_8, tz_9, tz_16, tz_20, tz_24, tz_33, tz_48, tz_49, tz_57, tz_58, tz_82, tz_83, tz_100, tz_131, tz_179, tz_227, tz_275, tz_512, tz_825, tz_999, tz_1000, tz_9999, tz_10000, tz_11000, tz_65536, nc_sub1, i_lt, n_lt, i_eq, n_eq, jI_natc, jI_nat, ck_ok, nc_lt, nc_le, if_true, if_false, Option.bind_some, wr_def, and_true, true_and, and_false, false_and, or_true, true_or, or_false, false_or, not_true, not_false_eq_true, not_true_eq_false, ite_true, ite_false, Nat.zero_add, Nat.add_zero, Int.add_zero, Int.zero_add, Int.sub_zero, up_eq, up_ne, up_i, up_j]; rfl) (by simp (disch := omega) only [j_0, j_1, j_2, j_3, j_4, j_5, j_6, j_8, j_9, j_16, j_20, j_24, j_33, j_48, j_49, j_57, j_58, j_82, j_83, j_100, j_131, j_179, j_227, j_275, j_512, j_825, j_999, j_1000, j_9999, j_10000, j_11000, j_65536, j_m1, jI_add, jI_sub, jI_mul, jI_neg, nca_9, nca_33, nca_58, nca_83, nca_131, nca_179, nca_227, nca_825, nca_4, nca_24, nca_275, ncb_1, ncb_275, ncb_24, nc_1add, Int.toNat_natCast, tz_0, tz_1, tz_2, tz_3, tz_4, tz_5, tz_6, tz_8, tz_9, tz_16, tz_20, tz_24, tz_33, tz_48, tz_49, tz_57, tz_58, tz_82, tz_83, tz_100, tz_131, tz_179, tz_227, tz_275, tz_512, tz_825, tz_999, tz_1000, tz_9999, tz_10000, tz_11000, tz_65536, nc_sub1, i_lt, n_lt, i_eq, n_eq, jI_natc, jI_nat, ck_ok, nc_lt, nc_le, if_true, if_false, Option.bind_some, wr_def, and_true, true_and, and_false, false_and, or_true, true_or, or_false, false_or, not_true, not_false_eq_true, not_true_eq_false, ite_true, ite_false, Nat.zero_add, Nat.add_zero, Int.add_zero, Int.zero_add, Int.sub_zero, up_eq, up_ne, up_i, up_j]; rfl) (by simp (disch := omega) only [j_0, j_1, j_2, j_3, j_4, j_5, j_6, j_8, j_9, j_16, j_20, j_24, j_33, j_48, j_49, j_57, j_58, j_82, j_83, j_100, j_131, j_179, j_227, j_275, j_512, j_825, j_999, j_1000, j_9999, j_10000, j_11000, j_65536, j_m1, jI_add, jI_sub, jI_mul, jI_neg, nca_9, nca_33, nca_58, nca_83, nca_131, nca_179, nca_227, nca_825, nca_4, nca_24, nca_275, ncb_1, ncb_275, ncb_24, nc_1add, Int.toNat_natCast, tz_0, tz_1, tz_2, tz_3, tz_4, tz_5, tz_6, tz_8, tz_9, tz_16, tz_20, tz_24, tz_33, tz_48, tz_49, tz_57, tz_58, tz_82, tz_83, tz_100, tz_131, tz_179, tz_227, tz_275, tz_512, tz_825, tz_999, tz_1000, tz_9999, tz_10000, tz_11000, tz_65536, nc_sub1, i_lt, n_lt, i_eq, n_eq, jI_natc, jI_nat, ck_ok, nc_lt, nc_le, if_true, if_false, Option.bind_some, wr_def, and_true, true_and, and_false, false_and, or_true, true_or, or_false, false_or, not_true, not_false_eq_true, not_true_eq_false, ite_true, ite_false, Nat.zero_add, Nat.add_zero, Int.add_zero, Int.zero_add, Int.sub_zero, up_eq, up_ne, up_i, up_j]; rfl)
  refine ⟨μ', ?_, a2⟩
  rw [← a1, e_X8_laySizes]
  simp (disch := omega) only [j_0, j_1, j_2, j_3, j_4, j_5, j_6, j_8, j_9, j_16, j_20, j_24, j_33, j_48, j_49, j_57, j_58, j_82, j_83, j_100, j_131, j_179, j_227, j_275, j_512, j_825, j_999, j_1000, j_9999, j_10000, j_11000, j_65536, j_m1, jI_add, jI_sub, jI_mul, jI_neg, nca_9, nca_33, nca_58, nca_83, nca_131, nca_179, nca_227, nca_825, nca_4, nca_24, nca_275, ncb_1, ncb_275, ncb_24, nc_1add, Int.toNat_natCast, tz_0, tz_1, tz_2, tz_3, tz_4, tz_5, tz_6, tz_8, tz_9, tz_16, tz_20, tz_24, tz_33, tz_48, tz_49, tz_57, tz_58, tz_82, tz_83, tz_100, tz_131, tz_179, tz_227, tz_275, tz_512, tz_825, tz_999, tz_1000, tz_9999, tz_10000, tz_11000, tz_65536, nc_sub1, i_lt, n_lt, i_eq, n_eq, jI_natc, jI_nat, ck_ok, nc_lt, nc_le, if_true, if_false, Option.bind_some, wr_def, and_true, true_and, and_false, false_and, or_true, true_or, or_false, false_or, not_true, not_false_eq_true, not_true_eq_false, ite_true, ite_false, Nat.zero_add, Nat.add_zero, Int.add_zero, Int.zero_add, Int.sub_zero, up_eq, up_ne, up_i, up_j]
  rfl
/-- sizes that go with a shaft -/
def fitN (σ : sT) (ν : qT) (a b : Int) : Nat := cnt (fun z => decide (a ≤ (z : Int) ∧ (z : Int) ≤ b) && sZP σ ν z) 10000
theorem m_fitting {σ : sT} {ν : qT} {μ : mM} (h : mL σ μ) (hw : wf σ) (hS : mSee ν μ) (hs : wfS ν) {s : Nat} (hsn : s < sNs σ) : f_X8_fitting [vr 8 0, vi (jI (s : Int))] μ = some (jI (fitN σ ν (beg σ s) (enn σ s) : Int), μ) := by
  have hn := hw.1
  have be := wf_be hw hsn
  have hb := m_begin h hw hsn
  have he := m_end h hw hsn
  have key : ∀ (m n : Nat), n + m = 11001 → beg σ s ≤ (n : Int) → (n : Int) ≤ enn σ s + 1 → n ≤ 10000 ∨ (n : Int) = beg σ s → r_X8_fitting_8 (jI (s : Int)) (jI (cnt (fun z => decide (beg σ s ≤ (z : Int) ∧ (z : Int) ≤ enn σ s) && sZP σ ν z) (min n 10000) : Int)) (jI (n : Int)) μ = some (jI (fitN σ ν (beg σ s) (enn σ s) : Int), μ) := by
    intro m
    induction m with
    | zero => intro n hn h1 h2 h3; omega
    | succ m ih =>
      intro n hn h1 h2 h3
      have hc := cnt_le (fun z => decide (beg σ s ≤ (z : Int) ∧ (z : Int) ≤ enn σ s) && sZP σ ν z) (min n 10000)
      rw [e_X8_fitting_8]
      by_cases c1 : enn σ s < (n : Int)
      · have e : cnt (fun z => decide (beg σ s ≤ (z : Int) ∧ (z : Int) ≤ enn σ s) && sZP σ ν z) (min n 10000) = fitN σ ν (beg σ s) (enn σ s) := by
          unfold fitN
          refine (cnt_cut 10000 (by omega) (fun i g1 g2 => ?_)).symm
          simp only [Bool.and_eq_false_imp]
          intro q
          have := of_decide_eq_true q
          omega
        rw [e]
        simp (disch := omega) only [j_0, j_1, j_2, j_3, j_4, j_5, j_6, j_8, j_9, j_16, j_20, j_24, j_33, j_48, j_49, j_57, j_58, j_82, j_83, j_100, j_131, j_179, j_227, j_275, j_512, j_825, j_999, j_1000, j_9999, j_10000, j_11000, j_65536, j_m1, jI_add, jI_sub, jI_mul, jI_neg, nca_9, nca_33, nca_58, nca_83, nca_131, nca_179, nca_227, nca_825, nca_4, nca_24, nca_275, ncb_1, ncb_275, ncb_24, nc_1add, Int.toNat_natCast, tz_0, tz_1, tz_2, tz_3, tz_4, tz_5, tz_6, tz_8, tz_9, tz_16, tz_20, tz_24, tz_33, tz_48, tz_49, tz_57, tz_58, tz_82, tz_83, tz_100, tz_131, tz_179, tz_227, tz_275, tz_512, tz_825, tz_999, tz_1000, tz_9999, tz_10000, tz_11000, tz_65536, nc_sub1, i_lt, n_lt, i_eq, n_eq, jI_natc, jI_nat, ck_ok, nc_lt, nc_le, if_true, if_false, Option.bind_some, wr_def, and_true, true_and, and_false, false_and, or_true, true_or, or_false, false_or, not_true, not_false_eq_true, not_true_eq_false, ite_true, ite_false, Nat.zero_add, Nat.add_zero, Int.add_zero, Int.zero_add, Int.sub_zero, up_eq, up_ne, up_i, up_j, he]
      · by_cases c2 : 9999 < (n : Int)
        · have e : cnt (fun z => decide (beg σ s ≤ (z : Int) ∧ (z : Int) ≤ enn σ s) && sZP σ ν z) (min n 10000) = fitN σ ν (beg σ s) (enn σ s) := by
            unfold fitN
            rw [show min n 10000 = 10000 by omega]
          rw [e]
          simp (disch := omega) only [j_0, j_1, j_2, j_3, j_4, j_5, j_6, j_8, j_9, j_16, j_20, j_24, j_33, j_48, j_49, j_57, j_58, j_82, j_83, j_100, j_131, j_179, j_227, j_275, j_512, j_825, j_999, j_1000, j_9999, j_10000, j_11000, j_65536, j_m1, jI_add, jI_sub, jI_mul, jI_neg, nca_9, nca_33, nca_58, nca_83, nca_131, nca_179, nca_227, nca_825, nca_4, nca_24, nca_275, ncb_1, ncb_275, ncb_24, nc_1add, Int.toNat_natCast, tz_0, tz_1, tz_2, tz_3, tz_4, tz_5, tz_6, tz_8, tz_9, tz_16, tz_20, tz_24, tz_33, tz_48, tz_49, tz_57, tz_58, tz_82, tz_83, tz_100, tz_131, tz_179, tz_227, tz_275, tz_512, tz_825, tz_999, tz_1000, tz_9999, tz_10000, tz_11000, tz_65536, nc_sub1, i_lt, n_lt, i_eq, n_eq, jI_natc, jI_nat, ck_ok, nc_lt, nc_le, if_true, if_false, Option.bind_some, wr_def, and_true, true_and, and_false, false_and, or_true, true_or, or_false, false_or, not_true, not_false_eq_true, not_true_eq_false, ite_true, ite_false, Nat.zero_add, Nat.add_zero, Int.add_zero, Int.zero_add, Int.sub_zero, up_eq, up_ne, up_i, up_j, he]
        · have em : min n 10000 = n := by omega
          have em1 : min (n + 1) 10000 = n + 1 := by omega
          have hso := m_isSo h hw hS hs (z := (n : Int)) (by omega)
          have hi2 := ih (n + 1) (by omega) (by omega) (by omega) (by omega)
          rw [em1] at hi2
          rw [em] at hc ⊢
          by_cases c : sZP σ ν n = true
          · have c' : so σ ν (n : Int) (qN ν) = true := c
            rw [if_pos c'] at hso
            have e12 : cnt (fun z => decide (beg σ s ≤ (z : Int) ∧ (z : Int) ≤ enn σ s) && sZP σ ν z) (n + 1) = cnt (fun z => decide (beg σ s ≤ (z : Int) ∧ (z : Int) ≤ enn σ s) && sZP σ ν z) n + 1 := by
              rw [cnt, if_pos (by rw [c, decide_eq_true (by omega)]; rfl)]
            rw [e12] at hi2
            rw [← hi2]
            simp (disch := omega) only [j_0, j_1, j_2, j_3, j_4, j_5, j_6, j_8, j_9, j_16, j_20, j_24, j_33, j_48, j_49, j_57, j_58, j_82, j_83, j_100, j_131, j_179, j_227, j_275, j_512, j_825, j_999, j_1000, j_9999, j_10000, j_11000, j_65536, j_m1, jI_add, jI_sub, jI_mul, jI_neg, nca_9, nca_33, nca_58, nca_83, nca_131, nca_179, nca_227, nca_825, nca_4, nca_24, nca_275, ncb_1, ncb_275, ncb_24, nc_1add, Int.toNat_natCast, tz_0, tz_1, tz_2, tz_3, tz_4, tz_5, tz_6, tz_8, tz_9, tz_16, tz_20, tz_24, tz_33, tz_48, tz_49, tz_57, tz_58, tz_82, tz_83, tz_100, tz_131, tz_179, tz_227, tz_275, tz_512, tz_825, tz_999, tz_1000, tz_9999, tz_10000, tz_11000, tz_65536, nc_sub1, i_lt, n_lt, i_eq, n_eq, jI_natc, jI_nat, ck_ok, nc_lt, nc_le, if_true, if_false, Option.bind_some, wr_def, and_true, true_and, and_false, false_and, or_true, true_or, or_false, false_or, not_true, not_false_eq_true, not_true_eq_false, ite_true, ite_false, Nat.zero_add, Nat.add_zero, Int.add_zero, Int.zero_add, Int.sub_zero, up_eq, up_ne, up_i, up_j, he, hso]
          · have c' : ¬ so σ ν (n : Int) (qN ν) = true := c
            rw [if_neg c'] at hso
            have e12 : cnt (fun z => decide (beg σ s ≤ (z : Int) ∧ (z : Int) ≤ enn σ s) && sZP σ ν z) (n + 1) = cnt (fun z => decide (beg σ s ≤ (z : Int) ∧ (z : Int) ≤ enn σ s) && sZP σ ν z) n := by
              rw [cnt, if_neg (by simp only [Bool.and_eq_true]; exact fun q => c q.2)]; rfl
            rw [e12] at hi2
            rw [← hi2]
            simp (disch := omega) only [j_0, j_1, j_2, j_3, j_4, j_5, j_6, j_8, j_9, j_16, j_20, j_24, j_33, j_48, j_49, j_57, j_58, j_82, j_83, j_100, j_131, j_179, j_227, j_275, j_512, j_825, j_999, j_1000, j_9999, j_10000, j_11000, j_65536, j_m1, jI_add, jI_sub, jI_mul, jI_neg, nca_9, nca_33, nca_58, nca_83, nca_131, nca_179, nca_227, nca_825, nca_4, nca_24, nca_275, ncb_1, ncb_275, ncb_24, nc_1add, Int.toNat_natCast, tz_0, tz_1, tz_2, tz_3, tz_4, tz_5, tz_6, tz_8, tz_9, tz_16, tz_20, tz_24, tz_33, tz_48, tz_49, tz_57, tz_58, tz_82, tz_83, tz_100, tz_131, tz_179, tz_227, tz_275, tz_512, tz_825, tz_999, tz_1000, tz_9999, tz_10000, tz_11000, tz_65536, nc_sub1, i_lt, n_lt, i_eq, n_eq, jI_natc, jI_nat, ck_ok, nc_lt, nc_le, if_true, if_false, Option.bind_some, wr_def, and_true, true_and, and_false, false_and, or_true, true_or, or_false, false_or, not_true, not_false_eq_true, not_true_eq_false, ite_true, ite_false, Nat.zero_add, Nat.add_zero, Int.add_zero, Int.zero_add, Int.sub_zero, up_eq, up_ne, up_i, up_j, he, hso]
  have hk := key (11001 - (beg σ s).toNat) (beg σ s).toNat (by omega) (by omega) (by omega) (Or.inr (by omega))
  have e0 : cnt (fun z => decide (beg σ s ≤ (z : Int) ∧ (z : Int) ≤ enn σ s) && sZP σ ν z) (min (beg σ s).toNat 10000) = 0 := by
    refine (cnt_cut (j := 0) _ (by omega) (fun i g1 g2 => ?_))
    simp only [Bool.and_eq_false_imp]
    intro q
    have := of_decide_eq_true q
    omega
  have e1 : (((beg σ s).toNat : Nat) : Int) = beg σ s := by omega
  rw [e0, e1] at hk
  rw [e_X8_fitting, hb]
  exact hk
/-- which shaft to try -/
def tN (σ : sT) (ν : qT) (all : Int) : Nat → Int × Int
  | 0 => (-1, all)
  | s + 1 => if mxI (fitN σ ν (beg σ s) (enn σ s)) (all - fitN σ ν (beg σ s) (enn σ s)) < (tN σ ν all s).2 then ((s : Int), mxI (fitN σ ν (beg σ s) (enn σ s)) (all - fitN σ ν (beg σ s) (enn σ s))) else tN σ ν all s
theorem fitN_le {σ : sT} {ν : qT} {a b : Int} : fitN σ ν a b ≤ 10000 := cnt_le _ _
theorem tN_bd {σ : sT} {ν : qT} {all : Int} (ha : 0 ≤ all ∧ all ≤ 10000) : ∀ s, -10000 ≤ (tN σ ν all s).2 ∧ (tN σ ν all s).2 ≤ 20000
  | 0 => by rw [tN]; show -10000 ≤ all ∧ all ≤ 20000; omega
  | s + 1 => by
    have := tN_bd (σ := σ) (ν := ν) ha s
    have h2 := mx_bd (a := (fitN σ ν (beg σ s) (enn σ s) : Int)) (b := all - fitN σ ν (beg σ s) (enn σ s))
    have h3 := fitN_le (σ := σ) (ν := ν) (a := beg σ s) (b := enn σ s)
    rw [tN]
    split
    · show -10000 ≤ mxI _ _ ∧ mxI _ _ ≤ 20000; omega
    · exact this
theorem m_tryNext {σ : sT} {ν : qT} {μ : mM} (h : mL σ μ) (hw : wf σ) (hS : mSee ν μ) (hs : wfS ν) : ∃ μ', f_X8_tryNext [vr 8 0] μ = some (jI (tN σ ν (cnt (sZP σ ν) 10000 : Int) (sNs σ)).1, μ') ∧ qM μ μ' := by
  obtain ⟨μ1, a1, a2, a3, a4, a5, a6⟩ := m_lay h hw hS hs
  have hn := hw.1
  have h1 : mL σ μ1 := by unfold mL at *; rw [a5 50 0 (by omega)]; exact h
  have hS1 : mSee ν μ1 := by unfold mSee at *; rw [a6 8 (by omega) (by omega) (by omega), a5 56 0 (by omega), a5 57 0 (by omega), a5 58 0 (by omega)]; exact hS
  have hall := cnt_le (sZP σ ν) 10000
  have key : ∀ (m s : Nat) (x4 x5 : mV), s + m = sNs σ → r_X8_tryNext_13 (jI (tN σ ν (cnt (sZP σ ν) 10000 : Int) s).1) (jI (tN σ ν (cnt (sZP σ ν) 10000 : Int) s).2) (jI (s : Int)) x4 x5 μ1 = some (jI (tN σ ν (cnt (sZP σ ν) 10000 : Int) (sNs σ)).1, μ1) := by
    intro m
    induction m with
    | zero =>
      intro s x4 x5 hm
      have e : s = sNs σ := by omega
      subst e
      rw [e_X8_tryNext_13]
      simp (disch := omega) only [j_0, j_1, j_2, j_3, j_4, j_5, j_6, j_8, j_9, j_16, j_20, j_24, j_33, j_48, j_49, j_57, j_58, j_82, j_83, j_100, j_131, j_179, j_227, j_275, j_512, j_825, j_999, j_1000, j_9999, j_10000, j_11000, j_65536, j_m1, jI_add, jI_sub, jI_mul, jI_neg, nca_9, nca_33, nca_58, nca_83, nca_131, nca_179, nca_227, nca_825, nca_4, nca_24, nca_275, ncb_1, ncb_275, ncb_24, nc_1add, Int.toNat_natCast, tz_0, tz_1, tz_2, tz_3, tz_4, tz_5, tz_6, tz_8, tz_9, tz_16, tz_20, tz_24, tz_33, tz_48, tz_49, tz_57, tz_58, tz_82, tz_83, tz_100, tz_131, tz_179, tz_227, tz_275, tz_512, tz_825, tz_999, tz_1000, tz_9999, tz_10000, tz_11000, tz_65536, nc_sub1, i_lt, n_lt, i_eq, n_eq, jI_natc, jI_nat, ck_ok, nc_lt, nc_le, if_true, if_false, Option.bind_some, wr_def, and_true, true_and, and_false, false_and, or_true, true_or, or_false, false_or, not_true, not_false_eq_true, not_true_eq_false, ite_true, ite_false, Nat.zero_add, Nat.add_zero, Int.add_zero, Int.zero_add, Int.sub_zero, up_eq, up_ne, up_i, up_j, h1.1]
    | succ m ih =>
      intro s x4 x5 hm
      have hsn : s < sNs σ := by omega
      have hf := m_fitting h1 hw hS1 hs hsn
      have b1 := tN_bd (σ := σ) (ν := ν) (all := (cnt (sZP σ ν) 10000 : Int)) (by omega) s
      have b2 := fitN_le (σ := σ) (ν := ν) (a := beg σ s) (b := enn σ s)
      have ih2 := fun x4 x5 => ih (s + 1) x4 x5 (by omega)
      generalize hA : (cnt (sZP σ ν) 10000 : Int) = all at *
      have hall' : 0 ≤ all ∧ all ≤ 10000 := by omega
      rw [tN] at ih2
      generalize hF : fitN σ ν (beg σ s) (enn σ s) = F at *
      generalize hT : tN σ ν all s = T at *
      by_cases c : all - (F : Int) < (F : Int)
      · have em : mxI (F : Int) (all - F) = (F : Int) := by unfold mxI; rw [if_neg (by omega)]
        rw [em] at ih2
        by_cases d : (F : Int) < T.2
        · rw [if_pos d] at ih2
          rw [← ih2 (vi (jI (F : Int))) (vi (jI (F : Int))), e_X8_tryNext_13]
          simp (disch := omega) only [j_0, j_1, j_2, j_3, j_4, j_5, j_6, j_8, j_9, j_16, j_20, j_24, j_33, j_48, j_49, j_57, j_58, j_82, j_83, j_100, j_131, j_179, j_227, j_275, j_512, j_825, j_999, j_1000, j_9999, j_10000, j_11000, j_65536, j_m1, jI_add, jI_sub, jI_mul, jI_neg, nca_9, nca_33, nca_58, nca_83, nca_131, nca_179, nca_227, nca_825, nca_4, nca_24, nca_275, ncb_1, ncb_275, ncb_24, nc_1add, Int.toNat_natCast, tz_0, tz_1, tz_2, tz_3, tz_4, tz_5, tz_6, tz_8, tz_9, tz_16, tz_20, tz_24, tz_33, tz_48, tz_49, tz_57, tz_58, tz_82, tz_83, tz_100, tz_131, tz_179, tz_227, tz_275, tz_512, tz_825, tz_999, tz_1000, tz_9999, tz_10000, tz_11000, tz_65536, nc_sub1, i_lt, n_lt, i_eq, n_eq, jI_natc, jI_nat, ck_ok, nc_lt, nc_le, if_true, if_false, Option.bind_some, wr_def, and_true, true_and, and_false, false_and, or_true, true_or, or_false, false_or, not_true, not_false_eq_true, not_true_eq_false, ite_true, ite_false, Nat.zero_add, Nat.add_zero, Int.add_zero, Int.zero_add, Int.sub_zero, up_eq, up_ne, up_i, up_j, h1.1, hf, a2]
        · rw [if_neg d] at ih2
          rw [← ih2 (vi (jI (F : Int))) (vi (jI (F : Int))), e_X8_tryNext_13]
          simp (disch := omega) only [j_0, j_1, j_2, j_3, j_4, j_5, j_6, j_8, j_9, j_16, j_20, j_24, j_33, j_48, j_49, j_57, j_58, j_82, j_83, j_100, j_131, j_179, j_227, j_275, j_512, j_825, j_999, j_1000, j_9999, j_10000, j_11000, j_65536, j_m1, jI_add, jI_sub, jI_mul, jI_neg, nca_9, nca_33, nca_58, nca_83, nca_131, nca_179, nca_227, nca_825, nca_4, nca_24, nca_275, ncb_1, ncb_275, ncb_24, nc_1add, Int.toNat_natCast, tz_0, tz_1, tz_2, tz_3, tz_4, tz_5, tz_6, tz_8, tz_9, tz_16, tz_20, tz_24, tz_33, tz_48, tz_49, tz_57, tz_58, tz_82, tz_83, tz_100, tz_131, tz_179, tz_227, tz_275, tz_512, tz_825, tz_999, tz_1000, tz_9999, tz_10000, tz_11000, tz_65536, nc_sub1, i_lt, n_lt, i_eq, n_eq, jI_natc, jI_nat, ck_ok, nc_lt, nc_le, if_true, if_false, Option.bind_some, wr_def, and_true, true_and, and_false, false_and, or_true, true_or, or_false, false_or, not_true, not_false_eq_true, not_true_eq_false, ite_true, ite_false, Nat.zero_add, Nat.add_zero, Int.add_zero, Int.zero_add, Int.sub_zero, up_eq, up_ne, up_i, up_j, h1.1, hf, a2]
      · have em : mxI (F : Int) (all - F) = all - (F : Int) := by unfold mxI; split <;> omega
        rw [em] at ih2
        by_cases d : all - (F : Int) < T.2
        · rw [if_pos d] at ih2
          rw [← ih2 (vi (jI (F : Int))) (vi (jI (all - (F : Int)))), e_X8_tryNext_13]
          simp (disch := omega) only [j_0, j_1, j_2, j_3, j_4, j_5, j_6, j_8, j_9, j_16, j_20, j_24, j_33, j_48, j_49, j_57, j_58, j_82, j_83, j_100, j_131, j_179, j_227, j_275, j_512, j_825, j_999, j_1000, j_9999, j_10000, j_11000, j_65536, j_m1, jI_add, jI_sub, jI_mul, jI_neg, nca_9, nca_33, nca_58, nca_83, nca_131, nca_179, nca_227, nca_825, nca_4, nca_24, nca_275, ncb_1, ncb_275, ncb_24, nc_1add, Int.toNat_natCast, tz_0, tz_1, tz_2, tz_3, tz_4, tz_5, tz_6, tz_8, tz_9, tz_16, tz_20, tz_24, tz_33, tz_48, tz_49, tz_57, tz_58, tz_82, tz_83, tz_100, tz_131, tz_179, tz_227, tz_275, tz_512, tz_825, tz_999, tz_1000, tz_9999, tz_10000, tz_11000, tz_65536, nc_sub1, i_lt, n_lt, i_eq, n_eq, jI_natc, jI_nat, ck_ok, nc_lt, nc_le, if_true, if_false, Option.bind_some, wr_def, and_true, true_and, and_false, false_and, or_true, true_or, or_false, false_or, not_true, not_false_eq_true, not_true_eq_false, ite_true, ite_false, Nat.zero_add, Nat.add_zero, Int.add_zero, Int.zero_add, Int.sub_zero, up_eq, up_ne, up_i, up_j, h1.1, hf, a2]
        · rw [if_neg d] at ih2
          rw [← ih2 (vi (jI (F : Int))) (vi (jI (all - (F : Int)))), e_X8_tryNext_13]
          simp (disch := omega) only [j_0, j_1, j_2, j_3, j_4, j_5, j_6, j_8, j_9, j_16, j_20, j_24, j_33, j_48, j_49, j_57, j_58, j_82, j_83, j_100, j_131, j_179, j_227, j_275, j_512, j_825, j_999, j_1000, j_9999, j_10000, j_11000, j_65536, j_m1, jI_add, jI_sub, jI_mul, jI_neg, nca_9, nca_33, nca_58, nca_83, nca_131, nca_179, nca_227, nca_825, nca_4, nca_24, nca_275, ncb_1, ncb_275, ncb_24, nc_1add, Int.toNat_natCast, tz_0, tz_1, tz_2, tz_3, tz_4, tz_5, tz_6, tz_8, tz_9, tz_16, tz_20, tz_24, tz_33, tz_48, tz_49, tz_57, tz_58, tz_82, tz_83, tz_100, tz_131, tz_179, tz_227, tz_275, tz_512, tz_825, tz_999, tz_1000, tz_9999, tz_10000, tz_11000, tz_65536, nc_sub1, i_lt, n_lt, i_eq, n_eq, jI_natc, jI_nat, ck_ok, nc_lt, nc_le, if_true, if_false, Option.bind_some, wr_def, and_true, true_and, and_false, false_and, or_true, true_or, or_false, false_or, not_true, not_false_eq_true, not_true_eq_false, ite_true, ite_false, Nat.zero_add, Nat.add_zero, Int.add_zero, Int.zero_add, Int.sub_zero, up_eq, up_ne, up_i, up_j, h1.1, hf, a2]
  refine ⟨μ1, ?_, fun k i hk => a5 k i (by omega), a6⟩
  have hk := key (sNs σ) 0 vu vu (by omega)
  rw [← hk, e_X8_tryNext, a1]
  simp (disch := omega) only [j_0, j_1, j_2, j_3, j_4, j_5, j_6, j_8, j_9, j_16, j_20, j_24, j_33, j_48, j_49, j_57, j_58, j_82, j_83, j_100, j_131, j_179, j_227, j_275, j_512, j_825, j_999, j_1000, j_9999, j_10000, j_11000, j_65536, j_m1, jI_add, jI_sub, jI_mul, jI_neg, nca_9, nca_33, nca_58, nca_83, nca_131, nca_179, nca_227, nca_825, nca_4, nca_24, nca_275, ncb_1, ncb_275, ncb_24, nc_1add, Int.toNat_natCast, tz_0, tz_1, tz_2, tz_3, tz_4, tz_5, tz_6, tz_8, tz_9, tz_16, tz_20, tz_24, tz_33, tz_48, tz_49, tz_57, tz_58, tz_82, tz_83, tz_100, tz_131, tz_179, tz_227, tz_275, tz_512, tz_825, tz_999, tz_1000, tz_9999, tz_10000, tz_11000, tz_65536, nc_sub1, i_lt, n_lt, i_eq, n_eq, jI_natc, jI_nat, ck_ok, nc_lt, nc_le, if_true, if_false, Option.bind_some, wr_def, and_true, true_and, and_false, false_and, or_true, true_or, or_false, false_or, not_true, not_false_eq_true, not_true_eq_false, ite_true, ite_false, Nat.zero_add, Nat.add_zero, Int.add_zero, Int.zero_add, Int.sub_zero, up_eq, up_ne, up_i, up_j, a2]
  rfl
theorem m_tell {σ : sT} {ν : qT} {μ : mM} (h : mL σ μ) (hw : wf σ) (hS : mSee ν μ) (hs : wfS ν) {w : Int} (hw3 : w = 0 ∨ w = 1 ∨ w = 2) : ∃ μ', f_X8_sizesTell [vr 8 0, vi (jI w)] μ = some (jI (if w = 0 then (cnt (sZP σ ν) 10000 : Int) else if w = 1 then loZ (sZP σ ν) 10000 else hiZ (sZP σ ν) 10000), μ') ∧ qM μ μ' := by
  obtain ⟨μ1, a1, a2, a3, a4, a5, a6⟩ := m_lay h hw hS hs
  refine ⟨μ1, ?_, fun k i hk => a5 k i (by omega), a6⟩
  rw [e_X8_sizesTell, a1]
  rcases hw3 with rfl | rfl | rfl
  · simp (disch := omega) only [j_0, j_1, j_2, j_3, j_4, j_5, j_6, j_8, j_9, j_16, j_20, j_24, j_33, j_48, j_49, j_57, j_58, j_82, j_83, j_100, j_131, j_179, j_227, j_275, j_512, j_825, j_999, j_1000, j_9999, j_10000, j_11000, j_65536, j_m1, jI_add, jI_sub, jI_mul, jI_neg, nca_9, nca_33, nca_58, nca_83, nca_131, nca_179, nca_227, nca_825, nca_4, nca_24, nca_275, ncb_1, ncb_275, ncb_24, nc_1add, Int.toNat_natCast, tz_0, tz_1, tz_2, tz_3, tz_4, tz_5, tz_6, tz_8, tz_9, tz_16, tz_20, tz_24, tz_33, tz_48, tz_49, tz_57, tz_58, tz_82, tz_83, tz_100, tz_131, tz_179, tz_227, tz_275, tz_512, tz_825, tz_999, tz_1000, tz_9999, tz_10000, tz_11000, tz_65536, nc_sub1, i_lt, n_lt, i_eq, n_eq, jI_natc, jI_nat, ck_ok, nc_lt, nc_le, if_true, if_false, Option.bind_some, wr_def, and_true, true_and, and_false, false_and, or_true, true_or, or_false, false_or, not_true, not_false_eq_true, not_true_eq_false, ite_true, ite_false, Nat.zero_add, Nat.add_zero, Int.add_zero, Int.zero_add, Int.sub_zero, up_eq, up_ne, up_i, up_j, a2]
  · rw [if_neg (by omega), if_pos rfl]; simp (disch := omega) only [j_0, j_1, j_2, j_3, j_4, j_5, j_6, j_8, j_9, j_16, j_20, j_24, j_33, j_48, j_49, j_57, j_58, j_82, j_83, j_100, j_131, j_179, j_227, j_275, j_512, j_825, j_999, j_1000, j_9999, j_10000, j_11000, j_65536, j_m1, jI_add, jI_sub, jI_mul, jI_neg, nca_9, nca_33, nca_58, nca_83, nca_131, nca_179, nca_227, nca_825, nca_4, nca_24, nca_275, ncb_1, ncb_275, ncb_24, nc_1add, Int.toNat_natCast, tz_0, tz_1, tz_2, tz_3, tz_4, tz_5, tz_6, tz_8, tz_9, tz_16, tz_20, tz_24, tz_33, tz_48, tz_49, tz_57, tz_58, tz_82, tz_83, tz_100, tz_131, tz_179, tz_227, tz_275, tz_512, tz_825, tz_999, tz_1000, tz_9999, tz_10000, tz_11000, tz_65536, nc_sub1, i_lt, n_lt, i_eq, n_eq, jI_natc, jI_nat, ck_ok, nc_lt, nc_le, if_true, if_false, Option.bind_some, wr_def, and_true, true_and, and_false, false_and, or_true, true_or, or_false, false_or, not_true, not_false_eq_true, not_true_eq_false, ite_true, ite_false, Nat.zero_add, Nat.add_zero, Int.add_zero, Int.zero_add, Int.sub_zero, up_eq, up_ne, up_i, up_j, a3]
  · rw [if_neg (by omega), if_neg (by omega)]; simp (disch := omega) only [j_0, j_1, j_2, j_3, j_4, j_5, j_6, j_8, j_9, j_16, j_20, j_24, j_33, j_48, j_49, j_57, j_58, j_82, j_83, j_100, j_131, j_179, j_227, j_275, j_512, j_825, j_999, j_1000, j_9999, j_10000, j_11000, j_65536, j_m1, jI_add, jI_sub, jI_mul, jI_neg, nca_9, nca_33, nca_58, nca_83, nca_131, nca_179, nca_227, nca_825, nca_4, nca_24, nca_275, ncb_1, ncb_275, ncb_24, nc_1add, Int.toNat_natCast, tz_0, tz_1, tz_2, tz_3, tz_4, tz_5, tz_6, tz_8, tz_9, tz_16, tz_20, tz_24, tz_33, tz_48, tz_49, tz_57, tz_58, tz_82, tz_83, tz_100, tz_131, tz_179, tz_227, tz_275, tz_512, tz_825, tz_999, tz_1000, tz_9999, tz_10000, tz_11000, tz_65536, nc_sub1, i_lt, n_lt, i_eq, n_eq, jI_natc, jI_nat, ck_ok, nc_lt, nc_le, if_true, if_false, Option.bind_some, wr_def, and_true, true_and, and_false, false_and, or_true, true_or, or_false, false_or, not_true, not_false_eq_true, not_true_eq_false, ite_true, ite_false, Nat.zero_add, Nat.add_zero, Int.add_zero, Int.zero_add, Int.sub_zero, up_eq, up_ne, up_i, up_j, a4]
