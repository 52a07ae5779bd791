theorem pI_lt {a b : Int} (h : -2147483648 ≤ a ∧ a < 2147483648 ∧ -2147483648 ≤ b ∧ b < 2147483648) : (jI a < jI b) = (a < b) := propext (jI_lt ⟨h.1, h.2.1⟩ h.2.2)
theorem pI_eq {a b : Int} (h : -2147483648 ≤ a ∧ a < 2147483648 ∧ -2147483648 ≤ b ∧ b < 2147483648) : (jI a = jI b) = (a = b) := propext (jI_eq ⟨h.1, h.2.1⟩ h.2.2)
/-! counting -/
theorem cnt_one {f g : Nat → Bool} {k : Nat} (h : ∀ j, j ≠ k → f j = g j) : ∀ n, k < n → cnt f n + (if g k then 1 else 0) = cnt g n + (if f k then 1 else 0)
  | 0, hk => by omega
  | n + 1, hk => by
    rw [cnt, cnt]
    by_cases c : n = k
    · subst c
      have := cnt_congr (P := f) (Q := g) n (fun j hj => h j (by omega))
      omega
    · have ih := cnt_one h n (by omega)
      rw [h n c]
      omega
theorem cnt_perm {P : Nat → Bool} : ∀ (n : Nat) (ρ : Nat → Nat), (∀ i, i < n → ρ i < n) → (∀ i j, i < n → j < n → ρ i = ρ j → i = j) → (∀ s, s < n → ∃ i, i < n ∧ ρ i = s) → cnt (fun i => P (ρ i)) n = cnt P n
  | 0, _, _, _, _ => rfl
  | n + 1, ρ, h1, h2, h3 => by
    obtain ⟨k, hk, ek⟩ := h3 n (by omega)
    by_cases c : k = n
    · subst c
      have hr : ∀ i, i < k → ρ i < k := fun i hi => by
        have a := h1 i (by omega)
        have b : ρ i ≠ k := fun q => by have := h2 i k (by omega) (by omega) (q.trans ek.symm); omega
        omega
      have ih := cnt_perm (P := P) k ρ hr (fun i j hi hj => h2 i j (by omega) (by omega)) (fun s hs => by
        obtain ⟨i, hi, ei⟩ := h3 s (by omega)
        refine ⟨i, ?_, ei⟩
        have : i ≠ k := fun q => by rw [q] at ei; omega
        omega)
      rw [cnt, cnt, ih, ek]
    · have hm := h1 n (by omega)
      have hmn : ρ n ≠ n := fun q => by have := h2 n k (by omega) hk (q.trans ek.symm); omega
      have ih := cnt_perm (P := P) n (fun i => if i = k then ρ n else ρ i) (fun i hi => by
        show (if i = k then ρ n else ρ i) < n
        split
        · omega
        · have a := h1 i (by omega)
          have b : ρ i ≠ n := fun q => by have := h2 i k (by omega) hk (q.trans ek.symm); omega
          omega) (fun i j hi hj => by
        intro e
        replace e : (if i = k then ρ n else ρ i) = (if j = k then ρ n else ρ j) := e
        by_cases ci : i = k
        · by_cases cj : j = k
          · rw [ci, cj]
          · rw [if_pos ci, if_neg cj] at e
            have := h2 n j (by omega) (by omega) e
            omega
        · by_cases cj : j = k
          · rw [if_neg ci, if_pos cj] at e
            have := h2 i n (by omega) (by omega) e
            omega
          · rw [if_neg ci, if_neg cj] at e
            exact h2 i j (by omega) (by omega) e) (fun s hs => by
        obtain ⟨i, hi, ei⟩ := h3 s (by omega)
        by_cases ci : i = n
        · exact ⟨k, by omega, by simp only [if_true]; rw [← ci]; exact ei⟩
        · refine ⟨i, by omega, ?_⟩
          have : i ≠ k := fun q => by rw [q, ek] at ei; omega
          simp only [if_neg this]; exact ei)
      have one := cnt_one (f := fun i => P (ρ i)) (g := fun i => P (if i = k then ρ n else ρ i)) (k := k) (fun j hj => by simp only [if_neg hj]) n (by omega)
      simp only [if_true] at one
      rw [cnt, cnt, ← ih]
      rw [ek] at one
      omega
theorem cnt_range {P : Nat → Bool} {a b : Nat} (hab : a ≤ b) : ∀ n, b ≤ n → (∀ j, j < n → (P j = true ↔ a ≤ j ∧ j < b)) → cnt P n = b - a := by
  have key : ∀ n, (∀ j, j < n → (P j = true ↔ a ≤ j ∧ j < b)) → cnt P n = min b n - min a n := by
    intro n
    induction n with
    | zero => intro _; simp [cnt]
    | succ n ih =>
      intro h
      rw [cnt, ih (fun j hj => h j (by omega))]
      have := h n (by omega)
      by_cases c : P n = true
      · rw [if_pos c]
        have := this.mp c
        omega
      · rw [if_neg c]
        have : ¬ (a ≤ n ∧ n < b) := fun q => c (this.mpr q)
        omega
  intro n hb h
  rw [key n h]
  omega
theorem cnt_mono {P Q : Nat → Bool} : ∀ n, (∀ j, j < n → P j = true → Q j = true) → cnt P n ≤ cnt Q n
  | 0, _ => Nat.le_refl 0
  | n + 1, h => by
    have ih := cnt_mono (P := P) (Q := Q) n (fun j hj => h j (by omega))
    rw [cnt, cnt]
    by_cases c : P n = true
    · rw [if_pos c, if_pos (h n (by omega) c)]; omega
    · rw [if_neg c]; omega
theorem cnt_pos {P : Nat → Bool} : ∀ n, 0 < cnt P n → ∃ j, j < n ∧ P j = true ∧ ∀ i, j < i → i < n → P i = false
  | 0, h => by simp [cnt] at h
  | n + 1, h => by
    rw [cnt] at h
    cases hc : P n with
    | true => exact ⟨n, by omega, hc, fun i h1 h2 => by omega⟩
    | false =>
      rw [hc] at h
      simp only [Bool.false_eq_true, if_false] at h
      obtain ⟨j, h1, h2, h3⟩ := cnt_pos n (by omega)
      refine ⟨j, by omega, h2, fun i g1 g2 => ?_⟩
      by_cases c : i = n
      · rw [c]; exact hc
      · exact h3 i g1 (by omega)
theorem cnt_cut {P : Nat → Bool} {j : Nat} : ∀ n, j ≤ n → (∀ i, j ≤ i → i < n → P i = false) → cnt P n = cnt P j
  | 0, hj, _ => by rw [show j = 0 by omega]
  | n + 1, hj, h => by
    by_cases c : j = n + 1
    · rw [c]
    · rw [cnt, cnt_cut n (by omega) (fun i g1 g2 => h i g1 (by omega)), h n (by omega) (by omega)]
      rfl
/-! crowds -/
def sWn (σ : sT) (x y : Int) : Nat := cnt (fun s => decide (x ≤ beg σ s ∧ enn σ s ≤ y)) (sNs σ)
def bWn (σ : sT) (x y : Int) : Nat := cnt (fun b => decide (x ≤ sB σ b ∧ sB σ b ≤ y)) (sNb σ)
def vW (σ : sT) (x y : Int) : Int := (sWn σ x y : Int) - bWn σ x y
def isCr (σ : sT) (m x y : Int) : Prop := (m = 0 ∧ ∀ s q, s < sNs σ → q < sNs σ → vW σ (beg σ s) (enn σ q) ≤ 0) ∨ (0 < m ∧ (∃ s q, s < sNs σ ∧ q < sNs σ ∧ x = beg σ s ∧ y = enn σ q) ∧ m = vW σ x y ∧ ∀ s q, s < sNs σ → q < sNs σ → vW σ (beg σ s) (enn σ q) < m ∨ (vW σ (beg σ s) (enn σ q) = m ∧ (x < beg σ s ∨ (x = beg σ s ∧ y ≤ enn σ q))))
theorem isCr_u {σ : sT} {m x y m' x' y' : Int} (h : isCr σ m x y) (h' : isCr σ m' x' y') : m = m' ∧ (0 < m → x = x' ∧ y = y') := by
  rcases h with ⟨h1, h2⟩ | ⟨h1, ⟨s, q, hs, hq, rfl, rfl⟩, h3, h4⟩ <;> rcases h' with ⟨g1, g2⟩ | ⟨g1, ⟨s', q', hs', hq', rfl, rfl⟩, g3, g4⟩
  · exact ⟨by omega, fun q => by omega⟩
  · have := h2 s' q' hs' hq'; omega
  · have := g2 s q hs hq; omega
  · have a := h4 s' q' hs' hq'
    have b := g4 s q hs hq
    omega
/-- the model's counts -/
theorem m_sWn {σ : sT} {μ : mM} (h : mL σ μ) (hw : wf σ) {x y : Int} (hx : 0 ≤ x ∧ x < 20000) (hy : 0 ≤ y ∧ y < 20000) : f_X8_shaftsWithin [vr 8 0, vi (jI x), vi (jI y)] μ = some (jI (sWn σ x y : Int), μ) := by
  have hn := hw.1
  rw [e_X8_shaftsWithin]
  have key := loop_cnt' (r := fun c i => r_X8_shaftsWithin_5 (jI x) (jI y) c i μ) (P := fun s => decide (x ≤ beg σ s ∧ enn σ s ≤ y)) (sNs σ) (sNs σ) (Nat.le_refl _) (fun j c hj => by
    have b := wf_be hw hj
    have hb := m_begin h hw hj
    have he := m_end h hw hj
    show r_X8_shaftsWithin_5 (jI x) (jI y) (jI (c : Int)) (jI (j : Int)) μ = r_X8_shaftsWithin_5 (jI x) (jI y) _ _ μ
    rw [e_X8_shaftsWithin_5]
    by_cases c1 : x ≤ beg σ j
    · by_cases c2 : enn σ j ≤ y
      · rw [if_pos (decide_eq_true ⟨c1, c2⟩)]
        simp (disch := omega) only [j_0, j_1, j_2, j_3, j_4, j_5, j_6, j_8, j_9, j_16, j_20, j_24, j_33, j_48, j_49, j_57, j_58, j_82, j_83, j_100, j_131, j_179, j_227, j_275, j_512, j_825, j_999, j_1000, j_9999, j_10000, j_11000, j_65536, j_m1, jI_add, jI_sub, jI_mul, jI_neg, nca_9, nca_33, nca_58, nca_83, nca_131, nca_179, nca_227, nca_825, nca_4, nca_24, nca_275, ncb_1, ncb_275, ncb_24, nc_1add, Int.toNat_natCast, tz_0, tz_1, tz_2, tz_3, tz_4, tz_5, tz_6, tz_8, tz_9, tz_16, tz_20, tz_24, tz_33, tz_48, tz_49, tz_57, tz_58, tz_82, tz_83, tz_100, tz_131, tz_179, tz_227, tz_275, tz_512, tz_825, tz_999, tz_1000, tz_9999, tz_10000, tz_11000, tz_65536, nc_sub1, i_lt, n_lt, i_eq, n_eq, jI_natc, jI_nat, ck_ok, nc_lt, nc_le, if_true, if_false, Option.bind_some, wr_def, and_true, true_and, and_false, false_and, or_true, true_or, or_false, false_or, not_true, not_false_eq_true, not_true_eq_false, ite_true, ite_false, Nat.zero_add, Nat.add_zero, Int.add_zero, Int.zero_add, Int.sub_zero, up_eq, up_ne, up_i, up_j, h.1, hb, he]
      · rw [if_neg (show ¬ decide (x ≤ beg σ j ∧ enn σ j ≤ y) = true from fun q => c2 (of_decide_eq_true q).2)]
        simp (disch := omega) only [j_0, j_1, j_2, j_3, j_4, j_5, j_6, j_8, j_9, j_16, j_20, j_24, j_33, j_48, j_49, j_57, j_58, j_82, j_83, j_100, j_131, j_179, j_227, j_275, j_512, j_825, j_999, j_1000, j_9999, j_10000, j_11000, j_65536, j_m1, jI_add, jI_sub, jI_mul, jI_neg, nca_9, nca_33, nca_58, nca_83, nca_131, nca_179, nca_227, nca_825, nca_4, nca_24, nca_275, ncb_1, ncb_275, ncb_24, nc_1add, Int.toNat_natCast, tz_0, tz_1, tz_2, tz_3, tz_4, tz_5, tz_6, tz_8, tz_9, tz_16, tz_20, tz_24, tz_33, tz_48, tz_49, tz_57, tz_58, tz_82, tz_83, tz_100, tz_131, tz_179, tz_227, tz_275, tz_512, tz_825, tz_999, tz_1000, tz_9999, tz_10000, tz_11000, tz_65536, nc_sub1, i_lt, n_lt, i_eq, n_eq, jI_natc, jI_nat, ck_ok, nc_lt, nc_le, if_true, if_false, Option.bind_some, wr_def, and_true, true_and, and_false, false_and, or_true, true_or, or_false, false_or, not_true, not_false_eq_true, not_true_eq_false, ite_true, ite_false, Nat.zero_add, Nat.add_zero, Int.add_zero, Int.zero_add, Int.sub_zero, up_eq, up_ne, up_i, up_j, h.1, hb, he]
    · rw [if_neg (show ¬ decide (x ≤ beg σ j ∧ enn σ j ≤ y) = true from fun q => c1 (of_decide_eq_true q).1)]
      simp (disch := omega) only [j_0, j_1, j_2, j_3, j_4, j_5, j_6, j_8, j_9, j_16, j_20, j_24, j_33, j_48, j_49, j_57, j_58, j_82, j_83, j_100, j_131, j_179, j_227, j_275, j_512, j_825, j_999, j_1000, j_9999, j_10000, j_11000, j_65536, j_m1, jI_add, jI_sub, jI_mul, jI_neg, nca_9, nca_33, nca_58, nca_83, nca_131, nca_179, nca_227, nca_825, nca_4, nca_24, nca_275, ncb_1, ncb_275, ncb_24, nc_1add, Int.toNat_natCast, tz_0, tz_1, tz_2, tz_3, tz_4, tz_5, tz_6, tz_8, tz_9, tz_16, tz_20, tz_24, tz_33, tz_48, tz_49, tz_57, tz_58, tz_82, tz_83, tz_100, tz_131, tz_179, tz_227, tz_275, tz_512, tz_825, tz_999, tz_1000, tz_9999, tz_10000, tz_11000, tz_65536, nc_sub1, i_lt, n_lt, i_eq, n_eq, jI_natc, jI_nat, ck_ok, nc_lt, nc_le, if_true, if_false, Option.bind_some, wr_def, and_true, true_and, and_false, false_and, or_true, true_or, or_false, false_or, not_true, not_false_eq_true, not_true_eq_false, ite_true, ite_false, Nat.zero_add, Nat.add_zero, Int.add_zero, Int.zero_add, Int.sub_zero, up_eq, up_ne, up_i, up_j, h.1, hb, he]) 0
  have e0 : r_X8_shaftsWithin_5 (jI x) (jI y) 0 0 μ = r_X8_shaftsWithin_5 (jI x) (jI y) (jI ((0 : Nat) : Int)) (jI ((0 : Nat) : Int)) μ := rfl
  rw [e0]
  refine key.trans ?_
  show r_X8_shaftsWithin_5 (jI x) (jI y) _ _ μ = _
  rw [e_X8_shaftsWithin_5]
  simp (disch := omega) only [j_0, j_1, j_2, j_3, j_4, j_5, j_6, j_8, j_9, j_16, j_20, j_24, j_33, j_48, j_49, j_57, j_58, j_82, j_83, j_100, j_131, j_179, j_227, j_275, j_512, j_825, j_999, j_1000, j_9999, j_10000, j_11000, j_65536, j_m1, jI_add, jI_sub, jI_mul, jI_neg, nca_9, nca_33, nca_58, nca_83, nca_131, nca_179, nca_227, nca_825, nca_4, nca_24, nca_275, ncb_1, ncb_275, ncb_24, nc_1add, Int.toNat_natCast, tz_0, tz_1, tz_2, tz_3, tz_4, tz_5, tz_6, tz_8, tz_9, tz_16, tz_20, tz_24, tz_33, tz_48, tz_49, tz_57, tz_58, tz_82, tz_83, tz_100, tz_131, tz_179, tz_227, tz_275, tz_512, tz_825, tz_999, tz_1000, tz_9999, tz_10000, tz_11000, tz_65536, nc_sub1, i_lt, n_lt, i_eq, n_eq, jI_natc, jI_nat, ck_ok, nc_lt, nc_le, if_true, if_false, Option.bind_some, wr_def, and_true, true_and, and_false, false_and, or_true, true_or, or_false, false_or, not_true, not_false_eq_true, not_true_eq_false, ite_true, ite_false, Nat.zero_add, Nat.add_zero, Int.add_zero, Int.zero_add, Int.sub_zero, up_eq, up_ne, up_i, up_j, h.1]
  rfl
theorem m_bWn {σ : sT} {μ : mM} (h : mL σ μ) (hw : wf σ) {x y : Int} (hx : 0 ≤ x ∧ x < 20000) (hy : 0 ≤ y ∧ y < 20000) : f_X8_boresWithin [vr 8 0, vi (jI x), vi (jI y)] μ = some (jI (bWn σ x y : Int), μ) := by
  have hn := hw.2.1
  rw [e_X8_boresWithin]
  have key := loop_cnt' (r := fun c i => r_X8_boresWithin_5 (jI x) (jI y) c i μ) (P := fun b => decide (x ≤ sB σ b ∧ sB σ b ≤ y)) (sNb σ) (sNb σ) (Nat.le_refl _) (fun j c hj => by
    have b := hw.2.2.2.2.1 j hj
    have hb := h.2.2.2.2.2.1 j hj
    have hin := f_in (sB σ j) x y (by omega) (by omega) (by omega) μ
    have l1 := jI_long (z := sB σ j) (by omega)
    have l2 := jI_long (z := x) (by omega)
    have l3 := jI_long (z := y) (by omega)
    show r_X8_boresWithin_5 (jI x) (jI y) (jI (c : Int)) (jI (j : Int)) μ = r_X8_boresWithin_5 (jI x) (jI y) _ _ μ
    rw [e_X8_boresWithin_5]
    by_cases c1 : x ≤ sB σ j ∧ sB σ j ≤ y
    · rw [if_pos (decide_eq_true c1)]
      rw [if_pos c1] at hin
      simp (disch := omega) only [j_0, j_1, j_2, j_3, j_4, j_5, j_6, j_8, j_9, j_16, j_20, j_24, j_33, j_48, j_49, j_57, j_58, j_82, j_83, j_100, j_131, j_179, j_227, j_275, j_512, j_825, j_999, j_1000, j_9999, j_10000, j_11000, j_65536, j_m1, jI_add, jI_sub, jI_mul, jI_neg, nca_9, nca_33, nca_58, nca_83, nca_131, nca_179, nca_227, nca_825, nca_4, nca_24, nca_275, ncb_1, ncb_275, ncb_24, nc_1add, Int.toNat_natCast, tz_0, tz_1, tz_2, tz_3, tz_4, tz_5, tz_6, tz_8, tz_9, tz_16, tz_20, tz_24, tz_33, tz_48, tz_49, tz_57, tz_58, tz_82, tz_83, tz_100, tz_131, tz_179, tz_227, tz_275, tz_512, tz_825, tz_999, tz_1000, tz_9999, tz_10000, tz_11000, tz_65536, nc_sub1, i_lt, n_lt, i_eq, n_eq, jI_natc, jI_nat, ck_ok, nc_lt, nc_le, if_true, if_false, Option.bind_some, wr_def, and_true, true_and, and_false, false_and, or_true, true_or, or_false, false_or, not_true, not_false_eq_true, not_true_eq_false, ite_true, ite_false, Nat.zero_add, Nat.add_zero, Int.add_zero, Int.zero_add, Int.sub_zero, up_eq, up_ne, up_i, up_j, h.2.1, hb, l1, l2, l3, hin]
    · rw [if_neg (show ¬ decide (x ≤ sB σ j ∧ sB σ j ≤ y) = true from fun q => c1 (of_decide_eq_true q))]
      rw [if_neg c1] at hin
      simp (disch := omega) only [j_0, j_1, j_2, j_3, j_4, j_5, j_6, j_8, j_9, j_16, j_20, j_24, j_33, j_48, j_49, j_57, j_58, j_82, j_83, j_100, j_131, j_179, j_227, j_275, j_512, j_825, j_999, j_1000, j_9999, j_10000, j_11000, j_65536, j_m1, jI_add, jI_sub, jI_mul, jI_neg, nca_9, nca_33, nca_58, nca_83, nca_131, nca_179, nca_227, nca_825, nca_4, nca_24, nca_275, ncb_1, ncb_275, ncb_24, nc_1add, Int.toNat_natCast, tz_0, tz_1, tz_2, tz_3, tz_4, tz_5, tz_6, tz_8, tz_9, tz_16, tz_20, tz_24, tz_33, tz_48, tz_49, tz_57, tz_58, tz_82, tz_83, tz_100, tz_131, tz_179, tz_227, tz_275, tz_512, tz_825, tz_999, tz_1000, tz_9999, tz_10000, tz_11000, tz_65536, nc_sub1, i_lt, n_lt, i_eq, n_eq, jI_natc, jI_nat, ck_ok, nc_lt, nc_le, if_true, if_false, Option.bind_some, wr_def, and_true, true_and, and_false, false_and, or_true, true_or, or_false, false_or, not_true, not_false_eq_true, not_true_eq_false, ite_true, ite_false, Nat.zero_add, Nat.add_zero, Int.add_zero, Int.zero_add, Int.sub_zero, up_eq, up_ne, up_i, up_j, h.2.1, hb, l1, l2, l3, hin]) 0
  have e0 : r_X8_boresWithin_5 (jI x) (jI y) 0 0 μ = r_X8_boresWithin_5 (jI x) (jI y) (jI ((0 : Nat) : Int)) (jI ((0 : Nat) : Int)) μ := rfl
  rw [e0]
  refine key.trans ?_
  show r_X8_boresWithin_5 (jI x) (jI y) _ _ μ = _
  rw [e_X8_boresWithin_5]
  simp (disch := omega) only [j_0, j_1, j_2, j_3, j_4, j_5, j_6, j_8, j_9, j_16, j_20, j_24, j_33, j_48, j_49, j_57, j_58, j_82, j_83, j_100, j_131, j_179, j_227, j_275, j_512, j_825, j_999, j_1000, j_9999, j_10000, j_11000, j_65536, j_m1, jI_add, jI_sub, jI_mul, jI_neg, nca_9, nca_33, nca_58, nca_83, nca_131, nca_179, nca_227, nca_825, nca_4, nca_24, nca_275, ncb_1, ncb_275, ncb_24, nc_1add, Int.toNat_natCast, tz_0, tz_1, tz_2, tz_3, tz_4, tz_5, tz_6, tz_8, tz_9, tz_16, tz_20, tz_24, tz_33, tz_48, tz_49, tz_57, tz_58, tz_82, tz_83, tz_100, tz_131, tz_179, tz_227, tz_275, tz_512, tz_825, tz_999, tz_1000, tz_9999, tz_10000, tz_11000, tz_65536, nc_sub1, i_lt, n_lt, i_eq, n_eq, jI_natc, jI_nat, ck_ok, nc_lt, nc_le, if_true, if_false, Option.bind_some, wr_def, and_true, true_and, and_false, false_and, or_true, true_or, or_false, false_or, not_true, not_false_eq_true, not_true_eq_false, ite_true, ite_false, Nat.zero_add, Nat.add_zero, Int.add_zero, Int.zero_add, Int.sub_zero, up_eq, up_ne, up_i, up_j, h.2.1]
  rfl
def crI (σ : sT) (D : Nat → Nat → Prop) (m x y : Int) : Prop := (m = 0 ∧ x = -1 ∧ y = -1 ∧ ∀ s q, s < sNs σ → q < sNs σ → D s q → vW σ (beg σ s) (enn σ q) ≤ 0) ∨ (0 < m ∧ (∃ s q, s < sNs σ ∧ q < sNs σ ∧ x = beg σ s ∧ y = enn σ q) ∧ m = vW σ x y ∧ ∀ s q, s < sNs σ → q < sNs σ → D s q → vW σ (beg σ s) (enn σ q) < m ∨ (vW σ (beg σ s) (enn σ q) = m ∧ (x < beg σ s ∨ (x = beg σ s ∧ y ≤ enn σ q))))
theorem vW_bd {σ : sT} (hw : wf σ) (x y : Int) : -24 ≤ vW σ x y ∧ vW σ x y ≤ 24 ∧ (sWn σ x y : Int) ≤ 24 ∧ (bWn σ x y : Int) ≤ 24 := by
  have a := cnt_le (fun s => decide (x ≤ beg σ s ∧ enn σ s ≤ y)) (sNs σ)
  have b := cnt_le (fun b => decide (x ≤ sB σ b ∧ sB σ b ≤ y)) (sNb σ)
  have hn := hw.1
  have hnb := hw.2.1
  unfold vW sWn bWn
  omega
theorem m_crowd {σ : sT} {μ : mM} (h : mL σ μ) (hw : wf σ) {w : Int} (hww : 0 ≤ w ∧ w < 4) : ∃ m x y, isCr σ m x y ∧ f_X8_crowd [vr 8 0, vi (jI w)] μ = some (jI (if m = 0 then -1 else if w = 0 then x else if w = 1 then y else if w = 2 then (sWn σ x y : Int) else (bWn σ x y : Int)), μ) := by
  have hn := hw.1
  have inner : ∀ (m' j s : Nat) (m x y : Int) (x7 x8 x9 x10 : mV), j + m' = sNs σ → s < sNs σ → crI σ (fun s' q' => s' < s ∨ (s' = s ∧ q' < j)) m x y → ∃ m2 x2 y2 x6 x7' x8' x9' x10', r_X8_crowd_40 (jI w) (jI m) (jI x) (jI y) (jI (s : Int)) (jI (j : Int)) x7 x8 x9 x10 μ = r_X8_crowd_25 (jI w) (jI m2) (jI x2) (jI y2) (jI ((s + 1 : Nat) : Int)) x6 x7' x8' x9' x10' μ ∧ crI σ (fun s' _ => s' < s + 1) m2 x2 y2 := by
    intro m'
    induction m' with
    | zero =>
      intro j s m x y x7 x8 x9 x10 hj hs hI
      refine ⟨m, x, y, vi (jI (j : Int)), x7, x8, x9, x10, ?_, ?_⟩
      · rw [e_X8_crowd_40]
        simp (disch := omega) only [j_0, j_1, j_2, j_3, j_4, j_5, j_6, j_8, j_9, j_16, j_20, j_24, j_33, j_48, j_49, j_57, j_58, j_82, j_83, j_100, j_131, j_179, j_227, j_275, j_512, j_825, j_999, j_1000, j_9999, j_10000, j_11000, j_65536, j_m1, jI_add, jI_sub, jI_mul, jI_neg, nca_9, nca_33, nca_58, nca_83, nca_131, nca_179, nca_227, nca_825, nca_4, nca_24, nca_275, ncb_1, ncb_275, ncb_24, nc_1add, Int.toNat_natCast, tz_0, tz_1, tz_2, tz_3, tz_4, tz_5, tz_6, tz_8, tz_9, tz_16, tz_20, tz_24, tz_33, tz_48, tz_49, tz_57, tz_58, tz_82, tz_83, tz_100, tz_131, tz_179, tz_227, tz_275, tz_512, tz_825, tz_999, tz_1000, tz_9999, tz_10000, tz_11000, tz_65536, nc_sub1, i_lt, n_lt, i_eq, n_eq, jI_natc, jI_nat, ck_ok, nc_lt, nc_le, if_true, if_false, Option.bind_some, wr_def, and_true, true_and, and_false, false_and, or_true, true_or, or_false, false_or, not_true, not_false_eq_true, not_true_eq_false, ite_true, ite_false, Nat.zero_add, Nat.add_zero, Int.add_zero, Int.zero_add, Int.sub_zero, up_eq, up_ne, up_i, up_j, h.1]
      · rcases hI with ⟨h1, h1a, h1b, h2⟩ | ⟨h1, h2, h3, h4⟩
        · exact Or.inl ⟨h1, h1a, h1b, fun s' q' a b c => h2 s' q' a b (by omega)⟩
        · exact Or.inr ⟨h1, h2, h3, fun s' q' a b c => h4 s' q' a b (by omega)⟩
    | succ m' ih =>
      intro j s m x y x7 x8 x9 x10 hj hs hI
      have hjn : j < sNs σ := by omega
      have b1 := wf_be hw hs
      have b2 := wf_be hw hjn
      have hbg := m_begin h hw hs
      have hen := m_end h hw hjn
      have hsw := m_sWn h hw (x := beg σ s) (y := enn σ j) (by omega) (by omega)
      have hbw := m_bWn h hw (x := beg σ s) (y := enn σ j) (by omega) (by omega)
      have vb := vW_bd hw (beg σ s) (enn σ j)
      have ev : (sWn σ (beg σ s) (enn σ j) : Int) - (bWn σ (beg σ s) (enn σ j) : Int) = vW σ (beg σ s) (enn σ j) := rfl
      have hmb : 0 ≤ m ∧ m ≤ 24 ∧ -1 ≤ x ∧ x < 20000 ∧ -1 ≤ y ∧ y < 20000 := by
        rcases hI with ⟨rfl, rfl, rfl, -⟩ | ⟨h1, ⟨s', q', k1, k2, rfl, rfl⟩, h3, -⟩
        · omega
        · have := vW_bd hw (beg σ s') (enn σ q')
          have := wf_be hw k1
          have := wf_be hw k2
          omega
      have stp : ∀ (x7 x8 x9 x10 : mV), ck 5225 8 (if jI (j : Int) < μ 50 0 (Int32.toNatClampNeg 8) then (Option.bind (f_X8_begin [vr 8 0, vi (jI (s : Int))] μ) (fun q2 => (Option.bind (f_X8_end [vr 8 0, vi (jI (j : Int))] q2.2) (fun q3 => (Option.bind (f_X8_shaftsWithin [vr 8 0, vi q2.1, vi q3.1] q3.2) (fun q4 => (Option.bind (f_X8_boresWithin [vr 8 0, vi q2.1, vi q3.1] q4.2) (fun q5 => (if jI m < q4.1 - q5.1 then r_X8_crowd_40 (jI w) (q4.1 - q5.1) q2.1 q3.1 (jI (s : Int)) (jI (j : Int) + 1) (vi q2.1) (vi q3.1) (vi (q4.1 - q5.1)) (vi 1) q5.2 else (if q4.1 - q5.1 = jI m then (if 0 < q4.1 - q5.1 then (if q2.1 < jI x then r_X8_crowd_40 (jI w) (q4.1 - q5.1) q2.1 q3.1 (jI (s : Int)) (jI (j : Int) + 1) (vi q2.1) (vi q3.1) (vi (q4.1 - q5.1)) (vi 1) q5.2 else (if q2.1 = jI x then (if q3.1 < jI y then r_X8_crowd_40 (jI w) (q4.1 - q5.1) q2.1 q3.1 (jI (s : Int)) (jI (j : Int) + 1) (vi q2.1) (vi q3.1) (vi (q4.1 - q5.1)) (vi 1) q5.2 else r_X8_crowd_40 (jI w) (jI m) (jI x) (jI y) (jI (s : Int)) (jI (j : Int) + 1) (vi q2.1) (vi q3.1) (vi (q4.1 - q5.1)) (vi 0) q5.2) else r_X8_crowd_40 (jI w) (jI m) (jI x) (jI y) (jI (s : Int)) (jI (j : Int) + 1) (vi q2.1) (vi q3.1) (vi (q4.1 - q5.1)) (vi 0) q5.2)) else r_X8_crowd_40 (jI w) (jI m) (jI x) (jI y) (jI (s : Int)) (jI (j : Int) + 1) (vi q2.1) (vi q3.1) (vi (q4.1 - q5.1)) (vi 0) q5.2) else r_X8_crowd_40 (jI w) (jI m) (jI x) (jI y) (jI (s : Int)) (jI (j : Int) + 1) (vi q2.1) (vi q3.1) (vi (q4.1 - q5.1)) (vi 0) q5.2)))))))))) else r_X8_crowd_25 (jI w) (jI m) (jI x) (jI y) (jI (s : Int) + 1) (vi (jI (j : Int))) x7 x8 x9 x10 μ) = (if m < vW σ (beg σ s) (enn σ j) then r_X8_crowd_40 (jI w) (jI (vW σ (beg σ s) (enn σ j))) (jI (beg σ s)) (jI (enn σ j)) (jI (s : Int)) (jI ((j + 1 : Nat) : Int)) (vi (jI (beg σ s))) (vi (jI (enn σ j))) (vi (jI (vW σ (beg σ s) (enn σ j)))) (vi (jI 1)) μ else (if vW σ (beg σ s) (enn σ j) = m then (if 0 < vW σ (beg σ s) (enn σ j) then (if beg σ s < x then r_X8_crowd_40 (jI w) (jI (vW σ (beg σ s) (enn σ j))) (jI (beg σ s)) (jI (enn σ j)) (jI (s : Int)) (jI ((j + 1 : Nat) : Int)) (vi (jI (beg σ s))) (vi (jI (enn σ j))) (vi (jI (vW σ (beg σ s) (enn σ j)))) (vi (jI 1)) μ else (if beg σ s = x then (if enn σ j < y then r_X8_crowd_40 (jI w) (jI (vW σ (beg σ s) (enn σ j))) (jI (beg σ s)) (jI (enn σ j)) (jI (s : Int)) (jI ((j + 1 : Nat) : Int)) (vi (jI (beg σ s))) (vi (jI (enn σ j))) (vi (jI (vW σ (beg σ s) (enn σ j)))) (vi (jI 1)) μ else r_X8_crowd_40 (jI w) (jI m) (jI x) (jI y) (jI (s : Int)) (jI ((j + 1 : Nat) : Int)) (vi (jI (beg σ s))) (vi (jI (enn σ j))) (vi (jI (vW σ (beg σ s) (enn σ j)))) (vi (jI 0)) μ) else r_X8_crowd_40 (jI w) (jI m) (jI x) (jI y) (jI (s : Int)) (jI ((j + 1 : Nat) : Int)) (vi (jI (beg σ s))) (vi (jI (enn σ j))) (vi (jI (vW σ (beg σ s) (enn σ j)))) (vi (jI 0)) μ)) else r_X8_crowd_40 (jI w) (jI m) (jI x) (jI y) (jI (s : Int)) (jI ((j + 1 : Nat) : Int)) (vi (jI (beg σ s))) (vi (jI (enn σ j))) (vi (jI (vW σ (beg σ s) (enn σ j)))) (vi (jI 0)) μ) else r_X8_crowd_40 (jI w) (jI m) (jI x) (jI y) (jI (s : Int)) (jI ((j + 1 : Nat) : Int)) (vi (jI (beg σ s))) (vi (jI (enn σ j))) (vi (jI (vW σ (beg σ s) (enn σ j)))) (vi (jI 0)) μ)) := by
        intro x7 x8 x9 x10
        have hlt : (jI (j : Int) < μ 50 0 (Int32.toNatClampNeg 8)) = True := by
          rw [show μ 50 0 (Int32.toNatClampNeg 8) = μ 50 0 8 from rfl, h.1]
          exact eq_true ((jI_lt (by omega) (by omega)).mpr (by omega))
        have h8 : (8 : Int32) = jI 8 := j_8
        rw [show ∀ (x : Option (Int32 × mM)), ck 5225 8 x = x from fun x => by rw [h8]; exact ck_ok (by omega) (by omega) (by omega)]
        simp only [hlt, if_true, hbg, hen, hsw, hbw, Option.bind_some]
        rw [jI_sub, ev]
        generalize vW σ (beg σ s) (enn σ j) = v at *
        generalize beg σ s = a at *
        generalize enn σ j = b at *
        have q1 : (jI m < jI v) = (m < v) := pI_lt (by omega)
        have q2 : (jI v = jI m) = (v = m) := pI_eq (by omega)
        have q3 : ((0 : Int32) < jI v) = (0 < v) := by rw [j_0]; exact pI_lt (by omega)
        have q4 : (jI a < jI x) = (a < x) := pI_lt (by omega)
        have q5 : (jI a = jI x) = (a = x) := pI_eq (by omega)
        have q6 : (jI b < jI y) = (b < y) := pI_lt (by omega)
        have q7 : jI (j : Int) + 1 = jI ((j + 1 : Nat) : Int) := by simp (disch := omega) only [j_0, j_1, j_2, j_3, j_4, j_5, j_6, j_8, j_9, j_16, j_20, j_24, j_33, j_48, j_49, j_57, j_58, j_82, j_83, j_100, j_131, j_179, j_227, j_275, j_512, j_825, j_999, j_1000, j_9999, j_10000, j_11000, j_65536, j_m1, jI_add, jI_sub, jI_mul, jI_neg, nca_9, nca_33, nca_58, nca_83, nca_131, nca_179, nca_227, nca_825, nca_4, nca_24, nca_275, ncb_1, ncb_275, ncb_24, nc_1add, Int.toNat_natCast, tz_0, tz_1, tz_2, tz_3, tz_4, tz_5, tz_6, tz_8, tz_9, tz_16, tz_20, tz_24, tz_33, tz_48, tz_49, tz_57, tz_58, tz_82, tz_83, tz_100, tz_131, tz_179, tz_227, tz_275, tz_512, tz_825, tz_999, tz_1000, tz_9999, tz_10000, tz_11000, tz_65536, nc_sub1, i_lt, n_lt, i_eq, n_eq, jI_natc, jI_nat, ck_ok, nc_lt, nc_le, if_true, if_false, Option.bind_some, wr_def, and_true, true_and, and_false, false_and, or_true, true_or, or_false, false_or, not_true, not_false_eq_true, not_true_eq_false, ite_true, ite_false, Nat.zero_add, Nat.add_zero, Int.add_zero, Int.zero_add, Int.sub_zero, up_eq, up_ne, up_i, up_j]
        simp only [q1, q2, q3, q4, q5, q6, q7]
        rfl
      by_cases c : m < vW σ (beg σ s) (enn σ j) ∨ (vW σ (beg σ s) (enn σ j) = m ∧ 0 < vW σ (beg σ s) (enn σ j) ∧ (beg σ s < x ∨ (beg σ s = x ∧ enn σ j < y)))
      · have hI2 : crI σ (fun s' q' => s' < s ∨ (s' = s ∧ q' < j + 1)) (vW σ (beg σ s) (enn σ j)) (beg σ s) (enn σ j) := by
          refine Or.inr ⟨by omega, ⟨s, j, hs, hjn, rfl, rfl⟩, rfl, fun s' q' a b d => ?_⟩
          by_cases e : s' = s ∧ q' = j
          · obtain ⟨rfl, rfl⟩ := e
            exact Or.inr ⟨rfl, Or.inr ⟨rfl, Int.le_refl _⟩⟩
          · rcases hI with ⟨h1, -, -, h2⟩ | ⟨h1, h2, h3, h4⟩
            · have := h2 s' q' a b (by omega); omega
            · have := h4 s' q' a b (by omega); omega
        obtain ⟨m2, x2, y2, z6, z7, z8, z9, z10, a1, a2⟩ := ih (j + 1) s _ _ _ (vi (jI (beg σ s))) (vi (jI (enn σ j))) (vi (jI (vW σ (beg σ s) (enn σ j)))) (vi (jI 1)) (by omega) hs hI2
        refine ⟨m2, x2, y2, z6, z7, z8, z9, z10, ?_, a2⟩
        rw [← a1, e_X8_crowd_40]
        refine (stp x7 x8 x9 x10).trans ?_
        generalize vW σ (beg σ s) (enn σ j) = v at *
        generalize beg σ s = a at *
        generalize enn σ j = b at *
        by_cases d1 : m < v
        · rw [if_pos d1]
        · rw [if_neg d1, if_pos (by omega), if_pos (by omega)]
          by_cases d2 : a < x
          · rw [if_pos d2]
          · rw [if_neg d2, if_pos (by omega), if_pos (by omega)]
      · have hI2 : crI σ (fun s' q' => s' < s ∨ (s' = s ∧ q' < j + 1)) m x y := by
          rcases hI with ⟨h1, h1a, h1b, h2⟩ | ⟨h1, h2, h3, h4⟩
          · refine Or.inl ⟨h1, h1a, h1b, fun s' q' a b d => ?_⟩
            by_cases e : s' = s ∧ q' = j
            · obtain ⟨rfl, rfl⟩ := e; omega
            · exact h2 s' q' a b (by omega)
          · refine Or.inr ⟨h1, h2, h3, fun s' q' a b d => ?_⟩
            by_cases e : s' = s ∧ q' = j
            · obtain ⟨rfl, rfl⟩ := e; omega
            · exact h4 s' q' a b (by omega)
        obtain ⟨m2, x2, y2, z6, z7, z8, z9, z10, a1, a2⟩ := ih (j + 1) s _ _ _ (vi (jI (beg σ s))) (vi (jI (enn σ j))) (vi (jI (vW σ (beg σ s) (enn σ j)))) (vi (jI 0)) (by omega) hs hI2
        refine ⟨m2, x2, y2, z6, z7, z8, z9, z10, ?_, a2⟩
        rw [← a1, e_X8_crowd_40]
        refine (stp x7 x8 x9 x10).trans ?_
        generalize vW σ (beg σ s) (enn σ j) = v at *
        generalize beg σ s = a at *
        generalize enn σ j = b at *
        rw [if_neg (by omega)]
        by_cases c1 : v = m
        · rw [if_pos c1]
          by_cases c2 : 0 < v
          · rw [if_pos c2, if_neg (by omega)]
            by_cases c3 : a = x
            · rw [if_pos c3, if_neg (by omega)]
            · rw [if_neg c3]
          · rw [if_neg c2]
        · rw [if_neg c1]
  have outer : ∀ (m' s : Nat) (m x y : Int) (x6 x7 x8 x9 x10 : mV), s + m' = sNs σ → crI σ (fun s' _ => s' < s) m x y → ∃ m2 x2 y2 x6' x7' x8' x9' x10', r_X8_crowd_25 (jI w) (jI m) (jI x) (jI y) (jI (s : Int)) x6 x7 x8 x9 x10 μ = r_X8_crowd_25 (jI w) (jI m2) (jI x2) (jI y2) (jI (sNs σ : Int)) x6' x7' x8' x9' x10' μ ∧ crI σ (fun s' _ => s' < sNs σ) m2 x2 y2 := by
    intro m'
    induction m' with
    | zero =>
      intro s m x y x6 x7 x8 x9 x10 hs hI
      have e0 : s = sNs σ := by omega
      subst e0
      exact ⟨m, x, y, x6, x7, x8, x9, x10, rfl, hI⟩
    | succ m' ih =>
      intro s m x y x6 x7 x8 x9 x10 hs hI
      obtain ⟨m1, x1, y1, z6, z7, z8, z9, z10, a1, a2⟩ := inner (sNs σ) 0 s m x y x7 x8 x9 x10 (by omega) (by omega) (by
        rcases hI with ⟨h1, h1a, h1b, h2⟩ | ⟨h1, h2, h3, h4⟩
        · exact Or.inl ⟨h1, h1a, h1b, fun s' q' a b c => h2 s' q' a b (by omega)⟩
        · exact Or.inr ⟨h1, h2, h3, fun s' q' a b c => h4 s' q' a b (by omega)⟩)
      obtain ⟨m2, x2, y2, w6, w7, w8, w9, w10, b1, b2⟩ := ih (s + 1) m1 x1 y1 z6 z7 z8 z9 z10 (by omega) a2
      refine ⟨m2, x2, y2, w6, w7, w8, w9, w10, ?_, b2⟩
      rw [← b1, ← a1, e_X8_crowd_25]
      simp (disch := omega) only [j_0, j_1, j_2, j_3, j_4, j_5, j_6, j_8, j_9, j_16, j_20, j_24, j_33, j_48, j_49, j_57, j_58, j_82, j_83, j_100, j_131, j_179, j_227, j_275, j_512, j_825, j_999, j_1000, j_9999, j_10000, j_11000, j_65536, j_m1, jI_add, jI_sub, jI_mul, jI_neg, nca_9, nca_33, nca_58, nca_83, nca_131, nca_179, nca_227, nca_825, nca_4, nca_24, nca_275, ncb_1, ncb_275, ncb_24, nc_1add, Int.toNat_natCast, tz_0, tz_1, tz_2, tz_3, tz_4, tz_5, tz_6, tz_8, tz_9, tz_16, tz_20, tz_24, tz_33, tz_48, tz_49, tz_57, tz_58, tz_82, tz_83, tz_100, tz_131, tz_179, tz_227, tz_275, tz_512, tz_825, tz_999, tz_1000, tz_9999, tz_10000, tz_11000, tz_65536, nc_sub1, i_lt, n_lt, i_eq, n_eq, jI_natc, jI_nat, ck_ok, nc_lt, nc_le, if_true, if_false, Option.bind_some, wr_def, and_true, true_and, and_false, false_and, or_true, true_or, or_false, false_or, not_true, not_false_eq_true, not_true_eq_false, ite_true, ite_false, Nat.zero_add, Nat.add_zero, Int.add_zero, Int.zero_add, Int.sub_zero, up_eq, up_ne, up_i, up_j, h.1]
      rfl
  obtain ⟨m, x, y, x6, x7, x8, x9, x10, a1, a2⟩ := outer (sNs σ) 0 0 (-1) (-1) vu vu vu vu vu (by omega) (Or.inl ⟨rfl, rfl, rfl, fun s q _ _ hd => by omega⟩)
  have hin := f_in w 0 3 (by omega) (by omega) (by omega) μ
  rw [if_pos (by omega)] at hin
  have lw := jI_long (z := w) (by omega)
  have hCr : isCr σ m x y := by
    rcases a2 with ⟨h1, -, -, h2⟩ | ⟨h1, h2, h3, h4⟩
    · exact Or.inl ⟨h1, fun s q a b => h2 s q a b a⟩
    · exact Or.inr ⟨h1, h2, h3, fun s q a b => h4 s q a b a⟩
  refine ⟨m, x, y, hCr, ?_⟩
  rw [e_X8_crowd, lw, l_0, l_3, hin]
  have e1 : (Option.bind (some (jI 1, μ)) fun q1 => if q1.1 = 0 then some ((-1000000002 : Int32), q1.2) else r_X8_crowd_25 (jI w) 0 (-1) (-1) 0 vu vu vu vu vu q1.2) = r_X8_crowd_25 (jI w) (jI 0) (jI (-1)) (jI (-1)) (jI ((0 : Nat) : Int)) vu vu vu vu vu μ := by
    simp (disch := omega) only [j_0, j_1, j_2, j_3, j_4, j_5, j_6, j_8, j_9, j_16, j_20, j_24, j_33, j_48, j_49, j_57, j_58, j_82, j_83, j_100, j_131, j_179, j_227, j_275, j_512, j_825, j_999, j_1000, j_9999, j_10000, j_11000, j_65536, j_m1, jI_add, jI_sub, jI_mul, jI_neg, nca_9, nca_33, nca_58, nca_83, nca_131, nca_179, nca_227, nca_825, nca_4, nca_24, nca_275, ncb_1, ncb_275, ncb_24, nc_1add, Int.toNat_natCast, tz_0, tz_1, tz_2, tz_3, tz_4, tz_5, tz_6, tz_8, tz_9, tz_16, tz_20, tz_24, tz_33, tz_48, tz_49, tz_57, tz_58, tz_82, tz_83, tz_100, tz_131, tz_179, tz_227, tz_275, tz_512, tz_825, tz_999, tz_1000, tz_9999, tz_10000, tz_11000, tz_65536, nc_sub1, i_lt, n_lt, i_eq, n_eq, jI_natc, jI_nat, ck_ok, nc_lt, nc_le, if_true, if_false, Option.bind_some, wr_def, and_true, true_and, and_false, false_and, or_true, true_or, or_false, false_or, not_true, not_false_eq_true, not_true_eq_false, ite_true, ite_false, Nat.zero_add, Nat.add_zero, Int.add_zero, Int.zero_add, Int.sub_zero, up_eq, up_ne, up_i, up_j]
    rfl
  rw [e1, a1, e_X8_crowd_25]
  rcases hCr with ⟨rfl, -⟩ | ⟨h1, ⟨s, q, hs, hq, rfl, rfl⟩, h3, -⟩
  · simp (disch := omega) only [j_0, j_1, j_2, j_3, j_4, j_5, j_6, j_8, j_9, j_16, j_20, j_24, j_33, j_48, j_49, j_57, j_58, j_82, j_83, j_100, j_131, j_179, j_227, j_275, j_512, j_825, j_999, j_1000, j_9999, j_10000, j_11000, j_65536, j_m1, jI_add, jI_sub, jI_mul, jI_neg, nca_9, nca_33, nca_58, nca_83, nca_131, nca_179, nca_227, nca_825, nca_4, nca_24, nca_275, ncb_1, ncb_275, ncb_24, nc_1add, Int.toNat_natCast, tz_0, tz_1, tz_2, tz_3, tz_4, tz_5, tz_6, tz_8, tz_9, tz_16, tz_20, tz_24, tz_33, tz_48, tz_49, tz_57, tz_58, tz_82, tz_83, tz_100, tz_131, tz_179, tz_227, tz_275, tz_512, tz_825, tz_999, tz_1000, tz_9999, tz_10000, tz_11000, tz_65536, nc_sub1, i_lt, n_lt, i_eq, n_eq, jI_natc, jI_nat, ck_ok, nc_lt, nc_le, if_true, if_false, Option.bind_some, wr_def, and_true, true_and, and_false, false_and, or_true, true_or, or_false, false_or, not_true, not_false_eq_true, not_true_eq_false, ite_true, ite_false, Nat.zero_add, Nat.add_zero, Int.add_zero, Int.zero_add, Int.sub_zero, up_eq, up_ne, up_i, up_j, h.1]
  · have b1 := wf_be hw hs
    have b2 := wf_be hw hq
    have hsw := m_sWn h hw (x := beg σ s) (y := enn σ q) (by omega) (by omega)
    have hbw := m_bWn h hw (x := beg σ s) (y := enn σ q) (by omega) (by omega)
    have vb := vW_bd hw (beg σ s) (enn σ q)
    rw [if_neg (show ¬ m = 0 by omega)]
    by_cases c0 : w = 0
    · rw [if_pos c0]; simp (disch := omega) only [j_0, j_1, j_2, j_3, j_4, j_5, j_6, j_8, j_9, j_16, j_20, j_24, j_33, j_48, j_49, j_57, j_58, j_82, j_83, j_100, j_131, j_179, j_227, j_275, j_512, j_825, j_999, j_1000, j_9999, j_10000, j_11000, j_65536, j_m1, jI_add, jI_sub, jI_mul, jI_neg, nca_9, nca_33, nca_58, nca_83, nca_131, nca_179, nca_227, nca_825, nca_4, nca_24, nca_275, ncb_1, ncb_275, ncb_24, nc_1add, Int.toNat_natCast, tz_0, tz_1, tz_2, tz_3, tz_4, tz_5, tz_6, tz_8, tz_9, tz_16, tz_20, tz_24, tz_33, tz_48, tz_49, tz_57, tz_58, tz_82, tz_83, tz_100, tz_131, tz_179, tz_227, tz_275, tz_512, tz_825, tz_999, tz_1000, tz_9999, tz_10000, tz_11000, tz_65536, nc_sub1, i_lt, n_lt, i_eq, n_eq, jI_natc, jI_nat, ck_ok, nc_lt, nc_le, if_true, if_false, Option.bind_some, wr_def, and_true, true_and, and_false, false_and, or_true, true_or, or_false, false_or, not_true, not_false_eq_true, not_true_eq_false, ite_true, ite_false, Nat.zero_add, Nat.add_zero, Int.add_zero, Int.zero_add, Int.sub_zero, up_eq, up_ne, up_i, up_j, h.1, c0]
    · rw [if_neg c0]
      by_cases c1 : w = 1
      · rw [if_pos c1]; simp (disch := omega) only [j_0, j_1, j_2, j_3, j_4, j_5, j_6, j_8, j_9, j_16, j_20, j_24, j_33, j_48, j_49, j_57, j_58, j_82, j_83, j_100, j_131, j_179, j_227, j_275, j_512, j_825, j_999, j_1000, j_9999, j_10000, j_11000, j_65536, j_m1, jI_add, jI_sub, jI_mul, jI_neg, nca_9, nca_33, nca_58, nca_83, nca_131, nca_179, nca_227, nca_825, nca_4, nca_24, nca_275, ncb_1, ncb_275, ncb_24, nc_1add, Int.toNat_natCast, tz_0, tz_1, tz_2, tz_3, tz_4, tz_5, tz_6, tz_8, tz_9, tz_16, tz_20, tz_24, tz_33, tz_48, tz_49, tz_57, tz_58, tz_82, tz_83, tz_100, tz_131, tz_179, tz_227, tz_275, tz_512, tz_825, tz_999, tz_1000, tz_9999, tz_10000, tz_11000, tz_65536, nc_sub1, i_lt, n_lt, i_eq, n_eq, jI_natc, jI_nat, ck_ok, nc_lt, nc_le, if_true, if_false, Option.bind_some, wr_def, and_true, true_and, and_false, false_and, or_true, true_or, or_false, false_or, not_true, not_false_eq_true, not_true_eq_false, ite_true, ite_false, Nat.zero_add, Nat.add_zero, Int.add_zero, Int.zero_add, Int.sub_zero, up_eq, up_ne, up_i, up_j, h.1, c1]
      · rw [if_neg c1]
        by_cases c2 : w = 2
        · rw [if_pos c2]; simp (disch := omega) only [j_0, j_1, j_2, j_3, j_4, j_5, j_6, j_8, j_9, j_16, j_20, j_24, j_33, j_48, j_49, j_57, j_58, j_82, j_83, j_100, j_131, j_179, j_227, j_275, j_512, j_825, j_999, j_1000, j_9999, j_10000, j_11000, j_65536, j_m1, jI_add, jI_sub, jI_mul, jI_neg, nca_9, nca_33, nca_58, nca_83, nca_131, nca_179, nca_227, nca_825, nca_4, nca_24, nca_275, ncb_1, ncb_275, ncb_24, nc_1add, Int.toNat_natCast, tz_0, tz_1, tz_2, tz_3, tz_4, tz_5, tz_6, tz_8, tz_9, tz_16, tz_20, tz_24, tz_33, tz_48, tz_49, tz_57, tz_58, tz_82, tz_83, tz_100, tz_131, tz_179, tz_227, tz_275, tz_512, tz_825, tz_999, tz_1000, tz_9999, tz_10000, tz_11000, tz_65536, nc_sub1, i_lt, n_lt, i_eq, n_eq, jI_natc, jI_nat, ck_ok, nc_lt, nc_le, if_true, if_false, Option.bind_some, wr_def, and_true, true_and, and_false, false_and, or_true, true_or, or_false, false_or, not_true, not_false_eq_true, not_true_eq_false, ite_true, ite_false, Nat.zero_add, Nat.add_zero, Int.add_zero, Int.zero_add, Int.sub_zero, up_eq, up_ne, up_i, up_j, h.1, c2, hsw]
        · rw [if_neg c2]; simp (disch := omega) only [j_0, j_1, j_2, j_3, j_4, j_5, j_6, j_8, j_9, j_16, j_20, j_24, j_33, j_48, j_49, j_57, j_58, j_82, j_83, j_100, j_131, j_179, j_227, j_275, j_512, j_825, j_999, j_1000, j_9999, j_10000, j_11000, j_65536, j_m1, jI_add, jI_sub, jI_mul, jI_neg, nca_9, nca_33, nca_58, nca_83, nca_131, nca_179, nca_227, nca_825, nca_4, nca_24, nca_275, ncb_1, ncb_275, ncb_24, nc_1add, Int.toNat_natCast, tz_0, tz_1, tz_2, tz_3, tz_4, tz_5, tz_6, tz_8, tz_9, tz_16, tz_20, tz_24, tz_33, tz_48, tz_49, tz_57, tz_58, tz_82, tz_83, tz_100, tz_131, tz_179, tz_227, tz_275, tz_512, tz_825, tz_999, tz_1000, tz_9999, tz_10000, tz_11000, tz_65536, nc_sub1, i_lt, n_lt, i_eq, n_eq, jI_natc, jI_nat, ck_ok, nc_lt, nc_le, if_true, if_false, Option.bind_some, wr_def, and_true, true_and, and_false, false_and, or_true, true_or, or_false, false_or, not_true, not_false_eq_true, not_true_eq_false, ite_true, ite_false, Nat.zero_add, Nat.add_zero, Int.add_zero, Int.zero_add, Int.sub_zero, up_eq, up_ne, up_i, up_j, h.1, hbw]
