/-! most worth in boxes -/
def mxI (a b : Int) : Int := if a < b then b else a
def mnI (a b : Int) : Int := if a < b then a else b
theorem f_max {a b : Int} (h : -2147483648 ≤ a ∧ a < 2147483648 ∧ -2147483648 ≤ b ∧ b < 2147483648) (μ : mM) : f_J9_max_7cf53 [vi (jI a), vi (jI b)] μ = some (jI (mxI a b), μ) := by
  rw [e_J9_max_7cf53]
  unfold mxI
  by_cases c : a < b
  · rw [if_pos c]; simp (disch := omega) only [j_0, j_1, j_2, j_3, j_4, j_5, j_6, j_8, j_9, j_16, j_20, j_24, j_33, j_48, j_49, j_57, j_58, j_82, j_83, j_100, j_131, j_179, j_227, j_275, j_512, j_825, j_999, j_1000, j_9999, j_10000, j_11000, j_65536, j_m1, jI_add, jI_sub, jI_mul, jI_neg, nca_9, nca_33, nca_58, nca_83, nca_131, nca_179, nca_227, nca_825, nca_4, nca_24, nca_275, ncb_1, ncb_275, ncb_24, nc_1add, Int.toNat_natCast, tz_0, tz_1, tz_2, tz_3, tz_4, tz_5, tz_6, tz_8, tz_9, tz_16, tz_20, tz_24, tz_33, tz_48, tz_49, tz_57, tz_58, tz_82, tz_83, tz_100, tz_131, tz_179, tz_227, tz_275, tz_512, tz_825, tz_999, tz_1000, tz_9999, tz_10000, tz_11000, tz_65536, nc_sub1, i_lt, n_lt, i_eq, n_eq, jI_natc, jI_nat, ck_ok, nc_lt, nc_le, if_true, if_false, Option.bind_some, wr_def, and_true, true_and, and_false, false_and, or_true, true_or, or_false, false_or, not_true, not_false_eq_true, not_true_eq_false, ite_true, ite_false, Nat.zero_add, Nat.add_zero, Int.add_zero, Int.zero_add, Int.sub_zero, up_eq, up_ne, up_i, up_j]
  · rw [if_neg c]; simp (disch := omega) only [j_0, j_1, j_2, j_3, j_4, j_5, j_6, j_8, j_9, j_16, j_20, j_24, j_33, j_48, j_49, j_57, j_58, j_82, j_83, j_100, j_131, j_179, j_227, j_275, j_512, j_825, j_999, j_1000, j_9999, j_10000, j_11000, j_65536, j_m1, jI_add, jI_sub, jI_mul, jI_neg, nca_9, nca_33, nca_58, nca_83, nca_131, nca_179, nca_227, nca_825, nca_4, nca_24, nca_275, ncb_1, ncb_275, ncb_24, nc_1add, Int.toNat_natCast, tz_0, tz_1, tz_2, tz_3, tz_4, tz_5, tz_6, tz_8, tz_9, tz_16, tz_20, tz_24, tz_33, tz_48, tz_49, tz_57, tz_58, tz_82, tz_83, tz_100, tz_131, tz_179, tz_227, tz_275, tz_512, tz_825, tz_999, tz_1000, tz_9999, tz_10000, tz_11000, tz_65536, nc_sub1, i_lt, n_lt, i_eq, n_eq, jI_natc, jI_nat, ck_ok, nc_lt, nc_le, if_true, if_false, Option.bind_some, wr_def, and_true, true_and, and_false, false_and, or_true, true_or, or_false, false_or, not_true, not_false_eq_true, not_true_eq_false, ite_true, ite_false, Nat.zero_add, Nat.add_zero, Int.add_zero, Int.zero_add, Int.sub_zero, up_eq, up_ne, up_i, up_j]
theorem f_min {a b : Int} (h : -2147483648 ≤ a ∧ a < 2147483648 ∧ -2147483648 ≤ b ∧ b < 2147483648) (μ : mM) : f_J9_min_7cf53 [vi (jI a), vi (jI b)] μ = some (jI (mnI a b), μ) := by
  rw [e_J9_min_7cf53]
  unfold mnI
  by_cases c : a < b
  · rw [if_pos c]; simp (disch := omega) only [j_0, j_1, j_2, j_3, j_4, j_5, j_6, j_8, j_9, j_16, j_20, j_24, j_33, j_48, j_49, j_57, j_58, j_82, j_83, j_100, j_131, j_179, j_227, j_275, j_512, j_825, j_999, j_1000, j_9999, j_10000, j_11000, j_65536, j_m1, jI_add, jI_sub, jI_mul, jI_neg, nca_9, nca_33, nca_58, nca_83, nca_131, nca_179, nca_227, nca_825, nca_4, nca_24, nca_275, ncb_1, ncb_275, ncb_24, nc_1add, Int.toNat_natCast, tz_0, tz_1, tz_2, tz_3, tz_4, tz_5, tz_6, tz_8, tz_9, tz_16, tz_20, tz_24, tz_33, tz_48, tz_49, tz_57, tz_58, tz_82, tz_83, tz_100, tz_131, tz_179, tz_227, tz_275, tz_512, tz_825, tz_999, tz_1000, tz_9999, tz_10000, tz_11000, tz_65536, nc_sub1, i_lt, n_lt, i_eq, n_eq, jI_natc, jI_nat, ck_ok, nc_lt, nc_le, if_true, if_false, Option.bind_some, wr_def, and_true, true_and, and_false, false_and, or_true, true_or, or_false, false_or, not_true, not_false_eq_true, not_true_eq_false, ite_true, ite_false, Nat.zero_add, Nat.add_zero, Int.add_zero, Int.zero_add, Int.sub_zero, up_eq, up_ne, up_i, up_j]
  · rw [if_neg c]
    by_cases d : b < a
    · simp (disch := omega) only [j_0, j_1, j_2, j_3, j_4, j_5, j_6, j_8, j_9, j_16, j_20, j_24, j_33, j_48, j_49, j_57, j_58, j_82, j_83, j_100, j_131, j_179, j_227, j_275, j_512, j_825, j_999, j_1000, j_9999, j_10000, j_11000, j_65536, j_m1, jI_add, jI_sub, jI_mul, jI_neg, nca_9, nca_33, nca_58, nca_83, nca_131, nca_179, nca_227, nca_825, nca_4, nca_24, nca_275, ncb_1, ncb_275, ncb_24, nc_1add, Int.toNat_natCast, tz_0, tz_1, tz_2, tz_3, tz_4, tz_5, tz_6, tz_8, tz_9, tz_16, tz_20, tz_24, tz_33, tz_48, tz_49, tz_57, tz_58, tz_82, tz_83, tz_100, tz_131, tz_179, tz_227, tz_275, tz_512, tz_825, tz_999, tz_1000, tz_9999, tz_10000, tz_11000, tz_65536, nc_sub1, i_lt, n_lt, i_eq, n_eq, jI_natc, jI_nat, ck_ok, nc_lt, nc_le, if_true, if_false, Option.bind_some, wr_def, and_true, true_and, and_false, false_and, or_true, true_or, or_false, false_or, not_true, not_false_eq_true, not_true_eq_false, ite_true, ite_false, Nat.zero_add, Nat.add_zero, Int.add_zero, Int.zero_add, Int.sub_zero, up_eq, up_ne, up_i, up_j]
    · have : a = b := by omega
      rw [this]; simp (disch := omega) only [j_0, j_1, j_2, j_3, j_4, j_5, j_6, j_8, j_9, j_16, j_20, j_24, j_33, j_48, j_49, j_57, j_58, j_82, j_83, j_100, j_131, j_179, j_227, j_275, j_512, j_825, j_999, j_1000, j_9999, j_10000, j_11000, j_65536, j_m1, jI_add, jI_sub, jI_mul, jI_neg, nca_9, nca_33, nca_58, nca_83, nca_131, nca_179, nca_227, nca_825, nca_4, nca_24, nca_275, ncb_1, ncb_275, ncb_24, nc_1add, Int.toNat_natCast, tz_0, tz_1, tz_2, tz_3, tz_4, tz_5, tz_6, tz_8, tz_9, tz_16, tz_20, tz_24, tz_33, tz_48, tz_49, tz_57, tz_58, tz_82, tz_83, tz_100, tz_131, tz_179, tz_227, tz_275, tz_512, tz_825, tz_999, tz_1000, tz_9999, tz_10000, tz_11000, tz_65536, nc_sub1, i_lt, n_lt, i_eq, n_eq, jI_natc, jI_nat, ck_ok, nc_lt, nc_le, if_true, if_false, Option.bind_some, wr_def, and_true, true_and, and_false, false_and, or_true, true_or, or_false, false_or, not_true, not_false_eq_true, not_true_eq_false, ite_true, ite_false, Nat.zero_add, Nat.add_zero, Int.add_zero, Int.zero_add, Int.sub_zero, up_eq, up_ne, up_i, up_j]
theorem mx_bd {a b : Int} : (mxI a b = a ∨ mxI a b = b) ∧ a ≤ mxI a b ∧ b ≤ mxI a b := by unfold mxI; split <;> omega
theorem mn_bd {a b : Int} : (mnI a b = a ∨ mnI a b = b) ∧ mnI a b ≤ a ∧ mnI a b ≤ b := by unfold mnI; split <;> omega
/-- which parts from j to i there are: shafts (e = 0), bores (e = 1) -/
def cE (σ : sT) (π : Nat → Nat) (e : Int) (i : Nat) : Nat → Nat
  | 0 => 0
  | d + 1 => cE σ π e i d + (if pE σ (π (i - 1 - d)) = e then 1 else 0)
def cF (σ : sT) (π : Nat → Nat) (e : Int) (i j : Nat) : Nat := cE σ π e i (i - j)
theorem cF_e {σ : sT} {π : Nat → Nat} {e : Int} {i : Nat} : cF σ π e i i = 0 := by unfold cF; rw [Nat.sub_self]; rfl
theorem cF_s {σ : sT} {π : Nat → Nat} {e : Int} {i j : Nat} (h : j < i) : cF σ π e i j = cF σ π e i (j + 1) + (if pE σ (π j) = e then 1 else 0) := by
  unfold cF
  have e1 : i - j = (i - (j + 1)) + 1 := by omega
  rw [e1, cE, show i - 1 - (i - (j + 1)) = j by omega]
theorem cE_le {σ : sT} {π : Nat → Nat} {e : Int} {i : Nat} : ∀ d, cE σ π e i d ≤ d
  | 0 => Nat.le_refl 0
  | d + 1 => by have := cE_le (σ := σ) (π := π) (e := e) (i := i) d; rw [cE]; split <;> omega
theorem cF_le {σ : sT} {π : Nat → Nat} {e : Int} {i j : Nat} : cF σ π e i j ≤ i := by
  have := cE_le (σ := σ) (π := π) (e := e) (i := i) (i - j)
  unfold cF; omega
def okP (σ : sT) (π : Nat → Nat) (j i : Nat) : Prop := ∀ p q, j ≤ p → p < i → j ≤ q → q < i → pE σ (π p) = 0 → pE σ (π q) = 1 → pK σ (π p) ≤ pK σ (π q) ∧ pK σ (π q) ≤ pC σ (π p)
def gW (σ : sT) (π : Nat → Nat) (j p : Nat) : Prop := (pE σ (π j) = 0 → pE σ (π p) = 1 → pK σ (π j) ≤ pK σ (π p) ∧ pK σ (π p) ≤ pC σ (π j)) ∧ (pE σ (π j) = 1 → pE σ (π p) = 0 → pK σ (π p) ≤ pK σ (π j) ∧ pK σ (π j) ≤ pC σ (π p))
theorem pE_01 (σ : sT) (p : Nat) : pE σ p = 0 ∨ pE σ p = 1 := by unfold pE; split <;> simp
theorem okP_s {σ : sT} {π : Nat → Nat} {j i : Nat} (hj : j < i) : okP σ π j i ↔ okP σ π (j + 1) i ∧ ∀ p, j + 1 ≤ p → p < i → gW σ π j p := by
  constructor
  · intro h
    refine ⟨fun p q h1 h2 h3 h4 => h p q (by omega) h2 (by omega) h4, fun p h1 h2 => ⟨fun e1 e2 => h j p (Nat.le_refl _) hj (by omega) h2 e1 e2, fun e1 e2 => h p j (by omega) h2 (Nat.le_refl _) hj e2 e1⟩⟩
  · rintro ⟨h1, h2⟩ p q p1 p2 q1 q2 e1 e2
    by_cases c : p = j
    · by_cases d : q = j
      · rw [c] at e1; rw [d] at e2; omega
      · have := (h2 q (by omega) q2).1
        rw [c] at e1 ⊢
        exact this e1 e2
    · by_cases d : q = j
      · have := (h2 p (by omega) p2).2
        rw [d] at e2 ⊢
        exact this e2 e1
      · exact h1 p q (by omega) p2 (by omega) q2 e1 e2
theorem okP_e {σ : sT} {π : Nat → Nat} {i : Nat} : okP σ π i i := fun p q h1 h2 => by omega
noncomputable def bx (σ : sT) (π : Nat → Nat) (T : Nat → Int) (i : Nat) : Nat → Int → Int
  | 0, a => a
  | j + 1, a => @ite _ (okP σ π j i) (Classical.propDecidable _) (bx σ π T i j (mxI a (T j + mnI (cF σ π 0 i j) (cF σ π 1 i j)))) a
noncomputable def rowN (σ : sT) (π : Nat → Nat) (T : Nat → Int) : Nat → Int
  | 0 => 0
  | i + 1 => bx σ π T (i + 1) (i + 1) (rowN σ π T i)
noncomputable def bW (σ : sT) (π : Nat → Nat) : Nat → Nat → Int
  | 0 => fun _ => 0
  | b + 1 => rowN σ π (bW σ π b)
theorem bx_bd {σ : sT} {π : Nat → Nat} {T : Nat → Int} {i : Nat} {M : Int} (hi : i ≤ 48) (hT : ∀ j, j ≤ 48 → 0 ≤ T j ∧ T j ≤ M) : ∀ j a, j ≤ 48 → 0 ≤ a → a ≤ M + 48 → 0 ≤ bx σ π T i j a ∧ bx σ π T i j a ≤ M + 48
  | 0, a, _, h1, h2 => ⟨h1, h2⟩
  | j + 1, a, hj, h1, h2 => by
    rw [bx]
    by_cases c : okP σ π j i
    · rw [if_pos c]
      have := hT j (by omega)
      have := mx_bd (a := a) (b := T j + mnI (cF σ π 0 i j) (cF σ π 1 i j))
      have := mn_bd (a := (cF σ π 0 i j : Int)) (b := (cF σ π 1 i j : Int))
      have := cF_le (σ := σ) (π := π) (e := 0) (i := i) (j := j)
      exact bx_bd hi hT j _ (by omega) (by omega) (by omega)
    · rw [if_neg c]; exact ⟨h1, h2⟩
theorem rowN_bd {σ : sT} {π : Nat → Nat} {T : Nat → Int} {M : Int} (hM : 0 ≤ M) (hT : ∀ j, j ≤ 48 → 0 ≤ T j ∧ T j ≤ M) : ∀ i, i ≤ 48 → 0 ≤ rowN σ π T i ∧ rowN σ π T i ≤ M + 48
  | 0, _ => by rw [rowN]; omega
  | i + 1, hi => by
    have := rowN_bd (σ := σ) (π := π) hM hT i (by omega)
    rw [rowN]
    exact bx_bd hi hT _ _ hi this.1 this.2
theorem bW_bd {σ : sT} {π : Nat → Nat} : ∀ b i, i ≤ 48 → 0 ≤ bW σ π b i ∧ bW σ π b i ≤ 48 * (b : Int)
  | 0, i, hi => by show (0 : Int) ≤ 0 ∧ (0 : Int) ≤ 48 * ((0 : Nat) : Int); omega
  | b + 1, i, hi => by
    have := rowN_bd (σ := σ) (π := π) (T := bW σ π b) (M := 48 * (b : Int)) (by omega) (fun j hj => bW_bd b j hj) i hi
    rw [bW]; omega
theorem bW_0 {σ : sT} {π : Nat → Nat} : ∀ b, bW σ π b 0 = 0
  | 0 => rfl
  | b + 1 => rfl
/-! the class -/
def fr34 (k i : Nat) (μ μ' : mM) : Prop := (∀ k' b, k' ≠ 34 → μ' k' b = μ k' b) ∧ ∀ b i', (b = 0 ∨ k < b ∨ i' ≠ i) → μ' 34 b i' = μ 34 b i'
theorem fr34.tr {k i : Nat} {μ μ' μ'' : mM} (h : fr34 k i μ μ') (h' : fr34 k i μ' μ'') : fr34 k i μ μ'' := ⟨fun k' b hk => (h'.1 k' b hk).trans (h.1 k' b hk), fun b i' hb => (h'.2 b i' hb).trans (h.2 b i' hb)⟩
theorem fr34.one {k i b : Nat} {μ : mM} {v : Int32} (h1 : 1 ≤ b) (h2 : b ≤ k) : fr34 k i μ (mm_up μ 34 b i v) := ⟨fun k' b' hk => by rw [up_ne (by omega)], fun b' i' hb => by
  by_cases c : b' = b
  · subst c; rw [up_j (by omega)]
  · rw [up_i (by omega)]⟩
theorem f_addBox {k i j : Nat} {m : Int} {A T : Nat → Int} (hk : k ≤ 9) (hi : i ≤ 48) (hj : j < i) (hm : 0 ≤ m ∧ m ≤ 48) : ∀ (n b : Nat) (μ : mM), b + n = k + 1 → 1 ≤ b → (∀ b', b ≤ b' → b' ≤ k → μ 34 b' i = jI (A b') ∧ 0 ≤ A b' ∧ A b' < 100000) → (∀ b', b' < k → μ 34 b' j = jI (T b') ∧ 0 ≤ T b' ∧ T b' < 100000) → ∃ μ', r_X0_addBox_3 (jI (j : Int)) (jI (i : Int)) (jI (k : Int)) (jI m) (jI (b : Int)) μ = some (0, μ') ∧ fr34 k i μ μ' ∧ (∀ b', b ≤ b' → b' ≤ k → μ' 34 b' i = jI (mxI (A b') (T (b' - 1) + m))) ∧ (∀ b', b' < b → μ' 34 b' i = μ 34 b' i) := by
  intro n
  induction n with
  | zero =>
    intro b μ hb h1 hA hT
    refine ⟨μ, ?_, ⟨fun _ _ _ => rfl, fun _ _ _ => rfl⟩, fun b' g1 g2 => by omega, fun _ _ => rfl⟩
    rw [e_X0_addBox_3]
    simp (disch := omega) only [j_0, j_1, j_2, j_3, j_4, j_5, j_6, j_8, j_9, j_16, j_20, j_24, j_33, j_48, j_49, j_57, j_58, j_82, j_83, j_100, j_131, j_179, j_227, j_275, j_512, j_825, j_999, j_1000, j_9999, j_10000, j_11000, j_65536, j_m1, jI_add, jI_sub, jI_mul, jI_neg, nca_9, nca_33, nca_58, nca_83, nca_131, nca_179, nca_227, nca_825, nca_4, nca_24, nca_275, ncb_1, ncb_275, ncb_24, nc_1add, Int.toNat_natCast, tz_0, tz_1, tz_2, tz_3, tz_4, tz_5, tz_6, tz_8, tz_9, tz_16, tz_20, tz_24, tz_33, tz_48, tz_49, tz_57, tz_58, tz_82, tz_83, tz_100, tz_131, tz_179, tz_227, tz_275, tz_512, tz_825, tz_999, tz_1000, tz_9999, tz_10000, tz_11000, tz_65536, nc_sub1, i_lt, n_lt, i_eq, n_eq, jI_natc, jI_nat, ck_ok, nc_lt, nc_le, if_true, if_false, Option.bind_some, wr_def, and_true, true_and, and_false, false_and, or_true, true_or, or_false, false_or, not_true, not_false_eq_true, not_true_eq_false, ite_true, ite_false, Nat.zero_add, Nat.add_zero, Int.add_zero, Int.zero_add, Int.sub_zero, up_eq, up_ne, up_i, up_j]
  | succ n ih =>
    intro b μ hb h1 hA hT
    obtain ⟨a1, a2⟩ := hA b (Nat.le_refl _) (by omega)
    obtain ⟨t1, t2⟩ := hT (b - 1) (by omega)
    have hx := f_max (a := A b) (b := T (b - 1) + m) (by omega) μ
    obtain ⟨μ', e1, e2, e3, e4⟩ := ih (b + 1) (mm_up μ 34 b i (jI (mxI (A b) (T (b - 1) + m)))) (by omega) (by omega) (fun b' g1 g2 => by
      have := hA b' (by omega) g2
      refine ⟨?_, this.2⟩
      rw [up_i (by omega)]; exact this.1) (fun b' g1 => by
      have := hT b' g1
      refine ⟨?_, this.2⟩
      by_cases c : b' = b
      · subst c; rw [up_j (by omega)]; exact this.1
      · rw [up_i (by omega)]; exact this.1)
    refine ⟨μ', ?_, (fr34.one h1 (by omega)).tr e2, fun b' g1 g2 => ?_, fun b' g1 => ?_⟩
    · rw [← e1, e_X0_addBox_3]
      simp (disch := omega) only [j_0, j_1, j_2, j_3, j_4, j_5, j_6, j_8, j_9, j_16, j_20, j_24, j_33, j_48, j_49, j_57, j_58, j_82, j_83, j_100, j_131, j_179, j_227, j_275, j_512, j_825, j_999, j_1000, j_9999, j_10000, j_11000, j_65536, j_m1, jI_add, jI_sub, jI_mul, jI_neg, nca_9, nca_33, nca_58, nca_83, nca_131, nca_179, nca_227, nca_825, nca_4, nca_24, nca_275, ncb_1, ncb_275, ncb_24, nc_1add, Int.toNat_natCast, tz_0, tz_1, tz_2, tz_3, tz_4, tz_5, tz_6, tz_8, tz_9, tz_16, tz_20, tz_24, tz_33, tz_48, tz_49, tz_57, tz_58, tz_82, tz_83, tz_100, tz_131, tz_179, tz_227, tz_275, tz_512, tz_825, tz_999, tz_1000, tz_9999, tz_10000, tz_11000, tz_65536, nc_sub1, i_lt, n_lt, i_eq, n_eq, jI_natc, jI_nat, ck_ok, nc_lt, nc_le, if_true, if_false, Option.bind_some, wr_def, and_true, true_and, and_false, false_and, or_true, true_or, or_false, false_or, not_true, not_false_eq_true, not_true_eq_false, ite_true, ite_false, Nat.zero_add, Nat.add_zero, Int.add_zero, Int.zero_add, Int.sub_zero, up_eq, up_ne, up_i, up_j, a1, t1, hx]
    · by_cases c : b' = b
      · subst c
        rw [e4 b' (by omega), up_eq]
      · exact e3 b' (by omega) g2
    · rw [e4 b' (by omega), up_i (by omega)]
def wS (σ : sT) (π : Nat → Nat) (k i : Nat) (μ : mM) : Prop := ∀ b i', b ≤ k → i' < i → μ 34 b i' = jI (bW σ π b i')
theorem f_tryLast {σ : sT} {π : Nat → Nat} {k i : Nat} (hw : wf σ) (hk : k ≤ 9) (hi : i ≤ pN σ) (hπ : ∀ p, p < pN σ → π p < pN σ) : ∀ (j : Nat) (A : Nat → Int) (a b c d : Int) (μ : mM), j ≤ i → okP σ π j i → bxR σ (pN σ) π μ → wS σ π k i μ → (∀ b', 1 ≤ b' → b' ≤ k → μ 34 b' i = jI (A b') ∧ 0 ≤ A b' ∧ A b' ≤ 48 * (b' : Int)) →
    (-1 ≤ a ∧ a < 11000 ∧ ∀ t, -1 ≤ t → (a ≤ t ↔ ∀ p, j ≤ p → p < i → pE σ (π p) = 0 → pK σ (π p) ≤ t)) → (0 ≤ b ∧ b ≤ 11000 ∧ ∀ t, t ≤ 11000 → (t ≤ b ↔ ∀ p, j ≤ p → p < i → pE σ (π p) = 0 → t ≤ pC σ (π p))) →
    (0 ≤ c ∧ c ≤ 11000 ∧ ∀ t, t ≤ 11000 → (t ≤ c ↔ ∀ p, j ≤ p → p < i → pE σ (π p) = 1 → t ≤ pK σ (π p))) → (-1 ≤ d ∧ d < 11000 ∧ ∀ t, -1 ≤ t → (d ≤ t ↔ ∀ p, j ≤ p → p < i → pE σ (π p) = 1 → pK σ (π p) ≤ t)) →
    ∃ μ', r_X0_tryLastBox_26 (jI (i : Int)) (jI (k : Int)) (jI (cF σ π 0 i j : Int)) (jI (cF σ π 1 i j : Int)) (jI a) (jI b) (jI c) (jI d) (jI ((j : Int) - 1)) μ = some (0, μ') ∧ fr34 k i μ μ' ∧ ∀ b', 1 ≤ b' → b' ≤ k → μ' 34 b' i = jI (bx σ π (bW σ π (b' - 1)) i j (A b')) := by
  have hN : pN σ ≤ 48 := by have := hw.1; have := hw.2.1; unfold pN; omega
  intro j
  induction j with
  | zero =>
    intro A a b c d μ hj hok hR hW hA ha hb hc hd
    refine ⟨μ, ?_, ⟨fun _ _ _ => rfl, fun _ _ _ => rfl⟩, fun b' g1 g2 => (hA b' g1 g2).1⟩
    rw [e_X0_tryLastBox_26]
    simp (disch := omega) only [j_0, j_1, j_2, j_3, j_4, j_5, j_6, j_8, j_9, j_16, j_20, j_24, j_33, j_48, j_49, j_57, j_58, j_82, j_83, j_100, j_131, j_179, j_227, j_275, j_512, j_825, j_999, j_1000, j_9999, j_10000, j_11000, j_65536, j_m1, jI_add, jI_sub, jI_mul, jI_neg, nca_9, nca_33, nca_58, nca_83, nca_131, nca_179, nca_227, nca_825, nca_4, nca_24, nca_275, ncb_1, ncb_275, ncb_24, nc_1add, Int.toNat_natCast, tz_0, tz_1, tz_2, tz_3, tz_4, tz_5, tz_6, tz_8, tz_9, tz_16, tz_20, tz_24, tz_33, tz_48, tz_49, tz_57, tz_58, tz_82, tz_83, tz_100, tz_131, tz_179, tz_227, tz_275, tz_512, tz_825, tz_999, tz_1000, tz_9999, tz_10000, tz_11000, tz_65536, nc_sub1, i_lt, n_lt, i_eq, n_eq, jI_natc, jI_nat, ck_ok, nc_lt, nc_le, if_true, if_false, Option.bind_some, wr_def, and_true, true_and, and_false, false_and, or_true, true_or, or_false, false_or, not_true, not_false_eq_true, not_true_eq_false, ite_true, ite_false, Nat.zero_add, Nat.add_zero, Int.add_zero, Int.zero_add, Int.sub_zero, up_eq, up_ne, up_i, up_j]
  | succ j ih =>
    intro A a b c d μ hj hok hR hW hA ha hb hc hd
    have hjN : j < pN σ := by omega
    have hpj := hπ j hjN
    have bj := pK_bd hw hpj
    obtain ⟨r1, r2, r3⟩ := hR.2 j hjN
    have l1 := cF_le (σ := σ) (π := π) (e := 0) (i := i) (j := j)
    have l2 := cF_le (σ := σ) (π := π) (e := 1) (i := i) (j := j)
    have l3 := cF_le (σ := σ) (π := π) (e := 0) (i := i) (j := j + 1)
    have l4 := cF_le (σ := σ) (π := π) (e := 1) (i := i) (j := j + 1)
    have s0 := cF_s (σ := σ) (π := π) (e := 0) (show j < i by omega)
    have s1 := cF_s (σ := σ) (π := π) (e := 1) (show j < i by omega)
    have ej : ((j + 1 : Nat) : Int) - 1 = (j : Int) := by omega
    have hmn := mn_bd (a := (cF σ π 0 i j : Int)) (b := (cF σ π 1 i j : Int))
    -- what the new bounds say
    have hok2 : ∀ (a' b' c' d' : Int), (-1 ≤ a' ∧ a' < 11000 ∧ ∀ t, -1 ≤ t → (a' ≤ t ↔ ∀ p, j ≤ p → p < i → pE σ (π p) = 0 → pK σ (π p) ≤ t)) → (0 ≤ b' ∧ b' ≤ 11000 ∧ ∀ t, t ≤ 11000 → (t ≤ b' ↔ ∀ p, j ≤ p → p < i → pE σ (π p) = 0 → t ≤ pC σ (π p))) → (0 ≤ c' ∧ c' ≤ 11000 ∧ ∀ t, t ≤ 11000 → (t ≤ c' ↔ ∀ p, j ≤ p → p < i → pE σ (π p) = 1 → t ≤ pK σ (π p))) → (-1 ≤ d' ∧ d' < 11000 ∧ ∀ t, -1 ≤ t → (d' ≤ t ↔ ∀ p, j ≤ p → p < i → pE σ (π p) = 1 → pK σ (π p) ≤ t)) → (okP σ π j i ↔ a' ≤ c' ∧ d' ≤ b') := by
      intro a' b' c' d' ha' hb' hc' hd'
      constructor
      · intro h
        refine ⟨(ha'.2.2 c' (by omega)).mpr (fun p g1 g2 g3 => (hc'.2.2 _ (by have := pK_bd hw (hπ p (by omega)); omega)).mpr (fun q k1 k2 k3 => (h p q g1 g2 k1 k2 g3 k3).1)), (hd'.2.2 b' (by omega)).mpr (fun q k1 k2 k3 => (hb'.2.2 _ (by have := pK_bd hw (hπ q (by omega)); omega)).mpr (fun p g1 g2 g3 => (h p q g1 g2 k1 k2 g3 k3).2))⟩
      · rintro ⟨h1, h2⟩ p q g1 g2 k1 k2 g3 k3
        have w1 := (ha'.2.2 c' (by omega)).mp h1 p g1 g2 g3
        have w2 := (hd'.2.2 b' (by omega)).mp h2 q k1 k2 k3
        have bp := pK_bd hw (hπ p (by omega))
        have bq := pK_bd hw (hπ q (by omega))
        exact ⟨(hc'.2.2 _ (by omega)).mp w1 q k1 k2 k3, (hb'.2.2 _ (by omega)).mp w2 p g1 g2 g3⟩
    have low : ∀ (X : Nat → Int) (e : Int) (z z' : Int), (∀ t, -1 ≤ t → (z ≤ t ↔ ∀ p, j + 1 ≤ p → p < i → pE σ (π p) = e → X p ≤ t)) → (∀ t, -1 ≤ t → (z' ≤ t ↔ z ≤ t ∧ (pE σ (π j) = e → X j ≤ t))) → ∀ t, -1 ≤ t → (z' ≤ t ↔ ∀ p, j ≤ p → p < i → pE σ (π p) = e → X p ≤ t) := by
      intro X e z z' h1 h2 t ht
      rw [h2 t ht, h1 t ht]
      constructor
      · rintro ⟨q1, q2⟩ p g1 g2 g3
        by_cases cc : p = j
        · rw [cc] at g3 ⊢; exact q2 g3
        · exact q1 p (by omega) g2 g3
      · intro q
        exact ⟨fun p g1 g2 g3 => q p (by omega) g2 g3, fun g3 => q j (Nat.le_refl _) (by omega) g3⟩
    have hig : ∀ (X : Nat → Int) (e : Int) (z z' : Int), (∀ t, t ≤ 11000 → (t ≤ z ↔ ∀ p, j + 1 ≤ p → p < i → pE σ (π p) = e → t ≤ X p)) → (∀ t, t ≤ 11000 → (t ≤ z' ↔ t ≤ z ∧ (pE σ (π j) = e → t ≤ X j))) → ∀ t, t ≤ 11000 → (t ≤ z' ↔ ∀ p, j ≤ p → p < i → pE σ (π p) = e → t ≤ X p) := by
      intro X e z z' h1 h2 t ht
      rw [h2 t ht, h1 t ht]
      constructor
      · rintro ⟨q1, q2⟩ p g1 g2 g3
        by_cases cc : p = j
        · rw [cc] at g3 ⊢; exact q2 g3
        · exact q1 p (by omega) g2 g3
      · intro q
        exact ⟨fun p g1 g2 g3 => q p (by omega) g2 g3, fun g3 => q j (Nat.le_refl _) (by omega) g3⟩
    have stp : ∀ (a' b' c' d' : Int), (-1 ≤ a' ∧ a' < 11000 ∧ ∀ t, -1 ≤ t → (a' ≤ t ↔ ∀ p, j ≤ p → p < i → pE σ (π p) = 0 → pK σ (π p) ≤ t)) → (0 ≤ b' ∧ b' ≤ 11000 ∧ ∀ t, t ≤ 11000 → (t ≤ b' ↔ ∀ p, j ≤ p → p < i → pE σ (π p) = 0 → t ≤ pC σ (π p))) → (0 ≤ c' ∧ c' ≤ 11000 ∧ ∀ t, t ≤ 11000 → (t ≤ c' ↔ ∀ p, j ≤ p → p < i → pE σ (π p) = 1 → t ≤ pK σ (π p))) → (-1 ≤ d' ∧ d' < 11000 ∧ ∀ t, -1 ≤ t → (d' ≤ t ↔ ∀ p, j ≤ p → p < i → pE σ (π p) = 1 → pK σ (π p) ≤ t)) → okP σ π j i → ∃ μ1 μ', f_X0_addBox [vr 0 0, vi (jI (j : Int)), vi (jI (i : Int)), vi (jI (k : Int)), vi (jI (mnI (cF σ π 0 i j) (cF σ π 1 i j)))] μ = some (0, μ1) ∧ r_X0_tryLastBox_26 (jI (i : Int)) (jI (k : Int)) (jI (cF σ π 0 i j : Int)) (jI (cF σ π 1 i j : Int)) (jI a') (jI b') (jI c') (jI d') (jI ((j : Int) - 1)) μ1 = some (0, μ') ∧ fr34 k i μ μ' ∧ ∀ b', 1 ≤ b' → b' ≤ k → μ' 34 b' i = jI (bx σ π (bW σ π (b' - 1)) i (j + 1) (A b')) := by
      intro a' b' c' d' ha' hb' hc' hd' ho
      obtain ⟨μ1, x1, x2, x3, -⟩ := f_addBox (k := k) (i := i) (j := j) (m := mnI (cF σ π 0 i j) (cF σ π 1 i j)) (A := A) (T := fun b' => bW σ π b' j) hk (by omega) (by omega) (by omega) k 1 μ (by omega) (Nat.le_refl _) (fun b' g1 g2 => by have := hA b' g1 g2; exact ⟨this.1, by omega, by omega⟩) (fun b' g1 => by
        have := bW_bd (σ := σ) (π := π) b' j (by omega)
        exact ⟨hW b' j (by omega) (by omega), by omega, by omega⟩)
      have hR1 : bxR σ (pN σ) π μ1 := by
        unfold bxR bxAt at *
        rw [x2.1 0 0 (by omega), x2.1 30 0 (by omega), x2.1 31 0 (by omega), x2.1 32 0 (by omega)]
        exact hR
      have hW1 : wS σ π k i μ1 := fun b' i' g1 g2 => by
        rw [x2.2 b' i' (by omega)]; exact hW b' i' g1 g2
      obtain ⟨μ', y1, y2, y3⟩ := ih (fun b' => mxI (A b') (bW σ π (b' - 1) j + mnI (cF σ π 0 i j) (cF σ π 1 i j))) a' b' c' d' μ1 (by omega) ho hR1 hW1 (fun b' g1 g2 => by
        refine ⟨x3 b' g1 g2, ?_⟩
        have h1 := hA b' g1 g2
        have h2 := bW_bd (σ := σ) (π := π) (b' - 1) j (by omega)
        have h3 := mx_bd (a := A b') (b := bW σ π (b' - 1) j + mnI (cF σ π 0 i j) (cF σ π 1 i j))
        omega) ha' hb' hc' hd'
      refine ⟨μ1, μ', ?_, y1, x2.tr y2, fun b' g1 g2 => ?_⟩
      · rw [e_X0_addBox]; exact x1
      · rw [y3 b' g1 g2]
        rw [bx, if_pos ho]
    have fail : ¬ okP σ π j i → ∀ b', 1 ≤ b' → b' ≤ k → μ 34 b' i = jI (bx σ π (bW σ π (b' - 1)) i (j + 1) (A b')) := by
      intro hno b' g1 g2
      rw [bx, if_neg hno]; exact (hA b' g1 g2).1
    have rfr : fr34 k i μ μ := ⟨fun _ _ _ => rfl, fun _ _ _ => rfl⟩
    rcases pE_01 σ (π j) with e0 | e0
    · rw [if_pos e0] at s0
      rw [if_neg (by omega)] at s1
      rw [e0] at r3
      have hx := f_max (a := a) (b := pK σ (π j)) (by omega) μ
      have hn := f_min (a := b) (b := pC σ (π j)) (by omega) μ
      have bx1 := mx_bd (a := a) (b := pK σ (π j))
      have bn1 := mn_bd (a := b) (b := pC σ (π j))
      have ha' : -1 ≤ mxI a (pK σ (π j)) ∧ mxI a (pK σ (π j)) < 11000 ∧ ∀ t, -1 ≤ t → (mxI a (pK σ (π j)) ≤ t ↔ ∀ p, j ≤ p → p < i → pE σ (π p) = 0 → pK σ (π p) ≤ t) := ⟨by omega, by omega, low (fun p => pK σ (π p)) 0 a _ ha.2.2 (fun t ht => ⟨fun q => ⟨by omega, fun _ => by show pK σ (π j) ≤ t; omega⟩, fun q => by have : pK σ (π j) ≤ t := q.2 e0; omega⟩)⟩
      have hb' : 0 ≤ mnI b (pC σ (π j)) ∧ mnI b (pC σ (π j)) ≤ 11000 ∧ ∀ t, t ≤ 11000 → (t ≤ mnI b (pC σ (π j)) ↔ ∀ p, j ≤ p → p < i → pE σ (π p) = 0 → t ≤ pC σ (π p)) := ⟨by omega, by omega, hig (fun p => pC σ (π p)) 0 b _ hb.2.2 (fun t ht => ⟨fun q => ⟨by omega, fun _ => by show t ≤ pC σ (π j); omega⟩, fun q => by have : t ≤ pC σ (π j) := q.2 e0; omega⟩)⟩
      have hc' : 0 ≤ c ∧ c ≤ 11000 ∧ ∀ t, t ≤ 11000 → (t ≤ c ↔ ∀ p, j ≤ p → p < i → pE σ (π p) = 1 → t ≤ pK σ (π p)) := ⟨hc.1, hc.2.1, hig (fun p => pK σ (π p)) 1 c c hc.2.2 (fun t ht => ⟨fun q => ⟨q, fun e => by omega⟩, fun q => q.1⟩)⟩
      have hd' : -1 ≤ d ∧ d < 11000 ∧ ∀ t, -1 ≤ t → (d ≤ t ↔ ∀ p, j ≤ p → p < i → pE σ (π p) = 1 → pK σ (π p) ≤ t) := ⟨hd.1, hd.2.1, low (fun p => pK σ (π p)) 1 d d hd.2.2 (fun t ht => ⟨fun q => ⟨q, fun e => by omega⟩, fun q => q.1⟩)⟩
      have key := hok2 _ _ _ _ ha' hb' hc' hd'
      by_cases ho : okP σ π j i
      · obtain ⟨g1, g2⟩ := key.mp ho
        obtain ⟨μ1, μ', z1, z2, z3⟩ := stp _ _ _ _ ha' hb' hc' hd' ho
        refine ⟨μ', ?_, z3⟩
        have hm := f_min (a := (cF σ π 0 i j : Int)) (b := (cF σ π 1 i j : Int)) (by omega) μ
        rw [← z2, e_X0_tryLastBox_26, ej]
        have ea : jI (cF σ π 0 i (j + 1) : Int) + 1 = jI (cF σ π 0 i j : Int) := by rw [s0, j_1, jI_add]; rfl
        have eb : jI (cF σ π 1 i (j + 1) : Int) = jI (cF σ π 1 i j : Int) := by rw [s1]; rfl
        have ed : jI (j : Int) + (-1) = jI ((j : Int) - 1) := by rw [j_m1, jI_add]; rfl
        simp only [ea, eb, ed]
        simp (disch := omega) only [j_0, j_1, j_2, j_3, j_4, j_5, j_6, j_8, j_9, j_16, j_20, j_24, j_33, j_48, j_49, j_57, j_58, j_82, j_83, j_100, j_131, j_179, j_227, j_275, j_512, j_825, j_999, j_1000, j_9999, j_10000, j_11000, j_65536, j_m1, jI_add, jI_sub, jI_mul, jI_neg, nca_9, nca_33, nca_58, nca_83, nca_131, nca_179, nca_227, nca_825, nca_4, nca_24, nca_275, ncb_1, ncb_275, ncb_24, nc_1add, Int.toNat_natCast, tz_0, tz_1, tz_2, tz_3, tz_4, tz_5, tz_6, tz_8, tz_9, tz_16, tz_20, tz_24, tz_33, tz_48, tz_49, tz_57, tz_58, tz_82, tz_83, tz_100, tz_131, tz_179, tz_227, tz_275, tz_512, tz_825, tz_999, tz_1000, tz_9999, tz_10000, tz_11000, tz_65536, nc_sub1, i_lt, n_lt, i_eq, n_eq, jI_natc, jI_nat, ck_ok, nc_lt, nc_le, if_true, if_false, Option.bind_some, wr_def, and_true, true_and, and_false, false_and, or_true, true_or, or_false, false_or, not_true, not_false_eq_true, not_true_eq_false, ite_true, ite_false, Nat.zero_add, Nat.add_zero, Int.add_zero, Int.zero_add, Int.sub_zero, up_eq, up_ne, up_i, up_j, r1, r2, r3, hx, hn, hm, z1]
      · refine ⟨μ, ?_, rfr, fail ho⟩
        rw [e_X0_tryLastBox_26, ej]
        by_cases q1 : mxI a (pK σ (π j)) ≤ c
        · have q2 : ¬ d ≤ mnI b (pC σ (π j)) := fun q => ho (key.mpr ⟨q1, q⟩)
          simp (disch := omega) only [j_0, j_1, j_2, j_3, j_4, j_5, j_6, j_8, j_9, j_16, j_20, j_24, j_33, j_48, j_49, j_57, j_58, j_82, j_83, j_100, j_131, j_179, j_227, j_275, j_512, j_825, j_999, j_1000, j_9999, j_10000, j_11000, j_65536, j_m1, jI_add, jI_sub, jI_mul, jI_neg, nca_9, nca_33, nca_58, nca_83, nca_131, nca_179, nca_227, nca_825, nca_4, nca_24, nca_275, ncb_1, ncb_275, ncb_24, nc_1add, Int.toNat_natCast, tz_0, tz_1, tz_2, tz_3, tz_4, tz_5, tz_6, tz_8, tz_9, tz_16, tz_20, tz_24, tz_33, tz_48, tz_49, tz_57, tz_58, tz_82, tz_83, tz_100, tz_131, tz_179, tz_227, tz_275, tz_512, tz_825, tz_999, tz_1000, tz_9999, tz_10000, tz_11000, tz_65536, nc_sub1, i_lt, n_lt, i_eq, n_eq, jI_natc, jI_nat, ck_ok, nc_lt, nc_le, if_true, if_false, Option.bind_some, wr_def, and_true, true_and, and_false, false_and, or_true, true_or, or_false, false_or, not_true, not_false_eq_true, not_true_eq_false, ite_true, ite_false, Nat.zero_add, Nat.add_zero, Int.add_zero, Int.zero_add, Int.sub_zero, up_eq, up_ne, up_i, up_j, r1, r2, r3, hx, hn]
        · simp (disch := omega) only [j_0, j_1, j_2, j_3, j_4, j_5, j_6, j_8, j_9, j_16, j_20, j_24, j_33, j_48, j_49, j_57, j_58, j_82, j_83, j_100, j_131, j_179, j_227, j_275, j_512, j_825, j_999, j_1000, j_9999, j_10000, j_11000, j_65536, j_m1, jI_add, jI_sub, jI_mul, jI_neg, nca_9, nca_33, nca_58, nca_83, nca_131, nca_179, nca_227, nca_825, nca_4, nca_24, nca_275, ncb_1, ncb_275, ncb_24, nc_1add, Int.toNat_natCast, tz_0, tz_1, tz_2, tz_3, tz_4, tz_5, tz_6, tz_8, tz_9, tz_16, tz_20, tz_24, tz_33, tz_48, tz_49, tz_57, tz_58, tz_82, tz_83, tz_100, tz_131, tz_179, tz_227, tz_275, tz_512, tz_825, tz_999, tz_1000, tz_9999, tz_10000, tz_11000, tz_65536, nc_sub1, i_lt, n_lt, i_eq, n_eq, jI_natc, jI_nat, ck_ok, nc_lt, nc_le, if_true, if_false, Option.bind_some, wr_def, and_true, true_and, and_false, false_and, or_true, true_or, or_false, false_or, not_true, not_false_eq_true, not_true_eq_false, ite_true, ite_false, Nat.zero_add, Nat.add_zero, Int.add_zero, Int.zero_add, Int.sub_zero, up_eq, up_ne, up_i, up_j, r1, r2, r3, hx, hn]
    · rw [if_neg (by omega)] at s0
      rw [if_pos e0] at s1
      rw [e0] at r3
      have hn := f_min (a := c) (b := pK σ (π j)) (by omega) μ
      have hx := f_max (a := d) (b := pK σ (π j)) (by omega) μ
      have bx1 := mx_bd (a := d) (b := pK σ (π j))
      have bn1 := mn_bd (a := c) (b := pK σ (π j))
      have ha' : -1 ≤ a ∧ a < 11000 ∧ ∀ t, -1 ≤ t → (a ≤ t ↔ ∀ p, j ≤ p → p < i → pE σ (π p) = 0 → pK σ (π p) ≤ t) := ⟨ha.1, ha.2.1, low (fun p => pK σ (π p)) 0 a a ha.2.2 (fun t ht => ⟨fun q => ⟨q, fun e => by omega⟩, fun q => q.1⟩)⟩
      have hb' : 0 ≤ b ∧ b ≤ 11000 ∧ ∀ t, t ≤ 11000 → (t ≤ b ↔ ∀ p, j ≤ p → p < i → pE σ (π p) = 0 → t ≤ pC σ (π p)) := ⟨hb.1, hb.2.1, hig (fun p => pC σ (π p)) 0 b b hb.2.2 (fun t ht => ⟨fun q => ⟨q, fun e => by omega⟩, fun q => q.1⟩)⟩
      have hc' : 0 ≤ mnI c (pK σ (π j)) ∧ mnI c (pK σ (π j)) ≤ 11000 ∧ ∀ t, t ≤ 11000 → (t ≤ mnI c (pK σ (π j)) ↔ ∀ p, j ≤ p → p < i → pE σ (π p) = 1 → t ≤ pK σ (π p)) := ⟨by omega, by omega, hig (fun p => pK σ (π p)) 1 c _ hc.2.2 (fun t ht => ⟨fun q => ⟨by omega, fun _ => by show t ≤ pK σ (π j); omega⟩, fun q => by have : t ≤ pK σ (π j) := q.2 e0; omega⟩)⟩
      have hd' : -1 ≤ mxI d (pK σ (π j)) ∧ mxI d (pK σ (π j)) < 11000 ∧ ∀ t, -1 ≤ t → (mxI d (pK σ (π j)) ≤ t ↔ ∀ p, j ≤ p → p < i → pE σ (π p) = 1 → pK σ (π p) ≤ t) := ⟨by omega, by omega, low (fun p => pK σ (π p)) 1 d _ hd.2.2 (fun t ht => ⟨fun q => ⟨by omega, fun _ => by show pK σ (π j) ≤ t; omega⟩, fun q => by have : pK σ (π j) ≤ t := q.2 e0; omega⟩)⟩
      have key := hok2 _ _ _ _ ha' hb' hc' hd'
      by_cases ho : okP σ π j i
      · obtain ⟨g1, g2⟩ := key.mp ho
        obtain ⟨μ1, μ', z1, z2, z3⟩ := stp _ _ _ _ ha' hb' hc' hd' ho
        refine ⟨μ', ?_, z3⟩
        have hm := f_min (a := (cF σ π 0 i j : Int)) (b := (cF σ π 1 i j : Int)) (by omega) μ
        rw [← z2, e_X0_tryLastBox_26, ej]
        have ea : jI (cF σ π 1 i (j + 1) : Int) + 1 = jI (cF σ π 1 i j : Int) := by rw [s1, j_1, jI_add]; rfl
        have eb : jI (cF σ π 0 i (j + 1) : Int) = jI (cF σ π 0 i j : Int) := by rw [s0]; rfl
        have ed : jI (j : Int) + (-1) = jI ((j : Int) - 1) := by rw [j_m1, jI_add]; rfl
        simp only [ea, eb, ed]
        simp (disch := omega) only [j_0, j_1, j_2, j_3, j_4, j_5, j_6, j_8, j_9, j_16, j_20, j_24, j_33, j_48, j_49, j_57, j_58, j_82, j_83, j_100, j_131, j_179, j_227, j_275, j_512, j_825, j_999, j_1000, j_9999, j_10000, j_11000, j_65536, j_m1, jI_add, jI_sub, jI_mul, jI_neg, nca_9, nca_33, nca_58, nca_83, nca_131, nca_179, nca_227, nca_825, nca_4, nca_24, nca_275, ncb_1, ncb_275, ncb_24, nc_1add, Int.toNat_natCast, tz_0, tz_1, tz_2, tz_3, tz_4, tz_5, tz_6, tz_8, tz_9, tz_16, tz_20, tz_24, tz_33, tz_48, tz_49, tz_57, tz_58, tz_82, tz_83, tz_100, tz_131, tz_179, tz_227, tz_275, tz_512, tz_825, tz_999, tz_1000, tz_9999, tz_10000, tz_11000, tz_65536, nc_sub1, i_lt, n_lt, i_eq, n_eq, jI_natc, jI_nat, ck_ok, nc_lt, nc_le, if_true, if_false, Option.bind_some, wr_def, and_true, true_and, and_false, false_and, or_true, true_or, or_false, false_or, not_true, not_false_eq_true, not_true_eq_false, ite_true, ite_false, Nat.zero_add, Nat.add_zero, Int.add_zero, Int.zero_add, Int.sub_zero, up_eq, up_ne, up_i, up_j, r1, r2, r3, hx, hn, hm, z1]
      · refine ⟨μ, ?_, rfr, fail ho⟩
        rw [e_X0_tryLastBox_26, ej]
        by_cases q1 : a ≤ mnI c (pK σ (π j))
        · have q2 : ¬ mxI d (pK σ (π j)) ≤ b := fun q => ho (key.mpr ⟨q1, q⟩)
          simp (disch := omega) only [j_0, j_1, j_2, j_3, j_4, j_5, j_6, j_8, j_9, j_16, j_20, j_24, j_33, j_48, j_49, j_57, j_58, j_82, j_83, j_100, j_131, j_179, j_227, j_275, j_512, j_825, j_999, j_1000, j_9999, j_10000, j_11000, j_65536, j_m1, jI_add, jI_sub, jI_mul, jI_neg, nca_9, nca_33, nca_58, nca_83, nca_131, nca_179, nca_227, nca_825, nca_4, nca_24, nca_275, ncb_1, ncb_275, ncb_24, nc_1add, Int.toNat_natCast, tz_0, tz_1, tz_2, tz_3, tz_4, tz_5, tz_6, tz_8, tz_9, tz_16, tz_20, tz_24, tz_33, tz_48, tz_49, tz_57, tz_58, tz_82, tz_83, tz_100, tz_131, tz_179, tz_227, tz_275, tz_512, tz_825, tz_999, tz_1000, tz_9999, tz_10000, tz_11000, tz_65536, nc_sub1, i_lt, n_lt, i_eq, n_eq, jI_natc, jI_nat, ck_ok, nc_lt, nc_le, if_true, if_false, Option.bind_some, wr_def, and_true, true_and, and_false, false_and, or_true, true_or, or_false, false_or, not_true, not_false_eq_true, not_true_eq_false, ite_true, ite_false, Nat.zero_add, Nat.add_zero, Int.add_zero, Int.zero_add, Int.sub_zero, up_eq, up_ne, up_i, up_j, r1, r2, r3, hx, hn]
        · simp (disch := omega) only [j_0, j_1, j_2, j_3, j_4, j_5, j_6, j_8, j_9, j_16, j_20, j_24, j_33, j_48, j_49, j_57, j_58, j_82, j_83, j_100, j_131, j_179, j_227, j_275, j_512, j_825, j_999, j_1000, j_9999, j_10000, j_11000, j_65536, j_m1, jI_add, jI_sub, jI_mul, jI_neg, nca_9, nca_33, nca_58, nca_83, nca_131, nca_179, nca_227, nca_825, nca_4, nca_24, nca_275, ncb_1, ncb_275, ncb_24, nc_1add, Int.toNat_natCast, tz_0, tz_1, tz_2, tz_3, tz_4, tz_5, tz_6, tz_8, tz_9, tz_16, tz_20, tz_24, tz_33, tz_48, tz_49, tz_57, tz_58, tz_82, tz_83, tz_100, tz_131, tz_179, tz_227, tz_275, tz_512, tz_825, tz_999, tz_1000, tz_9999, tz_10000, tz_11000, tz_65536, nc_sub1, i_lt, n_lt, i_eq, n_eq, jI_natc, jI_nat, ck_ok, nc_lt, nc_le, if_true, if_false, Option.bind_some, wr_def, and_true, true_and, and_false, false_and, or_true, true_or, or_false, false_or, not_true, not_false_eq_true, not_true_eq_false, ite_true, ite_false, Nat.zero_add, Nat.add_zero, Int.add_zero, Int.zero_add, Int.sub_zero, up_eq, up_ne, up_i, up_j, r1, r2, r3, hx, hn]
