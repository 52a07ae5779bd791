/-! the state of a stock: shafts (number, grade, size), bores, plays, sorts (number, grade, size, how many ever) -/
abbrev sT : Type := (Nat × (Nat → Int) × (Nat → Int)) × (Nat × (Nat → Int)) × ((Nat → Int) × (Nat → Int)) × (Nat × (Nat → Int) × (Nat → Int) × (Nat → Int32))
abbrev sNs (σ : sT) : Nat := σ.1.1
abbrev sG (σ : sT) : Nat → Int := σ.1.2.1
abbrev sZ (σ : sT) : Nat → Int := σ.1.2.2
abbrev sNb (σ : sT) : Nat := σ.2.1.1
abbrev sB (σ : sT) : Nat → Int := σ.2.1.2
abbrev sL (σ : sT) : Nat → Int := σ.2.2.1.1
abbrev sM (σ : sT) : Nat → Int := σ.2.2.1.2
abbrev sNk (σ : sT) : Nat := σ.2.2.2.1
abbrev sKg (σ : sT) : Nat → Int := σ.2.2.2.2.1
abbrev sKz (σ : sT) : Nat → Int := σ.2.2.2.2.2.1
abbrev sKe (σ : sT) : Nat → Int32 := σ.2.2.2.2.2.2
/-- the class's stock number a holds the state -/
def cSt (σ : sT) (a : Nat) (μ : mM) : Prop := μ 6 a 6 = jI (sNs σ) ∧ μ 6 a 7 = jI (sNb σ) ∧ μ 6 a 8 = jI (sNk σ) ∧ (∀ j, j < sNs σ → μ 10 a j = jI (sG σ j * 10000 + sZ σ j)) ∧ (∀ j, j < sNb σ → μ 11 a j = jI (40000 + sB σ j)) ∧
  (∀ j, j < 4 → μ 12 a j = jI (sL σ j)) ∧ (∀ j, j < 4 → μ 13 a j = jI (sM σ j)) ∧ (∀ j, j < sNk σ → μ 14 a j = jI (sKg σ j * 10000 + sKz σ j)) ∧ (∀ j, j < sNk σ → μ 15 a j = sKe σ j)
def cnt (P : Nat → Bool) : Nat → Nat
  | 0 => 0
  | n + 1 => cnt P n + (if P n then 1 else 0)
/-- how many parts of a grade (4: bores) and a size -/
def sCnt (σ : sT) (g z : Int) : Nat := cnt (fun j => decide (sG σ j = g ∧ sZ σ j = z)) (sNs σ) + (if g = 4 then cnt (fun j => decide (sB σ j = z)) (sNb σ) else 0)
/-- the model's 275 places hold the state -/
def mSt (σ : sT) (v : Nat → Int32) : Prop := v 8 = jI (sNs σ) ∧ v 57 = jI (sNb σ) ∧ v 82 = jI (sNk σ) ∧ (∀ j, j < sNs σ → v (9 + j) = jI (sG σ j)) ∧ (∀ j, j < sNs σ → v (33 + j) = jI (sZ σ j)) ∧ (∀ j, j < sNb σ → v (58 + j) = jI (sB σ j)) ∧
  (∀ j, j < 4 → v j = jI (sL σ j)) ∧ (∀ j, j < 4 → v (4 + j) = jI (sM σ j)) ∧ (∀ j, j < sNk σ → v (83 + j) = jI (sKg σ j)) ∧ (∀ j, j < sNk σ → v (131 + j) = jI (sKz σ j)) ∧ (∀ j, j < sNk σ → v (227 + j) = sKe σ j) ∧ (∀ j, j < sNk σ → v (179 + j) = jI (sCnt σ (sKg σ j) (sKz σ j)))
def wf (σ : sT) : Prop := sNs σ ≤ 24 ∧ sNb σ ≤ 24 ∧ sNk σ ≤ 48 ∧ (∀ j, j < sNs σ → 0 ≤ sG σ j ∧ sG σ j < 4 ∧ 0 ≤ sZ σ j ∧ sZ σ j < 10000) ∧ (∀ j, j < sNb σ → 0 ≤ sB σ j ∧ sB σ j < 10000) ∧ (∀ j, j < 4 → 0 ≤ sL σ j ∧ sL σ j ≤ sM σ j ∧ sM σ j ≤ 999) ∧
  (∀ j, j < sNk σ → 0 ≤ sKg σ j ∧ sKg σ j ≤ 4 ∧ 0 ≤ sKz σ j ∧ sKz σ j < 10000) ∧ (∀ j k, j < sNk σ → k < sNk σ → sKg σ j = sKg σ k → sKz σ j = sKz σ k → j = k) ∧ (∀ j, j < sNs σ → ∃ k, k < sNk σ ∧ sKg σ k = sG σ j ∧ sKz σ k = sZ σ j) ∧ (∀ j, j < sNb σ → ∃ k, k < sNk σ ∧ sKg σ k = 4 ∧ sKz σ k = sB σ j)
/-- the first of i, i + 1 .. (n of them) that is so, or -1 -/
def fst (P : Nat → Bool) : Nat → Nat → Int
  | 0, _ => -1
  | n + 1, i => if P i then (i : Int) else fst P n (i + 1)
theorem fst_congr {P Q : Nat → Bool} : ∀ (n i : Nat), (∀ j, i ≤ j → j < i + n → P j = Q j) → fst P n i = fst Q n i
  | 0, _, _ => rfl
  | n + 1, i, h => by
    rw [fst, fst, h i (by omega) (by omega), fst_congr n (i + 1) (fun j h1 h2 => h j (by omega) (by omega))]
theorem fst_cases {P : Nat → Bool} : ∀ (n i : Nat), (fst P n i = -1 ∧ ∀ j, i ≤ j → j < i + n → P j = false) ∨ (∃ j, i ≤ j ∧ j < i + n ∧ fst P n i = (j : Int) ∧ P j = true ∧ ∀ k, i ≤ k → k < j → P k = false)
  | 0, i => Or.inl ⟨rfl, fun j h1 h2 => by omega⟩
  | n + 1, i => by
    rw [fst]
    cases hP : P i with
    | true => exact Or.inr ⟨i, by omega, by omega, by simp, hP, fun k h1 h2 => by omega⟩
    | false =>
      simp only [Bool.false_eq_true, if_false]
      rcases fst_cases (P := P) n (i + 1) with ⟨h1, h2⟩ | ⟨j, h1, h2, h3, h4, h5⟩
      · refine Or.inl ⟨h1, fun j g1 g2 => ?_⟩
        by_cases hj : j = i
        · rw [hj]; exact hP
        · exact h2 j (by omega) (by omega)
      · refine Or.inr ⟨j, by omega, by omega, h3, h4, fun k g1 g2 => ?_⟩
        by_cases hk : k = i
        · rw [hk]; exact hP
        · exact h5 k (by omega) g2
theorem cnt_le (P : Nat → Bool) : ∀ n, cnt P n ≤ n
  | 0 => Nat.le_refl 0
  | n + 1 => by
    have := cnt_le P n
    rw [cnt]
    split <;> omega
theorem cnt_congr {P Q : Nat → Bool} : ∀ n, (∀ j, j < n → P j = Q j) → cnt P n = cnt Q n
  | 0, _ => rfl
  | n + 1, h => by rw [cnt, cnt, h n (by omega), cnt_congr n (fun j hj => h j (by omega))]
/-- loops: search, count -/
theorem loop_fst {r : Int32 → Option mR} {μ : mM} {P : Nat → Bool} : ∀ (n i : Nat), (∀ j, i ≤ j → j < i + n → r (jI (j : Int)) = if P j = true then some (jI (j : Int), μ) else r (jI ((j + 1 : Nat) : Int))) → r (jI ((i + n : Nat) : Int)) = some (jI (-1), μ) → r (jI (i : Int)) = some (jI (fst P n i), μ)
  | 0, i, _, h => h
  | n + 1, i, hs, h => by
    rw [hs i (by omega) (by omega), fst]
    split
    · rfl
    · exact loop_fst n (i + 1) (fun j h1 h2 => hs j (by omega) (by omega)) (by rw [show i + 1 + n = i + (n + 1) by omega]; exact h)
theorem loop_cnt {r : Int32 → Int32 → Option mR} {P : Nat → Bool} (hs : ∀ (j : Nat) (c : Int), r (jI c) (jI (j : Int)) = r (jI (c + (if P j then 1 else 0))) (jI ((j + 1 : Nat) : Int)) ∨ True) : True := trivial
theorem loop_cnt' {r : Int32 → Int32 → Option mR} {P : Nat → Bool} (N : Nat) : ∀ (n : Nat), n ≤ N → (∀ (j : Nat) (c : Nat), j < N → r (jI (c : Int)) (jI (j : Int)) = r (jI ((c + (if P j then 1 else 0) : Nat) : Int)) (jI ((j + 1 : Nat) : Int))) → ∀ c : Nat, r (jI (c : Int)) (jI ((0 : Nat) : Int)) = r (jI ((c + cnt P n : Nat) : Int)) (jI (n : Int))
  | 0, _, _, _ => rfl
  | n + 1, hn, h, c => by
    rw [loop_cnt' N n (by omega) h c, h n _ (by omega), cnt, Nat.add_assoc]
/-- the class's small functions -/
theorem f_isIn (a b : Int) (ha : -2147483648 ≤ a ∧ a < 2147483648) (hb : 0 ≤ b ∧ b < 2147483648) (μ : mM) : f_X7_isIn [vi (jI a), vi (jI b)] μ = some (jI (if 0 ≤ a ∧ a < b then 1 else 0), μ) := by
  rw [e_X7_isIn]
  by_cases h1 : a < 0
  · rw [if_neg (show ¬ (0 ≤ a ∧ a < b) by omega)]
    simp (disch := omega) only [j_0, j_1, j_2, j_3, j_4, j_5, j_6, j_8, j_9, j_16, j_20, j_24, j_33, j_48, j_49, j_57, j_58, j_82, j_83, j_100, j_131, j_179, j_227, j_275, j_512, j_825, j_999, j_1000, j_9999, j_10000, j_11000, j_65536, j_m1, jI_add, jI_sub, jI_mul, jI_neg, nca_9, nca_33, nca_58, nca_83, nca_131, nca_179, nca_227, nca_825, nca_4, nca_24, nca_275, ncb_1, ncb_275, ncb_24, nc_1add, Int.toNat_natCast, tz_0, tz_1, tz_2, tz_3, tz_4, tz_5, tz_6, tz_8, tz_9, tz_16, tz_20, tz_24, tz_33, tz_48, tz_49, tz_57, tz_58, tz_82, tz_83, tz_100, tz_131, tz_179, tz_227, tz_275, tz_512, tz_825, tz_999, tz_1000, tz_9999, tz_10000, tz_11000, tz_65536, nc_sub1, i_lt, n_lt, i_eq, n_eq, jI_natc, jI_nat, ck_ok, nc_lt, nc_le, if_true, if_false, Option.bind_some, wr_def, and_true, true_and, and_false, false_and, or_true, true_or, or_false, false_or, not_true, not_false_eq_true, not_true_eq_false, ite_true, ite_false, Nat.zero_add, Nat.add_zero, Int.add_zero, Int.zero_add, Int.sub_zero, up_eq, up_ne, up_i, up_j]
  · by_cases h2 : a < b
    · rw [if_pos (show 0 ≤ a ∧ a < b by omega)]
      simp (disch := omega) only [j_0, j_1, j_2, j_3, j_4, j_5, j_6, j_8, j_9, j_16, j_20, j_24, j_33, j_48, j_49, j_57, j_58, j_82, j_83, j_100, j_131, j_179, j_227, j_275, j_512, j_825, j_999, j_1000, j_9999, j_10000, j_11000, j_65536, j_m1, jI_add, jI_sub, jI_mul, jI_neg, nca_9, nca_33, nca_58, nca_83, nca_131, nca_179, nca_227, nca_825, nca_4, nca_24, nca_275, ncb_1, ncb_275, ncb_24, nc_1add, Int.toNat_natCast, tz_0, tz_1, tz_2, tz_3, tz_4, tz_5, tz_6, tz_8, tz_9, tz_16, tz_20, tz_24, tz_33, tz_48, tz_49, tz_57, tz_58, tz_82, tz_83, tz_100, tz_131, tz_179, tz_227, tz_275, tz_512, tz_825, tz_999, tz_1000, tz_9999, tz_10000, tz_11000, tz_65536, nc_sub1, i_lt, n_lt, i_eq, n_eq, jI_natc, jI_nat, ck_ok, nc_lt, nc_le, if_true, if_false, Option.bind_some, wr_def, and_true, true_and, and_false, false_and, or_true, true_or, or_false, false_or, not_true, not_false_eq_true, not_true_eq_false, ite_true, ite_false, Nat.zero_add, Nat.add_zero, Int.add_zero, Int.zero_add, Int.sub_zero, up_eq, up_ne, up_i, up_j]
    · rw [if_neg (show ¬ (0 ≤ a ∧ a < b) by omega)]
      simp (disch := omega) only [j_0, j_1, j_2, j_3, j_4, j_5, j_6, j_8, j_9, j_16, j_20, j_24, j_33, j_48, j_49, j_57, j_58, j_82, j_83, j_100, j_131, j_179, j_227, j_275, j_512, j_825, j_999, j_1000, j_9999, j_10000, j_11000, j_65536, j_m1, jI_add, jI_sub, jI_mul, jI_neg, nca_9, nca_33, nca_58, nca_83, nca_131, nca_179, nca_227, nca_825, nca_4, nca_24, nca_275, ncb_1, ncb_275, ncb_24, nc_1add, Int.toNat_natCast, tz_0, tz_1, tz_2, tz_3, tz_4, tz_5, tz_6, tz_8, tz_9, tz_16, tz_20, tz_24, tz_33, tz_48, tz_49, tz_57, tz_58, tz_82, tz_83, tz_100, tz_131, tz_179, tz_227, tz_275, tz_512, tz_825, tz_999, tz_1000, tz_9999, tz_10000, tz_11000, tz_65536, nc_sub1, i_lt, n_lt, i_eq, n_eq, jI_natc, jI_nat, ck_ok, nc_lt, nc_le, if_true, if_false, Option.bind_some, wr_def, and_true, true_and, and_false, false_and, or_true, true_or, or_false, false_or, not_true, not_false_eq_true, not_true_eq_false, ite_true, ite_false, Nat.zero_add, Nat.add_zero, Int.add_zero, Int.zero_add, Int.sub_zero, up_eq, up_ne, up_i, up_j]
theorem f_kindOf (g z : Int) (μ : mM) : f_X7_kindOf [vi (jI g), vi (jI z)] μ = some (jI (g * 10000 + z), μ) := by
  rw [e_X7_kindOf]
  simp (disch := omega) only [j_0, j_1, j_2, j_3, j_4, j_5, j_6, j_8, j_9, j_16, j_20, j_24, j_33, j_48, j_49, j_57, j_58, j_82, j_83, j_100, j_131, j_179, j_227, j_275, j_512, j_825, j_999, j_1000, j_9999, j_10000, j_11000, j_65536, j_m1, jI_add, jI_sub, jI_mul, jI_neg, nca_9, nca_33, nca_58, nca_83, nca_131, nca_179, nca_227, nca_825, nca_4, nca_24, nca_275, ncb_1, ncb_275, ncb_24, nc_1add, Int.toNat_natCast, tz_0, tz_1, tz_2, tz_3, tz_4, tz_5, tz_6, tz_8, tz_9, tz_16, tz_20, tz_24, tz_33, tz_48, tz_49, tz_57, tz_58, tz_82, tz_83, tz_100, tz_131, tz_179, tz_227, tz_275, tz_512, tz_825, tz_999, tz_1000, tz_9999, tz_10000, tz_11000, tz_65536, nc_sub1, i_lt, n_lt, i_eq, n_eq, jI_natc, jI_nat, ck_ok, nc_lt, nc_le, if_true, if_false, Option.bind_some, wr_def, and_true, true_and, and_false, false_and, or_true, true_or, or_false, false_or, not_true, not_false_eq_true, not_true_eq_false, ite_true, ite_false, Nat.zero_add, Nat.add_zero, Int.add_zero, Int.zero_add, Int.sub_zero, up_eq, up_ne, up_i, up_j]
theorem f_gradeOf (g z : Int) (μ : mM) (hg : 0 ≤ g ∧ g ≤ 4) (hz : 0 ≤ z ∧ z < 10000) : f_X7_gradeOf [vi (jI (g * 10000 + z))] μ = some (jI g, μ) := by
  rw [e_X7_gradeOf, j_10000, jI_div (by omega) (by omega) (by omega) (by omega)]
  congr 3
  omega
theorem f_sizeOf (g z : Int) (μ : mM) (hg : 0 ≤ g ∧ g ≤ 4) (hz : 0 ≤ z ∧ z < 10000) : f_X7_sizeOf [vi (jI (g * 10000 + z))] μ = some (jI z, μ) := by
  rw [e_X7_sizeOf, j_10000, jI_div (by omega) (by omega) (by omega) (by omega), jI_mul, jI_sub]
  congr 3
  omega
theorem f_sortOf {σ : sT} {a : Nat} {μ : mM} (h : cSt σ a μ) (hw : wf σ) (g z : Int) (hg : 0 ≤ g ∧ g ≤ 4) (hz : 0 ≤ z ∧ z < 10000) : f_X6_sortOf [vr 6 a, vi (jI (g * 10000 + z))] μ = some (jI (fst (fun j => decide (sKg σ j = g ∧ sKz σ j = z)) (sNk σ) 0), μ) := by
  rw [e_X6_sortOf]
  have hk := hw.2.2.1
  refine loop_fst (r := fun i => r_X6_sortOf_2 a (jI (g * 10000 + z)) i μ) (sNk σ) 0 (fun j _ hj => ?_) ?_
  · have h1 := h.2.2.2.2.2.2.2.1 j (by omega)
    have h2 := hw.2.2.2.2.2.2.1 j (by omega)
    show r_X6_sortOf_2 a (jI (g * 10000 + z)) (jI (j : Int)) μ = _
    rw [e_X6_sortOf_2]
    by_cases hc : sKg σ j = g ∧ sKz σ j = z
    · rw [if_pos (show decide (sKg σ j = g ∧ sKz σ j = z) = true from decide_eq_true hc)]
      simp (disch := omega) only [j_0, j_1, j_2, j_3, j_4, j_5, j_6, j_8, j_9, j_16, j_20, j_24, j_33, j_48, j_49, j_57, j_58, j_82, j_83, j_100, j_131, j_179, j_227, j_275, j_512, j_825, j_999, j_1000, j_9999, j_10000, j_11000, j_65536, j_m1, jI_add, jI_sub, jI_mul, jI_neg, nca_9, nca_33, nca_58, nca_83, nca_131, nca_179, nca_227, nca_825, nca_4, nca_24, nca_275, ncb_1, ncb_275, ncb_24, nc_1add, Int.toNat_natCast, tz_0, tz_1, tz_2, tz_3, tz_4, tz_5, tz_6, tz_8, tz_9, tz_16, tz_20, tz_24, tz_33, tz_48, tz_49, tz_57, tz_58, tz_82, tz_83, tz_100, tz_131, tz_179, tz_227, tz_275, tz_512, tz_825, tz_999, tz_1000, tz_9999, tz_10000, tz_11000, tz_65536, nc_sub1, i_lt, n_lt, i_eq, n_eq, jI_natc, jI_nat, ck_ok, nc_lt, nc_le, if_true, if_false, Option.bind_some, wr_def, and_true, true_and, and_false, false_and, or_true, true_or, or_false, false_or, not_true, not_false_eq_true, not_true_eq_false, ite_true, ite_false, Nat.zero_add, Nat.add_zero, Int.add_zero, Int.zero_add, Int.sub_zero, up_eq, up_ne, up_i, up_j, h.2.2.1, h1]
    · rw [if_neg (show ¬ decide (sKg σ j = g ∧ sKz σ j = z) = true from fun q => hc (of_decide_eq_true q))]
      simp (disch := omega) only [j_0, j_1, j_2, j_3, j_4, j_5, j_6, j_8, j_9, j_16, j_20, j_24, j_33, j_48, j_49, j_57, j_58, j_82, j_83, j_100, j_131, j_179, j_227, j_275, j_512, j_825, j_999, j_1000, j_9999, j_10000, j_11000, j_65536, j_m1, jI_add, jI_sub, jI_mul, jI_neg, nca_9, nca_33, nca_58, nca_83, nca_131, nca_179, nca_227, nca_825, nca_4, nca_24, nca_275, ncb_1, ncb_275, ncb_24, nc_1add, Int.toNat_natCast, tz_0, tz_1, tz_2, tz_3, tz_4, tz_5, tz_6, tz_8, tz_9, tz_16, tz_20, tz_24, tz_33, tz_48, tz_49, tz_57, tz_58, tz_82, tz_83, tz_100, tz_131, tz_179, tz_227, tz_275, tz_512, tz_825, tz_999, tz_1000, tz_9999, tz_10000, tz_11000, tz_65536, nc_sub1, i_lt, n_lt, i_eq, n_eq, jI_natc, jI_nat, ck_ok, nc_lt, nc_le, if_true, if_false, Option.bind_some, wr_def, and_true, true_and, and_false, false_and, or_true, true_or, or_false, false_or, not_true, not_false_eq_true, not_true_eq_false, ite_true, ite_false, Nat.zero_add, Nat.add_zero, Int.add_zero, Int.zero_add, Int.sub_zero, up_eq, up_ne, up_i, up_j, h.2.2.1, h1]
  · show r_X6_sortOf_2 a (jI (g * 10000 + z)) (jI ((0 + sNk σ : Nat) : Int)) μ = _
    rw [e_X6_sortOf_2]
    simp (disch := omega) only [j_0, j_1, j_2, j_3, j_4, j_5, j_6, j_8, j_9, j_16, j_20, j_24, j_33, j_48, j_49, j_57, j_58, j_82, j_83, j_100, j_131, j_179, j_227, j_275, j_512, j_825, j_999, j_1000, j_9999, j_10000, j_11000, j_65536, j_m1, jI_add, jI_sub, jI_mul, jI_neg, nca_9, nca_33, nca_58, nca_83, nca_131, nca_179, nca_227, nca_825, nca_4, nca_24, nca_275, ncb_1, ncb_275, ncb_24, nc_1add, Int.toNat_natCast, tz_0, tz_1, tz_2, tz_3, tz_4, tz_5, tz_6, tz_8, tz_9, tz_16, tz_20, tz_24, tz_33, tz_48, tz_49, tz_57, tz_58, tz_82, tz_83, tz_100, tz_131, tz_179, tz_227, tz_275, tz_512, tz_825, tz_999, tz_1000, tz_9999, tz_10000, tz_11000, tz_65536, nc_sub1, i_lt, n_lt, i_eq, n_eq, jI_natc, jI_nat, ck_ok, nc_lt, nc_le, if_true, if_false, Option.bind_some, wr_def, and_true, true_and, and_false, false_and, or_true, true_or, or_false, false_or, not_true, not_false_eq_true, not_true_eq_false, ite_true, ite_false, Nat.zero_add, Nat.add_zero, Int.add_zero, Int.zero_add, Int.sub_zero, up_eq, up_ne, up_i, up_j, h.2.2.1]
