/-! crowds of the class -/
theorem cnt_le_n {P : Nat → Bool} {a : Nat} : ∀ b, a ≤ b → cnt P a ≤ cnt P b
  | 0, h => by rw [show a = 0 by omega]; exact Nat.le_refl _
  | b + 1, h => by
    by_cases c : a = b + 1
    · rw [c]; exact Nat.le_refl _
    · have := cnt_le_n (P := P) (a := a) b (by omega)
      rw [cnt]; omega
def fr1 (μ μ' : mM) : Prop := ∀ k i, k ≠ 1 → μ' k i = μ k i
theorem fr1.tr {μ μ' μ'' : mM} (h : fr1 μ μ') (h' : fr1 μ' μ'') : fr1 μ μ'' := fun k i hk => (h' k i hk).trans (h k i hk)
theorem fr1.sp {σ : sT} {ρ τ : Nat → Nat} {μ μ' : mM} (hf : fr1 μ μ') (h : spZ σ ρ τ μ) : spZ σ ρ τ μ' := by
  obtain ⟨⟨a1, a2⟩, h2, ⟨b1, b2⟩, h4⟩ := h
  refine ⟨⟨?_, fun i hi => ?_⟩, h2, ⟨?_, fun i hi => ?_⟩, h4⟩
  · rw [hf 5 0 (by omega)]; exact a1
  · rw [hf 20 0 (by omega), hf 21 0 (by omega), hf 22 0 (by omega), hf 23 0 (by omega)]; exact a2 i hi
  · rw [hf 5 0 (by omega)]; exact b1
  · rw [hf 25 0 (by omega), hf 26 0 (by omega)]; exact b2 i hi
def crM (m x y sh bo : Int) (μ : mM) : Prop := μ 1 0 4 = jI m ∧ (0 < m → μ 1 0 0 = jI x ∧ μ 1 0 1 = jI y ∧ μ 1 0 2 = jI sh ∧ μ 1 0 3 = jI bo)
theorem f_weigh {m x y sh bo a b w t : Int} {μ : mM} (h : crM m x y sh bo μ) (hm : 0 ≤ m ∧ m < 1000) (hx : 0 < m → 0 ≤ x ∧ x < 20000) (ha : 0 ≤ a ∧ a < 20000) (hwt : 0 ≤ w ∧ w < 1000 ∧ 0 ≤ t ∧ t < 1000) : ∃ μ', f_X1_weigh [vr 1 0, vi (jI a), vi (jI b), vi (jI w), vi (jI t)] μ = some (0, μ') ∧ fr1 μ μ' ∧ ((m < w - t ∨ (w - t = m ∧ 0 < m ∧ a < x)) → crM (w - t) a b w t μ') ∧ (¬ (m < w - t ∨ (w - t = m ∧ 0 < m ∧ a < x)) → μ' = μ) := by
  have hyes : ∀ μ' : mM, μ' = mm_up (mm_up (mm_up (mm_up (mm_up μ 1 0 0 (jI a)) 1 0 1 (jI b)) 1 0 2 (jI w)) 1 0 3 (jI t)) 1 0 4 (jI (w - t)) → fr1 μ μ' ∧ crM (w - t) a b w t μ' := by
    intro μ' e
    refine ⟨fun k i hk => ?_, ?_, fun _ => ⟨?_, ?_, ?_, ?_⟩⟩
    · funext q; rw [e]; simp (disch := omega) only [j_0, j_1, j_2, j_3, j_4, j_5, j_6, j_8, j_9, j_16, j_20, j_24, j_33, j_48, j_49, j_57, j_58, j_82, j_83, j_100, j_131, j_179, j_227, j_275, j_512, j_825, j_999, j_1000, j_9999, j_10000, j_11000, j_65536, j_m1, jI_add, jI_sub, jI_mul, jI_neg, nca_9, nca_33, nca_58, nca_83, nca_131, nca_179, nca_227, nca_825, nca_4, nca_24, nca_275, ncb_1, ncb_275, ncb_24, nc_1add, Int.toNat_natCast, tz_0, tz_1, tz_2, tz_3, tz_4, tz_5, tz_6, tz_8, tz_9, tz_16, tz_20, tz_24, tz_33, tz_48, tz_49, tz_57, tz_58, tz_82, tz_83, tz_100, tz_131, tz_179, tz_227, tz_275, tz_512, tz_825, tz_999, tz_1000, tz_9999, tz_10000, tz_11000, tz_65536, nc_sub1, i_lt, n_lt, i_eq, n_eq, jI_natc, jI_nat, ck_ok, nc_lt, nc_le, if_true, if_false, Option.bind_some, wr_def, and_true, true_and, and_false, false_and, or_true, true_or, or_false, false_or, not_true, not_false_eq_true, not_true_eq_false, ite_true, ite_false, Nat.zero_add, Nat.add_zero, Int.add_zero, Int.zero_add, Int.sub_zero, up_eq, up_ne, up_i, up_j]
    · rw [e]; simp (disch := omega) only [j_0, j_1, j_2, j_3, j_4, j_5, j_6, j_8, j_9, j_16, j_20, j_24, j_33, j_48, j_49, j_57, j_58, j_82, j_83, j_100, j_131, j_179, j_227, j_275, j_512, j_825, j_999, j_1000, j_9999, j_10000, j_11000, j_65536, j_m1, jI_add, jI_sub, jI_mul, jI_neg, nca_9, nca_33, nca_58, nca_83, nca_131, nca_179, nca_227, nca_825, nca_4, nca_24, nca_275, ncb_1, ncb_275, ncb_24, nc_1add, Int.toNat_natCast, tz_0, tz_1, tz_2, tz_3, tz_4, tz_5, tz_6, tz_8, tz_9, tz_16, tz_20, tz_24, tz_33, tz_48, tz_49, tz_57, tz_58, tz_82, tz_83, tz_100, tz_131, tz_179, tz_227, tz_275, tz_512, tz_825, tz_999, tz_1000, tz_9999, tz_10000, tz_11000, tz_65536, nc_sub1, i_lt, n_lt, i_eq, n_eq, jI_natc, jI_nat, ck_ok, nc_lt, nc_le, if_true, if_false, Option.bind_some, wr_def, and_true, true_and, and_false, false_and, or_true, true_or, or_false, false_or, not_true, not_false_eq_true, not_true_eq_false, ite_true, ite_false, Nat.zero_add, Nat.add_zero, Int.add_zero, Int.zero_add, Int.sub_zero, up_eq, up_ne, up_i, up_j]
    · rw [e]; simp (disch := omega) only [j_0, j_1, j_2, j_3, j_4, j_5, j_6, j_8, j_9, j_16, j_20, j_24, j_33, j_48, j_49, j_57, j_58, j_82, j_83, j_100, j_131, j_179, j_227, j_275, j_512, j_825, j_999, j_1000, j_9999, j_10000, j_11000, j_65536, j_m1, jI_add, jI_sub, jI_mul, jI_neg, nca_9, nca_33, nca_58, nca_83, nca_131, nca_179, nca_227, nca_825, nca_4, nca_24, nca_275, ncb_1, ncb_275, ncb_24, nc_1add, Int.toNat_natCast, tz_0, tz_1, tz_2, tz_3, tz_4, tz_5, tz_6, tz_8, tz_9, tz_16, tz_20, tz_24, tz_33, tz_48, tz_49, tz_57, tz_58, tz_82, tz_83, tz_100, tz_131, tz_179, tz_227, tz_275, tz_512, tz_825, tz_999, tz_1000, tz_9999, tz_10000, tz_11000, tz_65536, nc_sub1, i_lt, n_lt, i_eq, n_eq, jI_natc, jI_nat, ck_ok, nc_lt, nc_le, if_true, if_false, Option.bind_some, wr_def, and_true, true_and, and_false, false_and, or_true, true_or, or_false, false_or, not_true, not_false_eq_true, not_true_eq_false, ite_true, ite_false, Nat.zero_add, Nat.add_zero, Int.add_zero, Int.zero_add, Int.sub_zero, up_eq, up_ne, up_i, up_j]
    · rw [e]; simp (disch := omega) only [j_0, j_1, j_2, j_3, j_4, j_5, j_6, j_8, j_9, j_16, j_20, j_24, j_33, j_48, j_49, j_57, j_58, j_82, j_83, j_100, j_131, j_179, j_227, j_275, j_512, j_825, j_999, j_1000, j_9999, j_10000, j_11000, j_65536, j_m1, jI_add, jI_sub, jI_mul, jI_neg, nca_9, nca_33, nca_58, nca_83, nca_131, nca_179, nca_227, nca_825, nca_4, nca_24, nca_275, ncb_1, ncb_275, ncb_24, nc_1add, Int.toNat_natCast, tz_0, tz_1, tz_2, tz_3, tz_4, tz_5, tz_6, tz_8, tz_9, tz_16, tz_20, tz_24, tz_33, tz_48, tz_49, tz_57, tz_58, tz_82, tz_83, tz_100, tz_131, tz_179, tz_227, tz_275, tz_512, tz_825, tz_999, tz_1000, tz_9999, tz_10000, tz_11000, tz_65536, nc_sub1, i_lt, n_lt, i_eq, n_eq, jI_natc, jI_nat, ck_ok, nc_lt, nc_le, if_true, if_false, Option.bind_some, wr_def, and_true, true_and, and_false, false_and, or_true, true_or, or_false, false_or, not_true, not_false_eq_true, not_true_eq_false, ite_true, ite_false, Nat.zero_add, Nat.add_zero, Int.add_zero, Int.zero_add, Int.sub_zero, up_eq, up_ne, up_i, up_j]
    · rw [e]; simp (disch := omega) only [j_0, j_1, j_2, j_3, j_4, j_5, j_6, j_8, j_9, j_16, j_20, j_24, j_33, j_48, j_49, j_57, j_58, j_82, j_83, j_100, j_131, j_179, j_227, j_275, j_512, j_825, j_999, j_1000, j_9999, j_10000, j_11000, j_65536, j_m1, jI_add, jI_sub, jI_mul, jI_neg, nca_9, nca_33, nca_58, nca_83, nca_131, nca_179, nca_227, nca_825, nca_4, nca_24, nca_275, ncb_1, ncb_275, ncb_24, nc_1add, Int.toNat_natCast, tz_0, tz_1, tz_2, tz_3, tz_4, tz_5, tz_6, tz_8, tz_9, tz_16, tz_20, tz_24, tz_33, tz_48, tz_49, tz_57, tz_58, tz_82, tz_83, tz_100, tz_131, tz_179, tz_227, tz_275, tz_512, tz_825, tz_999, tz_1000, tz_9999, tz_10000, tz_11000, tz_65536, nc_sub1, i_lt, n_lt, i_eq, n_eq, jI_natc, jI_nat, ck_ok, nc_lt, nc_le, if_true, if_false, Option.bind_some, wr_def, and_true, true_and, and_false, false_and, or_true, true_or, or_false, false_or, not_true, not_false_eq_true, not_true_eq_false, ite_true, ite_false, Nat.zero_add, Nat.add_zero, Int.add_zero, Int.zero_add, Int.sub_zero, up_eq, up_ne, up_i, up_j]
    · rw [e]; simp (disch := omega) only [j_0, j_1, j_2, j_3, j_4, j_5, j_6, j_8, j_9, j_16, j_20, j_24, j_33, j_48, j_49, j_57, j_58, j_82, j_83, j_100, j_131, j_179, j_227, j_275, j_512, j_825, j_999, j_1000, j_9999, j_10000, j_11000, j_65536, j_m1, jI_add, jI_sub, jI_mul, jI_neg, nca_9, nca_33, nca_58, nca_83, nca_131, nca_179, nca_227, nca_825, nca_4, nca_24, nca_275, ncb_1, ncb_275, ncb_24, nc_1add, Int.toNat_natCast, tz_0, tz_1, tz_2, tz_3, tz_4, tz_5, tz_6, tz_8, tz_9, tz_16, tz_20, tz_24, tz_33, tz_48, tz_49, tz_57, tz_58, tz_82, tz_83, tz_100, tz_131, tz_179, tz_227, tz_275, tz_512, tz_825, tz_999, tz_1000, tz_9999, tz_10000, tz_11000, tz_65536, nc_sub1, i_lt, n_lt, i_eq, n_eq, jI_natc, jI_nat, ck_ok, nc_lt, nc_le, if_true, if_false, Option.bind_some, wr_def, and_true, true_and, and_false, false_and, or_true, true_or, or_false, false_or, not_true, not_false_eq_true, not_true_eq_false, ite_true, ite_false, Nat.zero_add, Nat.add_zero, Int.add_zero, Int.zero_add, Int.sub_zero, up_eq, up_ne, up_i, up_j]
  by_cases c : m < w - t ∨ (w - t = m ∧ 0 < m ∧ a < x)
  · obtain ⟨y1, y2⟩ := hyes _ rfl
    refine ⟨_, ?_, y1, fun _ => y2, fun q => absurd c q⟩
    rw [e_X1_weigh, jI_sub, h.1]
    by_cases c1 : m < w - t
    · rw [if_pos ((jI_lt (by omega) (by omega)).mpr c1)]
      rfl
    · have c2 : w - t = m ∧ 0 < m ∧ a < x := by omega
      have hxx := hx c2.2.1
      rw [if_neg (fun q => by have := (jI_lt (by omega) (by omega)).mp q; omega), if_pos (by rw [c2.1]), j_0, if_pos ((jI_lt (by omega) (by omega)).mpr c2.2.1), (h.2 c2.2.1).1, if_pos ((jI_lt (by omega) (by omega)).mpr c2.2.2)]
      rfl
  · refine ⟨μ, ?_, fun _ _ _ => rfl, fun q => absurd q c, fun _ => rfl⟩
    rw [e_X1_weigh, jI_sub, h.1, if_neg (fun q => by have := (jI_lt (by omega) (by omega)).mp q; omega)]
    by_cases c1 : w - t = m
    · rw [if_pos (by rw [c1]), j_0]
      by_cases c2 : 0 < m
      · have hxx := hx c2
        rw [if_pos ((jI_lt (by omega) (by omega)).mpr c2), (h.2 c2).1, if_neg (fun q => by have := (jI_lt (by omega) (by omega)).mp q; omega)]
      · rw [if_neg (fun q => by have := (jI_lt (by omega) (by omega)).mp q; omega)]
    · rw [if_neg (fun q => by have := (jI_eq (by omega) (by omega)).mp q; omega)]
theorem f_firstBoreFrom {σ : sT} {ρ τ : Nat → Nat} {μ : mM} (h : spZ σ ρ τ μ) (hw : wf σ) {x : Int} (hx : 0 ≤ x ∧ x < 20000) : ∃ a : Nat, a ≤ sNb σ ∧ f_X1_firstBoreFrom [vr 1 0, vr 5 0, vi (jI x)] μ = some (jI (a : Int), μ) ∧ ∀ i, i < sNb σ → (x ≤ sB σ (τ i) ↔ a ≤ i) := by
  have hnb := hw.2.1
  have key : ∀ (n i : Nat), i + n = sNb σ → (∀ i', i' < i → sB σ (τ i') < x) → ∃ a : Nat, a ≤ sNb σ ∧ r_X1_firstBoreFrom_2 (jI x) (jI (i : Int)) μ = some (jI (a : Int), μ) ∧ ∀ i, i < sNb σ → (x ≤ sB σ (τ i) ↔ a ≤ i) := by
    intro n
    induction n with
    | zero =>
      intro i hi hI
      refine ⟨i, by omega, ?_, fun i' hi' => ?_⟩
      · rw [e_X1_firstBoreFrom_2]
        simp (disch := omega) only [j_0, j_1, j_2, j_3, j_4, j_5, j_6, j_8, j_9, j_16, j_20, j_24, j_33, j_48, j_49, j_57, j_58, j_82, j_83, j_100, j_131, j_179, j_227, j_275, j_512, j_825, j_999, j_1000, j_9999, j_10000, j_11000, j_65536, j_m1, jI_add, jI_sub, jI_mul, jI_neg, nca_9, nca_33, nca_58, nca_83, nca_131, nca_179, nca_227, nca_825, nca_4, nca_24, nca_275, ncb_1, ncb_275, ncb_24, nc_1add, Int.toNat_natCast, tz_0, tz_1, tz_2, tz_3, tz_4, tz_5, tz_6, tz_8, tz_9, tz_16, tz_20, tz_24, tz_33, tz_48, tz_49, tz_57, tz_58, tz_82, tz_83, tz_100, tz_131, tz_179, tz_227, tz_275, tz_512, tz_825, tz_999, tz_1000, tz_9999, tz_10000, tz_11000, tz_65536, nc_sub1, i_lt, n_lt, i_eq, n_eq, jI_natc, jI_nat, ck_ok, nc_lt, nc_le, if_true, if_false, Option.bind_some, wr_def, and_true, true_and, and_false, false_and, or_true, true_or, or_false, false_or, not_true, not_false_eq_true, not_true_eq_false, ite_true, ite_false, Nat.zero_add, Nat.add_zero, Int.add_zero, Int.zero_add, Int.sub_zero, up_eq, up_ne, up_i, up_j, h.2.2.1.1]
      · have := hI i' (by omega); omega
    | succ n ih =>
      intro i hi hI
      have hin : i < sNb σ := by omega
      have ht := h.2.2.2.1 i hin
      have b := hw.2.2.2.2.1 _ ht
      have e1 := (h.2.2.1.2 i hin).2
      have e2 := (h.2.2.1.2 (τ i) ht).1
      by_cases c : sB σ (τ i) < x
      · obtain ⟨a, a1, a2, a3⟩ := ih (i + 1) (by omega) (fun i' hi' => by
          by_cases d : i' = i
          · rw [d]; exact c
          · exact hI i' (by omega))
        refine ⟨a, a1, ?_, a3⟩
        rw [← a2, e_X1_firstBoreFrom_2]
        simp (disch := omega) only [j_0, j_1, j_2, j_3, j_4, j_5, j_6, j_8, j_9, j_16, j_20, j_24, j_33, j_48, j_49, j_57, j_58, j_82, j_83, j_100, j_131, j_179, j_227, j_275, j_512, j_825, j_999, j_1000, j_9999, j_10000, j_11000, j_65536, j_m1, jI_add, jI_sub, jI_mul, jI_neg, nca_9, nca_33, nca_58, nca_83, nca_131, nca_179, nca_227, nca_825, nca_4, nca_24, nca_275, ncb_1, ncb_275, ncb_24, nc_1add, Int.toNat_natCast, tz_0, tz_1, tz_2, tz_3, tz_4, tz_5, tz_6, tz_8, tz_9, tz_16, tz_20, tz_24, tz_33, tz_48, tz_49, tz_57, tz_58, tz_82, tz_83, tz_100, tz_131, tz_179, tz_227, tz_275, tz_512, tz_825, tz_999, tz_1000, tz_9999, tz_10000, tz_11000, tz_65536, nc_sub1, i_lt, n_lt, i_eq, n_eq, jI_natc, jI_nat, ck_ok, nc_lt, nc_le, if_true, if_false, Option.bind_some, wr_def, and_true, true_and, and_false, false_and, or_true, true_or, or_false, false_or, not_true, not_false_eq_true, not_true_eq_false, ite_true, ite_false, Nat.zero_add, Nat.add_zero, Int.add_zero, Int.zero_add, Int.sub_zero, up_eq, up_ne, up_i, up_j, h.2.2.1.1, e1, e2]
      · refine ⟨i, by omega, ?_, fun i' hi' => ⟨fun q => ?_, fun q => ?_⟩⟩
        · rw [e_X1_firstBoreFrom_2]
          simp (disch := omega) only [j_0, j_1, j_2, j_3, j_4, j_5, j_6, j_8, j_9, j_16, j_20, j_24, j_33, j_48, j_49, j_57, j_58, j_82, j_83, j_100, j_131, j_179, j_227, j_275, j_512, j_825, j_999, j_1000, j_9999, j_10000, j_11000, j_65536, j_m1, jI_add, jI_sub, jI_mul, jI_neg, nca_9, nca_33, nca_58, nca_83, nca_131, nca_179, nca_227, nca_825, nca_4, nca_24, nca_275, ncb_1, ncb_275, ncb_24, nc_1add, Int.toNat_natCast, tz_0, tz_1, tz_2, tz_3, tz_4, tz_5, tz_6, tz_8, tz_9, tz_16, tz_20, tz_24, tz_33, tz_48, tz_49, tz_57, tz_58, tz_82, tz_83, tz_100, tz_131, tz_179, tz_227, tz_275, tz_512, tz_825, tz_999, tz_1000, tz_9999, tz_10000, tz_11000, tz_65536, nc_sub1, i_lt, n_lt, i_eq, n_eq, jI_natc, jI_nat, ck_ok, nc_lt, nc_le, if_true, if_false, Option.bind_some, wr_def, and_true, true_and, and_false, false_and, or_true, true_or, or_false, false_or, not_true, not_false_eq_true, not_true_eq_false, ite_true, ite_false, Nat.zero_add, Nat.add_zero, Int.add_zero, Int.zero_add, Int.sub_zero, up_eq, up_ne, up_i, up_j, h.2.2.1.1, e1, e2]
        · rcases Nat.lt_or_ge i' i with d | d
          · have := hI i' d; omega
          · exact d
        · by_cases d : i' = i
          · rw [d]; omega
          · have := h.2.2.2.2.1 i i' (by omega) hi'
            unfold lx at this
            omega
  rw [e_X1_firstBoreFrom]
  exact key (sNb σ) 0 (by omega) (fun i' hi' => by omega)
def wC (σ : sT) (ρ : Nat → Nat) (x : Int) (i : Nat) : Nat := cnt (fun i' => decide (x ≤ beg σ (ρ i'))) i
def FC (σ : sT) (ρ : Nat → Nat) (s i : Nat) : Int := (wC σ ρ (beg σ s) (i + 1) : Int) - bWn σ (beg σ s) (enn σ (ρ i))
def crC (σ : sT) (ρ : Nat → Nat) (s i : Nat) (μ : mM) : Prop := ∃ m x y sh bo, crM m x y sh bo μ ∧ ((m = 0 ∧ ∀ s' i', s' < sNs σ → i' < sNs σ → (s' < s ∨ (s' = s ∧ i' < i)) → beg σ s' ≤ beg σ (ρ i') → FC σ ρ s' i' ≤ 0) ∨ (0 < m ∧ ∃ s0 i0, s0 < sNs σ ∧ i0 < sNs σ ∧ (s0 < s ∨ (s0 = s ∧ i0 < i)) ∧ beg σ s0 ≤ beg σ (ρ i0) ∧ x = beg σ s0 ∧ y = enn σ (ρ i0) ∧ sh = wC σ ρ (beg σ s0) (i0 + 1) ∧ bo = bWn σ x y ∧ m = FC σ ρ s0 i0 ∧ ∀ s' i', s' < sNs σ → i' < sNs σ → (s' < s ∨ (s' = s ∧ i' < i)) → beg σ s' ≤ beg σ (ρ i') → FC σ ρ s' i' < m ∨ (FC σ ρ s' i' = m ∧ (x < beg σ s' ∨ (x = beg σ s' ∧ y ≤ enn σ (ρ i'))))))
theorem wC_bd (σ : sT) (ρ : Nat → Nat) (x : Int) (i : Nat) : wC σ ρ x i ≤ i := cnt_le _ i
theorem FC_bd {σ : sT} (hw : wf σ) {ρ : Nat → Nat} {s i : Nat} (hi : i < sNs σ) : -100 ≤ FC σ ρ s i ∧ FC σ ρ s i ≤ 100 := by
  have a := wC_bd σ ρ (beg σ s) (i + 1)
  have b := (vW_bd hw (beg σ s) (enn σ (ρ i))).2.2.2
  have := hw.1
  unfold FC
  omega
theorem srt_le {k1 k2 : Nat → Int} {ρ : Nat → Nat} {n i j : Nat} (h : srt k1 k2 ρ n) (hij : i ≤ j) (hj : j < n) : k1 (ρ i) ≤ k1 (ρ j) := by
  by_cases c : i = j
  · rw [c]; exact Int.le_refl _
  · have := h.2.1 i j (by omega) hj
    unfold lx at this
    omega
theorem crC_step {σ : sT} {ρ τ : Nat → Nat} {s i : Nat} {μ : mM} (hw : wf σ) (hs : s < sNs σ) (hi : i < sNs σ) (hρ : srt (enn σ) (sZ σ) ρ (sNs σ)) (hc : beg σ s ≤ beg σ (ρ i)) (h : crC σ ρ s i μ) : ∃ μ', f_X1_weigh [vr 1 0, vi (jI (beg σ s)), vi (jI (enn σ (ρ i))), vi (jI (wC σ ρ (beg σ s) (i + 1) : Int)), vi (jI (bWn σ (beg σ s) (enn σ (ρ i)) : Int))] μ = some (0, μ') ∧ fr1 μ μ' ∧ crC σ ρ s (i + 1) μ' := by
  obtain ⟨m, x, y, sh, bo, hM, hI⟩ := h
  have fb := FC_bd hw (ρ := ρ) (s := s) hi
  have wb := wC_bd σ ρ (beg σ s) (i + 1)
  have bb := (vW_bd hw (beg σ s) (enn σ (ρ i))).2.2.2
  have b1 := wf_be hw hs
  have hn := hw.1
  have hmb : 0 ≤ m ∧ m < 1000 ∧ (0 < m → 0 ≤ x ∧ x < 20000) := by
    rcases hI with ⟨h1, -⟩ | ⟨h1, s0, i0, k1, k2, -, -, k3, -, -, -, k4, -⟩
    · omega
    · have := FC_bd hw (ρ := ρ) (s := s0) k2
      have := wf_be hw k1
      omega
  obtain ⟨μ', a1, a2, a3, a4⟩ := f_weigh (a := beg σ s) (b := enn σ (ρ i)) (w := (wC σ ρ (beg σ s) (i + 1) : Int)) (t := (bWn σ (beg σ s) (enn σ (ρ i)) : Int)) hM ⟨hmb.1, hmb.2.1⟩ hmb.2.2 (by omega) (by omega)
  refine ⟨μ', a1, a2, ?_⟩
  have eF : (wC σ ρ (beg σ s) (i + 1) : Int) - (bWn σ (beg σ s) (enn σ (ρ i)) : Int) = FC σ ρ s i := rfl
  rw [eF] at a3 a4
  by_cases c : m < FC σ ρ s i ∨ (FC σ ρ s i = m ∧ 0 < m ∧ beg σ s < x)
  · refine ⟨_, _, _, _, _, a3 c, Or.inr ⟨by omega, s, i, hs, hi, by omega, hc, rfl, rfl, rfl, rfl, rfl, fun s' i' g1 g2 g3 g4 => ?_⟩⟩
    by_cases e : s' = s ∧ i' = i
    · obtain ⟨rfl, rfl⟩ := e
      exact Or.inr ⟨rfl, Or.inr ⟨rfl, Int.le_refl _⟩⟩
    · rcases hI with ⟨h1, h2⟩ | ⟨h1, s0, i0, k1, k2, k3, k4, k5, k6, k7, k8, k9, k10⟩
      · have := h2 s' i' g1 g2 (by omega) g4
        omega
      · have := k10 s' i' g1 g2 (by omega) g4
        omega
  · rw [a4 c]
    refine ⟨m, x, y, sh, bo, hM, ?_⟩
    rcases hI with ⟨h1, h2⟩ | ⟨h1, s0, i0, k1, k2, k3, k4, k5, k6, k7, k8, k9, k10⟩
    · refine Or.inl ⟨h1, fun s' i' g1 g2 g3 g4 => ?_⟩
      by_cases e : s' = s ∧ i' = i
      · obtain ⟨rfl, rfl⟩ := e; omega
      · exact h2 s' i' g1 g2 (by omega) g4
    · refine Or.inr ⟨h1, s0, i0, k1, k2, by omega, k4, k5, k6, k7, k8, k9, fun s' i' g1 g2 g3 g4 => ?_⟩
      by_cases e : s' = s ∧ i' = i
      · obtain ⟨rfl, rfl⟩ := e
        by_cases c1 : FC σ ρ s' i' < m
        · exact Or.inl c1
        · refine Or.inr ⟨by omega, ?_⟩
          by_cases c2 : x < beg σ s'
          · exact Or.inl c2
          · have c3 : x = beg σ s' := by omega
            refine Or.inr ⟨c3, ?_⟩
            by_cases c4 : s0 = s'
            · rw [k6]; exact srt_le hρ (by omega) hi
            · have e1 : beg σ s0 = beg σ s' := by rw [← k5]; exact c3
              have := k10 s0 i' k1 hi (by omega) (by rw [e1]; exact hc)
              have e2 : FC σ ρ s0 i' = FC σ ρ s' i' := by unfold FC; rw [e1]
              omega
      · exact k10 s' i' g1 g2 (by omega) g4
theorem crC_skip {σ : sT} {ρ : Nat → Nat} {s i : Nat} {μ : mM} (hc : ¬ beg σ s ≤ beg σ (ρ i)) (h : crC σ ρ s i μ) : crC σ ρ s (i + 1) μ := by
  obtain ⟨m, x, y, sh, bo, hM, hI⟩ := h
  refine ⟨m, x, y, sh, bo, hM, ?_⟩
  rcases hI with ⟨h1, h2⟩ | ⟨h1, s0, i0, k1, k2, k3, k4, k5, k6, k7, k8, k9, k10⟩
  · refine Or.inl ⟨h1, fun s' i' g1 g2 g3 g4 => ?_⟩
    by_cases e : s' = s ∧ i' = i
    · obtain ⟨rfl, rfl⟩ := e; omega
    · exact h2 s' i' g1 g2 (by omega) g4
  · refine Or.inr ⟨h1, s0, i0, k1, k2, by omega, k4, k5, k6, k7, k8, k9, fun s' i' g1 g2 g3 g4 => ?_⟩
    by_cases e : s' = s ∧ i' = i
    · obtain ⟨rfl, rfl⟩ := e; omega
    · exact k10 s' i' g1 g2 (by omega) g4
theorem crC_next {σ : sT} {ρ : Nat → Nat} {s : Nat} {μ : mM} (h : crC σ ρ s (sNs σ) μ) : crC σ ρ (s + 1) 0 μ := by
  obtain ⟨m, x, y, sh, bo, hM, hI⟩ := h
  refine ⟨m, x, y, sh, bo, hM, ?_⟩
  rcases hI with ⟨h1, h2⟩ | ⟨h1, s0, i0, k1, k2, k3, k4, k5, k6, k7, k8, k9, k10⟩
  · exact Or.inl ⟨h1, fun s' i' g1 g2 g3 g4 => h2 s' i' g1 g2 (by omega) g4⟩
  · exact Or.inr ⟨h1, s0, i0, k1, k2, by omega, k4, k5, k6, k7, k8, k9, fun s' i' g1 g2 g3 g4 => k10 s' i' g1 g2 (by omega) g4⟩
/-- all are weighed: the crowd -/
theorem sWn_perm {σ : sT} {ρ : Nat → Nat} (hρ : srt (enn σ) (sZ σ) ρ (sNs σ)) (x y : Int) : sWn σ x y = cnt (fun i => decide (x ≤ beg σ (ρ i) ∧ enn σ (ρ i) ≤ y)) (sNs σ) :=
  (cnt_perm (P := fun s => decide (x ≤ beg σ s ∧ enn σ s ≤ y)) (sNs σ) ρ hρ.1 (fun i j hi hj e => srt_inj hρ hi hj e) hρ.2.2).symm
theorem bWn_perm {σ : sT} {τ : Nat → Nat} (hτ : srt (sB σ) (fun _ => 0) τ (sNb σ)) (x y : Int) : bWn σ x y = cnt (fun i => decide (x ≤ sB σ (τ i) ∧ sB σ (τ i) ≤ y)) (sNb σ) :=
  (cnt_perm (P := fun b => decide (x ≤ sB σ b ∧ sB σ b ≤ y)) (sNb σ) τ hτ.1 (fun i j hi hj e => srt_inj hτ hi hj e) hτ.2.2).symm
theorem crA {σ : sT} {ρ : Nat → Nat} {s i : Nat} (hρ : srt (enn σ) (sZ σ) ρ (sNs σ)) (hi : i < sNs σ) : FC σ ρ s i ≤ vW σ (beg σ s) (enn σ (ρ i)) := by
  have e1 := sWn_perm hρ (beg σ s) (enn σ (ρ i))
  have e2 := cnt_le_n (P := fun j => decide (beg σ s ≤ beg σ (ρ j) ∧ enn σ (ρ j) ≤ enn σ (ρ i))) (a := i + 1) (sNs σ) (by omega)
  have e3 : wC σ ρ (beg σ s) (i + 1) = cnt (fun j => decide (beg σ s ≤ beg σ (ρ j) ∧ enn σ (ρ j) ≤ enn σ (ρ i))) (i + 1) := by
    unfold wC
    refine cnt_congr _ (fun j hj => ?_)
    have := srt_le hρ (show j ≤ i by omega) hi
    simp only [this, and_true]
  unfold FC vW
  omega
theorem crB {σ : sT} {ρ : Nat → Nat} {s q : Nat} (hρ : srt (enn σ) (sZ σ) ρ (sNs σ)) (hv : 0 < vW σ (beg σ s) (enn σ q)) : ∃ i, i < sNs σ ∧ beg σ s ≤ beg σ (ρ i) ∧ enn σ (ρ i) ≤ enn σ q ∧ vW σ (beg σ s) (enn σ q) ≤ FC σ ρ s i := by
  have e1 := sWn_perm hρ (beg σ s) (enn σ q)
  obtain ⟨i, hi, h2, h3⟩ := cnt_pos (P := fun j => decide (beg σ s ≤ beg σ (ρ j) ∧ enn σ (ρ j) ≤ enn σ q)) (sNs σ) (by rw [← e1]; unfold vW at hv; omega)
  have h2' := of_decide_eq_true h2
  refine ⟨i, hi, h2'.1, h2'.2, ?_⟩
  have e2 := cnt_cut (P := fun j => decide (beg σ s ≤ beg σ (ρ j) ∧ enn σ (ρ j) ≤ enn σ q)) (j := i + 1) (sNs σ) (by omega) (fun k g1 g2 => h3 k (by omega) g2)
  have e3 : wC σ ρ (beg σ s) (i + 1) = cnt (fun j => decide (beg σ s ≤ beg σ (ρ j) ∧ enn σ (ρ j) ≤ enn σ q)) (i + 1) := by
    unfold wC
    refine cnt_congr _ (fun j hj => ?_)
    have := srt_le hρ (show j ≤ i by omega) hi
    have : enn σ (ρ j) ≤ enn σ q := by omega
    simp only [this, and_true]
  have e4 : bWn σ (beg σ s) (enn σ (ρ i)) ≤ bWn σ (beg σ s) (enn σ q) := by
    refine cnt_mono _ (fun b hb hp => ?_)
    have := of_decide_eq_true hp
    exact decide_eq_true (by omega)
  unfold FC vW
  omega
theorem crE {σ : sT} {ρ : Nat → Nat} {μ : mM} (hρ : srt (enn σ) (sZ σ) ρ (sNs σ)) (h : crC σ ρ (sNs σ) 0 μ) : ∃ m x y, isCr σ m x y ∧ crM m x y (sWn σ x y) (bWn σ x y) μ := by
  obtain ⟨m, x, y, sh, bo, hM, hI⟩ := h
  rcases hI with ⟨h1, h2⟩ | ⟨h1, s0, i0, k1, k2, k3, k4, k5, k6, k7, k8, k9, k10⟩
  · refine ⟨m, x, y, Or.inl ⟨h1, fun s q hs hq => ?_⟩, hM.1, fun q => by omega⟩
    rcases Int.lt_or_le 0 (vW σ (beg σ s) (enn σ q)) with c | c
    · obtain ⟨i, g1, g2, g3, g4⟩ := crB hρ c
      have := h2 s i hs g1 (by omega) g2
      omega
    · exact c
  · have a := crA (s := s0) hρ k2
    have ev : m = vW σ x y := by
      rw [k5, k6]
      obtain ⟨i, g1, g2, g3, g4⟩ := crB (s := s0) (q := ρ i0) hρ (by omega)
      have := k10 s0 i k1 g1 (by omega) g2
      omega
    have esh : sh = (sWn σ x y : Int) := by
      have e1 : m = sh - bo := by rw [k9, k7, k8, k5, k6]; rfl
      have e2 : vW σ x y = (sWn σ x y : Int) - (bWn σ x y : Int) := rfl
      omega
    refine ⟨m, x, y, Or.inr ⟨h1, ⟨s0, ρ i0, k1, hρ.1 i0 k2, k5, k6⟩, ev, fun s q hs hq => ?_⟩, ?_⟩
    · rcases Int.lt_or_le 0 (vW σ (beg σ s) (enn σ q)) with c | c
      · obtain ⟨i, g1, g2, g3, g4⟩ := crB hρ c
        have := k10 s i hs g1 (by omega) g2
        omega
      · omega
    · rw [esh, k8] at hM; exact hM
theorem f_seekFrom {σ : sT} {ρ τ : Nat → Nat} {μ : mM} (h : spZ σ ρ τ μ) (hw : wf σ) {s : Nat} (hs : s < sNs σ) (hc : crC σ ρ s 0 μ) : ∃ μ', f_X1_seekFrom [vr 1 0, vr 5 0, vi (jI (beg σ s))] μ = some (0, μ') ∧ fr1 μ μ' ∧ crC σ ρ (s + 1) 0 μ' := by
  have hns := hw.1
  have hnb := hw.2.1
  have bs := wf_be hw hs
  obtain ⟨a, ha, e1, ha2⟩ := f_firstBoreFrom h hw (x := beg σ s) (by omega)
  have inner : ∀ (n p i : Nat) (w : Int) (μ : mM), p + n = sNb σ → spZ σ ρ τ μ → a ≤ p → i < sNs σ → (∀ i', a ≤ i' → i' < p → sB σ (τ i') ≤ enn σ (ρ i)) → ∃ p' : Nat, a ≤ p' ∧ p' ≤ sNb σ ∧ (∀ i', a ≤ i' → i' < sNb σ → (sB σ (τ i') ≤ enn σ (ρ i) ↔ i' < p')) ∧ r_X1_seekFrom_35 (jI (beg σ s)) (jI w) (jI (a : Int)) (jI (p : Int)) (jI (i : Int)) (jI (ρ i : Int)) μ = if beg σ (ρ i) < beg σ s then r_X1_seekFrom_17 (jI (beg σ s)) (jI w) (jI (a : Int)) (jI (p' : Int)) (jI ((i + 1 : Nat) : Int)) (vi (jI (ρ i : Int))) μ else Option.bind (f_X1_weigh [vr 1 0, vi (jI (beg σ s)), vi (jI (enn σ (ρ i))), vi (jI (w + 1)), vi (jI ((p' : Int) - a))] μ) (fun q => r_X1_seekFrom_17 (jI (beg σ s)) (jI (w + 1)) (jI (a : Int)) (jI (p' : Int)) (jI ((i + 1 : Nat) : Int)) (vi (jI (ρ i : Int))) q.2) := by
    intro n
    induction n with
    | zero =>
      intro p i w μ hp hz hap hi hI
      have hr := hz.2.1.1 i hi
      have br := wf_be hw hr
      obtain ⟨z1, z2, z3, z4⟩ := hz.1.2 (ρ i) hr
      refine ⟨p, hap, by omega, fun i' g1 g2 => ⟨fun _ => by omega, fun q => hI i' g1 q⟩, ?_⟩
      rw [e_X1_seekFrom_35]
      by_cases c : beg σ (ρ i) < beg σ s
      · rw [if_pos c]
        simp (disch := omega) only [j_0, j_1, j_2, j_3, j_4, j_5, j_6, j_8, j_9, j_16, j_20, j_24, j_33, j_48, j_49, j_57, j_58, j_82, j_83, j_100, j_131, j_179, j_227, j_275, j_512, j_825, j_999, j_1000, j_9999, j_10000, j_11000, j_65536, j_m1, jI_add, jI_sub, jI_mul, jI_neg, nca_9, nca_33, nca_58, nca_83, nca_131, nca_179, nca_227, nca_825, nca_4, nca_24, nca_275, ncb_1, ncb_275, ncb_24, nc_1add, Int.toNat_natCast, tz_0, tz_1, tz_2, tz_3, tz_4, tz_5, tz_6, tz_8, tz_9, tz_16, tz_20, tz_24, tz_33, tz_48, tz_49, tz_57, tz_58, tz_82, tz_83, tz_100, tz_131, tz_179, tz_227, tz_275, tz_512, tz_825, tz_999, tz_1000, tz_9999, tz_10000, tz_11000, tz_65536, nc_sub1, i_lt, n_lt, i_eq, n_eq, jI_natc, jI_nat, ck_ok, nc_lt, nc_le, if_true, if_false, Option.bind_some, wr_def, and_true, true_and, and_false, false_and, or_true, true_or, or_false, false_or, not_true, not_false_eq_true, not_true_eq_false, ite_true, ite_false, Nat.zero_add, Nat.add_zero, Int.add_zero, Int.zero_add, Int.sub_zero, up_eq, up_ne, up_i, up_j, hz.2.2.1.1, z2]
      · rw [if_neg c]
        simp (disch := omega) only [j_0, j_1, j_2, j_3, j_4, j_5, j_6, j_8, j_9, j_16, j_20, j_24, j_33, j_48, j_49, j_57, j_58, j_82, j_83, j_100, j_131, j_179, j_227, j_275, j_512, j_825, j_999, j_1000, j_9999, j_10000, j_11000, j_65536, j_m1, jI_add, jI_sub, jI_mul, jI_neg, nca_9, nca_33, nca_58, nca_83, nca_131, nca_179, nca_227, nca_825, nca_4, nca_24, nca_275, ncb_1, ncb_275, ncb_24, nc_1add, Int.toNat_natCast, tz_0, tz_1, tz_2, tz_3, tz_4, tz_5, tz_6, tz_8, tz_9, tz_16, tz_20, tz_24, tz_33, tz_48, tz_49, tz_57, tz_58, tz_82, tz_83, tz_100, tz_131, tz_179, tz_227, tz_275, tz_512, tz_825, tz_999, tz_1000, tz_9999, tz_10000, tz_11000, tz_65536, nc_sub1, i_lt, n_lt, i_eq, n_eq, jI_natc, jI_nat, ck_ok, nc_lt, nc_le, if_true, if_false, Option.bind_some, wr_def, and_true, true_and, and_false, false_and, or_true, true_or, or_false, false_or, not_true, not_false_eq_true, not_true_eq_false, ite_true, ite_false, Nat.zero_add, Nat.add_zero, Int.add_zero, Int.zero_add, Int.sub_zero, up_eq, up_ne, up_i, up_j, hz.2.2.1.1, z2, z3]
    | succ n ih =>
      intro p i w μ hp hz hap hi hI
      have hr := hz.2.1.1 i hi
      have br := wf_be hw hr
      obtain ⟨z1, z2, z3, z4⟩ := hz.1.2 (ρ i) hr
      have hpn : p < sNb σ := by omega
      have ht := hz.2.2.2.1 p hpn
      have bt := hw.2.2.2.2.1 _ ht
      have y1 := (hz.2.2.1.2 p hpn).2
      have y2 := (hz.2.2.1.2 (τ p) ht).1
      by_cases d : sB σ (τ p) ≤ enn σ (ρ i)
      · obtain ⟨p', q1, q2, q3, q4⟩ := ih (p + 1) i w μ (by omega) hz (by omega) hi (fun i' g1 g2 => by
          by_cases e : i' = p
          · rw [e]; exact d
          · exact hI i' g1 (by omega))
        refine ⟨p', q1, q2, q3, ?_⟩
        rw [← q4, e_X1_seekFrom_35]
        simp (disch := omega) only [j_0, j_1, j_2, j_3, j_4, j_5, j_6, j_8, j_9, j_16, j_20, j_24, j_33, j_48, j_49, j_57, j_58, j_82, j_83, j_100, j_131, j_179, j_227, j_275, j_512, j_825, j_999, j_1000, j_9999, j_10000, j_11000, j_65536, j_m1, jI_add, jI_sub, jI_mul, jI_neg, nca_9, nca_33, nca_58, nca_83, nca_131, nca_179, nca_227, nca_825, nca_4, nca_24, nca_275, ncb_1, ncb_275, ncb_24, nc_1add, Int.toNat_natCast, tz_0, tz_1, tz_2, tz_3, tz_4, tz_5, tz_6, tz_8, tz_9, tz_16, tz_20, tz_24, tz_33, tz_48, tz_49, tz_57, tz_58, tz_82, tz_83, tz_100, tz_131, tz_179, tz_227, tz_275, tz_512, tz_825, tz_999, tz_1000, tz_9999, tz_10000, tz_11000, tz_65536, nc_sub1, i_lt, n_lt, i_eq, n_eq, jI_natc, jI_nat, ck_ok, nc_lt, nc_le, if_true, if_false, Option.bind_some, wr_def, and_true, true_and, and_false, false_and, or_true, true_or, or_false, false_or, not_true, not_false_eq_true, not_true_eq_false, ite_true, ite_false, Nat.zero_add, Nat.add_zero, Int.add_zero, Int.zero_add, Int.sub_zero, up_eq, up_ne, up_i, up_j, hz.2.2.1.1, z2, z3, y1, y2]
      · refine ⟨p, hap, by omega, fun i' g1 g2 => ⟨fun q => ?_, fun q => hI i' g1 q⟩, ?_⟩
        · rcases Nat.lt_or_ge i' p with e | e
          · exact e
          · have := srt_le hz.2.2.2 e g2
            omega
        · rw [e_X1_seekFrom_35]
          by_cases c : beg σ (ρ i) < beg σ s
          · rw [if_pos c]
            simp (disch := omega) only [j_0, j_1, j_2, j_3, j_4, j_5, j_6, j_8, j_9, j_16, j_20, j_24, j_33, j_48, j_49, j_57, j_58, j_82, j_83, j_100, j_131, j_179, j_227, j_275, j_512, j_825, j_999, j_1000, j_9999, j_10000, j_11000, j_65536, j_m1, jI_add, jI_sub, jI_mul, jI_neg, nca_9, nca_33, nca_58, nca_83, nca_131, nca_179, nca_227, nca_825, nca_4, nca_24, nca_275, ncb_1, ncb_275, ncb_24, nc_1add, Int.toNat_natCast, tz_0, tz_1, tz_2, tz_3, tz_4, tz_5, tz_6, tz_8, tz_9, tz_16, tz_20, tz_24, tz_33, tz_48, tz_49, tz_57, tz_58, tz_82, tz_83, tz_100, tz_131, tz_179, tz_227, tz_275, tz_512, tz_825, tz_999, tz_1000, tz_9999, tz_10000, tz_11000, tz_65536, nc_sub1, i_lt, n_lt, i_eq, n_eq, jI_natc, jI_nat, ck_ok, nc_lt, nc_le, if_true, if_false, Option.bind_some, wr_def, and_true, true_and, and_false, false_and, or_true, true_or, or_false, false_or, not_true, not_false_eq_true, not_true_eq_false, ite_true, ite_false, Nat.zero_add, Nat.add_zero, Int.add_zero, Int.zero_add, Int.sub_zero, up_eq, up_ne, up_i, up_j, hz.2.2.1.1, z2, z3, y1, y2]
          · rw [if_neg c]
            simp (disch := omega) only [j_0, j_1, j_2, j_3, j_4, j_5, j_6, j_8, j_9, j_16, j_20, j_24, j_33, j_48, j_49, j_57, j_58, j_82, j_83, j_100, j_131, j_179, j_227, j_275, j_512, j_825, j_999, j_1000, j_9999, j_10000, j_11000, j_65536, j_m1, jI_add, jI_sub, jI_mul, jI_neg, nca_9, nca_33, nca_58, nca_83, nca_131, nca_179, nca_227, nca_825, nca_4, nca_24, nca_275, ncb_1, ncb_275, ncb_24, nc_1add, Int.toNat_natCast, tz_0, tz_1, tz_2, tz_3, tz_4, tz_5, tz_6, tz_8, tz_9, tz_16, tz_20, tz_24, tz_33, tz_48, tz_49, tz_57, tz_58, tz_82, tz_83, tz_100, tz_131, tz_179, tz_227, tz_275, tz_512, tz_825, tz_999, tz_1000, tz_9999, tz_10000, tz_11000, tz_65536, nc_sub1, i_lt, n_lt, i_eq, n_eq, jI_natc, jI_nat, ck_ok, nc_lt, nc_le, if_true, if_false, Option.bind_some, wr_def, and_true, true_and, and_false, false_and, or_true, true_or, or_false, false_or, not_true, not_false_eq_true, not_true_eq_false, ite_true, ite_false, Nat.zero_add, Nat.add_zero, Int.add_zero, Int.zero_add, Int.sub_zero, up_eq, up_ne, up_i, up_j, hz.2.2.1.1, z2, z3, y1, y2]
  have outer : ∀ (n i p : Nat) (x7 : mV) (μ : mM), i + n = sNs σ → spZ σ ρ τ μ → a ≤ p → p ≤ sNb σ → (∀ i' i'', a ≤ i' → i' < p → i ≤ i'' → i'' < sNs σ → sB σ (τ i') ≤ enn σ (ρ i'')) → crC σ ρ s i μ → ∃ μ', r_X1_seekFrom_17 (jI (beg σ s)) (jI (wC σ ρ (beg σ s) i : Int)) (jI (a : Int)) (jI (p : Int)) (jI (i : Int)) x7 μ = some (0, μ') ∧ fr1 μ μ' ∧ crC σ ρ s (sNs σ) μ' := by
    intro n
    induction n with
    | zero =>
      intro i p x7 μ hi hz hap hp hI hC
      refine ⟨μ, ?_, fun _ _ _ => rfl, ?_⟩
      · rw [e_X1_seekFrom_17]
        simp (disch := omega) only [j_0, j_1, j_2, j_3, j_4, j_5, j_6, j_8, j_9, j_16, j_20, j_24, j_33, j_48, j_49, j_57, j_58, j_82, j_83, j_100, j_131, j_179, j_227, j_275, j_512, j_825, j_999, j_1000, j_9999, j_10000, j_11000, j_65536, j_m1, jI_add, jI_sub, jI_mul, jI_neg, nca_9, nca_33, nca_58, nca_83, nca_131, nca_179, nca_227, nca_825, nca_4, nca_24, nca_275, ncb_1, ncb_275, ncb_24, nc_1add, Int.toNat_natCast, tz_0, tz_1, tz_2, tz_3, tz_4, tz_5, tz_6, tz_8, tz_9, tz_16, tz_20, tz_24, tz_33, tz_48, tz_49, tz_57, tz_58, tz_82, tz_83, tz_100, tz_131, tz_179, tz_227, tz_275, tz_512, tz_825, tz_999, tz_1000, tz_9999, tz_10000, tz_11000, tz_65536, nc_sub1, i_lt, n_lt, i_eq, n_eq, jI_natc, jI_nat, ck_ok, nc_lt, nc_le, if_true, if_false, Option.bind_some, wr_def, and_true, true_and, and_false, false_and, or_true, true_or, or_false, false_or, not_true, not_false_eq_true, not_true_eq_false, ite_true, ite_false, Nat.zero_add, Nat.add_zero, Int.add_zero, Int.zero_add, Int.sub_zero, up_eq, up_ne, up_i, up_j, hz.1.1]
      · have : i = sNs σ := by omega
        rw [← this]; exact hC
    | succ n ih =>
      intro i p x7 μ hi hz hap hp hI hC
      have hin : i < sNs σ := by omega
      have hr := hz.2.1.1 i hin
      have br := wf_be hw hr
      obtain ⟨z1, z2, z3, z4⟩ := hz.1.2 i hin
      obtain ⟨p', q1, q2, q3, q4⟩ := inner (sNb σ - p) p i (wC σ ρ (beg σ s) i : Int) μ (by omega) hz hap hin (fun i' g1 g2 => hI i' i g1 g2 (Nat.le_refl _) hin)
      have hI' : ∀ i' i'', a ≤ i' → i' < p' → i + 1 ≤ i'' → i'' < sNs σ → sB σ (τ i') ≤ enn σ (ρ i'') := fun i' i'' g1 g2 g3 g4 => by
        have := (q3 i' g1 (by omega)).mpr g2
        have := srt_le hz.2.1 (show i ≤ i'' by omega) g4
        omega
      have wb := wC_bd σ ρ (beg σ s) i
      by_cases c : beg σ (ρ i) < beg σ s
      · have ew : wC σ ρ (beg σ s) (i + 1) = wC σ ρ (beg σ s) i := by
          show cnt _ (i + 1) = cnt _ i
          rw [cnt, if_neg (fun q => by have := of_decide_eq_true q; omega)]; rfl
        obtain ⟨μ', s1, s2, s3⟩ := ih (i + 1) p' (vi (jI (ρ i : Int))) μ (by omega) hz q1 q2 hI' (crC_skip (by omega) hC)
        refine ⟨μ', ?_, s2, s3⟩
        rw [if_pos c] at q4
        rw [← s1, ew, ← q4, e_X1_seekFrom_17]
        simp (disch := omega) only [j_0, j_1, j_2, j_3, j_4, j_5, j_6, j_8, j_9, j_16, j_20, j_24, j_33, j_48, j_49, j_57, j_58, j_82, j_83, j_100, j_131, j_179, j_227, j_275, j_512, j_825, j_999, j_1000, j_9999, j_10000, j_11000, j_65536, j_m1, jI_add, jI_sub, jI_mul, jI_neg, nca_9, nca_33, nca_58, nca_83, nca_131, nca_179, nca_227, nca_825, nca_4, nca_24, nca_275, ncb_1, ncb_275, ncb_24, nc_1add, Int.toNat_natCast, tz_0, tz_1, tz_2, tz_3, tz_4, tz_5, tz_6, tz_8, tz_9, tz_16, tz_20, tz_24, tz_33, tz_48, tz_49, tz_57, tz_58, tz_82, tz_83, tz_100, tz_131, tz_179, tz_227, tz_275, tz_512, tz_825, tz_999, tz_1000, tz_9999, tz_10000, tz_11000, tz_65536, nc_sub1, i_lt, n_lt, i_eq, n_eq, jI_natc, jI_nat, ck_ok, nc_lt, nc_le, if_true, if_false, Option.bind_some, wr_def, and_true, true_and, and_false, false_and, or_true, true_or, or_false, false_or, not_true, not_false_eq_true, not_true_eq_false, ite_true, ite_false, Nat.zero_add, Nat.add_zero, Int.add_zero, Int.zero_add, Int.sub_zero, up_eq, up_ne, up_i, up_j, hz.1.1, z4]
      · have ew : wC σ ρ (beg σ s) (i + 1) = wC σ ρ (beg σ s) i + 1 := by
          show cnt _ (i + 1) = cnt _ i + 1
          rw [cnt, if_pos (decide_eq_true (by omega))]
        have eb : bWn σ (beg σ s) (enn σ (ρ i)) = p' - a := by
          rw [bWn_perm hz.2.2.2]
          refine cnt_range q1 _ q2 (fun j hj => ?_)
          have r1 := ha2 j hj
          constructor
          · intro q
            have := of_decide_eq_true q
            have r2 := r1.mp this.1
            exact ⟨r2, (q3 j r2 hj).mp this.2⟩
          · intro q
            exact decide_eq_true ⟨r1.mpr q.1, (q3 j q.1 hj).mpr q.2⟩
        obtain ⟨μ1, w1, w2, w3⟩ := crC_step (τ := τ) hw hs hin hz.2.1 (by omega) hC
        obtain ⟨μ', s1, s2, s3⟩ := ih (i + 1) p' (vi (jI (ρ i : Int))) μ1 (by omega) (w2.sp hz) q1 q2 hI' w3
        refine ⟨μ', ?_, w2.tr s2, s3⟩
        have ec1 : ((wC σ ρ (beg σ s) i : Nat) : Int) + 1 = ((wC σ ρ (beg σ s) (i + 1) : Nat) : Int) := by rw [ew]; rfl
        have ec2 : (p' : Int) - a = ((bWn σ (beg σ s) (enn σ (ρ i)) : Nat) : Int) := by rw [eb]; omega
        rw [if_neg c, ec1, ec2, w1, Option.bind_some] at q4
        rw [← s1]
        refine Eq.trans ?_ q4
        rw [e_X1_seekFrom_17]
        simp (disch := omega) only [j_0, j_1, j_2, j_3, j_4, j_5, j_6, j_8, j_9, j_16, j_20, j_24, j_33, j_48, j_49, j_57, j_58, j_82, j_83, j_100, j_131, j_179, j_227, j_275, j_512, j_825, j_999, j_1000, j_9999, j_10000, j_11000, j_65536, j_m1, jI_add, jI_sub, jI_mul, jI_neg, nca_9, nca_33, nca_58, nca_83, nca_131, nca_179, nca_227, nca_825, nca_4, nca_24, nca_275, ncb_1, ncb_275, ncb_24, nc_1add, Int.toNat_natCast, tz_0, tz_1, tz_2, tz_3, tz_4, tz_5, tz_6, tz_8, tz_9, tz_16, tz_20, tz_24, tz_33, tz_48, tz_49, tz_57, tz_58, tz_82, tz_83, tz_100, tz_131, tz_179, tz_227, tz_275, tz_512, tz_825, tz_999, tz_1000, tz_9999, tz_10000, tz_11000, tz_65536, nc_sub1, i_lt, n_lt, i_eq, n_eq, jI_natc, jI_nat, ck_ok, nc_lt, nc_le, if_true, if_false, Option.bind_some, wr_def, and_true, true_and, and_false, false_and, or_true, true_or, or_false, false_or, not_true, not_false_eq_true, not_true_eq_false, ite_true, ite_false, Nat.zero_add, Nat.add_zero, Int.add_zero, Int.zero_add, Int.sub_zero, up_eq, up_ne, up_i, up_j, hz.1.1, z4]
  obtain ⟨μ', s1, s2, s3⟩ := outer (sNs σ) 0 a vu μ (by omega) h (Nat.le_refl _) ha (fun i' i'' g1 g2 => by omega) hc
  refine ⟨μ', ?_, s2, crC_next s3⟩
  rw [e_X1_seekFrom, e1]
  exact s1
theorem f_seek {σ : sT} {ρ τ : Nat → Nat} {μ : mM} (h : spZ σ ρ τ μ) (hw : wf σ) : ∃ μ' m x y, f_X1_seek [vr 1 0, vr 5 0] μ = some (0, μ') ∧ fr1 μ μ' ∧ isCr σ m x y ∧ crM m x y (sWn σ x y) (bWn σ x y) μ' := by
  have hns := hw.1
  have key : ∀ (n s : Nat) (μ : mM), s + n = sNs σ → spZ σ ρ τ μ → crC σ ρ s 0 μ → ∃ μ', r_X1_seek_7 (jI (s : Int)) μ = some (0, μ') ∧ fr1 μ μ' ∧ crC σ ρ (sNs σ) 0 μ' := by
    intro n
    induction n with
    | zero =>
      intro s μ hs hz hC
      refine ⟨μ, ?_, fun _ _ _ => rfl, ?_⟩
      · rw [e_X1_seek_7]
        simp (disch := omega) only [j_0, j_1, j_2, j_3, j_4, j_5, j_6, j_8, j_9, j_16, j_20, j_24, j_33, j_48, j_49, j_57, j_58, j_82, j_83, j_100, j_131, j_179, j_227, j_275, j_512, j_825, j_999, j_1000, j_9999, j_10000, j_11000, j_65536, j_m1, jI_add, jI_sub, jI_mul, jI_neg, nca_9, nca_33, nca_58, nca_83, nca_131, nca_179, nca_227, nca_825, nca_4, nca_24, nca_275, ncb_1, ncb_275, ncb_24, nc_1add, Int.toNat_natCast, tz_0, tz_1, tz_2, tz_3, tz_4, tz_5, tz_6, tz_8, tz_9, tz_16, tz_20, tz_24, tz_33, tz_48, tz_49, tz_57, tz_58, tz_82, tz_83, tz_100, tz_131, tz_179, tz_227, tz_275, tz_512, tz_825, tz_999, tz_1000, tz_9999, tz_10000, tz_11000, tz_65536, nc_sub1, i_lt, n_lt, i_eq, n_eq, jI_natc, jI_nat, ck_ok, nc_lt, nc_le, if_true, if_false, Option.bind_some, wr_def, and_true, true_and, and_false, false_and, or_true, true_or, or_false, false_or, not_true, not_false_eq_true, not_true_eq_false, ite_true, ite_false, Nat.zero_add, Nat.add_zero, Int.add_zero, Int.zero_add, Int.sub_zero, up_eq, up_ne, up_i, up_j, hz.1.1]
      · have : s = sNs σ := by omega
        rw [← this]; exact hC
    | succ n ih =>
      intro s μ hs hz hC
      have hsn : s < sNs σ := by omega
      obtain ⟨z1, z2, z3, z4⟩ := hz.1.2 s hsn
      obtain ⟨μ1, a1, a2, a3⟩ := f_seekFrom hz hw hsn hC
      obtain ⟨μ', b1, b2, b3⟩ := ih (s + 1) μ1 (by omega) (a2.sp hz) a3
      refine ⟨μ', ?_, a2.tr b2, b3⟩
      rw [← b1, e_X1_seek_7]
      simp (disch := omega) only [j_0, j_1, j_2, j_3, j_4, j_5, j_6, j_8, j_9, j_16, j_20, j_24, j_33, j_48, j_49, j_57, j_58, j_82, j_83, j_100, j_131, j_179, j_227, j_275, j_512, j_825, j_999, j_1000, j_9999, j_10000, j_11000, j_65536, j_m1, jI_add, jI_sub, jI_mul, jI_neg, nca_9, nca_33, nca_58, nca_83, nca_131, nca_179, nca_227, nca_825, nca_4, nca_24, nca_275, ncb_1, ncb_275, ncb_24, nc_1add, Int.toNat_natCast, tz_0, tz_1, tz_2, tz_3, tz_4, tz_5, tz_6, tz_8, tz_9, tz_16, tz_20, tz_24, tz_33, tz_48, tz_49, tz_57, tz_58, tz_82, tz_83, tz_100, tz_131, tz_179, tz_227, tz_275, tz_512, tz_825, tz_999, tz_1000, tz_9999, tz_10000, tz_11000, tz_65536, nc_sub1, i_lt, n_lt, i_eq, n_eq, jI_natc, jI_nat, ck_ok, nc_lt, nc_le, if_true, if_false, Option.bind_some, wr_def, and_true, true_and, and_false, false_and, or_true, true_or, or_false, false_or, not_true, not_false_eq_true, not_true_eq_false, ite_true, ite_false, Nat.zero_add, Nat.add_zero, Int.add_zero, Int.zero_add, Int.sub_zero, up_eq, up_ne, up_i, up_j, hz.1.1, z2, a1]
  have hf : fr1 μ (mm_up μ 1 0 4 0) := fun k i hk => by funext q; simp (disch := omega) only [j_0, j_1, j_2, j_3, j_4, j_5, j_6, j_8, j_9, j_16, j_20, j_24, j_33, j_48, j_49, j_57, j_58, j_82, j_83, j_100, j_131, j_179, j_227, j_275, j_512, j_825, j_999, j_1000, j_9999, j_10000, j_11000, j_65536, j_m1, jI_add, jI_sub, jI_mul, jI_neg, nca_9, nca_33, nca_58, nca_83, nca_131, nca_179, nca_227, nca_825, nca_4, nca_24, nca_275, ncb_1, ncb_275, ncb_24, nc_1add, Int.toNat_natCast, tz_0, tz_1, tz_2, tz_3, tz_4, tz_5, tz_6, tz_8, tz_9, tz_16, tz_20, tz_24, tz_33, tz_48, tz_49, tz_57, tz_58, tz_82, tz_83, tz_100, tz_131, tz_179, tz_227, tz_275, tz_512, tz_825, tz_999, tz_1000, tz_9999, tz_10000, tz_11000, tz_65536, nc_sub1, i_lt, n_lt, i_eq, n_eq, jI_natc, jI_nat, ck_ok, nc_lt, nc_le, if_true, if_false, Option.bind_some, wr_def, and_true, true_and, and_false, false_and, or_true, true_or, or_false, false_or, not_true, not_false_eq_true, not_true_eq_false, ite_true, ite_false, Nat.zero_add, Nat.add_zero, Int.add_zero, Int.zero_add, Int.sub_zero, up_eq, up_ne, up_i, up_j]
  obtain ⟨μ', b1, b2, b3⟩ := key (sNs σ) 0 (mm_up μ 1 0 4 0) (by omega) (hf.sp h) ⟨0, 0, 0, 0, 0, ⟨by simp (disch := omega) only [j_0, j_1, j_2, j_3, j_4, j_5, j_6, j_8, j_9, j_16, j_20, j_24, j_33, j_48, j_49, j_57, j_58, j_82, j_83, j_100, j_131, j_179, j_227, j_275, j_512, j_825, j_999, j_1000, j_9999, j_10000, j_11000, j_65536, j_m1, jI_add, jI_sub, jI_mul, jI_neg, nca_9, nca_33, nca_58, nca_83, nca_131, nca_179, nca_227, nca_825, nca_4, nca_24, nca_275, ncb_1, ncb_275, ncb_24, nc_1add, Int.toNat_natCast, tz_0, tz_1, tz_2, tz_3, tz_4, tz_5, tz_6, tz_8, tz_9, tz_16, tz_20, tz_24, tz_33, tz_48, tz_49, tz_57, tz_58, tz_82, tz_83, tz_100, tz_131, tz_179, tz_227, tz_275, tz_512, tz_825, tz_999, tz_1000, tz_9999, tz_10000, tz_11000, tz_65536, nc_sub1, i_lt, n_lt, i_eq, n_eq, jI_natc, jI_nat, ck_ok, nc_lt, nc_le, if_true, if_false, Option.bind_some, wr_def, and_true, true_and, and_false, false_and, or_true, true_or, or_false, false_or, not_true, not_false_eq_true, not_true_eq_false, ite_true, ite_false, Nat.zero_add, Nat.add_zero, Int.add_zero, Int.zero_add, Int.sub_zero, up_eq, up_ne, up_i, up_j], fun q => by omega⟩, Or.inl ⟨rfl, fun s' i' _ _ q => by omega⟩⟩
  obtain ⟨m, x, y, c1, c2⟩ := crE h.2.1 b3
  refine ⟨μ', m, x, y, ?_, hf.tr b2, c1, c2⟩
  rw [e_X1_seek]
  exact b1
def crR (σ : sT) (w m x y : Int) : Int := if m = 0 then -1 else if w = 0 then x else if w = 1 then y else if w = 2 then (sWn σ x y : Int) else (bWn σ x y : Int)
theorem isCr_bd {σ : sT} (hw : wf σ) {m x y : Int} (h : isCr σ m x y) : 0 ≤ m ∧ m ≤ 24 := by
  rcases h with ⟨h1, -⟩ | ⟨h1, -, h2, -⟩
  · omega
  · have := vW_bd hw x y; omega
theorem c_crowd {σ : sT} {μ : mM} (h : cSt σ 0 μ) (hw : wf σ) {w : Int} (hww : 0 ≤ w ∧ w < 4) : ∃ m x y μ', isCr σ m x y ∧ f_X7_crowd [vr 7 0, vi (jI w)] μ = some (jI (crR σ w m x y), μ') ∧ qC μ μ' := by
  obtain ⟨μ1, ρ, τ, a1, a2, a3, a4, a5, a6⟩ := f_read h hw
  obtain ⟨μ2, m, x, y, b1, b2, b3, b4⟩ := f_seek (μ := μ1) ⟨a2, a3, a4, a5⟩ hw
  have hmb := isCr_bd hw b3
  have hin := f_isIn w 4 (by omega) (by omega) μ
  rw [if_pos (by omega)] at hin
  refine ⟨m, x, y, μ2, b3, ?_, ?_⟩
  · rw [e_X7_crowd]
    unfold crR
    by_cases c : m = 0
    · rw [if_pos c]
      have e4 := b4.1
      rw [c] at e4
      simp (disch := omega) only [j_0, j_1, j_2, j_3, j_4, j_5, j_6, j_8, j_9, j_16, j_20, j_24, j_33, j_48, j_49, j_57, j_58, j_82, j_83, j_100, j_131, j_179, j_227, j_275, j_512, j_825, j_999, j_1000, j_9999, j_10000, j_11000, j_65536, j_m1, jI_add, jI_sub, jI_mul, jI_neg, nca_9, nca_33, nca_58, nca_83, nca_131, nca_179, nca_227, nca_825, nca_4, nca_24, nca_275, ncb_1, ncb_275, ncb_24, nc_1add, Int.toNat_natCast, tz_0, tz_1, tz_2, tz_3, tz_4, tz_5, tz_6, tz_8, tz_9, tz_16, tz_20, tz_24, tz_33, tz_48, tz_49, tz_57, tz_58, tz_82, tz_83, tz_100, tz_131, tz_179, tz_227, tz_275, tz_512, tz_825, tz_999, tz_1000, tz_9999, tz_10000, tz_11000, tz_65536, nc_sub1, i_lt, n_lt, i_eq, n_eq, jI_natc, jI_nat, ck_ok, nc_lt, nc_le, if_true, if_false, Option.bind_some, wr_def, and_true, true_and, and_false, false_and, or_true, true_or, or_false, false_or, not_true, not_false_eq_true, not_true_eq_false, ite_true, ite_false, Nat.zero_add, Nat.add_zero, Int.add_zero, Int.zero_add, Int.sub_zero, up_eq, up_ne, up_i, up_j, hin, a1, b1, e4]
    · rw [if_neg c]
      obtain ⟨e0, e1, e2, e3⟩ := b4.2 (by omega)
      have e4 := b4.1
      by_cases c0 : w = 0
      · rw [if_pos c0]; simp (disch := omega) only [j_0, j_1, j_2, j_3, j_4, j_5, j_6, j_8, j_9, j_16, j_20, j_24, j_33, j_48, j_49, j_57, j_58, j_82, j_83, j_100, j_131, j_179, j_227, j_275, j_512, j_825, j_999, j_1000, j_9999, j_10000, j_11000, j_65536, j_m1, jI_add, jI_sub, jI_mul, jI_neg, nca_9, nca_33, nca_58, nca_83, nca_131, nca_179, nca_227, nca_825, nca_4, nca_24, nca_275, ncb_1, ncb_275, ncb_24, nc_1add, Int.toNat_natCast, tz_0, tz_1, tz_2, tz_3, tz_4, tz_5, tz_6, tz_8, tz_9, tz_16, tz_20, tz_24, tz_33, tz_48, tz_49, tz_57, tz_58, tz_82, tz_83, tz_100, tz_131, tz_179, tz_227, tz_275, tz_512, tz_825, tz_999, tz_1000, tz_9999, tz_10000, tz_11000, tz_65536, nc_sub1, i_lt, n_lt, i_eq, n_eq, jI_natc, jI_nat, ck_ok, nc_lt, nc_le, if_true, if_false, Option.bind_some, wr_def, and_true, true_and, and_false, false_and, or_true, true_or, or_false, false_or, not_true, not_false_eq_true, not_true_eq_false, ite_true, ite_false, Nat.zero_add, Nat.add_zero, Int.add_zero, Int.zero_add, Int.sub_zero, up_eq, up_ne, up_i, up_j, hin, a1, b1, e4, e0]
      · rw [if_neg c0]
        by_cases c1 : w = 1
        · rw [if_pos c1]; simp (disch := omega) only [j_0, j_1, j_2, j_3, j_4, j_5, j_6, j_8, j_9, j_16, j_20, j_24, j_33, j_48, j_49, j_57, j_58, j_82, j_83, j_100, j_131, j_179, j_227, j_275, j_512, j_825, j_999, j_1000, j_9999, j_10000, j_11000, j_65536, j_m1, jI_add, jI_sub, jI_mul, jI_neg, nca_9, nca_33, nca_58, nca_83, nca_131, nca_179, nca_227, nca_825, nca_4, nca_24, nca_275, ncb_1, ncb_275, ncb_24, nc_1add, Int.toNat_natCast, tz_0, tz_1, tz_2, tz_3, tz_4, tz_5, tz_6, tz_8, tz_9, tz_16, tz_20, tz_24, tz_33, tz_48, tz_49, tz_57, tz_58, tz_82, tz_83, tz_100, tz_131, tz_179, tz_227, tz_275, tz_512, tz_825, tz_999, tz_1000, tz_9999, tz_10000, tz_11000, tz_65536, nc_sub1, i_lt, n_lt, i_eq, n_eq, jI_natc, jI_nat, ck_ok, nc_lt, nc_le, if_true, if_false, Option.bind_some, wr_def, and_true, true_and, and_false, false_and, or_true, true_or, or_false, false_or, not_true, not_false_eq_true, not_true_eq_false, ite_true, ite_false, Nat.zero_add, Nat.add_zero, Int.add_zero, Int.zero_add, Int.sub_zero, up_eq, up_ne, up_i, up_j, hin, a1, b1, e4, e1]
        · rw [if_neg c1]
          by_cases c2 : w = 2
          · rw [if_pos c2]; simp (disch := omega) only [j_0, j_1, j_2, j_3, j_4, j_5, j_6, j_8, j_9, j_16, j_20, j_24, j_33, j_48, j_49, j_57, j_58, j_82, j_83, j_100, j_131, j_179, j_227, j_275, j_512, j_825, j_999, j_1000, j_9999, j_10000, j_11000, j_65536, j_m1, jI_add, jI_sub, jI_mul, jI_neg, nca_9, nca_33, nca_58, nca_83, nca_131, nca_179, nca_227, nca_825, nca_4, nca_24, nca_275, ncb_1, ncb_275, ncb_24, nc_1add, Int.toNat_natCast, tz_0, tz_1, tz_2, tz_3, tz_4, tz_5, tz_6, tz_8, tz_9, tz_16, tz_20, tz_24, tz_33, tz_48, tz_49, tz_57, tz_58, tz_82, tz_83, tz_100, tz_131, tz_179, tz_227, tz_275, tz_512, tz_825, tz_999, tz_1000, tz_9999, tz_10000, tz_11000, tz_65536, nc_sub1, i_lt, n_lt, i_eq, n_eq, jI_natc, jI_nat, ck_ok, nc_lt, nc_le, if_true, if_false, Option.bind_some, wr_def, and_true, true_and, and_false, false_and, or_true, true_or, or_false, false_or, not_true, not_false_eq_true, not_true_eq_false, ite_true, ite_false, Nat.zero_add, Nat.add_zero, Int.add_zero, Int.zero_add, Int.sub_zero, up_eq, up_ne, up_i, up_j, hin, a1, b1, e4, e2]
          · rw [if_neg c2]; simp (disch := omega) only [j_0, j_1, j_2, j_3, j_4, j_5, j_6, j_8, j_9, j_16, j_20, j_24, j_33, j_48, j_49, j_57, j_58, j_82, j_83, j_100, j_131, j_179, j_227, j_275, j_512, j_825, j_999, j_1000, j_9999, j_10000, j_11000, j_65536, j_m1, jI_add, jI_sub, jI_mul, jI_neg, nca_9, nca_33, nca_58, nca_83, nca_131, nca_179, nca_227, nca_825, nca_4, nca_24, nca_275, ncb_1, ncb_275, ncb_24, nc_1add, Int.toNat_natCast, tz_0, tz_1, tz_2, tz_3, tz_4, tz_5, tz_6, tz_8, tz_9, tz_16, tz_20, tz_24, tz_33, tz_48, tz_49, tz_57, tz_58, tz_82, tz_83, tz_100, tz_131, tz_179, tz_227, tz_275, tz_512, tz_825, tz_999, tz_1000, tz_9999, tz_10000, tz_11000, tz_65536, nc_sub1, i_lt, n_lt, i_eq, n_eq, jI_natc, jI_nat, ck_ok, nc_lt, nc_le, if_true, if_false, Option.bind_some, wr_def, and_true, true_and, and_false, false_and, or_true, true_or, or_false, false_or, not_true, not_false_eq_true, not_true_eq_false, ite_true, ite_false, Nat.zero_add, Nat.add_zero, Int.add_zero, Int.zero_add, Int.sub_zero, up_eq, up_ne, up_i, up_j, hin, a1, b1, e4, e3]
  · refine (qC.sp (fun k i hk => a6 k i (by omega))).tr ⟨fun k i hk => b2 k i (by omega), fun i => by rw [b2 4 i (by omega)], b2 34 0 (by omega), fun i => by rw [b2 34 i (by omega)]⟩
theorem crR_u {σ : sT} {w m x y m' x' y' : Int} (h : isCr σ m x y) (h' : isCr σ m' x' y') (hb : 0 ≤ m) : crR σ w m x y = crR σ w m' x' y' := by
  obtain ⟨e1, e2⟩ := isCr_u h h'
  unfold crR
  rw [← e1]
  by_cases c : m = 0
  · rw [if_pos c, if_pos c]
  · obtain ⟨rfl, rfl⟩ := e2 (by omega)
    rfl
