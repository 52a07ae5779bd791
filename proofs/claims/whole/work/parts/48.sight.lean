/-! what is seen: the class's rows of sizes -/
def rwM (n : Nat) (f l : Nat → Int) (μ : mM) : Prop := μ 4 0 5 = jI (n : Int) ∧ ∀ r, r < n → μ 42 0 r = jI (f r) ∧ μ 43 0 r = jI (l r)
def rwI (σ : sT) (ν : qT) (i n : Nat) (f l : Nat → Int) : Prop := n ≤ i + 1 ∧ (∀ r, r < n → 0 ≤ f r ∧ f r ≤ 12000 ∧ -1 ≤ l r ∧ l r ≤ 9999) ∧ (∀ r r' z, r < n → r' < n → f r ≤ z → z ≤ l r → f r' ≤ z → z ≤ l r' → r = r') ∧ ∀ z : Int, (∃ r, r < n ∧ f r ≤ z ∧ z ≤ l r) ↔ (0 ≤ z ∧ z ≤ 9999 ∧ so σ ν z i = true)
def fr4 (μ μ' : mM) : Prop := (∀ k i, ¬ (k = 4 ∨ k = 42 ∨ k = 43) → μ' k i = μ k i) ∧ ∀ i, μ' 4 i 4 = μ 4 i 4
theorem fr4.tr {μ μ' μ'' : mM} (h : fr4 μ μ') (h' : fr4 μ' μ'') : fr4 μ μ'' := ⟨fun k i hk => (h'.1 k i hk).trans (h.1 k i hk), fun i => (h'.2 i).trans (h.2 i)⟩
theorem fr4.r (μ : mM) : fr4 μ μ := ⟨fun _ _ _ => rfl, fun _ => rfl⟩
theorem fr4.up {μ : mM} {k j : Nat} {v : Int32} (hk : k = 42 ∨ k = 43 ∨ (k = 4 ∧ j = 5)) : fr4 μ (mm_up μ k 0 j v) := ⟨fun k' i hk' => by rw [up_ne (by omega)], fun i => by
  by_cases c : k = 4
  · subst c
    by_cases d : i = 0
    · subst d; rw [up_j (by omega)]
    · rw [up_i (by omega)]
  · rw [up_ne (by omega)]⟩
theorem f_addRow {n : Nat} {f l : Nat → Int} {μ : mM} (h : rwM n f l μ) (hn : n ≤ 6) (a b : Int) : ∃ μ', f_X4_addRow [vr 4 0, vi (jI a), vi (jI b)] μ = some (0, μ') ∧ rwM (n + 1) (upI f n a) (upI l n b) μ' ∧ fr4 μ μ' := by
  refine ⟨mm_up (mm_up (mm_up μ 42 0 n (jI a)) 43 0 n (jI b)) 4 0 5 (jI ((n + 1 : Nat) : Int)), ?_, ⟨by simp (disch := omega) only [j_0, j_1, j_2, j_3, j_4, j_5, j_6, j_8, j_9, j_16, j_20, j_24, j_33, j_48, j_49, j_57, j_58, j_82, j_83, j_100, j_131, j_179, j_227, j_275, j_512, j_825, j_999, j_1000, j_9999, j_10000, j_11000, j_65536, j_m1, jI_add, jI_sub, jI_mul, jI_neg, nca_9, nca_33, nca_58, nca_83, nca_131, nca_179, nca_227, nca_825, nca_4, nca_24, nca_275, ncb_1, ncb_275, ncb_24, nc_1add, Int.toNat_natCast, tz_0, tz_1, tz_2, tz_3, tz_4, tz_5, tz_6, tz_8, tz_9, tz_16, tz_20, tz_24, tz_33, tz_48, tz_49, tz_57, tz_58, tz_82, tz_83, tz_100, tz_131, tz_179, tz_227, tz_275, tz_512, tz_825, tz_999, tz_1000, tz_9999, tz_10000, tz_11000, tz_65536, nc_sub1, i_lt, n_lt, i_eq, n_eq, jI_natc, jI_nat, ck_ok, nc_lt, nc_le, if_true, if_false, Option.bind_some, wr_def, and_true, true_and, and_false, false_and, or_true, true_or, or_false, false_or, not_true, not_false_eq_true, not_true_eq_false, ite_true, ite_false, Nat.zero_add, Nat.add_zero, Int.add_zero, Int.zero_add, Int.sub_zero, up_eq, up_ne, up_i, up_j], fun r hr => ?_⟩, ((fr4.up (by omega)).tr (fr4.up (by omega))).tr (fr4.up (by omega))⟩
  · rw [e_X4_addRow, h.1]
    simp (disch := omega) only [j_0, j_1, j_2, j_3, j_4, j_5, j_6, j_8, j_9, j_16, j_20, j_24, j_33, j_48, j_49, j_57, j_58, j_82, j_83, j_100, j_131, j_179, j_227, j_275, j_512, j_825, j_999, j_1000, j_9999, j_10000, j_11000, j_65536, j_m1, jI_add, jI_sub, jI_mul, jI_neg, nca_9, nca_33, nca_58, nca_83, nca_131, nca_179, nca_227, nca_825, nca_4, nca_24, nca_275, ncb_1, ncb_275, ncb_24, nc_1add, Int.toNat_natCast, tz_0, tz_1, tz_2, tz_3, tz_4, tz_5, tz_6, tz_8, tz_9, tz_16, tz_20, tz_24, tz_33, tz_48, tz_49, tz_57, tz_58, tz_82, tz_83, tz_100, tz_131, tz_179, tz_227, tz_275, tz_512, tz_825, tz_999, tz_1000, tz_9999, tz_10000, tz_11000, tz_65536, nc_sub1, i_lt, n_lt, i_eq, n_eq, jI_natc, jI_nat, ck_ok, nc_lt, nc_le, if_true, if_false, Option.bind_some, wr_def, and_true, true_and, and_false, false_and, or_true, true_or, or_false, false_or, not_true, not_false_eq_true, not_true_eq_false, ite_true, ite_false, Nat.zero_add, Nat.add_zero, Int.add_zero, Int.zero_add, Int.sub_zero, up_eq, up_ne, up_i, up_j, h.1]
  · by_cases c : r = n
    · subst c
      rw [upI_eq, upI_eq]
      exact ⟨by simp (disch := omega) only [j_0, j_1, j_2, j_3, j_4, j_5, j_6, j_8, j_9, j_16, j_20, j_24, j_33, j_48, j_49, j_57, j_58, j_82, j_83, j_100, j_131, j_179, j_227, j_275, j_512, j_825, j_999, j_1000, j_9999, j_10000, j_11000, j_65536, j_m1, jI_add, jI_sub, jI_mul, jI_neg, nca_9, nca_33, nca_58, nca_83, nca_131, nca_179, nca_227, nca_825, nca_4, nca_24, nca_275, ncb_1, ncb_275, ncb_24, nc_1add, Int.toNat_natCast, tz_0, tz_1, tz_2, tz_3, tz_4, tz_5, tz_6, tz_8, tz_9, tz_16, tz_20, tz_24, tz_33, tz_48, tz_49, tz_57, tz_58, tz_82, tz_83, tz_100, tz_131, tz_179, tz_227, tz_275, tz_512, tz_825, tz_999, tz_1000, tz_9999, tz_10000, tz_11000, tz_65536, nc_sub1, i_lt, n_lt, i_eq, n_eq, jI_natc, jI_nat, ck_ok, nc_lt, nc_le, if_true, if_false, Option.bind_some, wr_def, and_true, true_and, and_false, false_and, or_true, true_or, or_false, false_or, not_true, not_false_eq_true, not_true_eq_false, ite_true, ite_false, Nat.zero_add, Nat.add_zero, Int.add_zero, Int.zero_add, Int.sub_zero, up_eq, up_ne, up_i, up_j], by simp (disch := omega) only [j_0, j_1, j_2, j_3, j_4, j_5, j_6, j_8, j_9, j_16, j_20, j_24, j_33, j_48, j_49, j_57, j_58, j_82, j_83, j_100, j_131, j_179, j_227, j_275, j_512, j_825, j_999, j_1000, j_9999, j_10000, j_11000, j_65536, j_m1, jI_add, jI_sub, jI_mul, jI_neg, nca_9, nca_33, nca_58, nca_83, nca_131, nca_179, nca_227, nca_825, nca_4, nca_24, nca_275, ncb_1, ncb_275, ncb_24, nc_1add, Int.toNat_natCast, tz_0, tz_1, tz_2, tz_3, tz_4, tz_5, tz_6, tz_8, tz_9, tz_16, tz_20, tz_24, tz_33, tz_48, tz_49, tz_57, tz_58, tz_82, tz_83, tz_100, tz_131, tz_179, tz_227, tz_275, tz_512, tz_825, tz_999, tz_1000, tz_9999, tz_10000, tz_11000, tz_65536, nc_sub1, i_lt, n_lt, i_eq, n_eq, jI_natc, jI_nat, ck_ok, nc_lt, nc_le, if_true, if_false, Option.bind_some, wr_def, and_true, true_and, and_false, false_and, or_true, true_or, or_false, false_or, not_true, not_false_eq_true, not_true_eq_false, ite_true, ite_false, Nat.zero_add, Nat.add_zero, Int.add_zero, Int.zero_add, Int.sub_zero, up_eq, up_ne, up_i, up_j]⟩
    · obtain ⟨h1, h2⟩ := h.2 r (by omega)
      rw [upI_ne c, upI_ne c]
      exact ⟨by simp (disch := omega) only [j_0, j_1, j_2, j_3, j_4, j_5, j_6, j_8, j_9, j_16, j_20, j_24, j_33, j_48, j_49, j_57, j_58, j_82, j_83, j_100, j_131, j_179, j_227, j_275, j_512, j_825, j_999, j_1000, j_9999, j_10000, j_11000, j_65536, j_m1, jI_add, jI_sub, jI_mul, jI_neg, nca_9, nca_33, nca_58, nca_83, nca_131, nca_179, nca_227, nca_825, nca_4, nca_24, nca_275, ncb_1, ncb_275, ncb_24, nc_1add, Int.toNat_natCast, tz_0, tz_1, tz_2, tz_3, tz_4, tz_5, tz_6, tz_8, tz_9, tz_16, tz_20, tz_24, tz_33, tz_48, tz_49, tz_57, tz_58, tz_82, tz_83, tz_100, tz_131, tz_179, tz_227, tz_275, tz_512, tz_825, tz_999, tz_1000, tz_9999, tz_10000, tz_11000, tz_65536, nc_sub1, i_lt, n_lt, i_eq, n_eq, jI_natc, jI_nat, ck_ok, nc_lt, nc_le, if_true, if_false, Option.bind_some, wr_def, and_true, true_and, and_false, false_and, or_true, true_or, or_false, false_or, not_true, not_false_eq_true, not_true_eq_false, ite_true, ite_false, Nat.zero_add, Nat.add_zero, Int.add_zero, Int.zero_add, Int.sub_zero, up_eq, up_ne, up_i, up_j, h1], by simp (disch := omega) only [j_0, j_1, j_2, j_3, j_4, j_5, j_6, j_8, j_9, j_16, j_20, j_24, j_33, j_48, j_49, j_57, j_58, j_82, j_83, j_100, j_131, j_179, j_227, j_275, j_512, j_825, j_999, j_1000, j_9999, j_10000, j_11000, j_65536, j_m1, jI_add, jI_sub, jI_mul, jI_neg, nca_9, nca_33, nca_58, nca_83, nca_131, nca_179, nca_227, nca_825, nca_4, nca_24, nca_275, ncb_1, ncb_275, ncb_24, nc_1add, Int.toNat_natCast, tz_0, tz_1, tz_2, tz_3, tz_4, tz_5, tz_6, tz_8, tz_9, tz_16, tz_20, tz_24, tz_33, tz_48, tz_49, tz_57, tz_58, tz_82, tz_83, tz_100, tz_131, tz_179, tz_227, tz_275, tz_512, tz_825, tz_999, tz_1000, tz_9999, tz_10000, tz_11000, tz_65536, nc_sub1, i_lt, n_lt, i_eq, n_eq, jI_natc, jI_nat, ck_ok, nc_lt, nc_le, if_true, if_false, Option.bind_some, wr_def, and_true, true_and, and_false, false_and, or_true, true_or, or_false, false_or, not_true, not_false_eq_true, not_true_eq_false, ite_true, ite_false, Nat.zero_add, Nat.add_zero, Int.add_zero, Int.zero_add, Int.sub_zero, up_eq, up_ne, up_i, up_j, h2]⟩
theorem f_leaveOnly {n : Nat} {f l : Nat → Int} {a b : Int} (hn : n ≤ 7) (hf : ∀ r, r < n → 0 ≤ f r ∧ f r ≤ 12000 ∧ -1 ≤ l r ∧ l r ≤ 9999) (hab : 0 ≤ a ∧ a < 11000 ∧ 0 ≤ b ∧ b < 11000) : ∀ (m r : Nat) (f' l' : Nat → Int) (μ : mM), r + m = n → rwM n f' l' μ → (∀ r', r' < r → f' r' = mxI (f r') a ∧ l' r' = mnI (l r') b) → (∀ r', r ≤ r' → f' r' = f r' ∧ l' r' = l r') → ∃ μ', r_X4_leaveOnly_2 (jI a) (jI b) (jI (r : Int)) μ = some (0, μ') ∧ rwM n (fun r => mxI (f r) a) (fun r => mnI (l r) b) μ' ∧ fr4 μ μ' := by
  intro m
  induction m with
  | zero =>
    intro r f' l' μ hr hM h1 h2
    refine ⟨μ, ?_, ⟨hM.1, fun r' hr' => ?_⟩, fr4.r μ⟩
    · rw [e_X4_leaveOnly_2, hM.1]
      simp (disch := omega) only [j_0, j_1, j_2, j_3, j_4, j_5, j_6, j_8, j_9, j_16, j_20, j_24, j_33, j_48, j_49, j_57, j_58, j_82, j_83, j_100, j_131, j_179, j_227, j_275, j_512, j_825, j_999, j_1000, j_9999, j_10000, j_11000, j_65536, j_m1, jI_add, jI_sub, jI_mul, jI_neg, nca_9, nca_33, nca_58, nca_83, nca_131, nca_179, nca_227, nca_825, nca_4, nca_24, nca_275, ncb_1, ncb_275, ncb_24, nc_1add, Int.toNat_natCast, tz_0, tz_1, tz_2, tz_3, tz_4, tz_5, tz_6, tz_8, tz_9, tz_16, tz_20, tz_24, tz_33, tz_48, tz_49, tz_57, tz_58, tz_82, tz_83, tz_100, tz_131, tz_179, tz_227, tz_275, tz_512, tz_825, tz_999, tz_1000, tz_9999, tz_10000, tz_11000, tz_65536, nc_sub1, i_lt, n_lt, i_eq, n_eq, jI_natc, jI_nat, ck_ok, nc_lt, nc_le, if_true, if_false, Option.bind_some, wr_def, and_true, true_and, and_false, false_and, or_true, true_or, or_false, false_or, not_true, not_false_eq_true, not_true_eq_false, ite_true, ite_false, Nat.zero_add, Nat.add_zero, Int.add_zero, Int.zero_add, Int.sub_zero, up_eq, up_ne, up_i, up_j]
    · have := hM.2 r' hr'
      rw [(h1 r' (by omega)).1, (h1 r' (by omega)).2] at this
      exact this
  | succ m ih =>
    intro r f' l' μ hr hM h1 h2
    have hrn : r < n := by omega
    obtain ⟨m1, m2⟩ := hM.2 r hrn
    rw [(h2 r (Nat.le_refl _)).1] at m1
    rw [(h2 r (Nat.le_refl _)).2] at m2
    have hb := hf r hrn
    have hx := f_max (a := f r) (b := a) (by omega) μ
    have hm := f_min (a := l r) (b := b) (by omega) (mm_up μ 42 0 r (jI (mxI (f r) a)))
    obtain ⟨μ', a1, a2, a3⟩ := ih (r + 1) (upI f' r (mxI (f r) a)) (upI l' r (mnI (l r) b)) (mm_up (mm_up μ 42 0 r (jI (mxI (f r) a))) 43 0 r (jI (mnI (l r) b))) (by omega) ⟨by simp (disch := omega) only [j_0, j_1, j_2, j_3, j_4, j_5, j_6, j_8, j_9, j_16, j_20, j_24, j_33, j_48, j_49, j_57, j_58, j_82, j_83, j_100, j_131, j_179, j_227, j_275, j_512, j_825, j_999, j_1000, j_9999, j_10000, j_11000, j_65536, j_m1, jI_add, jI_sub, jI_mul, jI_neg, nca_9, nca_33, nca_58, nca_83, nca_131, nca_179, nca_227, nca_825, nca_4, nca_24, nca_275, ncb_1, ncb_275, ncb_24, nc_1add, Int.toNat_natCast, tz_0, tz_1, tz_2, tz_3, tz_4, tz_5, tz_6, tz_8, tz_9, tz_16, tz_20, tz_24, tz_33, tz_48, tz_49, tz_57, tz_58, tz_82, tz_83, tz_100, tz_131, tz_179, tz_227, tz_275, tz_512, tz_825, tz_999, tz_1000, tz_9999, tz_10000, tz_11000, tz_65536, nc_sub1, i_lt, n_lt, i_eq, n_eq, jI_natc, jI_nat, ck_ok, nc_lt, nc_le, if_true, if_false, Option.bind_some, wr_def, and_true, true_and, and_false, false_and, or_true, true_or, or_false, false_or, not_true, not_false_eq_true, not_true_eq_false, ite_true, ite_false, Nat.zero_add, Nat.add_zero, Int.add_zero, Int.zero_add, Int.sub_zero, up_eq, up_ne, up_i, up_j, hM.1], fun r' hr' => by
        by_cases c : r' = r
        · subst c
          rw [upI_eq, upI_eq]
          exact ⟨by simp (disch := omega) only [j_0, j_1, j_2, j_3, j_4, j_5, j_6, j_8, j_9, j_16, j_20, j_24, j_33, j_48, j_49, j_57, j_58, j_82, j_83, j_100, j_131, j_179, j_227, j_275, j_512, j_825, j_999, j_1000, j_9999, j_10000, j_11000, j_65536, j_m1, jI_add, jI_sub, jI_mul, jI_neg, nca_9, nca_33, nca_58, nca_83, nca_131, nca_179, nca_227, nca_825, nca_4, nca_24, nca_275, ncb_1, ncb_275, ncb_24, nc_1add, Int.toNat_natCast, tz_0, tz_1, tz_2, tz_3, tz_4, tz_5, tz_6, tz_8, tz_9, tz_16, tz_20, tz_24, tz_33, tz_48, tz_49, tz_57, tz_58, tz_82, tz_83, tz_100, tz_131, tz_179, tz_227, tz_275, tz_512, tz_825, tz_999, tz_1000, tz_9999, tz_10000, tz_11000, tz_65536, nc_sub1, i_lt, n_lt, i_eq, n_eq, jI_natc, jI_nat, ck_ok, nc_lt, nc_le, if_true, if_false, Option.bind_some, wr_def, and_true, true_and, and_false, false_and, or_true, true_or, or_false, false_or, not_true, not_false_eq_true, not_true_eq_false, ite_true, ite_false, Nat.zero_add, Nat.add_zero, Int.add_zero, Int.zero_add, Int.sub_zero, up_eq, up_ne, up_i, up_j], by simp (disch := omega) only [j_0, j_1, j_2, j_3, j_4, j_5, j_6, j_8, j_9, j_16, j_20, j_24, j_33, j_48, j_49, j_57, j_58, j_82, j_83, j_100, j_131, j_179, j_227, j_275, j_512, j_825, j_999, j_1000, j_9999, j_10000, j_11000, j_65536, j_m1, jI_add, jI_sub, jI_mul, jI_neg, nca_9, nca_33, nca_58, nca_83, nca_131, nca_179, nca_227, nca_825, nca_4, nca_24, nca_275, ncb_1, ncb_275, ncb_24, nc_1add, Int.toNat_natCast, tz_0, tz_1, tz_2, tz_3, tz_4, tz_5, tz_6, tz_8, tz_9, tz_16, tz_20, tz_24, tz_33, tz_48, tz_49, tz_57, tz_58, tz_82, tz_83, tz_100, tz_131, tz_179, tz_227, tz_275, tz_512, tz_825, tz_999, tz_1000, tz_9999, tz_10000, tz_11000, tz_65536, nc_sub1, i_lt, n_lt, i_eq, n_eq, jI_natc, jI_nat, ck_ok, nc_lt, nc_le, if_true, if_false, Option.bind_some, wr_def, and_true, true_and, and_false, false_and, or_true, true_or, or_false, false_or, not_true, not_false_eq_true, not_true_eq_false, ite_true, ite_false, Nat.zero_add, Nat.add_zero, Int.add_zero, Int.zero_add, Int.sub_zero, up_eq, up_ne, up_i, up_j]⟩
        · obtain ⟨q1, q2⟩ := hM.2 r' hr'
          rw [upI_ne c, upI_ne c]
          exact ⟨by simp (disch := omega) only [j_0, j_1, j_2, j_3, j_4, j_5, j_6, j_8, j_9, j_16, j_20, j_24, j_33, j_48, j_49, j_57, j_58, j_82, j_83, j_100, j_131, j_179, j_227, j_275, j_512, j_825, j_999, j_1000, j_9999, j_10000, j_11000, j_65536, j_m1, jI_add, jI_sub, jI_mul, jI_neg, nca_9, nca_33, nca_58, nca_83, nca_131, nca_179, nca_227, nca_825, nca_4, nca_24, nca_275, ncb_1, ncb_275, ncb_24, nc_1add, Int.toNat_natCast, tz_0, tz_1, tz_2, tz_3, tz_4, tz_5, tz_6, tz_8, tz_9, tz_16, tz_20, tz_24, tz_33, tz_48, tz_49, tz_57, tz_58, tz_82, tz_83, tz_100, tz_131, tz_179, tz_227, tz_275, tz_512, tz_825, tz_999, tz_1000, tz_9999, tz_10000, tz_11000, tz_65536, nc_sub1, i_lt, n_lt, i_eq, n_eq, jI_natc, jI_nat, ck_ok, nc_lt, nc_le, if_true, if_false, Option.bind_some, wr_def, and_true, true_and, and_false, false_and, or_true, true_or, or_false, false_or, not_true, not_false_eq_true, not_true_eq_false, ite_true, ite_false, Nat.zero_add, Nat.add_zero, Int.add_zero, Int.zero_add, Int.sub_zero, up_eq, up_ne, up_i, up_j, q1], by simp (disch := omega) only [j_0, j_1, j_2, j_3, j_4, j_5, j_6, j_8, j_9, j_16, j_20, j_24, j_33, j_48, j_49, j_57, j_58, j_82, j_83, j_100, j_131, j_179, j_227, j_275, j_512, j_825, j_999, j_1000, j_9999, j_10000, j_11000, j_65536, j_m1, jI_add, jI_sub, jI_mul, jI_neg, nca_9, nca_33, nca_58, nca_83, nca_131, nca_179, nca_227, nca_825, nca_4, nca_24, nca_275, ncb_1, ncb_275, ncb_24, nc_1add, Int.toNat_natCast, tz_0, tz_1, tz_2, tz_3, tz_4, tz_5, tz_6, tz_8, tz_9, tz_16, tz_20, tz_24, tz_33, tz_48, tz_49, tz_57, tz_58, tz_82, tz_83, tz_100, tz_131, tz_179, tz_227, tz_275, tz_512, tz_825, tz_999, tz_1000, tz_9999, tz_10000, tz_11000, tz_65536, nc_sub1, i_lt, n_lt, i_eq, n_eq, jI_natc, jI_nat, ck_ok, nc_lt, nc_le, if_true, if_false, Option.bind_some, wr_def, and_true, true_and, and_false, false_and, or_true, true_or, or_false, false_or, not_true, not_false_eq_true, not_true_eq_false, ite_true, ite_false, Nat.zero_add, Nat.add_zero, Int.add_zero, Int.zero_add, Int.sub_zero, up_eq, up_ne, up_i, up_j, q2]⟩⟩ (fun r' hr' => by
        by_cases c : r' = r
        · subst c
          rw [upI_eq, upI_eq]
          exact ⟨rfl, rfl⟩
        · rw [upI_ne c, upI_ne c]
          exact h1 r' (by omega)) (fun r' hr' => by
        rw [upI_ne (by omega), upI_ne (by omega)]
        exact h2 r' (by omega))
    refine ⟨μ', ?_, a2, ((fr4.up (by omega)).tr (fr4.up (by omega))).tr a3⟩
    rw [← a1, e_X4_leaveOnly_2, hM.1]
    simp (disch := omega) only [j_0, j_1, j_2, j_3, j_4, j_5, j_6, j_8, j_9, j_16, j_20, j_24, j_33, j_48, j_49, j_57, j_58, j_82, j_83, j_100, j_131, j_179, j_227, j_275, j_512, j_825, j_999, j_1000, j_9999, j_10000, j_11000, j_65536, j_m1, jI_add, jI_sub, jI_mul, jI_neg, nca_9, nca_33, nca_58, nca_83, nca_131, nca_179, nca_227, nca_825, nca_4, nca_24, nca_275, ncb_1, ncb_275, ncb_24, nc_1add, Int.toNat_natCast, tz_0, tz_1, tz_2, tz_3, tz_4, tz_5, tz_6, tz_8, tz_9, tz_16, tz_20, tz_24, tz_33, tz_48, tz_49, tz_57, tz_58, tz_82, tz_83, tz_100, tz_131, tz_179, tz_227, tz_275, tz_512, tz_825, tz_999, tz_1000, tz_9999, tz_10000, tz_11000, tz_65536, nc_sub1, i_lt, n_lt, i_eq, n_eq, jI_natc, jI_nat, ck_ok, nc_lt, nc_le, if_true, if_false, Option.bind_some, wr_def, and_true, true_and, and_false, false_and, or_true, true_or, or_false, false_or, not_true, not_false_eq_true, not_true_eq_false, ite_true, ite_false, Nat.zero_add, Nat.add_zero, Int.add_zero, Int.zero_add, Int.sub_zero, up_eq, up_ne, up_i, up_j, m1, m2, hx, hm]
theorem so_s {σ : sT} {ν : qT} {z : Int} {n : Nat} : so σ ν z (n + 1) = true ↔ so σ ν z n = true ∧ (if qB σ ν n ≤ z ∧ z ≤ qE σ ν n then (1 : Int) else 0) = qW ν n := by
  rw [so, Bool.and_eq_true, decide_eq_true_eq]
theorem rwI_leave {σ : sT} {ν : qT} {i n : Nat} {f l : Nat → Int} (h : rwI σ ν i n f l) (hw : qW ν i = 1) (hb : 0 ≤ qB σ ν i ∧ qB σ ν i ≤ qE σ ν i ∧ qE σ ν i < 11000) : rwI σ ν (i + 1) n (fun r => mxI (f r) (qB σ ν i)) (fun r => mnI (l r) (qE σ ν i)) := by
  obtain ⟨h1, h2, h3, h4⟩ := h
  have io : ∀ r z, (mxI (f r) (qB σ ν i) ≤ z ∧ z ≤ mnI (l r) (qE σ ν i)) ↔ (f r ≤ z ∧ z ≤ l r ∧ qB σ ν i ≤ z ∧ z ≤ qE σ ν i) := by
    intro r z
    have := mx_bd (a := f r) (b := qB σ ν i)
    have := mn_bd (a := l r) (b := qE σ ν i)
    omega
  refine ⟨by omega, fun r hr => ?_, fun r r' z hr hr' g1 g2 g3 g4 => ?_, fun z => ?_⟩
  · have := h2 r hr
    have := mx_bd (a := f r) (b := qB σ ν i)
    have := mn_bd (a := l r) (b := qE σ ν i)
    show 0 ≤ mxI (f r) (qB σ ν i) ∧ mxI (f r) (qB σ ν i) ≤ 12000 ∧ -1 ≤ mnI (l r) (qE σ ν i) ∧ mnI (l r) (qE σ ν i) ≤ 9999
    omega
  · have q1 := (io r z).mp ⟨g1, g2⟩
    have q2 := (io r' z).mp ⟨g3, g4⟩
    exact h3 r r' z hr hr' q1.1 q1.2.1 q2.1 q2.2.1
  · rw [so_s, hw]
    constructor
    · rintro ⟨r, hr, g1, g2⟩
      have q1 := (io r z).mp ⟨g1, g2⟩
      have q2 := (h4 z).mp ⟨r, hr, q1.1, q1.2.1⟩
      exact ⟨q2.1, q2.2.1, q2.2.2, by rw [if_pos ⟨q1.2.2.1, q1.2.2.2⟩]⟩
    · rintro ⟨g1, g2, g3, g4⟩
      obtain ⟨r, hr, q1, q2⟩ := (h4 z).mpr ⟨g1, g2, g3⟩
      have q3 : qB σ ν i ≤ z ∧ z ≤ qE σ ν i := by
        by_cases c : qB σ ν i ≤ z ∧ z ≤ qE σ ν i
        · exact c
        · rw [if_neg c] at g4; omega
      exact ⟨r, hr, (io r z).mpr ⟨q1, q2, q3.1, q3.2⟩⟩
def cutL (f l : Nat → Int) (a b : Int) (r : Nat) : Int := if f r ≤ b ∧ a ≤ l r then a - 1 else l r
theorem f_cutOut {n : Nat} {f l : Nat → Int} {a b : Int} (hn : n ≤ 6) (hf : ∀ r, r < n → 0 ≤ f r ∧ f r ≤ 12000 ∧ -1 ≤ l r ∧ l r ≤ 9999) (hab : 0 ≤ a ∧ a ≤ b ∧ b < 11000) (hu : ∀ r r', r < n → r' < n → f r ≤ b → b < l r → f r' ≤ b → b < l r' → r = r') : ∀ (m r t : Nat) (f' l' : Nat → Int) (x5 : mV) (μ : mM), r + m = n → rwM (n + t) f' l' μ → (∀ r', r' < n → f' r' = f r') → (∀ r', r' < r → l' r' = cutL f l a b r') → (∀ r', r ≤ r' → r' < n → l' r' = l r') → ((t = 0 ∧ ∀ r', r' < r → ¬ (f r' ≤ b ∧ b < l r')) ∨ (t = 1 ∧ ∃ r0, r0 < r ∧ f r0 ≤ b ∧ b < l r0 ∧ f' n = b + 1 ∧ l' n = l r0)) →
    ∃ μ' f'' l'' t', r_X4_cutOut_8 (jI a) (jI b) (jI (n : Int)) (jI (r : Int)) x5 μ = some (0, μ') ∧ fr4 μ μ' ∧ rwM (n + t') f'' l'' μ' ∧ (∀ r', r' < n → f'' r' = f r') ∧ (∀ r', r' < n → l'' r' = cutL f l a b r') ∧ ((t' = 0 ∧ ∀ r', r' < n → ¬ (f r' ≤ b ∧ b < l r')) ∨ (t' = 1 ∧ ∃ r0, r0 < n ∧ f r0 ≤ b ∧ b < l r0 ∧ f'' n = b + 1 ∧ l'' n = l r0)) := by
  intro m
  induction m with
  | zero =>
    intro r t f' l' x5 μ hr hM h1 h2 h3 h4
    have e : r = n := by omega
    subst e
    refine ⟨μ, f', l', t, ?_, fr4.r μ, hM, h1, h2, h4⟩
    rw [e_X4_cutOut_8]
    simp (disch := omega) only [j_0, j_1, j_2, j_3, j_4, j_5, j_6, j_8, j_9, j_16, j_20, j_24, j_33, j_48, j_49, j_57, j_58, j_82, j_83, j_100, j_131, j_179, j_227, j_275, j_512, j_825, j_999, j_1000, j_9999, j_10000, j_11000, j_65536, j_m1, jI_add, jI_sub, jI_mul, jI_neg, nca_9, nca_33, nca_58, nca_83, nca_131, nca_179, nca_227, nca_825, nca_4, nca_24, nca_275, ncb_1, ncb_275, ncb_24, nc_1add, Int.toNat_natCast, tz_0, tz_1, tz_2, tz_3, tz_4, tz_5, tz_6, tz_8, tz_9, tz_16, tz_20, tz_24, tz_33, tz_48, tz_49, tz_57, tz_58, tz_82, tz_83, tz_100, tz_131, tz_179, tz_227, tz_275, tz_512, tz_825, tz_999, tz_1000, tz_9999, tz_10000, tz_11000, tz_65536, nc_sub1, i_lt, n_lt, i_eq, n_eq, jI_natc, jI_nat, ck_ok, nc_lt, nc_le, if_true, if_false, Option.bind_some, wr_def, and_true, true_and, and_false, false_and, or_true, true_or, or_false, false_or, not_true, not_false_eq_true, not_true_eq_false, ite_true, ite_false, Nat.zero_add, Nat.add_zero, Int.add_zero, Int.zero_add, Int.sub_zero, up_eq, up_ne, up_i, up_j]
  | succ m ih =>
    intro r t f' l' x5 μ hr hM h1 h2 h3 h4
    have hrn : r < n := by omega
    obtain ⟨m1, m2⟩ := hM.2 r (by omega)
    rw [h1 r hrn] at m1
    rw [h3 r (Nat.le_refl _) hrn] at m2
    have hb := hf r hrn
    by_cases c : f r ≤ b ∧ a ≤ l r
    · have hc : cutL f l a b r = a - 1 := by unfold cutL; rw [if_pos c]
      have hM2 : rwM (n + t) f' (upI l' r (a - 1)) (mm_up μ 43 0 r (jI (a - 1))) := ⟨by simp (disch := omega) only [j_0, j_1, j_2, j_3, j_4, j_5, j_6, j_8, j_9, j_16, j_20, j_24, j_33, j_48, j_49, j_57, j_58, j_82, j_83, j_100, j_131, j_179, j_227, j_275, j_512, j_825, j_999, j_1000, j_9999, j_10000, j_11000, j_65536, j_m1, jI_add, jI_sub, jI_mul, jI_neg, nca_9, nca_33, nca_58, nca_83, nca_131, nca_179, nca_227, nca_825, nca_4, nca_24, nca_275, ncb_1, ncb_275, ncb_24, nc_1add, Int.toNat_natCast, tz_0, tz_1, tz_2, tz_3, tz_4, tz_5, tz_6, tz_8, tz_9, tz_16, tz_20, tz_24, tz_33, tz_48, tz_49, tz_57, tz_58, tz_82, tz_83, tz_100, tz_131, tz_179, tz_227, tz_275, tz_512, tz_825, tz_999, tz_1000, tz_9999, tz_10000, tz_11000, tz_65536, nc_sub1, i_lt, n_lt, i_eq, n_eq, jI_natc, jI_nat, ck_ok, nc_lt, nc_le, if_true, if_false, Option.bind_some, wr_def, and_true, true_and, and_false, false_and, or_true, true_or, or_false, false_or, not_true, not_false_eq_true, not_true_eq_false, ite_true, ite_false, Nat.zero_add, Nat.add_zero, Int.add_zero, Int.zero_add, Int.sub_zero, up_eq, up_ne, up_i, up_j, hM.1], fun r' hr' => by
        obtain ⟨q1, q2⟩ := hM.2 r' hr'
        by_cases d : r' = r
        · subst d; rw [upI_eq]; exact ⟨by simp (disch := omega) only [j_0, j_1, j_2, j_3, j_4, j_5, j_6, j_8, j_9, j_16, j_20, j_24, j_33, j_48, j_49, j_57, j_58, j_82, j_83, j_100, j_131, j_179, j_227, j_275, j_512, j_825, j_999, j_1000, j_9999, j_10000, j_11000, j_65536, j_m1, jI_add, jI_sub, jI_mul, jI_neg, nca_9, nca_33, nca_58, nca_83, nca_131, nca_179, nca_227, nca_825, nca_4, nca_24, nca_275, ncb_1, ncb_275, ncb_24, nc_1add, Int.toNat_natCast, tz_0, tz_1, tz_2, tz_3, tz_4, tz_5, tz_6, tz_8, tz_9, tz_16, tz_20, tz_24, tz_33, tz_48, tz_49, tz_57, tz_58, tz_82, tz_83, tz_100, tz_131, tz_179, tz_227, tz_275, tz_512, tz_825, tz_999, tz_1000, tz_9999, tz_10000, tz_11000, tz_65536, nc_sub1, i_lt, n_lt, i_eq, n_eq, jI_natc, jI_nat, ck_ok, nc_lt, nc_le, if_true, if_false, Option.bind_some, wr_def, and_true, true_and, and_false, false_and, or_true, true_or, or_false, false_or, not_true, not_false_eq_true, not_true_eq_false, ite_true, ite_false, Nat.zero_add, Nat.add_zero, Int.add_zero, Int.zero_add, Int.sub_zero, up_eq, up_ne, up_i, up_j, q1], by simp (disch := omega) only [j_0, j_1, j_2, j_3, j_4, j_5, j_6, j_8, j_9, j_16, j_20, j_24, j_33, j_48, j_49, j_57, j_58, j_82, j_83, j_100, j_131, j_179, j_227, j_275, j_512, j_825, j_999, j_1000, j_9999, j_10000, j_11000, j_65536, j_m1, jI_add, jI_sub, jI_mul, jI_neg, nca_9, nca_33, nca_58, nca_83, nca_131, nca_179, nca_227, nca_825, nca_4, nca_24, nca_275, ncb_1, ncb_275, ncb_24, nc_1add, Int.toNat_natCast, tz_0, tz_1, tz_2, tz_3, tz_4, tz_5, tz_6, tz_8, tz_9, tz_16, tz_20, tz_24, tz_33, tz_48, tz_49, tz_57, tz_58, tz_82, tz_83, tz_100, tz_131, tz_179, tz_227, tz_275, tz_512, tz_825, tz_999, tz_1000, tz_9999, tz_10000, tz_11000, tz_65536, nc_sub1, i_lt, n_lt, i_eq, n_eq, jI_natc, jI_nat, ck_ok, nc_lt, nc_le, if_true, if_false, Option.bind_some, wr_def, and_true, true_and, and_false, false_and, or_true, true_or, or_false, false_or, not_true, not_false_eq_true, not_true_eq_false, ite_true, ite_false, Nat.zero_add, Nat.add_zero, Int.add_zero, Int.zero_add, Int.sub_zero, up_eq, up_ne, up_i, up_j]⟩
        · rw [upI_ne d]; exact ⟨by simp (disch := omega) only [j_0, j_1, j_2, j_3, j_4, j_5, j_6, j_8, j_9, j_16, j_20, j_24, j_33, j_48, j_49, j_57, j_58, j_82, j_83, j_100, j_131, j_179, j_227, j_275, j_512, j_825, j_999, j_1000, j_9999, j_10000, j_11000, j_65536, j_m1, jI_add, jI_sub, jI_mul, jI_neg, nca_9, nca_33, nca_58, nca_83, nca_131, nca_179, nca_227, nca_825, nca_4, nca_24, nca_275, ncb_1, ncb_275, ncb_24, nc_1add, Int.toNat_natCast, tz_0, tz_1, tz_2, tz_3, tz_4, tz_5, tz_6, tz_8, tz_9, tz_16, tz_20, tz_24, tz_33, tz_48, tz_49, tz_57, tz_58, tz_82, tz_83, tz_100, tz_131, tz_179, tz_227, tz_275, tz_512, tz_825, tz_999, tz_1000, tz_9999, tz_10000, tz_11000, tz_65536, nc_sub1, i_lt, n_lt, i_eq, n_eq, jI_natc, jI_nat, ck_ok, nc_lt, nc_le, if_true, if_false, Option.bind_some, wr_def, and_true, true_and, and_false, false_and, or_true, true_or, or_false, false_or, not_true, not_false_eq_true, not_true_eq_false, ite_true, ite_false, Nat.zero_add, Nat.add_zero, Int.add_zero, Int.zero_add, Int.sub_zero, up_eq, up_ne, up_i, up_j, q1], by simp (disch := omega) only [j_0, j_1, j_2, j_3, j_4, j_5, j_6, j_8, j_9, j_16, j_20, j_24, j_33, j_48, j_49, j_57, j_58, j_82, j_83, j_100, j_131, j_179, j_227, j_275, j_512, j_825, j_999, j_1000, j_9999, j_10000, j_11000, j_65536, j_m1, jI_add, jI_sub, jI_mul, jI_neg, nca_9, nca_33, nca_58, nca_83, nca_131, nca_179, nca_227, nca_825, nca_4, nca_24, nca_275, ncb_1, ncb_275, ncb_24, nc_1add, Int.toNat_natCast, tz_0, tz_1, tz_2, tz_3, tz_4, tz_5, tz_6, tz_8, tz_9, tz_16, tz_20, tz_24, tz_33, tz_48, tz_49, tz_57, tz_58, tz_82, tz_83, tz_100, tz_131, tz_179, tz_227, tz_275, tz_512, tz_825, tz_999, tz_1000, tz_9999, tz_10000, tz_11000, tz_65536, nc_sub1, i_lt, n_lt, i_eq, n_eq, jI_natc, jI_nat, ck_ok, nc_lt, nc_le, if_true, if_false, Option.bind_some, wr_def, and_true, true_and, and_false, false_and, or_true, true_or, or_false, false_or, not_true, not_false_eq_true, not_true_eq_false, ite_true, ite_false, Nat.zero_add, Nat.add_zero, Int.add_zero, Int.zero_add, Int.sub_zero, up_eq, up_ne, up_i, up_j, q2]⟩⟩
      by_cases d : b < l r
      · have ht : t = 0 := by
          rcases h4 with ⟨e, -⟩ | ⟨-, r0, k1, k2, k3, -⟩
          · exact e
          · have := hu r0 r (by omega) hrn k2 k3 c.1 d
            omega
        subst ht
        obtain ⟨μ2, a1, a2, a3⟩ := f_addRow (n := n) hM2 hn (b + 1) (l r)
        obtain ⟨μ', f'', l'', t', b1, b2, b3⟩ := ih (r + 1) 1 (upI f' n (b + 1)) (upI (upI l' r (a - 1)) n (l r)) (vi (jI (l r))) μ2 (by omega) a2 (fun r' hr' => by rw [upI_ne (by omega)]; exact h1 r' hr') (fun r' hr' => by
          rw [upI_ne (by omega)]
          by_cases e : r' = r
          · subst e; rw [upI_eq, hc]
          · rw [upI_ne e]; exact h2 r' (by omega)) (fun r' g1 g2 => by rw [upI_ne (by omega), upI_ne (by omega)]; exact h3 r' (by omega) g2) (Or.inr ⟨rfl, r, by omega, c.1, d, upI_eq, upI_eq⟩)
        refine ⟨μ', f'', l'', t', ?_, ((fr4.up (by omega)).tr a3).tr b2, b3⟩
        rw [← b1, e_X4_cutOut_8]
        simp (disch := omega) only [j_0, j_1, j_2, j_3, j_4, j_5, j_6, j_8, j_9, j_16, j_20, j_24, j_33, j_48, j_49, j_57, j_58, j_82, j_83, j_100, j_131, j_179, j_227, j_275, j_512, j_825, j_999, j_1000, j_9999, j_10000, j_11000, j_65536, j_m1, jI_add, jI_sub, jI_mul, jI_neg, nca_9, nca_33, nca_58, nca_83, nca_131, nca_179, nca_227, nca_825, nca_4, nca_24, nca_275, ncb_1, ncb_275, ncb_24, nc_1add, Int.toNat_natCast, tz_0, tz_1, tz_2, tz_3, tz_4, tz_5, tz_6, tz_8, tz_9, tz_16, tz_20, tz_24, tz_33, tz_48, tz_49, tz_57, tz_58, tz_82, tz_83, tz_100, tz_131, tz_179, tz_227, tz_275, tz_512, tz_825, tz_999, tz_1000, tz_9999, tz_10000, tz_11000, tz_65536, nc_sub1, i_lt, n_lt, i_eq, n_eq, jI_natc, jI_nat, ck_ok, nc_lt, nc_le, if_true, if_false, Option.bind_some, wr_def, and_true, true_and, and_false, false_and, or_true, true_or, or_false, false_or, not_true, not_false_eq_true, not_true_eq_false, ite_true, ite_false, Nat.zero_add, Nat.add_zero, Int.add_zero, Int.zero_add, Int.sub_zero, up_eq, up_ne, up_i, up_j, m1, m2, a1]
      · obtain ⟨μ', f'', l'', t', b1, b2, b3⟩ := ih (r + 1) t f' (upI l' r (a - 1)) (vi (jI (l r))) (mm_up μ 43 0 r (jI (a - 1))) (by omega) hM2 h1 (fun r' hr' => by
          by_cases e : r' = r
          · subst e; rw [upI_eq, hc]
          · rw [upI_ne e]; exact h2 r' (by omega)) (fun r' g1 g2 => by rw [upI_ne (by omega)]; exact h3 r' (by omega) g2) (by
          rcases h4 with ⟨e, k⟩ | ⟨e, r0, k1, k2, k3, k4, k5⟩
          · refine Or.inl ⟨e, fun r' hr' => ?_⟩
            by_cases e' : r' = r
            · rw [e']; exact fun q => d q.2
            · exact k r' (by omega)
          · exact Or.inr ⟨e, r0, by omega, k2, k3, k4, by rw [upI_ne (by omega)]; exact k5⟩)
        refine ⟨μ', f'', l'', t', ?_, (fr4.up (by omega)).tr b2, b3⟩
        rw [← b1, e_X4_cutOut_8]
        simp (disch := omega) only [j_0, j_1, j_2, j_3, j_4, j_5, j_6, j_8, j_9, j_16, j_20, j_24, j_33, j_48, j_49, j_57, j_58, j_82, j_83, j_100, j_131, j_179, j_227, j_275, j_512, j_825, j_999, j_1000, j_9999, j_10000, j_11000, j_65536, j_m1, jI_add, jI_sub, jI_mul, jI_neg, nca_9, nca_33, nca_58, nca_83, nca_131, nca_179, nca_227, nca_825, nca_4, nca_24, nca_275, ncb_1, ncb_275, ncb_24, nc_1add, Int.toNat_natCast, tz_0, tz_1, tz_2, tz_3, tz_4, tz_5, tz_6, tz_8, tz_9, tz_16, tz_20, tz_24, tz_33, tz_48, tz_49, tz_57, tz_58, tz_82, tz_83, tz_100, tz_131, tz_179, tz_227, tz_275, tz_512, tz_825, tz_999, tz_1000, tz_9999, tz_10000, tz_11000, tz_65536, nc_sub1, i_lt, n_lt, i_eq, n_eq, jI_natc, jI_nat, ck_ok, nc_lt, nc_le, if_true, if_false, Option.bind_some, wr_def, and_true, true_and, and_false, false_and, or_true, true_or, or_false, false_or, not_true, not_false_eq_true, not_true_eq_false, ite_true, ite_false, Nat.zero_add, Nat.add_zero, Int.add_zero, Int.zero_add, Int.sub_zero, up_eq, up_ne, up_i, up_j, m1, m2]
    · have hc : cutL f l a b r = l r := by unfold cutL; rw [if_neg c]
      obtain ⟨μ', f'', l'', t', b1, b2, b3⟩ := ih (r + 1) t f' l' x5 μ (by omega) hM h1 (fun r' hr' => by
        by_cases e : r' = r
        · rw [e, hc]; exact h3 r (Nat.le_refl _) hrn
        · exact h2 r' (by omega)) (fun r' g1 g2 => h3 r' (by omega) g2) (by
        rcases h4 with ⟨e, k⟩ | ⟨e, r0, k1, k⟩
        · refine Or.inl ⟨e, fun r' hr' => ?_⟩
          by_cases e' : r' = r
          · rw [e']; exact fun q => c ⟨q.1, by omega⟩
          · exact k r' (by omega)
        · exact Or.inr ⟨e, r0, by omega, k⟩)
      refine ⟨μ', f'', l'', t', ?_, b2, b3⟩
      rw [← b1, e_X4_cutOut_8]
      by_cases d : b < f r
      · simp (disch := omega) only [j_0, j_1, j_2, j_3, j_4, j_5, j_6, j_8, j_9, j_16, j_20, j_24, j_33, j_48, j_49, j_57, j_58, j_82, j_83, j_100, j_131, j_179, j_227, j_275, j_512, j_825, j_999, j_1000, j_9999, j_10000, j_11000, j_65536, j_m1, jI_add, jI_sub, jI_mul, jI_neg, nca_9, nca_33, nca_58, nca_83, nca_131, nca_179, nca_227, nca_825, nca_4, nca_24, nca_275, ncb_1, ncb_275, ncb_24, nc_1add, Int.toNat_natCast, tz_0, tz_1, tz_2, tz_3, tz_4, tz_5, tz_6, tz_8, tz_9, tz_16, tz_20, tz_24, tz_33, tz_48, tz_49, tz_57, tz_58, tz_82, tz_83, tz_100, tz_131, tz_179, tz_227, tz_275, tz_512, tz_825, tz_999, tz_1000, tz_9999, tz_10000, tz_11000, tz_65536, nc_sub1, i_lt, n_lt, i_eq, n_eq, jI_natc, jI_nat, ck_ok, nc_lt, nc_le, if_true, if_false, Option.bind_some, wr_def, and_true, true_and, and_false, false_and, or_true, true_or, or_false, false_or, not_true, not_false_eq_true, not_true_eq_false, ite_true, ite_false, Nat.zero_add, Nat.add_zero, Int.add_zero, Int.zero_add, Int.sub_zero, up_eq, up_ne, up_i, up_j, m1, m2]
      · simp (disch := omega) only [j_0, j_1, j_2, j_3, j_4, j_5, j_6, j_8, j_9, j_16, j_20, j_24, j_33, j_48, j_49, j_57, j_58, j_82, j_83, j_100, j_131, j_179, j_227, j_275, j_512, j_825, j_999, j_1000, j_9999, j_10000, j_11000, j_65536, j_m1, jI_add, jI_sub, jI_mul, jI_neg, nca_9, nca_33, nca_58, nca_83, nca_131, nca_179, nca_227, nca_825, nca_4, nca_24, nca_275, ncb_1, ncb_275, ncb_24, nc_1add, Int.toNat_natCast, tz_0, tz_1, tz_2, tz_3, tz_4, tz_5, tz_6, tz_8, tz_9, tz_16, tz_20, tz_24, tz_33, tz_48, tz_49, tz_57, tz_58, tz_82, tz_83, tz_100, tz_131, tz_179, tz_227, tz_275, tz_512, tz_825, tz_999, tz_1000, tz_9999, tz_10000, tz_11000, tz_65536, nc_sub1, i_lt, n_lt, i_eq, n_eq, jI_natc, jI_nat, ck_ok, nc_lt, nc_le, if_true, if_false, Option.bind_some, wr_def, and_true, true_and, and_false, false_and, or_true, true_or, or_false, false_or, not_true, not_false_eq_true, not_true_eq_false, ite_true, ite_false, Nat.zero_add, Nat.add_zero, Int.add_zero, Int.zero_add, Int.sub_zero, up_eq, up_ne, up_i, up_j, m1, m2]
theorem rwI_cut {σ : sT} {ν : qT} {i n t : Nat} {f l f' l' : Nat → Int} (h : rwI σ ν i n f l) (hw : qW ν i = 0) (hb : 0 ≤ qB σ ν i ∧ qB σ ν i ≤ qE σ ν i ∧ qE σ ν i < 11000) (h1 : ∀ r', r' < n → f' r' = f r') (h2 : ∀ r', r' < n → l' r' = cutL f l (qB σ ν i) (qE σ ν i) r') (h4 : (t = 0 ∧ ∀ r', r' < n → ¬ (f r' ≤ qE σ ν i ∧ qE σ ν i < l r')) ∨ (t = 1 ∧ ∃ r0, r0 < n ∧ f r0 ≤ qE σ ν i ∧ qE σ ν i < l r0 ∧ f' n = qE σ ν i + 1 ∧ l' n = l r0)) : rwI σ ν (i + 1) (n + t) f' l' := by
  obtain ⟨k1, k2, k3, k4⟩ := h
  generalize ha : qB σ ν i = a at *
  generalize hbb : qE σ ν i = b at *
  have io : ∀ r z, r < n → (f' r ≤ z ∧ z ≤ l' r ↔ (f r ≤ z ∧ z ≤ l r ∧ (z < a ∨ ¬ (f r ≤ b ∧ a ≤ l r)))) := by
    intro r z hr
    rw [h1 r hr, h2 r hr]
    unfold cutL
    by_cases c : f r ≤ b ∧ a ≤ l r
    · rw [if_pos c]; omega
    · rw [if_neg c]; omega
  refine ⟨by omega, fun r hr => ?_, fun r r' z hr hr' g1 g2 g3 g4 => ?_, fun z => ?_⟩
  · by_cases c : r < n
    · have := k2 r c
      rw [h1 r c, h2 r c]
      unfold cutL
      split <;> omega
    · rcases h4 with ⟨e, -⟩ | ⟨e, r0, q1, q2, q3, q4, q5⟩
      · omega
      · have : r = n := by omega
        rw [this, q4, q5]
        have := k2 r0 q1
        omega
  · have both : ∀ r r', r < n → r' = n → r' < n + t → f' r ≤ z → z ≤ l' r → f' r' ≤ z → z ≤ l' r' → False := by
      intro r r' e1 e2 e3 g1 g2 g3 g4
      rcases h4 with ⟨e, -⟩ | ⟨e, r0, q1, q2, q3, q4, q5⟩
      · omega
      · rw [e2, q4] at g3
        rw [e2, q5] at g4
        have w := (io r z e1).mp ⟨g1, g2⟩
        have := k3 r r0 z e1 q1 w.1 w.2.1 (by omega) g4
        subst this
        omega
    by_cases c : r < n
    · by_cases d : r' < n
      · have w := (io r z c).mp ⟨g1, g2⟩
        have w' := (io r' z d).mp ⟨g3, g4⟩
        exact k3 r r' z c d w.1 w.2.1 w'.1 w'.2.1
      · exact (both r r' c (by omega) hr' g1 g2 g3 g4).elim
    · by_cases d : r' < n
      · exact (both r' r d (by omega) hr g3 g4 g1 g2).elim
      · omega
  · rw [so_s, hw, ha, hbb]
    constructor
    · rintro ⟨r, hr, g1, g2⟩
      have core : ∃ r1, r1 < n ∧ f r1 ≤ z ∧ z ≤ l r1 ∧ ¬ (a ≤ z ∧ z ≤ b) := by
        by_cases c : r < n
        · have w := (io r z c).mp ⟨g1, g2⟩
          exact ⟨r, c, w.1, w.2.1, by omega⟩
        · rcases h4 with ⟨e, -⟩ | ⟨e, r0, q1, q2, q3, q4, q5⟩
          · omega
          · have : r = n := by omega
            rw [this, q4] at g1
            rw [this, q5] at g2
            exact ⟨r0, q1, by omega, g2, by omega⟩
      obtain ⟨r1, w1, w2, w3, w4⟩ := core
      have q2 := (k4 z).mp ⟨r1, w1, w2, w3⟩
      exact ⟨q2.1, q2.2.1, q2.2.2, by rw [if_neg w4]⟩
    · rintro ⟨g1, g2, g3, g4⟩
      obtain ⟨r, hr, q1, q2⟩ := (k4 z).mpr ⟨g1, g2, g3⟩
      have q3 : ¬ (a ≤ z ∧ z ≤ b) := by
        intro c
        rw [if_pos c] at g4; omega
      by_cases c : f r ≤ b ∧ a ≤ l r
      · by_cases d : z < a
        · exact ⟨r, by omega, (io r z hr).mpr ⟨q1, q2, Or.inl d⟩⟩
        · rcases h4 with ⟨e, k⟩ | ⟨e, r0, p1, p2, p3, p4, p5⟩
          · exact absurd ⟨c.1, by omega⟩ (k r hr)
          · have := k3 r r0 b hr p1 c.1 (by omega) p2 (by omega)
            subst this
            exact ⟨n, by omega, by rw [p4]; omega, by rw [p5]; exact q2⟩
      · exact ⟨r, by omega, (io r z hr).mpr ⟨q1, q2, Or.inr c⟩⟩
theorem fr4.st {σ : sT} {a : Nat} {μ μ' : mM} (h : fr4 μ μ') (hs : cSt σ a μ) : cSt σ a μ' := by
  unfold cSt
  rw [h.1 6 a (by omega), h.1 10 a (by omega), h.1 11 a (by omega), h.1 12 a (by omega), h.1 13 a (by omega), h.1 14 a (by omega), h.1 15 a (by omega)]
  exact hs
theorem fr4.se {ν : qT} {μ μ' : mM} (h : fr4 μ μ') (hs : cSee ν μ) : cSee ν μ' := by
  unfold cSee
  rw [h.2 0, h.1 40 0 (by omega), h.1 41 0 (by omega)]
  exact hs
theorem f_narrow {σ : sT} {ν : qT} {μ : mM} (h : cSt σ 0 μ) (hw : wf σ) (hS : cSee ν μ) (hs : wfS ν) : ∃ μ' n f l, f_X4_narrow [vr 4 0, vr 6 0] μ = some (0, μ') ∧ fr4 μ μ' ∧ rwM n f l μ' ∧ rwI σ ν (qN ν) n f l := by
  have hq := hs.1
  have key : ∀ (m i n : Nat) (f l : Nat → Int) (μ1 : mM), i + m = qN ν → fr4 μ μ1 → rwM n f l μ1 → rwI σ ν i n f l → ∃ μ' n f l, r_X4_narrow_15 0 (jI (i : Int)) μ1 = some (0, μ') ∧ fr4 μ μ' ∧ rwM n f l μ' ∧ rwI σ ν (qN ν) n f l := by
    intro m
    induction m with
    | zero =>
      intro i n f l μ1 hi hf hM hI
      have e : i = qN ν := by omega
      subst e
      refine ⟨μ1, n, f, l, ?_, hf, hM, hI⟩
      rw [e_X4_narrow_15, (hf.se hS).1]
      simp (disch := omega) only [j_0, j_1, j_2, j_3, j_4, j_5, j_6, j_8, j_9, j_16, j_20, j_24, j_33, j_48, j_49, j_57, j_58, j_82, j_83, j_100, j_131, j_179, j_227, j_275, j_512, j_825, j_999, j_1000, j_9999, j_10000, j_11000, j_65536, j_m1, jI_add, jI_sub, jI_mul, jI_neg, nca_9, nca_33, nca_58, nca_83, nca_131, nca_179, nca_227, nca_825, nca_4, nca_24, nca_275, ncb_1, ncb_275, ncb_24, nc_1add, Int.toNat_natCast, tz_0, tz_1, tz_2, tz_3, tz_4, tz_5, tz_6, tz_8, tz_9, tz_16, tz_20, tz_24, tz_33, tz_48, tz_49, tz_57, tz_58, tz_82, tz_83, tz_100, tz_131, tz_179, tz_227, tz_275, tz_512, tz_825, tz_999, tz_1000, tz_9999, tz_10000, tz_11000, tz_65536, nc_sub1, i_lt, n_lt, i_eq, n_eq, jI_natc, jI_nat, ck_ok, nc_lt, nc_le, if_true, if_false, Option.bind_some, wr_def, and_true, true_and, and_false, false_and, or_true, true_or, or_false, false_or, not_true, not_false_eq_true, not_true_eq_false, ite_true, ite_false, Nat.zero_add, Nat.add_zero, Int.add_zero, Int.zero_add, Int.sub_zero, up_eq, up_ne, up_i, up_j]
    | succ m ih =>
      intro i n f l μ1 hi hf hM hI
      have hin : i < qN ν := by omega
      have c1 := hf.st h
      have s1 := hf.se hS
      obtain ⟨w1, w2⟩ := s1.2 i hin
      have hk := hs.2 i hin
      have be := qBE hw hs hin
      have bb := f_beginK c1 (qG ν i) (qZ ν i) (by omega) (by omega)
      have ee := f_endK c1 (qG ν i) (qZ ν i) (by omega) (by omega)
      have eb : qZ ν i + sL σ (qG ν i).toNat = qB σ ν i := rfl
      have ee2 : qZ ν i + sM σ (qG ν i).toNat = qE σ ν i := rfl
      rw [eb] at bb
      rw [ee2] at ee
      have hn := hI.1
      by_cases c : qW ν i = 0
      · obtain ⟨μ2, f2, l2, t2, a1, a2, a3, a4, a5, a6⟩ := f_cutOut (n := n) (f := f) (l := l) (a := qB σ ν i) (b := qE σ ν i) (by omega) hI.2.1 be (fun r r' hr hr' g1 g2 g3 g4 => hI.2.2.1 r r' (qE σ ν i) hr hr' g1 (by omega) g3 (by omega)) n 0 0 f l vu μ1 (by omega) hM (fun _ _ => rfl) (fun r' hr' => by omega) (fun _ _ _ => rfl) (Or.inl ⟨rfl, fun r' hr' => by omega⟩)
        have hI2 := rwI_cut hI c be a4 a5 a6
        obtain ⟨μ', n', f', l', b1, b2⟩ := ih (i + 1) (n + t2) f2 l2 μ2 (by omega) (hf.tr a2) a3 hI2
        refine ⟨μ', n', f', l', ?_, b2⟩
        have ec : f_X4_cutOut [vr 4 0, vi (jI (qB σ ν i)), vi (jI (qE σ ν i))] μ1 = some (0, μ2) := by
          rw [← a1, e_X4_cutOut, hM.1]; rfl
        rw [c] at w2
        rw [← b1, e_X4_narrow_15, s1.1]
        simp (disch := omega) only [j_0, j_1, j_2, j_3, j_4, j_5, j_6, j_8, j_9, j_16, j_20, j_24, j_33, j_48, j_49, j_57, j_58, j_82, j_83, j_100, j_131, j_179, j_227, j_275, j_512, j_825, j_999, j_1000, j_9999, j_10000, j_11000, j_65536, j_m1, jI_add, jI_sub, jI_mul, jI_neg, nca_9, nca_33, nca_58, nca_83, nca_131, nca_179, nca_227, nca_825, nca_4, nca_24, nca_275, ncb_1, ncb_275, ncb_24, nc_1add, Int.toNat_natCast, tz_0, tz_1, tz_2, tz_3, tz_4, tz_5, tz_6, tz_8, tz_9, tz_16, tz_20, tz_24, tz_33, tz_48, tz_49, tz_57, tz_58, tz_82, tz_83, tz_100, tz_131, tz_179, tz_227, tz_275, tz_512, tz_825, tz_999, tz_1000, tz_9999, tz_10000, tz_11000, tz_65536, nc_sub1, i_lt, n_lt, i_eq, n_eq, jI_natc, jI_nat, ck_ok, nc_lt, nc_le, if_true, if_false, Option.bind_some, wr_def, and_true, true_and, and_false, false_and, or_true, true_or, or_false, false_or, not_true, not_false_eq_true, not_true_eq_false, ite_true, ite_false, Nat.zero_add, Nat.add_zero, Int.add_zero, Int.zero_add, Int.sub_zero, up_eq, up_ne, up_i, up_j, w1, w2, bb, ee, ec]
      · have c' : qW ν i = 1 := by omega
        obtain ⟨μ2, a1, a2, a3⟩ := f_leaveOnly (n := n) (f := f) (l := l) (a := qB σ ν i) (b := qE σ ν i) (by omega) hI.2.1 (by omega) n 0 f l μ1 (by omega) hM (fun r' hr' => by omega) (fun _ _ => ⟨rfl, rfl⟩)
        have hI2 := rwI_leave hI c' be
        obtain ⟨μ', n', f', l', b1, b2⟩ := ih (i + 1) n _ _ μ2 (by omega) (hf.tr a3) a2 hI2
        refine ⟨μ', n', f', l', ?_, b2⟩
        have ec : f_X4_leaveOnly [vr 4 0, vi (jI (qB σ ν i)), vi (jI (qE σ ν i))] μ1 = some (0, μ2) := by
          rw [← a1, e_X4_leaveOnly]; rfl
        rw [c'] at w2
        rw [← b1, e_X4_narrow_15, s1.1]
        simp (disch := omega) only [j_0, j_1, j_2, j_3, j_4, j_5, j_6, j_8, j_9, j_16, j_20, j_24, j_33, j_48, j_49, j_57, j_58, j_82, j_83, j_100, j_131, j_179, j_227, j_275, j_512, j_825, j_999, j_1000, j_9999, j_10000, j_11000, j_65536, j_m1, jI_add, jI_sub, jI_mul, jI_neg, nca_9, nca_33, nca_58, nca_83, nca_131, nca_179, nca_227, nca_825, nca_4, nca_24, nca_275, ncb_1, ncb_275, ncb_24, nc_1add, Int.toNat_natCast, tz_0, tz_1, tz_2, tz_3, tz_4, tz_5, tz_6, tz_8, tz_9, tz_16, tz_20, tz_24, tz_33, tz_48, tz_49, tz_57, tz_58, tz_82, tz_83, tz_100, tz_131, tz_179, tz_227, tz_275, tz_512, tz_825, tz_999, tz_1000, tz_9999, tz_10000, tz_11000, tz_65536, nc_sub1, i_lt, n_lt, i_eq, n_eq, jI_natc, jI_nat, ck_ok, nc_lt, nc_le, if_true, if_false, Option.bind_some, wr_def, and_true, true_and, and_false, false_and, or_true, true_or, or_false, false_or, not_true, not_false_eq_true, not_true_eq_false, ite_true, ite_false, Nat.zero_add, Nat.add_zero, Int.add_zero, Int.zero_add, Int.sub_zero, up_eq, up_ne, up_i, up_j, w1, w2, bb, ee, ec]
  have hM0 : rwM 0 (fun _ => 0) (fun _ => 0) (mm_up μ 4 0 5 (jI 0)) := ⟨by simp (disch := omega) only [j_0, j_1, j_2, j_3, j_4, j_5, j_6, j_8, j_9, j_16, j_20, j_24, j_33, j_48, j_49, j_57, j_58, j_82, j_83, j_100, j_131, j_179, j_227, j_275, j_512, j_825, j_999, j_1000, j_9999, j_10000, j_11000, j_65536, j_m1, jI_add, jI_sub, jI_mul, jI_neg, nca_9, nca_33, nca_58, nca_83, nca_131, nca_179, nca_227, nca_825, nca_4, nca_24, nca_275, ncb_1, ncb_275, ncb_24, nc_1add, Int.toNat_natCast, tz_0, tz_1, tz_2, tz_3, tz_4, tz_5, tz_6, tz_8, tz_9, tz_16, tz_20, tz_24, tz_33, tz_48, tz_49, tz_57, tz_58, tz_82, tz_83, tz_100, tz_131, tz_179, tz_227, tz_275, tz_512, tz_825, tz_999, tz_1000, tz_9999, tz_10000, tz_11000, tz_65536, nc_sub1, i_lt, n_lt, i_eq, n_eq, jI_natc, jI_nat, ck_ok, nc_lt, nc_le, if_true, if_false, Option.bind_some, wr_def, and_true, true_and, and_false, false_and, or_true, true_or, or_false, false_or, not_true, not_false_eq_true, not_true_eq_false, ite_true, ite_false, Nat.zero_add, Nat.add_zero, Int.add_zero, Int.zero_add, Int.sub_zero, up_eq, up_ne, up_i, up_j]; rfl, fun r hr => by omega⟩
  obtain ⟨μ1, a1, a2, a3⟩ := f_addRow hM0 (by omega) 0 9999
  obtain ⟨μ', n, f, l, b1, b2⟩ := key (qN ν) 0 1 _ _ μ1 (by omega) ((fr4.up (by omega)).tr a3) a2 (by
    refine ⟨by omega, fun r hr => ?_, fun r r' z hr hr' _ _ _ _ => by omega, fun z => ?_⟩
    · have : r = 0 := by omega
      subst this
      rw [upI_eq, upI_eq]; omega
    · constructor
      · rintro ⟨r, hr, g1, g2⟩
        have : r = 0 := by omega
        subst this
        rw [upI_eq] at g1 g2
        exact ⟨g1, g2, rfl⟩
      · rintro ⟨g1, g2, -⟩
        exact ⟨0, by omega, by rw [upI_eq]; exact g1, by rw [upI_eq]; exact g2⟩)
  refine ⟨μ', n, f, l, ?_, b2⟩
  rw [← b1, e_X4_narrow]
  simp (disch := omega) only [j_0, j_1, j_2, j_3, j_4, j_5, j_6, j_8, j_9, j_16, j_20, j_24, j_33, j_48, j_49, j_57, j_58, j_82, j_83, j_100, j_131, j_179, j_227, j_275, j_512, j_825, j_999, j_1000, j_9999, j_10000, j_11000, j_65536, j_m1, jI_add, jI_sub, jI_mul, jI_neg, nca_9, nca_33, nca_58, nca_83, nca_131, nca_179, nca_227, nca_825, nca_4, nca_24, nca_275, ncb_1, ncb_275, ncb_24, nc_1add, Int.toNat_natCast, tz_0, tz_1, tz_2, tz_3, tz_4, tz_5, tz_6, tz_8, tz_9, tz_16, tz_20, tz_24, tz_33, tz_48, tz_49, tz_57, tz_58, tz_82, tz_83, tz_100, tz_131, tz_179, tz_227, tz_275, tz_512, tz_825, tz_999, tz_1000, tz_9999, tz_10000, tz_11000, tz_65536, nc_sub1, i_lt, n_lt, i_eq, n_eq, jI_natc, jI_nat, ck_ok, nc_lt, nc_le, if_true, if_false, Option.bind_some, wr_def, and_true, true_and, and_false, false_and, or_true, true_or, or_false, false_or, not_true, not_false_eq_true, not_true_eq_false, ite_true, ite_false, Nat.zero_add, Nat.add_zero, Int.add_zero, Int.zero_add, Int.sub_zero, up_eq, up_ne, up_i, up_j, a1]
  rfl
/-! counting sizes by rows -/
def inR (f l : Nat → Int) (z : Int) : Nat → Bool
  | 0 => false
  | n + 1 => inR f l z n || decide (f n ≤ z ∧ z ≤ l n)
theorem inR_iff {f l : Nat → Int} {z : Int} : ∀ n, inR f l z n = true ↔ ∃ r, r < n ∧ f r ≤ z ∧ z ≤ l r
  | 0 => ⟨fun h => by simp [inR] at h, fun ⟨r, h, _⟩ => by omega⟩
  | n + 1 => by
    rw [inR, Bool.or_eq_true, inR_iff n, decide_eq_true_eq]
    constructor
    · rintro (⟨r, h1, h2⟩ | h)
      · exact ⟨r, by omega, h2⟩
      · exact ⟨n, by omega, h⟩
    · rintro ⟨r, h1, h2⟩
      by_cases c : r = n
      · rw [c] at h2; exact Or.inr h2
      · exact Or.inl ⟨r, by omega, h2⟩
theorem cnt_or {P Q : Nat → Bool} : ∀ n, (∀ z, z < n → ¬ (P z = true ∧ Q z = true)) → cnt (fun z => P z || Q z) n = cnt P n + cnt Q n
  | 0, _ => rfl
  | n + 1, h => by
    rw [cnt, cnt, cnt, cnt_or n (fun z hz => h z (by omega))]
    have := h n (by omega)
    cases hp : P n <;> cases hq : Q n <;> simp [hp, hq] at this ⊢ <;> omega
def rc (f l : Nat → Int) (a b : Int) (r : Nat) : Int := mxI 0 (mnI (l r) b - mxI (f r) a + 1)
theorem rc_cnt {f l : Nat → Int} {a b : Int} {r : Nat} (hf : 0 ≤ f r ∧ f r ≤ 12000 ∧ -1 ≤ l r ∧ l r ≤ 9999) (hab : 0 ≤ a ∧ a < 20000 ∧ 0 ≤ b ∧ b < 20000) : rc f l a b r = (cnt (fun z => decide (f r ≤ (z : Int) ∧ (z : Int) ≤ l r) && decide (a ≤ (z : Int) ∧ (z : Int) ≤ b)) 10000 : Int) := by
  have h1 := mx_bd (a := f r) (b := a)
  have h2 := mn_bd (a := l r) (b := b)
  have h3 := mx_bd (a := 0) (b := mnI (l r) b - mxI (f r) a + 1)
  unfold rc
  generalize mxI (f r) a = A at *
  generalize mnI (l r) b = B at *
  by_cases c : A ≤ B + 1
  · rw [cnt_range (a := A.toNat) (b := (B + 1).toNat) (by omega) 10000 (by omega) (fun j hj => by
      rw [Bool.and_eq_true, decide_eq_true_eq, decide_eq_true_eq]; omega)]
    omega
  · have : cnt (fun z => decide (f r ≤ (z : Int) ∧ (z : Int) ≤ l r) && decide (a ≤ (z : Int) ∧ (z : Int) ≤ b)) 10000 = 0 := by
      refine cnt_cut (j := 0) 10000 (by omega) (fun i g1 g2 => ?_)
      rw [Bool.and_eq_false_imp]
      intro q
      have := of_decide_eq_true q
      refine decide_eq_false (fun q2 => ?_)
      omega
    rw [this]
    omega
theorem f_countWithin {σ : sT} {ν : qT} {n : Nat} {f l : Nat → Int} {μ : mM} (hM : rwM n f l μ) (hI : rwI σ ν (qN ν) n f l) (hs : wfS ν) {a b : Int} (hab : 0 ≤ a ∧ a < 20000 ∧ 0 ≤ b ∧ b < 20000) : f_X4_countWithin [vr 4 0, vi (jI a), vi (jI b)] μ = some (jI (fitN σ ν a b : Int), μ) := by
  have hn : n ≤ 7 := by have := hs.1; have := hI.1; omega
  have efit : fitN σ ν a b = cnt (fun z => inR f l (z : Int) n && decide (a ≤ (z : Int) ∧ (z : Int) ≤ b)) 10000 := by
    unfold fitN
    refine cnt_congr _ (fun z hz => ?_)
    have h4 := hI.2.2.2 (z : Int)
    rw [← inR_iff n] at h4
    have e1 : sZP σ ν z = inR f l (z : Int) n := by
      unfold sZP
      cases hc : inR f l (z : Int) n with
      | true => exact (h4.mp hc).2.2
      | false =>
        cases hd : so σ ν (z : Int) (qN ν) with
        | false => rfl
        | true => rw [h4.mpr ⟨by omega, by omega, hd⟩] at hc; exact absurd hc (by simp)
    rw [e1, Bool.and_comm]
  have step : ∀ r, r < n → (cnt (fun z => inR f l (z : Int) (r + 1) && decide (a ≤ (z : Int) ∧ (z : Int) ≤ b)) 10000 : Int) = cnt (fun z => inR f l (z : Int) r && decide (a ≤ (z : Int) ∧ (z : Int) ≤ b)) 10000 + rc f l a b r := by
    intro r hr
    rw [rc_cnt (hI.2.1 r hr) hab]
    have := cnt_or (P := fun z => inR f l (z : Int) r && decide (a ≤ (z : Int) ∧ (z : Int) ≤ b)) (Q := fun z => decide (f r ≤ (z : Int) ∧ (z : Int) ≤ l r) && decide (a ≤ (z : Int) ∧ (z : Int) ≤ b)) 10000 (fun z hz => by
      rintro ⟨q1, q2⟩
      rw [Bool.and_eq_true] at q1 q2
      obtain ⟨r', g1, g2, g3⟩ := (inR_iff r).mp q1.1
      have q3 := of_decide_eq_true q2.1
      have := hI.2.2.1 r' r z (by omega) hr g2 g3 q3.1 q3.2
      omega)
    have e2 : cnt (fun z => inR f l (z : Int) (r + 1) && decide (a ≤ (z : Int) ∧ (z : Int) ≤ b)) 10000 = cnt (fun z => (inR f l (z : Int) r && decide (a ≤ (z : Int) ∧ (z : Int) ≤ b)) || (decide (f r ≤ (z : Int) ∧ (z : Int) ≤ l r) && decide (a ≤ (z : Int) ∧ (z : Int) ≤ b))) 10000 := by
      refine cnt_congr _ (fun z hz => ?_)
      rw [inR, Bool.and_or_distrib_right]
    rw [e2, this]
    omega
  have key : ∀ (m r : Nat), r + m = n → r_X4_countWithin_5 (jI a) (jI b) (jI (cnt (fun z => inR f l (z : Int) r && decide (a ≤ (z : Int) ∧ (z : Int) ≤ b)) 10000 : Int)) (jI (r : Int)) μ = some (jI (fitN σ ν a b : Int), μ) := by
    intro m
    induction m with
    | zero =>
      intro r hr
      have e : r = n := by omega
      subst e
      rw [e_X4_countWithin_5, hM.1, efit]
      simp (disch := omega) only [j_0, j_1, j_2, j_3, j_4, j_5, j_6, j_8, j_9, j_16, j_20, j_24, j_33, j_48, j_49, j_57, j_58, j_82, j_83, j_100, j_131, j_179, j_227, j_275, j_512, j_825, j_999, j_1000, j_9999, j_10000, j_11000, j_65536, j_m1, jI_add, jI_sub, jI_mul, jI_neg, nca_9, nca_33, nca_58, nca_83, nca_131, nca_179, nca_227, nca_825, nca_4, nca_24, nca_275, ncb_1, ncb_275, ncb_24, nc_1add, Int.toNat_natCast, tz_0, tz_1, tz_2, tz_3, tz_4, tz_5, tz_6, tz_8, tz_9, tz_16, tz_20, tz_24, tz_33, tz_48, tz_49, tz_57, tz_58, tz_82, tz_83, tz_100, tz_131, tz_179, tz_227, tz_275, tz_512, tz_825, tz_999, tz_1000, tz_9999, tz_10000, tz_11000, tz_65536, nc_sub1, i_lt, n_lt, i_eq, n_eq, jI_natc, jI_nat, ck_ok, nc_lt, nc_le, if_true, if_false, Option.bind_some, wr_def, and_true, true_and, and_false, false_and, or_true, true_or, or_false, false_or, not_true, not_false_eq_true, not_true_eq_false, ite_true, ite_false, Nat.zero_add, Nat.add_zero, Int.add_zero, Int.zero_add, Int.sub_zero, up_eq, up_ne, up_i, up_j]
    | succ m ih =>
      intro r hr
      have hrn : r < n := by omega
      obtain ⟨m1, m2⟩ := hM.2 r hrn
      have hb := hI.2.1 r hrn
      have h1 := mx_bd (a := f r) (b := a)
      have h2 := mn_bd (a := l r) (b := b)
      have hmn := f_min (a := l r) (b := b) (by omega) μ
      have hmx := f_max (a := f r) (b := a) (by omega) μ
      have hm0 := f_max (a := 0) (b := mnI (l r) b - mxI (f r) a + 1) (by omega) μ
      have hi2 := ih (r + 1) (by omega)
      rw [step r hrn] at hi2
      rw [← hi2, e_X4_countWithin_5, hM.1]
      have hrc : mxI 0 (mnI (l r) b - mxI (f r) a + 1) = rc f l a b r := rfl
      rw [hrc] at hm0
      have hc := cnt_le (fun z => inR f l (z : Int) r && decide (a ≤ (z : Int) ∧ (z : Int) ≤ b)) 10000
      simp (disch := omega) only [j_0, j_1, j_2, j_3, j_4, j_5, j_6, j_8, j_9, j_16, j_20, j_24, j_33, j_48, j_49, j_57, j_58, j_82, j_83, j_100, j_131, j_179, j_227, j_275, j_512, j_825, j_999, j_1000, j_9999, j_10000, j_11000, j_65536, j_m1, jI_add, jI_sub, jI_mul, jI_neg, nca_9, nca_33, nca_58, nca_83, nca_131, nca_179, nca_227, nca_825, nca_4, nca_24, nca_275, ncb_1, ncb_275, ncb_24, nc_1add, Int.toNat_natCast, tz_0, tz_1, tz_2, tz_3, tz_4, tz_5, tz_6, tz_8, tz_9, tz_16, tz_20, tz_24, tz_33, tz_48, tz_49, tz_57, tz_58, tz_82, tz_83, tz_100, tz_131, tz_179, tz_227, tz_275, tz_512, tz_825, tz_999, tz_1000, tz_9999, tz_10000, tz_11000, tz_65536, nc_sub1, i_lt, n_lt, i_eq, n_eq, jI_natc, jI_nat, ck_ok, nc_lt, nc_le, if_true, if_false, Option.bind_some, wr_def, and_true, true_and, and_false, false_and, or_true, true_or, or_false, false_or, not_true, not_false_eq_true, not_true_eq_false, ite_true, ite_false, Nat.zero_add, Nat.add_zero, Int.add_zero, Int.zero_add, Int.sub_zero, up_eq, up_ne, up_i, up_j, m1, m2, hmn, hmx, hm0]
  have hk := key n 0 (by omega)
  have e0 : cnt (fun z => inR f l (z : Int) 0 && decide (a ≤ (z : Int) ∧ (z : Int) ≤ b)) 10000 = 0 := cnt_cut (j := 0) 10000 (by omega) (fun i g1 g2 => rfl)
  rw [e0] at hk
  rw [e_X4_countWithin]
  exact hk
theorem fitN_all {σ : sT} {ν : qT} : fitN σ ν 0 9999 = cnt (sZP σ ν) 10000 := by
  unfold fitN
  refine cnt_congr _ (fun z hz => ?_)
  rw [decide_eq_true (show 0 ≤ (z : Int) ∧ (z : Int) ≤ 9999 by omega)]
  rfl
theorem f_count {σ : sT} {ν : qT} {n : Nat} {f l : Nat → Int} {μ : mM} (hM : rwM n f l μ) (hI : rwI σ ν (qN ν) n f l) (hs : wfS ν) : f_X4_count [vr 4 0] μ = some (jI (cnt (sZP σ ν) 10000 : Int), μ) := by
  have := f_countWithin hM hI hs (a := 0) (b := 9999) (by omega)
  rw [fitN_all] at this
  rw [e_X4_count]
  simp (disch := omega) only [j_0, j_1, j_2, j_3, j_4, j_5, j_6, j_8, j_9, j_16, j_20, j_24, j_33, j_48, j_49, j_57, j_58, j_82, j_83, j_100, j_131, j_179, j_227, j_275, j_512, j_825, j_999, j_1000, j_9999, j_10000, j_11000, j_65536, j_m1, jI_add, jI_sub, jI_mul, jI_neg, nca_9, nca_33, nca_58, nca_83, nca_131, nca_179, nca_227, nca_825, nca_4, nca_24, nca_275, ncb_1, ncb_275, ncb_24, nc_1add, Int.toNat_natCast, tz_0, tz_1, tz_2, tz_3, tz_4, tz_5, tz_6, tz_8, tz_9, tz_16, tz_20, tz_24, tz_33, tz_48, tz_49, tz_57, tz_58, tz_82, tz_83, tz_100, tz_131, tz_179, tz_227, tz_275, tz_512, tz_825, tz_999, tz_1000, tz_9999, tz_10000, tz_11000, tz_65536, nc_sub1, i_lt, n_lt, i_eq, n_eq, jI_natc, jI_nat, ck_ok, nc_lt, nc_le, if_true, if_false, Option.bind_some, wr_def, and_true, true_and, and_false, false_and, or_true, true_or, or_false, false_or, not_true, not_false_eq_true, not_true_eq_false, ite_true, ite_false, Nat.zero_add, Nat.add_zero, Int.add_zero, Int.zero_add, Int.sub_zero, up_eq, up_ne, up_i, up_j, this]
theorem loZ_c {P : Nat → Bool} : ∀ n, (loZ P n = -1 ∧ ∀ z, z < n → P z = false) ∨ ∃ z, z < n ∧ loZ P n = (z : Int) ∧ P z = true ∧ ∀ y, y < z → P y = false
  | 0 => Or.inl ⟨rfl, fun z h => by omega⟩
  | n + 1 => by
    rw [loZ]
    rcases loZ_c (P := P) n with ⟨h1, h2⟩ | ⟨z, h1, h2, h3, h4⟩
    · have hc : cnt P n = 0 := cnt_cut (j := 0) n (by omega) (fun i _ g2 => h2 i g2)
      cases hp : P n with
      | true =>
        rw [if_pos ⟨rfl, hc⟩]
        exact Or.inr ⟨n, by omega, rfl, hp, h2⟩
      | false =>
        rw [if_neg (by simp)]
        refine Or.inl ⟨h1, fun z hz => ?_⟩
        by_cases c : z = n
        · rw [c]; exact hp
        · exact h2 z (by omega)
    · have hc : ¬ cnt P n = 0 := by
        have a := cnt_le_n (P := P) (a := z + 1) n (by omega)
        rw [cnt, if_pos h3] at a
        omega
      rw [if_neg (fun q => hc q.2)]
      exact Or.inr ⟨z, by omega, h2, h3, h4⟩
theorem hiZ_c {P : Nat → Bool} : ∀ n, (hiZ P n = -1 ∧ ∀ z, z < n → P z = false) ∨ ∃ z, z < n ∧ hiZ P n = (z : Int) ∧ P z = true ∧ ∀ y, z < y → y < n → P y = false
  | 0 => Or.inl ⟨rfl, fun z h => by omega⟩
  | n + 1 => by
    rw [hiZ]
    cases hp : P n with
    | true =>
      rw [if_pos rfl]
      exact Or.inr ⟨n, by omega, rfl, hp, fun y g1 g2 => by omega⟩
    | false =>
      rw [if_neg (by simp)]
      rcases hiZ_c (P := P) n with ⟨h1, h2⟩ | ⟨z, h1, h2, h3, h4⟩
      · refine Or.inl ⟨h1, fun z hz => ?_⟩
        by_cases c : z = n
        · rw [c]; exact hp
        · exact h2 z (by omega)
      · refine Or.inr ⟨z, by omega, h2, h3, fun y g1 g2 => ?_⟩
        by_cases c : y = n
        · rw [c]; exact hp
        · exact h4 y g1 (by omega)
theorem rw_sZP {σ : sT} {ν : qT} {n : Nat} {f l : Nat → Int} (hI : rwI σ ν (qN ν) n f l) {z : Nat} (hz : z < 10000) : sZP σ ν z = true ↔ ∃ r, r < n ∧ f r ≤ (z : Int) ∧ (z : Int) ≤ l r := by
  rw [hI.2.2.2 (z : Int)]
  unfold sZP
  exact ⟨fun h => ⟨by omega, by omega, h⟩, fun h => h.2.2⟩
theorem f_leastSize {σ : sT} {ν : qT} {n : Nat} {f l : Nat → Int} {μ : mM} (hM : rwM n f l μ) (hI : rwI σ ν (qN ν) n f l) (hs : wfS ν) : f_X4_leastSize [vr 4 0] μ = some (jI (loZ (sZP σ ν) 10000), μ) := by
  have hn : n ≤ 7 := by have := hs.1; have := hI.1; omega
  have key : ∀ (m r : Nat) (v : Int), r + m = n → ((v = -1 ∧ ∀ r', r' < r → l r' < f r') ∨ (∃ r0, r0 < r ∧ v = f r0 ∧ f r0 ≤ l r0 ∧ ∀ r', r' < r → f r' ≤ l r' → v ≤ f r')) → ∃ v', r_X4_leastSize_4 (jI v) (jI (r : Int)) μ = some (jI v', μ) ∧ ((v' = -1 ∧ ∀ r', r' < n → l r' < f r') ∨ (∃ r0, r0 < n ∧ v' = f r0 ∧ f r0 ≤ l r0 ∧ ∀ r', r' < n → f r' ≤ l r' → v' ≤ f r')) := by
    intro m
    induction m with
    | zero =>
      intro r v hr h
      have e : r = n := by omega
      subst e
      refine ⟨v, ?_, h⟩
      rw [e_X4_leastSize_4, hM.1]
      simp (disch := omega) only [j_0, j_1, j_2, j_3, j_4, j_5, j_6, j_8, j_9, j_16, j_20, j_24, j_33, j_48, j_49, j_57, j_58, j_82, j_83, j_100, j_131, j_179, j_227, j_275, j_512, j_825, j_999, j_1000, j_9999, j_10000, j_11000, j_65536, j_m1, jI_add, jI_sub, jI_mul, jI_neg, nca_9, nca_33, nca_58, nca_83, nca_131, nca_179, nca_227, nca_825, nca_4, nca_24, nca_275, ncb_1, ncb_275, ncb_24, nc_1add, Int.toNat_natCast, tz_0, tz_1, tz_2, tz_3, tz_4, tz_5, tz_6, tz_8, tz_9, tz_16, tz_20, tz_24, tz_33, tz_48, tz_49, tz_57, tz_58, tz_82, tz_83, tz_100, tz_131, tz_179, tz_227, tz_275, tz_512, tz_825, tz_999, tz_1000, tz_9999, tz_10000, tz_11000, tz_65536, nc_sub1, i_lt, n_lt, i_eq, n_eq, jI_natc, jI_nat, ck_ok, nc_lt, nc_le, if_true, if_false, Option.bind_some, wr_def, and_true, true_and, and_false, false_and, or_true, true_or, or_false, false_or, not_true, not_false_eq_true, not_true_eq_false, ite_true, ite_false, Nat.zero_add, Nat.add_zero, Int.add_zero, Int.zero_add, Int.sub_zero, up_eq, up_ne, up_i, up_j]
    | succ m ih =>
      intro r v hr h
      have hrn : r < n := by omega
      obtain ⟨m1, m2⟩ := hM.2 r hrn
      have hb := hI.2.1 r hrn
      have hv : -1 ≤ v ∧ v ≤ 12000 := by
        rcases h with ⟨e, -⟩ | ⟨r0, g1, g2, -⟩
        · omega
        · have := hI.2.1 r0 (by omega); omega
      by_cases c : f r ≤ l r
      · by_cases d : v = -1 ∨ f r < v
        · obtain ⟨v', a1, a2⟩ := ih (r + 1) (f r) (by omega) (Or.inr ⟨r, by omega, rfl, c, fun r' g1 g2 => by
            by_cases e : r' = r
            · rw [e]; exact Int.le_refl _
            · rcases h with ⟨e1, e2⟩ | ⟨r0, k1, k2, k3, k4⟩
              · have := e2 r' (by omega); omega
              · have h0 := hI.2.1 r0 (by omega)
                have := k4 r' (by omega) g2
                omega⟩)
          refine ⟨v', ?_, a2⟩
          rw [← a1, e_X4_leastSize_4, hM.1]
          by_cases e : v = -1
          · simp (disch := omega) only [j_0, j_1, j_2, j_3, j_4, j_5, j_6, j_8, j_9, j_16, j_20, j_24, j_33, j_48, j_49, j_57, j_58, j_82, j_83, j_100, j_131, j_179, j_227, j_275, j_512, j_825, j_999, j_1000, j_9999, j_10000, j_11000, j_65536, j_m1, jI_add, jI_sub, jI_mul, jI_neg, nca_9, nca_33, nca_58, nca_83, nca_131, nca_179, nca_227, nca_825, nca_4, nca_24, nca_275, ncb_1, ncb_275, ncb_24, nc_1add, Int.toNat_natCast, tz_0, tz_1, tz_2, tz_3, tz_4, tz_5, tz_6, tz_8, tz_9, tz_16, tz_20, tz_24, tz_33, tz_48, tz_49, tz_57, tz_58, tz_82, tz_83, tz_100, tz_131, tz_179, tz_227, tz_275, tz_512, tz_825, tz_999, tz_1000, tz_9999, tz_10000, tz_11000, tz_65536, nc_sub1, i_lt, n_lt, i_eq, n_eq, jI_natc, jI_nat, ck_ok, nc_lt, nc_le, if_true, if_false, Option.bind_some, wr_def, and_true, true_and, and_false, false_and, or_true, true_or, or_false, false_or, not_true, not_false_eq_true, not_true_eq_false, ite_true, ite_false, Nat.zero_add, Nat.add_zero, Int.add_zero, Int.zero_add, Int.sub_zero, up_eq, up_ne, up_i, up_j, m1, m2, e]
          · simp (disch := omega) only [j_0, j_1, j_2, j_3, j_4, j_5, j_6, j_8, j_9, j_16, j_20, j_24, j_33, j_48, j_49, j_57, j_58, j_82, j_83, j_100, j_131, j_179, j_227, j_275, j_512, j_825, j_999, j_1000, j_9999, j_10000, j_11000, j_65536, j_m1, jI_add, jI_sub, jI_mul, jI_neg, nca_9, nca_33, nca_58, nca_83, nca_131, nca_179, nca_227, nca_825, nca_4, nca_24, nca_275, ncb_1, ncb_275, ncb_24, nc_1add, Int.toNat_natCast, tz_0, tz_1, tz_2, tz_3, tz_4, tz_5, tz_6, tz_8, tz_9, tz_16, tz_20, tz_24, tz_33, tz_48, tz_49, tz_57, tz_58, tz_82, tz_83, tz_100, tz_131, tz_179, tz_227, tz_275, tz_512, tz_825, tz_999, tz_1000, tz_9999, tz_10000, tz_11000, tz_65536, nc_sub1, i_lt, n_lt, i_eq, n_eq, jI_natc, jI_nat, ck_ok, nc_lt, nc_le, if_true, if_false, Option.bind_some, wr_def, and_true, true_and, and_false, false_and, or_true, true_or, or_false, false_or, not_true, not_false_eq_true, not_true_eq_false, ite_true, ite_false, Nat.zero_add, Nat.add_zero, Int.add_zero, Int.zero_add, Int.sub_zero, up_eq, up_ne, up_i, up_j, m1, m2]
        · obtain ⟨v', a1, a2⟩ := ih (r + 1) v (by omega) (by
            rcases h with ⟨e1, e2⟩ | ⟨r0, k1, k2, k3, k4⟩
            · omega
            · refine Or.inr ⟨r0, by omega, k2, k3, fun r' g1 g2 => ?_⟩
              by_cases e : r' = r
              · rw [e]; omega
              · exact k4 r' (by omega) g2)
          refine ⟨v', ?_, a2⟩
          rw [← a1, e_X4_leastSize_4, hM.1]
          simp (disch := omega) only [j_0, j_1, j_2, j_3, j_4, j_5, j_6, j_8, j_9, j_16, j_20, j_24, j_33, j_48, j_49, j_57, j_58, j_82, j_83, j_100, j_131, j_179, j_227, j_275, j_512, j_825, j_999, j_1000, j_9999, j_10000, j_11000, j_65536, j_m1, jI_add, jI_sub, jI_mul, jI_neg, nca_9, nca_33, nca_58, nca_83, nca_131, nca_179, nca_227, nca_825, nca_4, nca_24, nca_275, ncb_1, ncb_275, ncb_24, nc_1add, Int.toNat_natCast, tz_0, tz_1, tz_2, tz_3, tz_4, tz_5, tz_6, tz_8, tz_9, tz_16, tz_20, tz_24, tz_33, tz_48, tz_49, tz_57, tz_58, tz_82, tz_83, tz_100, tz_131, tz_179, tz_227, tz_275, tz_512, tz_825, tz_999, tz_1000, tz_9999, tz_10000, tz_11000, tz_65536, nc_sub1, i_lt, n_lt, i_eq, n_eq, jI_natc, jI_nat, ck_ok, nc_lt, nc_le, if_true, if_false, Option.bind_some, wr_def, and_true, true_and, and_false, false_and, or_true, true_or, or_false, false_or, not_true, not_false_eq_true, not_true_eq_false, ite_true, ite_false, Nat.zero_add, Nat.add_zero, Int.add_zero, Int.zero_add, Int.sub_zero, up_eq, up_ne, up_i, up_j, m1, m2]
      · obtain ⟨v', a1, a2⟩ := ih (r + 1) v (by omega) (by
          rcases h with ⟨e1, e2⟩ | ⟨r0, k1, k2, k3, k4⟩
          · refine Or.inl ⟨e1, fun r' g1 => ?_⟩
            by_cases e : r' = r
            · rw [e]; omega
            · exact e2 r' (by omega)
          · refine Or.inr ⟨r0, by omega, k2, k3, fun r' g1 g2 => ?_⟩
            by_cases e : r' = r
            · rw [e] at g2; omega
            · exact k4 r' (by omega) g2)
        refine ⟨v', ?_, a2⟩
        rw [← a1, e_X4_leastSize_4, hM.1]
        simp (disch := omega) only [j_0, j_1, j_2, j_3, j_4, j_5, j_6, j_8, j_9, j_16, j_20, j_24, j_33, j_48, j_49, j_57, j_58, j_82, j_83, j_100, j_131, j_179, j_227, j_275, j_512, j_825, j_999, j_1000, j_9999, j_10000, j_11000, j_65536, j_m1, jI_add, jI_sub, jI_mul, jI_neg, nca_9, nca_33, nca_58, nca_83, nca_131, nca_179, nca_227, nca_825, nca_4, nca_24, nca_275, ncb_1, ncb_275, ncb_24, nc_1add, Int.toNat_natCast, tz_0, tz_1, tz_2, tz_3, tz_4, tz_5, tz_6, tz_8, tz_9, tz_16, tz_20, tz_24, tz_33, tz_48, tz_49, tz_57, tz_58, tz_82, tz_83, tz_100, tz_131, tz_179, tz_227, tz_275, tz_512, tz_825, tz_999, tz_1000, tz_9999, tz_10000, tz_11000, tz_65536, nc_sub1, i_lt, n_lt, i_eq, n_eq, jI_natc, jI_nat, ck_ok, nc_lt, nc_le, if_true, if_false, Option.bind_some, wr_def, and_true, true_and, and_false, false_and, or_true, true_or, or_false, false_or, not_true, not_false_eq_true, not_true_eq_false, ite_true, ite_false, Nat.zero_add, Nat.add_zero, Int.add_zero, Int.zero_add, Int.sub_zero, up_eq, up_ne, up_i, up_j, m1, m2]
  obtain ⟨v', a1, a2⟩ := key n 0 (-1) (by omega) (Or.inl ⟨rfl, fun r' h => by omega⟩)
  have ev : v' = loZ (sZP σ ν) 10000 := by
    rcases loZ_c (P := sZP σ ν) 10000 with ⟨h1, h2⟩ | ⟨z, h1, h2, h3, h4⟩ <;> rcases a2 with ⟨e1, e2⟩ | ⟨r0, k1, k2, k3, k4⟩
    · rw [h1, e1]
    · have hb := hI.2.1 r0 k1
      have := h2 (f r0).toNat (by omega)
      have := (rw_sZP hI (z := (f r0).toNat) (by omega)).mpr ⟨r0, k1, by omega, by omega⟩
      simp_all
    · obtain ⟨r, g1, g2, g3⟩ := (rw_sZP hI h1).mp h3
      have := e2 r g1
      omega
    · obtain ⟨r, g1, g2, g3⟩ := (rw_sZP hI h1).mp h3
      have w1 := k4 r g1 (by omega)
      have hb := hI.2.1 r0 k1
      rw [h2]
      rcases Nat.lt_or_ge (f r0).toNat z with c | c
      · have q1 := h4 (f r0).toNat c
        have q2 := (rw_sZP hI (z := (f r0).toNat) (by omega)).mpr ⟨r0, k1, by omega, by omega⟩
        rw [q1] at q2
        exact absurd q2 (by simp)
      · omega
  rw [e_X4_leastSize, ← ev]
  exact a1
theorem f_greatestSize {σ : sT} {ν : qT} {n : Nat} {f l : Nat → Int} {μ : mM} (hM : rwM n f l μ) (hI : rwI σ ν (qN ν) n f l) (hs : wfS ν) : f_X4_greatestSize [vr 4 0] μ = some (jI (hiZ (sZP σ ν) 10000), μ) := by
  have hn : n ≤ 7 := by have := hs.1; have := hI.1; omega
  have key : ∀ (m r : Nat) (v : Int), r + m = n → ((v = -1 ∧ ∀ r', r' < r → l r' < f r') ∨ (∃ r0, r0 < r ∧ v = l r0 ∧ f r0 ≤ l r0 ∧ ∀ r', r' < r → f r' ≤ l r' → l r' ≤ v)) → ∃ v', r_X4_greatestSize_4 (jI v) (jI (r : Int)) μ = some (jI v', μ) ∧ ((v' = -1 ∧ ∀ r', r' < n → l r' < f r') ∨ (∃ r0, r0 < n ∧ v' = l r0 ∧ f r0 ≤ l r0 ∧ ∀ r', r' < n → f r' ≤ l r' → l r' ≤ v')) := by
    intro m
    induction m with
    | zero =>
      intro r v hr h
      have e : r = n := by omega
      subst e
      refine ⟨v, ?_, h⟩
      rw [e_X4_greatestSize_4, hM.1]
      simp (disch := omega) only [j_0, j_1, j_2, j_3, j_4, j_5, j_6, j_8, j_9, j_16, j_20, j_24, j_33, j_48, j_49, j_57, j_58, j_82, j_83, j_100, j_131, j_179, j_227, j_275, j_512, j_825, j_999, j_1000, j_9999, j_10000, j_11000, j_65536, j_m1, jI_add, jI_sub, jI_mul, jI_neg, nca_9, nca_33, nca_58, nca_83, nca_131, nca_179, nca_227, nca_825, nca_4, nca_24, nca_275, ncb_1, ncb_275, ncb_24, nc_1add, Int.toNat_natCast, tz_0, tz_1, tz_2, tz_3, tz_4, tz_5, tz_6, tz_8, tz_9, tz_16, tz_20, tz_24, tz_33, tz_48, tz_49, tz_57, tz_58, tz_82, tz_83, tz_100, tz_131, tz_179, tz_227, tz_275, tz_512, tz_825, tz_999, tz_1000, tz_9999, tz_10000, tz_11000, tz_65536, nc_sub1, i_lt, n_lt, i_eq, n_eq, jI_natc, jI_nat, ck_ok, nc_lt, nc_le, if_true, if_false, Option.bind_some, wr_def, and_true, true_and, and_false, false_and, or_true, true_or, or_false, false_or, not_true, not_false_eq_true, not_true_eq_false, ite_true, ite_false, Nat.zero_add, Nat.add_zero, Int.add_zero, Int.zero_add, Int.sub_zero, up_eq, up_ne, up_i, up_j]
    | succ m ih =>
      intro r v hr h
      have hrn : r < n := by omega
      obtain ⟨m1, m2⟩ := hM.2 r hrn
      have hb := hI.2.1 r hrn
      have hv : -1 ≤ v ∧ v ≤ 12000 := by
        rcases h with ⟨e, -⟩ | ⟨r0, g1, g2, -⟩
        · omega
        · have := hI.2.1 r0 (by omega); omega
      have hx := f_max (a := v) (b := l r) (by omega) μ
      have hxb := mx_bd (a := v) (b := l r)
      by_cases c : f r ≤ l r
      · obtain ⟨v', a1, a2⟩ := ih (r + 1) (mxI v (l r)) (by omega) (by
          rcases h with ⟨e1, e2⟩ | ⟨r0, k1, k2, k3, k4⟩
          · refine Or.inr ⟨r, by omega, by omega, c, fun r' g1 g2 => ?_⟩
            by_cases e : r' = r
            · rw [e]; omega
            · have := e2 r' (by omega); omega
          · by_cases d : mxI v (l r) = v
            · refine Or.inr ⟨r0, by omega, by omega, k3, fun r' g1 g2 => ?_⟩
              by_cases e : r' = r
              · rw [e]; omega
              · have := k4 r' (by omega) g2; omega
            · refine Or.inr ⟨r, by omega, by omega, c, fun r' g1 g2 => ?_⟩
              by_cases e : r' = r
              · rw [e]; omega
              · have := k4 r' (by omega) g2; omega)
        refine ⟨v', ?_, a2⟩
        rw [← a1, e_X4_greatestSize_4, hM.1]
        simp (disch := omega) only [j_0, j_1, j_2, j_3, j_4, j_5, j_6, j_8, j_9, j_16, j_20, j_24, j_33, j_48, j_49, j_57, j_58, j_82, j_83, j_100, j_131, j_179, j_227, j_275, j_512, j_825, j_999, j_1000, j_9999, j_10000, j_11000, j_65536, j_m1, jI_add, jI_sub, jI_mul, jI_neg, nca_9, nca_33, nca_58, nca_83, nca_131, nca_179, nca_227, nca_825, nca_4, nca_24, nca_275, ncb_1, ncb_275, ncb_24, nc_1add, Int.toNat_natCast, tz_0, tz_1, tz_2, tz_3, tz_4, tz_5, tz_6, tz_8, tz_9, tz_16, tz_20, tz_24, tz_33, tz_48, tz_49, tz_57, tz_58, tz_82, tz_83, tz_100, tz_131, tz_179, tz_227, tz_275, tz_512, tz_825, tz_999, tz_1000, tz_9999, tz_10000, tz_11000, tz_65536, nc_sub1, i_lt, n_lt, i_eq, n_eq, jI_natc, jI_nat, ck_ok, nc_lt, nc_le, if_true, if_false, Option.bind_some, wr_def, and_true, true_and, and_false, false_and, or_true, true_or, or_false, false_or, not_true, not_false_eq_true, not_true_eq_false, ite_true, ite_false, Nat.zero_add, Nat.add_zero, Int.add_zero, Int.zero_add, Int.sub_zero, up_eq, up_ne, up_i, up_j, m1, m2, hx]
      · obtain ⟨v', a1, a2⟩ := ih (r + 1) v (by omega) (by
          rcases h with ⟨e1, e2⟩ | ⟨r0, k1, k2, k3, k4⟩
          · refine Or.inl ⟨e1, fun r' g1 => ?_⟩
            by_cases e : r' = r
            · rw [e]; omega
            · exact e2 r' (by omega)
          · refine Or.inr ⟨r0, by omega, k2, k3, fun r' g1 g2 => ?_⟩
            by_cases e : r' = r
            · rw [e] at g2; omega
            · exact k4 r' (by omega) g2)
        refine ⟨v', ?_, a2⟩
        rw [← a1, e_X4_greatestSize_4, hM.1]
        simp (disch := omega) only [j_0, j_1, j_2, j_3, j_4, j_5, j_6, j_8, j_9, j_16, j_20, j_24, j_33, j_48, j_49, j_57, j_58, j_82, j_83, j_100, j_131, j_179, j_227, j_275, j_512, j_825, j_999, j_1000, j_9999, j_10000, j_11000, j_65536, j_m1, jI_add, jI_sub, jI_mul, jI_neg, nca_9, nca_33, nca_58, nca_83, nca_131, nca_179, nca_227, nca_825, nca_4, nca_24, nca_275, ncb_1, ncb_275, ncb_24, nc_1add, Int.toNat_natCast, tz_0, tz_1, tz_2, tz_3, tz_4, tz_5, tz_6, tz_8, tz_9, tz_16, tz_20, tz_24, tz_33, tz_48, tz_49, tz_57, tz_58, tz_82, tz_83, tz_100, tz_131, tz_179, tz_227, tz_275, tz_512, tz_825, tz_999, tz_1000, tz_9999, tz_10000, tz_11000, tz_65536, nc_sub1, i_lt, n_lt, i_eq, n_eq, jI_natc, jI_nat, ck_ok, nc_lt, nc_le, if_true, if_false, Option.bind_some, wr_def, and_true, true_and, and_false, false_and, or_true, true_or, or_false, false_or, not_true, not_false_eq_true, not_true_eq_false, ite_true, ite_false, Nat.zero_add, Nat.add_zero, Int.add_zero, Int.zero_add, Int.sub_zero, up_eq, up_ne, up_i, up_j, m1, m2]
  obtain ⟨v', a1, a2⟩ := key n 0 (-1) (by omega) (Or.inl ⟨rfl, fun r' h => by omega⟩)
  have ev : v' = hiZ (sZP σ ν) 10000 := by
    rcases hiZ_c (P := sZP σ ν) 10000 with ⟨h1, h2⟩ | ⟨z, h1, h2, h3, h4⟩ <;> rcases a2 with ⟨e1, e2⟩ | ⟨r0, k1, k2, k3, k4⟩
    · rw [h1, e1]
    · have hb := hI.2.1 r0 k1
      have := h2 (l r0).toNat (by omega)
      have := (rw_sZP hI (z := (l r0).toNat) (by omega)).mpr ⟨r0, k1, by omega, by omega⟩
      simp_all
    · obtain ⟨r, g1, g2, g3⟩ := (rw_sZP hI h1).mp h3
      have := e2 r g1
      omega
    · obtain ⟨r, g1, g2, g3⟩ := (rw_sZP hI h1).mp h3
      have w1 := k4 r g1 (by omega)
      have hb := hI.2.1 r0 k1
      rw [h2]
      rcases Nat.lt_or_ge z (l r0).toNat with c | c
      · have q1 := h4 (l r0).toNat c (by omega)
        have q2 := (rw_sZP hI (z := (l r0).toNat) (by omega)).mpr ⟨r0, k1, by omega, by omega⟩
        rw [q1] at q2
        exact absurd q2 (by simp)
      · omega
  rw [e_X4_greatestSize, ← ev]
  exact a1
theorem f_shaftToTry {σ : sT} {ν : qT} {n : Nat} {f l : Nat → Int} {μ : mM} (h : cSt σ 0 μ) (hw : wf σ) (hM : rwM n f l μ) (hI : rwI σ ν (qN ν) n f l) (hs : wfS ν) : f_X4_shaftToTry [vr 4 0, vr 6 0] μ = some (jI (tN σ ν (cnt (sZP σ ν) 10000 : Int) (sNs σ)).1, μ) := by
  have hns := hw.1
  have hall := cnt_le (sZP σ ν) 10000
  have hcnt := f_count hM hI hs
  have key : ∀ (m s : Nat) (x6 x7 : mV), s + m = sNs σ → r_X4_shaftToTry_13 0 (jI (cnt (sZP σ ν) 10000 : Int)) (jI (tN σ ν (cnt (sZP σ ν) 10000 : Int) s).1) (jI (tN σ ν (cnt (sZP σ ν) 10000 : Int) s).2) (jI (s : Int)) x6 x7 μ = some (jI (tN σ ν (cnt (sZP σ ν) 10000 : Int) (sNs σ)).1, μ) := by
    intro m
    induction m with
    | zero =>
      intro s x6 x7 hm
      have e : s = sNs σ := by omega
      subst e
      rw [e_X4_shaftToTry_13, h.1]
      simp (disch := omega) only [j_0, j_1, j_2, j_3, j_4, j_5, j_6, j_8, j_9, j_16, j_20, j_24, j_33, j_48, j_49, j_57, j_58, j_82, j_83, j_100, j_131, j_179, j_227, j_275, j_512, j_825, j_999, j_1000, j_9999, j_10000, j_11000, j_65536, j_m1, jI_add, jI_sub, jI_mul, jI_neg, nca_9, nca_33, nca_58, nca_83, nca_131, nca_179, nca_227, nca_825, nca_4, nca_24, nca_275, ncb_1, ncb_275, ncb_24, nc_1add, Int.toNat_natCast, tz_0, tz_1, tz_2, tz_3, tz_4, tz_5, tz_6, tz_8, tz_9, tz_16, tz_20, tz_24, tz_33, tz_48, tz_49, tz_57, tz_58, tz_82, tz_83, tz_100, tz_131, tz_179, tz_227, tz_275, tz_512, tz_825, tz_999, tz_1000, tz_9999, tz_10000, tz_11000, tz_65536, nc_sub1, i_lt, n_lt, i_eq, n_eq, jI_natc, jI_nat, ck_ok, nc_lt, nc_le, if_true, if_false, Option.bind_some, wr_def, and_true, true_and, and_false, false_and, or_true, true_or, or_false, false_or, not_true, not_false_eq_true, not_true_eq_false, ite_true, ite_false, Nat.zero_add, Nat.add_zero, Int.add_zero, Int.zero_add, Int.sub_zero, up_eq, up_ne, up_i, up_j]
    | succ m ih =>
      intro s x6 x7 hm
      have hsn : s < sNs σ := by omega
      have be := wf_be hw hsn
      have hbg := f_begin h hw hsn
      have hen := f_end h hw hsn
      have hf := f_countWithin hM hI hs (a := beg σ s) (b := enn σ s) (by omega)
      have b1 := tN_bd (σ := σ) (ν := ν) (all := (cnt (sZP σ ν) 10000 : Int)) (by omega) s
      have b2 := fitN_le (σ := σ) (ν := ν) (a := beg σ s) (b := enn σ s)
      have ih2 := fun x4 x5 => ih (s + 1) x4 x5 (by omega)
      generalize hA : (cnt (sZP σ ν) 10000 : Int) = all at *
      have hall' : 0 ≤ all ∧ all ≤ 10000 := by omega
      rw [tN] at ih2
      generalize hF : fitN σ ν (beg σ s) (enn σ s) = F at *
      generalize hT : tN σ ν all s = T at *
      have hx := f_max (a := (F : Int)) (b := all - (F : Int)) (by omega) μ
      have hxb := mx_bd (a := (F : Int)) (b := all - (F : Int))
      generalize mxI (F : Int) (all - F) = G at *
      by_cases d : G < T.2
      · rw [if_pos d] at ih2
        rw [← ih2 (vi (jI (F : Int))) (vi (jI G)), e_X4_shaftToTry_13, h.1]
        simp (disch := omega) only [j_0, j_1, j_2, j_3, j_4, j_5, j_6, j_8, j_9, j_16, j_20, j_24, j_33, j_48, j_49, j_57, j_58, j_82, j_83, j_100, j_131, j_179, j_227, j_275, j_512, j_825, j_999, j_1000, j_9999, j_10000, j_11000, j_65536, j_m1, jI_add, jI_sub, jI_mul, jI_neg, nca_9, nca_33, nca_58, nca_83, nca_131, nca_179, nca_227, nca_825, nca_4, nca_24, nca_275, ncb_1, ncb_275, ncb_24, nc_1add, Int.toNat_natCast, tz_0, tz_1, tz_2, tz_3, tz_4, tz_5, tz_6, tz_8, tz_9, tz_16, tz_20, tz_24, tz_33, tz_48, tz_49, tz_57, tz_58, tz_82, tz_83, tz_100, tz_131, tz_179, tz_227, tz_275, tz_512, tz_825, tz_999, tz_1000, tz_9999, tz_10000, tz_11000, tz_65536, nc_sub1, i_lt, n_lt, i_eq, n_eq, jI_natc, jI_nat, ck_ok, nc_lt, nc_le, if_true, if_false, Option.bind_some, wr_def, and_true, true_and, and_false, false_and, or_true, true_or, or_false, false_or, not_true, not_false_eq_true, not_true_eq_false, ite_true, ite_false, Nat.zero_add, Nat.add_zero, Int.add_zero, Int.zero_add, Int.sub_zero, up_eq, up_ne, up_i, up_j, hbg, hen, hf, hx]
      · rw [if_neg d] at ih2
        rw [← ih2 (vi (jI (F : Int))) (vi (jI G)), e_X4_shaftToTry_13, h.1]
        simp (disch := omega) only [j_0, j_1, j_2, j_3, j_4, j_5, j_6, j_8, j_9, j_16, j_20, j_24, j_33, j_48, j_49, j_57, j_58, j_82, j_83, j_100, j_131, j_179, j_227, j_275, j_512, j_825, j_999, j_1000, j_9999, j_10000, j_11000, j_65536, j_m1, jI_add, jI_sub, jI_mul, jI_neg, nca_9, nca_33, nca_58, nca_83, nca_131, nca_179, nca_227, nca_825, nca_4, nca_24, nca_275, ncb_1, ncb_275, ncb_24, nc_1add, Int.toNat_natCast, tz_0, tz_1, tz_2, tz_3, tz_4, tz_5, tz_6, tz_8, tz_9, tz_16, tz_20, tz_24, tz_33, tz_48, tz_49, tz_57, tz_58, tz_82, tz_83, tz_100, tz_131, tz_179, tz_227, tz_275, tz_512, tz_825, tz_999, tz_1000, tz_9999, tz_10000, tz_11000, tz_65536, nc_sub1, i_lt, n_lt, i_eq, n_eq, jI_natc, jI_nat, ck_ok, nc_lt, nc_le, if_true, if_false, Option.bind_some, wr_def, and_true, true_and, and_false, false_and, or_true, true_or, or_false, false_or, not_true, not_false_eq_true, not_true_eq_false, ite_true, ite_false, Nat.zero_add, Nat.add_zero, Int.add_zero, Int.zero_add, Int.sub_zero, up_eq, up_ne, up_i, up_j, hbg, hen, hf, hx]
  have hk := key (sNs σ) 0 vu vu (by omega)
  rw [← hk, e_X4_shaftToTry, hcnt]
  simp (disch := omega) only [j_0, j_1, j_2, j_3, j_4, j_5, j_6, j_8, j_9, j_16, j_20, j_24, j_33, j_48, j_49, j_57, j_58, j_82, j_83, j_100, j_131, j_179, j_227, j_275, j_512, j_825, j_999, j_1000, j_9999, j_10000, j_11000, j_65536, j_m1, jI_add, jI_sub, jI_mul, jI_neg, nca_9, nca_33, nca_58, nca_83, nca_131, nca_179, nca_227, nca_825, nca_4, nca_24, nca_275, ncb_1, ncb_275, ncb_24, nc_1add, Int.toNat_natCast, tz_0, tz_1, tz_2, tz_3, tz_4, tz_5, tz_6, tz_8, tz_9, tz_16, tz_20, tz_24, tz_33, tz_48, tz_49, tz_57, tz_58, tz_82, tz_83, tz_100, tz_131, tz_179, tz_227, tz_275, tz_512, tz_825, tz_999, tz_1000, tz_9999, tz_10000, tz_11000, tz_65536, nc_sub1, i_lt, n_lt, i_eq, n_eq, jI_natc, jI_nat, ck_ok, nc_lt, nc_le, if_true, if_false, Option.bind_some, wr_def, and_true, true_and, and_false, false_and, or_true, true_or, or_false, false_or, not_true, not_false_eq_true, not_true_eq_false, ite_true, ite_false, Nat.zero_add, Nat.add_zero, Int.add_zero, Int.zero_add, Int.sub_zero, up_eq, up_ne, up_i, up_j]
  rfl
theorem fr4.q {μ μ' : mM} (h : fr4 μ μ') : qC μ μ' := ⟨fun k i hk => h.1 k i (by omega), h.2, h.1 34 0 (by omega), fun i => by rw [h.1 34 i (by omega)]⟩
