/-! by how much more play all go; one bore more -/
def isP (σ : sT) (e : Int) : Prop := (gr0 σ e (sB σ) (sNb σ)).2.2 = sNs σ
theorem isP_mono {σ : sT} {e e' : Int} (h : isP σ e) (he : e ≤ e') : isP σ e' := grd_mono (tau_srt (sB σ) (sNb σ)) he h
def isE (σ : sT) (r : Int) : Prop := (r = -1 ∧ ∀ e, 0 ≤ e → e < 1000 → ¬ isP σ e) ∨ (0 ≤ r ∧ r < 1000 ∧ isP σ r ∧ ∀ e, 0 ≤ e → e < r → ¬ isP σ e)
theorem isE_u {σ : sT} {r r' : Int} (h : isE σ r) (h' : isE σ r') : r = r' := by
  rcases h with ⟨h1, h2⟩ | ⟨h1, h2, h3, h4⟩ <;> rcases h' with ⟨g1, g2⟩ | ⟨g1, g2, g3, g4⟩
  · rw [h1, g1]
  · exact absurd g3 (h2 r' g1 g2)
  · exact absurd h3 (g2 r h1 h2)
  · rcases Int.lt_trichotomy r r' with c | c | c
    · exact absurd h3 (g4 r h1 c)
    · exact c
    · exact absurd g3 (h4 r' g1 c)
/-- the spans stand -/
def spZ (σ : sT) (ρ τ : Nat → Nat) (μ : mM) : Prop := spS (sNs σ) (sZ σ) (beg σ) (enn σ) ρ μ ∧ srt (enn σ) (sZ σ) ρ (sNs σ) ∧ spB (sNb σ) (sB σ) τ μ ∧ srt (sB σ) (fun _ => 0) τ (sNb σ)
theorem spZ.kept {σ : sT} {ρ τ : Nat → Nat} {μ μ' : mM} (h : spZ σ ρ τ μ) (hf : ∀ k i, ¬ (k = 24 ∨ k = 27) → μ' k i = μ k i) : spZ σ ρ τ μ' := by
  refine ⟨⟨by rw [hf 5 0 (by omega)]; exact h.1.1, fun i hi => ?_⟩, h.2.1, ⟨by rw [hf 5 0 (by omega)]; exact h.2.2.1.1, fun i hi => ?_⟩, h.2.2.2⟩
  · rw [hf 20 0 (by omega), hf 21 0 (by omega), hf 22 0 (by omega), hf 23 0 (by omega)]
    exact h.1.2 i hi
  · rw [hf 25 0 (by omega), hf 26 0 (by omega)]
    exact h.2.2.1.2 i hi
theorem f_pairZ {σ : sT} {ρ τ : Nat → Nat} {μ : mM} {e : Int} (h : spZ σ ρ τ μ) (hw : wf σ) (he : 0 ≤ e ∧ e < 1000) : ∃ μ', f_X5_pair [vr 5 0, vi (jI e)] μ = some (jI ((gr0 σ e (sB σ) (sNb σ)).2.2 : Int), μ') ∧ (∀ k i, ¬ (k = 24 ∨ k = 27) → μ' k i = μ k i) := by
  have hn := hw.1
  have hnb := hw.2.1
  obtain ⟨μ2, e2, hf2, -, -⟩ := f_pair (e := e) h.1 h.2.1 h.2.2.1 hn (by omega) h.2.2.2.1 (fun i hi => by have := wf_be hw hi; omega) (fun i hi => by have := hw.2.2.2.2.1 i hi; omega) he
  rw [gr0_of h.2.2.2] at e2
  exact ⟨μ2, e2, hf2⟩
theorem f_ease {σ : sT} {ρ τ : Nat → Nat} {μ : mM} (h : spZ σ ρ τ μ) (hw : wf σ) : ∃ r μ', f_X5_ease [vr 5 0] μ = some (jI r, μ') ∧ isE σ r ∧ (∀ k i, ¬ (k = 24 ∨ k = 27) → μ' k i = μ k i) := by
  have hn := hw.1
  have last : ∀ (t : Int) (x3 : mV) (μ1 : mM), -1 ≤ t → t < 1000 → (0 ≤ t → ¬ isP σ t) → (∀ e, t + 1 ≤ e → e < 1000 → isP σ e) → (∀ k i, ¬ (k = 24 ∨ k = 27) → μ1 k i = μ k i) → ∃ r μ', r_X5_ease_6 (jI t) (jI 0) x3 μ1 = some (jI r, μ') ∧ isE σ r ∧ (∀ k i, ¬ (k = 24 ∨ k = 27) → μ' k i = μ k i) := by
    intro t x3 μ1 h1 h2 h3 h4 hf
    by_cases c : t + 1 < 1000
    · refine ⟨t + 1, μ1, ?_, Or.inr ⟨by omega, c, h4 _ (Int.le_refl _) c, fun e he1 he2 hp => ?_⟩, hf⟩
      · rw [e_X5_ease_6]
        simp (disch := omega) only [j_0, j_1, j_2, j_3, j_4, j_5, j_6, j_8, j_9, j_16, j_20, j_24, j_33, j_48, j_49, j_57, j_58, j_82, j_83, j_100, j_131, j_179, j_227, j_275, j_512, j_825, j_999, j_1000, j_9999, j_10000, j_11000, j_65536, j_m1, jI_add, jI_sub, jI_mul, jI_neg, nca_9, nca_33, nca_58, nca_83, nca_131, nca_179, nca_227, nca_825, nca_4, nca_24, nca_275, ncb_1, ncb_275, ncb_24, nc_1add, Int.toNat_natCast, tz_0, tz_1, tz_2, tz_3, tz_4, tz_5, tz_6, tz_8, tz_9, tz_16, tz_20, tz_24, tz_33, tz_48, tz_49, tz_57, tz_58, tz_82, tz_83, tz_100, tz_131, tz_179, tz_227, tz_275, tz_512, tz_825, tz_999, tz_1000, tz_9999, tz_10000, tz_11000, tz_65536, nc_sub1, i_lt, n_lt, i_eq, n_eq, jI_natc, jI_nat, ck_ok, nc_lt, nc_le, if_true, if_false, Option.bind_some, wr_def, and_true, true_and, and_false, false_and, or_true, true_or, or_false, false_or, not_true, not_false_eq_true, not_true_eq_false, ite_true, ite_false, Nat.zero_add, Nat.add_zero, Int.add_zero, Int.zero_add, Int.sub_zero, up_eq, up_ne, up_i, up_j]
      · exact h3 (by omega) (isP_mono hp (by omega))
    · refine ⟨-1, μ1, ?_, Or.inl ⟨rfl, fun e he1 he2 hp => ?_⟩, hf⟩
      · rw [e_X5_ease_6]
        simp (disch := omega) only [j_0, j_1, j_2, j_3, j_4, j_5, j_6, j_8, j_9, j_16, j_20, j_24, j_33, j_48, j_49, j_57, j_58, j_82, j_83, j_100, j_131, j_179, j_227, j_275, j_512, j_825, j_999, j_1000, j_9999, j_10000, j_11000, j_65536, j_m1, jI_add, jI_sub, jI_mul, jI_neg, nca_9, nca_33, nca_58, nca_83, nca_131, nca_179, nca_227, nca_825, nca_4, nca_24, nca_275, ncb_1, ncb_275, ncb_24, nc_1add, Int.toNat_natCast, tz_0, tz_1, tz_2, tz_3, tz_4, tz_5, tz_6, tz_8, tz_9, tz_16, tz_20, tz_24, tz_33, tz_48, tz_49, tz_57, tz_58, tz_82, tz_83, tz_100, tz_131, tz_179, tz_227, tz_275, tz_512, tz_825, tz_999, tz_1000, tz_9999, tz_10000, tz_11000, tz_65536, nc_sub1, i_lt, n_lt, i_eq, n_eq, jI_natc, jI_nat, ck_ok, nc_lt, nc_le, if_true, if_false, Option.bind_some, wr_def, and_true, true_and, and_false, false_and, or_true, true_or, or_false, false_or, not_true, not_false_eq_true, not_true_eq_false, ite_true, ite_false, Nat.zero_add, Nat.add_zero, Int.add_zero, Int.zero_add, Int.sub_zero, up_eq, up_ne, up_i, up_j]
      · exact h3 (by omega) (isP_mono hp (by omega))
  have stp : ∀ (w : Int) (nx : Int), 0 < w → w ≤ 512 → w / 2 = nx → (∀ (t : Int) (x3 : mV) (μ1 : mM), -1 ≤ t → t < 1000 → (0 ≤ t → ¬ isP σ t) → (∀ e, t + w ≤ e → e < 1000 → isP σ e) → (∀ k i, ¬ (k = 24 ∨ k = 27) → μ1 k i = μ k i) → ∃ r μ', r_X5_ease_6 (jI t) (jI nx) x3 μ1 = some (jI r, μ') ∧ isE σ r ∧ (∀ k i, ¬ (k = 24 ∨ k = 27) → μ' k i = μ k i)) →
      ∀ (t : Int) (x3 : mV) (μ1 : mM), -1 ≤ t → t < 1000 → (0 ≤ t → ¬ isP σ t) → (∀ e, t + 2 * w ≤ e → e < 1000 → isP σ e) → (∀ k i, ¬ (k = 24 ∨ k = 27) → μ1 k i = μ k i) → ∃ r μ', r_X5_ease_6 (jI t) (jI w) x3 μ1 = some (jI r, μ') ∧ isE σ r ∧ (∀ k i, ¬ (k = 24 ∨ k = 27) → μ' k i = μ k i) := by
    intro w nx hw1 hw2 hnx k t x3 μ1 h1 h2 h3 h4 hf
    have hdiv : jI w / jI 2 = jI nx := by rw [jI_div (by omega) (by omega) (by omega) (by omega), hnx]
    by_cases c : t + w < 1000
    · obtain ⟨μ2, e2, hf2⟩ := f_pairZ (e := t + w) (h.kept hf) hw (by omega)
      have hf3 : ∀ k i, ¬ (k = 24 ∨ k = 27) → μ2 k i = μ k i := fun k i hk => (hf2 k i hk).trans (hf k i hk)
      have h8 : μ2 5 0 8 = jI (sNs σ : Int) := by rw [hf3 5 0 (by omega)]; exact h.1.1
      have hle := (gr0_bd hw (e := t + w) (B := sB σ) (N := sNb σ) (by have := hw.2.1; omega)).2.1
      by_cases c2 : isP σ (t + w)
      · obtain ⟨r, μ', a1, a2⟩ := k t (vi (jI (t + w))) μ2 h1 h2 h3 (fun e he1 he2 => isP_mono c2 he1) hf3
        refine ⟨r, μ', ?_, a2⟩
        have c3 : (gr0 σ (t + w) (sB σ) (sNb σ)).2.2 = sNs σ := c2
        rw [c3] at e2
        rw [← a1, e_X5_ease_6]
        simp (disch := omega) only [j_0, j_1, j_2, j_3, j_4, j_5, j_6, j_8, j_9, j_16, j_20, j_24, j_33, j_48, j_49, j_57, j_58, j_82, j_83, j_100, j_131, j_179, j_227, j_275, j_512, j_825, j_999, j_1000, j_9999, j_10000, j_11000, j_65536, j_m1, jI_add, jI_sub, jI_mul, jI_neg, nca_9, nca_33, nca_58, nca_83, nca_131, nca_179, nca_227, nca_825, nca_4, nca_24, nca_275, ncb_1, ncb_275, ncb_24, nc_1add, Int.toNat_natCast, tz_0, tz_1, tz_2, tz_3, tz_4, tz_5, tz_6, tz_8, tz_9, tz_16, tz_20, tz_24, tz_33, tz_48, tz_49, tz_57, tz_58, tz_82, tz_83, tz_100, tz_131, tz_179, tz_227, tz_275, tz_512, tz_825, tz_999, tz_1000, tz_9999, tz_10000, tz_11000, tz_65536, nc_sub1, i_lt, n_lt, i_eq, n_eq, jI_natc, jI_nat, ck_ok, nc_lt, nc_le, if_true, if_false, Option.bind_some, wr_def, and_true, true_and, and_false, false_and, or_true, true_or, or_false, false_or, not_true, not_false_eq_true, not_true_eq_false, ite_true, ite_false, Nat.zero_add, Nat.add_zero, Int.add_zero, Int.zero_add, Int.sub_zero, up_eq, up_ne, up_i, up_j, e2, h8, hdiv]
      · obtain ⟨r, μ', a1, a2⟩ := k (t + w) (vi (jI (t + w))) μ2 (by omega) c (fun _ => c2) (fun e he1 he2 => h4 e (by omega) he2) hf3
        refine ⟨r, μ', ?_, a2⟩
        have c3 : ¬ (gr0 σ (t + w) (sB σ) (sNb σ)).2.2 = sNs σ := c2
        rw [← a1, e_X5_ease_6]
        simp (disch := omega) only [j_0, j_1, j_2, j_3, j_4, j_5, j_6, j_8, j_9, j_16, j_20, j_24, j_33, j_48, j_49, j_57, j_58, j_82, j_83, j_100, j_131, j_179, j_227, j_275, j_512, j_825, j_999, j_1000, j_9999, j_10000, j_11000, j_65536, j_m1, jI_add, jI_sub, jI_mul, jI_neg, nca_9, nca_33, nca_58, nca_83, nca_131, nca_179, nca_227, nca_825, nca_4, nca_24, nca_275, ncb_1, ncb_275, ncb_24, nc_1add, Int.toNat_natCast, tz_0, tz_1, tz_2, tz_3, tz_4, tz_5, tz_6, tz_8, tz_9, tz_16, tz_20, tz_24, tz_33, tz_48, tz_49, tz_57, tz_58, tz_82, tz_83, tz_100, tz_131, tz_179, tz_227, tz_275, tz_512, tz_825, tz_999, tz_1000, tz_9999, tz_10000, tz_11000, tz_65536, nc_sub1, i_lt, n_lt, i_eq, n_eq, jI_natc, jI_nat, ck_ok, nc_lt, nc_le, if_true, if_false, Option.bind_some, wr_def, and_true, true_and, and_false, false_and, or_true, true_or, or_false, false_or, not_true, not_false_eq_true, not_true_eq_false, ite_true, ite_false, Nat.zero_add, Nat.add_zero, Int.add_zero, Int.zero_add, Int.sub_zero, up_eq, up_ne, up_i, up_j, e2, h8, hdiv]
    · obtain ⟨r, μ', a1, a2⟩ := k t (vi (jI (t + w))) μ1 h1 h2 h3 (fun e he1 he2 => by omega) hf
      refine ⟨r, μ', ?_, a2⟩
      rw [← a1, e_X5_ease_6]
      simp (disch := omega) only [j_0, j_1, j_2, j_3, j_4, j_5, j_6, j_8, j_9, j_16, j_20, j_24, j_33, j_48, j_49, j_57, j_58, j_82, j_83, j_100, j_131, j_179, j_227, j_275, j_512, j_825, j_999, j_1000, j_9999, j_10000, j_11000, j_65536, j_m1, jI_add, jI_sub, jI_mul, jI_neg, nca_9, nca_33, nca_58, nca_83, nca_131, nca_179, nca_227, nca_825, nca_4, nca_24, nca_275, ncb_1, ncb_275, ncb_24, nc_1add, Int.toNat_natCast, tz_0, tz_1, tz_2, tz_3, tz_4, tz_5, tz_6, tz_8, tz_9, tz_16, tz_20, tz_24, tz_33, tz_48, tz_49, tz_57, tz_58, tz_82, tz_83, tz_100, tz_131, tz_179, tz_227, tz_275, tz_512, tz_825, tz_999, tz_1000, tz_9999, tz_10000, tz_11000, tz_65536, nc_sub1, i_lt, n_lt, i_eq, n_eq, jI_natc, jI_nat, ck_ok, nc_lt, nc_le, if_true, if_false, Option.bind_some, wr_def, and_true, true_and, and_false, false_and, or_true, true_or, or_false, false_or, not_true, not_false_eq_true, not_true_eq_false, ite_true, ite_false, Nat.zero_add, Nat.add_zero, Int.add_zero, Int.zero_add, Int.sub_zero, up_eq, up_ne, up_i, up_j, hdiv]
  have s1 := stp 1 0 (by omega) (by omega) (by decide) last
  have s2 := stp 2 1 (by omega) (by omega) (by decide) s1
  have s4 := stp 4 2 (by omega) (by omega) (by decide) s2
  have s8 := stp 8 4 (by omega) (by omega) (by decide) s4
  have s16 := stp 16 8 (by omega) (by omega) (by decide) s8
  have s32 := stp 32 16 (by omega) (by omega) (by decide) s16
  have s64 := stp 64 32 (by omega) (by omega) (by decide) s32
  have s128 := stp 128 64 (by omega) (by omega) (by decide) s64
  have s256 := stp 256 128 (by omega) (by omega) (by decide) s128
  have s512 := stp 512 256 (by omega) (by omega) (by decide) s256
  obtain ⟨r, μ', a1, a2⟩ := s512 (-1) vu μ (by omega) (by omega) (fun q => by omega) (fun e he1 he2 => by omega) (fun _ _ _ => rfl)
  refine ⟨r, μ', ?_, a2⟩
  rw [← a1, e_X5_ease]
  rfl
theorem m_pairs0 {σ : sT} {μ : mM} (h : mL σ μ) (hw : wf σ) {e : Int} (he : 0 ≤ e ∧ e < 1000) : ∃ μ', f_X8_pairs [vr 8 0, vi (jI e), vi (jI (-1))] μ = some (jI ((gr0 σ e (sB σ) (sNb σ)).2.2 : Int), μ') ∧ (∀ k i, ¬ (k = 53 ∨ k = 54 ∨ k = 55) → μ' k i = μ k i) := by
  obtain ⟨μ1, e1, hf, -, -⟩ := m_pairs (e := e) (mo := -1) h hw he (Or.inl ⟨rfl, rfl, fun _ _ => rfl⟩) (tau_srt (sB σ) (sNb σ))
  exact ⟨μ1, e1, hf⟩
theorem m_kept {σ : sT} {μ μ1 : mM} (h : mL σ μ) (hf : ∀ k i, ¬ (k = 53 ∨ k = 54 ∨ k = 55) → μ1 k i = μ k i) : mL σ μ1 := by
  show mSt σ (μ1 50 0)
  rw [hf 50 0 (by omega)]
  exact h
theorem m_ease {σ : sT} {μ : mM} (h : mL σ μ) (hw : wf σ) : ∃ r μ', f_X8_ease [vr 8 0] μ = some (jI r, μ') ∧ isE σ r ∧ (∀ k i, ¬ (k = 53 ∨ k = 54 ∨ k = 55) → μ' k i = μ k i) := by
  have hn := hw.1
  have hle : ∀ e, (gr0 σ e (sB σ) (sNb σ)).2.2 ≤ sNs σ := fun e => (gr0_bd hw (e := e) (B := sB σ) (N := sNb σ) (by have := hw.2.1; omega)).2.1
  obtain ⟨μ1, e1, hf⟩ := m_pairs0 h hw (e := 999) (by omega)
  have hm1 := m_kept h hf
  rw [e_X8_ease, j_999, j_m1, e1]
  have hl := hle 999
  by_cases c : isP σ 999
  · have key : ∀ (f : Nat) (lo hi : Int) (x3 : mV) (μ2 : mM), (hi - lo).toNat ≤ f → 0 ≤ lo → lo ≤ hi → hi < 1000 → isP σ hi → (∀ e, 0 ≤ e → e < lo → ¬ isP σ e) → (∀ k i, ¬ (k = 53 ∨ k = 54 ∨ k = 55) → μ2 k i = μ k i) → ∃ r μ', r_X8_ease_26 (jI lo) (jI hi) x3 μ2 = some (jI r, μ') ∧ isE σ r ∧ (∀ k i, ¬ (k = 53 ∨ k = 54 ∨ k = 55) → μ' k i = μ k i) := by
      intro f
      induction f with
      | zero =>
        intro lo hi x3 μ2 hf0 h1 h2 h3 h4 h5 hfr
        refine ⟨lo, μ2, ?_, Or.inr ⟨h1, by omega, by rw [show lo = hi by omega]; exact h4, h5⟩, hfr⟩
        rw [e_X8_ease_26]
        simp (disch := omega) only [j_0, j_1, j_2, j_3, j_4, j_5, j_6, j_8, j_9, j_16, j_20, j_24, j_33, j_48, j_49, j_57, j_58, j_82, j_83, j_100, j_131, j_179, j_227, j_275, j_512, j_825, j_999, j_1000, j_9999, j_10000, j_11000, j_65536, j_m1, jI_add, jI_sub, jI_mul, jI_neg, nca_9, nca_33, nca_58, nca_83, nca_131, nca_179, nca_227, nca_825, nca_4, nca_24, nca_275, ncb_1, ncb_275, ncb_24, nc_1add, Int.toNat_natCast, tz_0, tz_1, tz_2, tz_3, tz_4, tz_5, tz_6, tz_8, tz_9, tz_16, tz_20, tz_24, tz_33, tz_48, tz_49, tz_57, tz_58, tz_82, tz_83, tz_100, tz_131, tz_179, tz_227, tz_275, tz_512, tz_825, tz_999, tz_1000, tz_9999, tz_10000, tz_11000, tz_65536, nc_sub1, i_lt, n_lt, i_eq, n_eq, jI_natc, jI_nat, ck_ok, nc_lt, nc_le, if_true, if_false, Option.bind_some, wr_def, and_true, true_and, and_false, false_and, or_true, true_or, or_false, false_or, not_true, not_false_eq_true, not_true_eq_false, ite_true, ite_false, Nat.zero_add, Nat.add_zero, Int.add_zero, Int.zero_add, Int.sub_zero, up_eq, up_ne, up_i, up_j]
      | succ f ih =>
        intro lo hi x3 μ2 hf0 h1 h2 h3 h4 h5 hfr
        by_cases c0 : lo < hi
        · have hdiv : jI (lo + hi) / jI 2 = jI ((lo + hi) / 2) := jI_div (by omega) (by omega) (by omega) (by omega)
          obtain ⟨md, hmd⟩ : ∃ md : Int, md = (lo + hi) / 2 := ⟨_, rfl⟩
          rw [← hmd] at hdiv
          obtain ⟨μ3, e3, hf3⟩ := m_pairs0 (m_kept h hfr) hw (e := md) (by omega)
          have hfr3 : ∀ k i, ¬ (k = 53 ∨ k = 54 ∨ k = 55) → μ3 k i = μ k i := fun k i hk => (hf3 k i hk).trans (hfr k i hk)
          have hm3 := m_kept h hfr3
          have hl3 := hle md
          by_cases c2 : isP σ md
          · obtain ⟨r, μ', a1, a2⟩ := ih lo md (vi (jI md)) μ3 (by omega) h1 (by omega) (by omega) c2 h5 hfr3
            refine ⟨r, μ', ?_, a2⟩
            have c3 : (gr0 σ md (sB σ) (sNb σ)).2.2 = sNs σ := c2
            rw [c3] at e3
            rw [← a1, e_X8_ease_26]
            simp (disch := omega) only [j_0, j_1, j_2, j_3, j_4, j_5, j_6, j_8, j_9, j_16, j_20, j_24, j_33, j_48, j_49, j_57, j_58, j_82, j_83, j_100, j_131, j_179, j_227, j_275, j_512, j_825, j_999, j_1000, j_9999, j_10000, j_11000, j_65536, j_m1, jI_add, jI_sub, jI_mul, jI_neg, nca_9, nca_33, nca_58, nca_83, nca_131, nca_179, nca_227, nca_825, nca_4, nca_24, nca_275, ncb_1, ncb_275, ncb_24, nc_1add, Int.toNat_natCast, tz_0, tz_1, tz_2, tz_3, tz_4, tz_5, tz_6, tz_8, tz_9, tz_16, tz_20, tz_24, tz_33, tz_48, tz_49, tz_57, tz_58, tz_82, tz_83, tz_100, tz_131, tz_179, tz_227, tz_275, tz_512, tz_825, tz_999, tz_1000, tz_9999, tz_10000, tz_11000, tz_65536, nc_sub1, i_lt, n_lt, i_eq, n_eq, jI_natc, jI_nat, ck_ok, nc_lt, nc_le, if_true, if_false, Option.bind_some, wr_def, and_true, true_and, and_false, false_and, or_true, true_or, or_false, false_or, not_true, not_false_eq_true, not_true_eq_false, ite_true, ite_false, Nat.zero_add, Nat.add_zero, Int.add_zero, Int.zero_add, Int.sub_zero, up_eq, up_ne, up_i, up_j, hdiv, e3, hm3.1]
          · obtain ⟨r, μ', a1, a2⟩ := ih (md + 1) hi (vi (jI md)) μ3 (by omega) (by omega) (by omega) h3 h4 (fun e he1 he2 hp => c2 (isP_mono hp (by omega))) hfr3
            refine ⟨r, μ', ?_, a2⟩
            have c3 : ¬ (gr0 σ md (sB σ) (sNb σ)).2.2 = sNs σ := c2
            rw [← a1, e_X8_ease_26]
            simp (disch := omega) only [j_0, j_1, j_2, j_3, j_4, j_5, j_6, j_8, j_9, j_16, j_20, j_24, j_33, j_48, j_49, j_57, j_58, j_82, j_83, j_100, j_131, j_179, j_227, j_275, j_512, j_825, j_999, j_1000, j_9999, j_10000, j_11000, j_65536, j_m1, jI_add, jI_sub, jI_mul, jI_neg, nca_9, nca_33, nca_58, nca_83, nca_131, nca_179, nca_227, nca_825, nca_4, nca_24, nca_275, ncb_1, ncb_275, ncb_24, nc_1add, Int.toNat_natCast, tz_0, tz_1, tz_2, tz_3, tz_4, tz_5, tz_6, tz_8, tz_9, tz_16, tz_20, tz_24, tz_33, tz_48, tz_49, tz_57, tz_58, tz_82, tz_83, tz_100, tz_131, tz_179, tz_227, tz_275, tz_512, tz_825, tz_999, tz_1000, tz_9999, tz_10000, tz_11000, tz_65536, nc_sub1, i_lt, n_lt, i_eq, n_eq, jI_natc, jI_nat, ck_ok, nc_lt, nc_le, if_true, if_false, Option.bind_some, wr_def, and_true, true_and, and_false, false_and, or_true, true_or, or_false, false_or, not_true, not_false_eq_true, not_true_eq_false, ite_true, ite_false, Nat.zero_add, Nat.add_zero, Int.add_zero, Int.zero_add, Int.sub_zero, up_eq, up_ne, up_i, up_j, hdiv, e3, hm3.1]
        · refine ⟨lo, μ2, ?_, Or.inr ⟨h1, by omega, by rw [show lo = hi by omega]; exact h4, h5⟩, hfr⟩
          rw [e_X8_ease_26]
          simp (disch := omega) only [j_0, j_1, j_2, j_3, j_4, j_5, j_6, j_8, j_9, j_16, j_20, j_24, j_33, j_48, j_49, j_57, j_58, j_82, j_83, j_100, j_131, j_179, j_227, j_275, j_512, j_825, j_999, j_1000, j_9999, j_10000, j_11000, j_65536, j_m1, jI_add, jI_sub, jI_mul, jI_neg, nca_9, nca_33, nca_58, nca_83, nca_131, nca_179, nca_227, nca_825, nca_4, nca_24, nca_275, ncb_1, ncb_275, ncb_24, nc_1add, Int.toNat_natCast, tz_0, tz_1, tz_2, tz_3, tz_4, tz_5, tz_6, tz_8, tz_9, tz_16, tz_20, tz_24, tz_33, tz_48, tz_49, tz_57, tz_58, tz_82, tz_83, tz_100, tz_131, tz_179, tz_227, tz_275, tz_512, tz_825, tz_999, tz_1000, tz_9999, tz_10000, tz_11000, tz_65536, nc_sub1, i_lt, n_lt, i_eq, n_eq, jI_natc, jI_nat, ck_ok, nc_lt, nc_le, if_true, if_false, Option.bind_some, wr_def, and_true, true_and, and_false, false_and, or_true, true_or, or_false, false_or, not_true, not_false_eq_true, not_true_eq_false, ite_true, ite_false, Nat.zero_add, Nat.add_zero, Int.add_zero, Int.zero_add, Int.sub_zero, up_eq, up_ne, up_i, up_j]
    obtain ⟨r, μ', a1, a2⟩ := key 999 0 999 vu μ1 (by omega) (by omega) (by omega) (by omega) c (fun e h1 h2 => by omega) hf
    refine ⟨r, μ', ?_, a2⟩
    have c3 : (gr0 σ 999 (sB σ) (sNb σ)).2.2 = sNs σ := c
    rw [← a1, c3]
    simp (disch := omega) only [j_0, j_1, j_2, j_3, j_4, j_5, j_6, j_8, j_9, j_16, j_20, j_24, j_33, j_48, j_49, j_57, j_58, j_82, j_83, j_100, j_131, j_179, j_227, j_275, j_512, j_825, j_999, j_1000, j_9999, j_10000, j_11000, j_65536, j_m1, jI_add, jI_sub, jI_mul, jI_neg, nca_9, nca_33, nca_58, nca_83, nca_131, nca_179, nca_227, nca_825, nca_4, nca_24, nca_275, ncb_1, ncb_275, ncb_24, nc_1add, Int.toNat_natCast, tz_0, tz_1, tz_2, tz_3, tz_4, tz_5, tz_6, tz_8, tz_9, tz_16, tz_20, tz_24, tz_33, tz_48, tz_49, tz_57, tz_58, tz_82, tz_83, tz_100, tz_131, tz_179, tz_227, tz_275, tz_512, tz_825, tz_999, tz_1000, tz_9999, tz_10000, tz_11000, tz_65536, nc_sub1, i_lt, n_lt, i_eq, n_eq, jI_natc, jI_nat, ck_ok, nc_lt, nc_le, if_true, if_false, Option.bind_some, wr_def, and_true, true_and, and_false, false_and, or_true, true_or, or_false, false_or, not_true, not_false_eq_true, not_true_eq_false, ite_true, ite_false, Nat.zero_add, Nat.add_zero, Int.add_zero, Int.zero_add, Int.sub_zero, up_eq, up_ne, up_i, up_j, hm1.1]
  · refine ⟨-1, μ1, ?_, Or.inl ⟨rfl, fun e h1 h2 hp => c (isP_mono hp (by omega))⟩, hf⟩
    have c3 : ¬ (gr0 σ 999 (sB σ) (sNb σ)).2.2 = sNs σ := c
    simp (disch := omega) only [j_0, j_1, j_2, j_3, j_4, j_5, j_6, j_8, j_9, j_16, j_20, j_24, j_33, j_48, j_49, j_57, j_58, j_82, j_83, j_100, j_131, j_179, j_227, j_275, j_512, j_825, j_999, j_1000, j_9999, j_10000, j_11000, j_65536, j_m1, jI_add, jI_sub, jI_mul, jI_neg, nca_9, nca_33, nca_58, nca_83, nca_131, nca_179, nca_227, nca_825, nca_4, nca_24, nca_275, ncb_1, ncb_275, ncb_24, nc_1add, Int.toNat_natCast, tz_0, tz_1, tz_2, tz_3, tz_4, tz_5, tz_6, tz_8, tz_9, tz_16, tz_20, tz_24, tz_33, tz_48, tz_49, tz_57, tz_58, tz_82, tz_83, tz_100, tz_131, tz_179, tz_227, tz_275, tz_512, tz_825, tz_999, tz_1000, tz_9999, tz_10000, tz_11000, tz_65536, nc_sub1, i_lt, n_lt, i_eq, n_eq, jI_natc, jI_nat, ck_ok, nc_lt, nc_le, if_true, if_false, Option.bind_some, wr_def, and_true, true_and, and_false, false_and, or_true, true_or, or_false, false_or, not_true, not_false_eq_true, not_true_eq_false, ite_true, ite_false, Nat.zero_add, Nat.add_zero, Int.add_zero, Int.zero_add, Int.sub_zero, up_eq, up_ne, up_i, up_j, hm1.1]
/-- pairs with one bore more -/
noncomputable def pW (σ : sT) (z : Int) : Nat := (gr0 σ 0 (upI (sB σ) (sNb σ) z) (sNb σ + 1)).2.2
theorem f_pairsWith {σ : sT} {ρ τ : Nat → Nat} {μ : mM} (h : spZ σ ρ τ μ) (hw : wf σ) {z : Int} (hz : 0 ≤ z ∧ z < 20000) : ∃ μ', f_X5_pairsWith [vr 5 0, vi (jI z)] μ = some (jI (pW σ z : Int), μ') ∧ spZ σ ρ τ μ' ∧ (∀ k i, ¬ (k = 5 ∨ (20 ≤ k ∧ k ≤ 27)) → μ' k i = μ k i) ∧ (∀ i, i < sNs σ → μ' 21 0 i = μ 21 0 i) := by
  obtain ⟨hS, hs, hB, ht⟩ := h
  have hn := hw.1
  have hnb := hw.2.1
  have hB' : spB (sNb σ) (upI (sB σ) (sNb σ) z) τ μ := ⟨hB.1, fun i hi => by rw [upI_ne (by omega)]; exact hB.2 i hi⟩
  have ht' : srt (upI (sB σ) (sNb σ) z) (fun _ => 0) τ (sNb σ) := srt_congr ht (fun i hi => by rw [upI_ne (by omega)])
  have bb : ∀ i, i ≤ sNb σ → 0 ≤ upI (sB σ) (sNb σ) z i ∧ upI (sB σ) (sNb σ) z i < 20000 := by
    intro i hi
    by_cases c : i = sNb σ
    · rw [c, upI_eq]; exact hz
    · rw [upI_ne c]; have := hw.2.2.2.2.1 i (by omega); omega
  obtain ⟨μ1, τ1, e1, b1, t1, ⟨p, hp, rfl⟩, f1, g1⟩ := f_addBore hB' (by omega) ht' bb
  rw [upI_eq] at e1
  have hS1 : spS (sNs σ) (sZ σ) (beg σ) (enn σ) ρ μ1 := ⟨g1.trans hS.1, fun i hi => by
    rw [f1 20 0 (by omega), f1 21 0 (by omega), f1 22 0 (by omega), f1 23 0 (by omega)]
    exact hS.2 i hi⟩
  obtain ⟨μ2, e2, f2, -, -⟩ := f_pair (e := 0) hS1 hs b1 hn (by omega) t1.1 (fun i hi => by have := wf_be hw hi; omega) (fun i hi => bb i (by omega)) (by omega)
  rw [gr0_of t1] at e2
  have b2 : spB (sNb σ + 1) (upI (sB σ) (sNb σ) z) (insn τ (sNb σ) p) μ2 := ⟨by rw [f2 5 0 (by omega)]; exact b1.1, fun i hi => by
    rw [f2 25 0 (by omega), f2 26 0 (by omega)]
    exact b1.2 i hi⟩
  obtain ⟨μ3, e3, b3, f3, g3⟩ := f_dropLatest b2 (by omega) hp ht.1
  refine ⟨μ3, ?_, ⟨⟨?_, fun i hi => ?_⟩, hs, ⟨b3.1, fun i hi => ?_⟩, ht⟩, fun k i hk => ?_, fun i hi => ?_⟩
  · rw [e_X5_pairsWith, e1]
    simp (disch := omega) only [j_0, j_1, j_2, j_3, j_4, j_5, j_6, j_8, j_9, j_16, j_20, j_24, j_33, j_48, j_49, j_57, j_58, j_82, j_83, j_100, j_131, j_179, j_227, j_275, j_512, j_825, j_999, j_1000, j_9999, j_10000, j_11000, j_65536, j_m1, jI_add, jI_sub, jI_mul, jI_neg, nca_9, nca_33, nca_58, nca_83, nca_131, nca_179, nca_227, nca_825, nca_4, nca_24, nca_275, ncb_1, ncb_275, ncb_24, nc_1add, Int.toNat_natCast, tz_0, tz_1, tz_2, tz_3, tz_4, tz_5, tz_6, tz_8, tz_9, tz_16, tz_20, tz_24, tz_33, tz_48, tz_49, tz_57, tz_58, tz_82, tz_83, tz_100, tz_131, tz_179, tz_227, tz_275, tz_512, tz_825, tz_999, tz_1000, tz_9999, tz_10000, tz_11000, tz_65536, nc_sub1, i_lt, n_lt, i_eq, n_eq, jI_natc, jI_nat, ck_ok, nc_lt, nc_le, if_true, if_false, Option.bind_some, wr_def, and_true, true_and, and_false, false_and, or_true, true_or, or_false, false_or, not_true, not_false_eq_true, not_true_eq_false, ite_true, ite_false, Nat.zero_add, Nat.add_zero, Int.add_zero, Int.zero_add, Int.sub_zero, up_eq, up_ne, up_i, up_j, e2, e3]
    rfl
  · rw [g3, f2 5 0 (by omega)]; exact hS1.1
  · rw [f3 20 0 (by omega), f3 21 0 (by omega), f3 22 0 (by omega), f3 23 0 (by omega), f2 20 0 (by omega), f2 21 0 (by omega), f2 22 0 (by omega), f2 23 0 (by omega)]
    exact hS1.2 i hi
  · have := b3.2 i hi
    rw [upI_ne (by omega)] at this
    exact this
  · rw [f3 k i (by omega), f2 k i (by omega), f1 k i (by omega)]
  · rw [f3 21 0 (by omega), f2 21 0 (by omega), f1 21 0 (by omega)]
theorem m_pairs1 {σ : sT} {μ : mM} (h : mL σ μ) (hw : wf σ) {z : Int} (hz : 0 ≤ z ∧ z < 20000) : ∃ μ', f_X8_pairs [vr 8 0, vi (jI 0), vi (jI z)] μ = some (jI (pW σ z : Int), μ') ∧ (∀ k i, ¬ (k = 53 ∨ k = 54 ∨ k = 55) → μ' k i = μ k i) := by
  obtain ⟨μ1, e1, hf, -, -⟩ := m_pairs (e := 0) (mo := z) h hw (by omega) (Or.inr ⟨hz.1, hz.2, rfl, upI_eq, fun i hi => upI_ne (by omega)⟩) (tau_srt (upI (sB σ) (sNb σ) z) (sNb σ + 1))
  exact ⟨μ1, e1, hf⟩
noncomputable def mO (σ : sT) : Nat → Int
  | 0 => -1
  | s + 1 => if beg σ s < 10000 ∧ (mO σ s = -1 ∨ beg σ s < mO σ s) ∧ (gr0 σ 0 (sB σ) (sNb σ)).2.2 < pW σ (beg σ s) then beg σ s else mO σ s
theorem mO_bd {σ : sT} (hw : wf σ) : ∀ s, s ≤ sNs σ → -1 ≤ mO σ s ∧ mO σ s < 20000
  | 0, _ => by simp [mO]
  | s + 1, hs => by
    have ih := mO_bd hw s (by omega)
    have h := wf_be hw (s := s) (by omega)
    rw [mO]
    split <;> omega
theorem pW_le {σ : sT} (hw : wf σ) (z : Int) : pW σ z ≤ sNs σ := (gr0_bd hw (e := 0) (B := upI (sB σ) (sNb σ) z) (N := sNb σ + 1) (by have := hw.2.1; omega)).2.1
theorem f_oneMore {σ : sT} {ρ τ : Nat → Nat} {μ : mM} (h : spZ σ ρ τ μ) (hw : wf σ) : ∃ μ', f_X5_sizeOfOneMore [vr 5 0] μ = some (jI (mO σ (sNs σ)), μ') ∧ (∀ k i, ¬ (k = 5 ∨ (20 ≤ k ∧ k ≤ 27)) → μ' k i = μ k i) := by
  have hn := hw.1
  have hle := (gr0_bd hw (e := 0) (B := sB σ) (N := sNb σ) (by have := hw.2.1; omega)).2.1
  obtain ⟨μ1, e1, f1⟩ := f_pairZ (e := 0) h hw (by omega)
  have h1 := h.kept f1
  rw [e_X5_sizeOfOneMore, j_0, e1]
  by_cases c : (gr0 σ 0 (sB σ) (sNb σ)).2.2 = sNs σ
  · have hm : ∀ s, s ≤ sNs σ → mO σ s = -1 := by
      intro s
      induction s with
      | zero => intro _; rfl
      | succ s ih =>
        intro hs
        have := pW_le hw (beg σ s)
        rw [mO, if_neg (by omega)]
        exact ih (by omega)
    refine ⟨μ1, ?_, fun k i hk => f1 k i (by omega)⟩
    rw [hm (sNs σ) (Nat.le_refl _), c]
    simp (disch := omega) only [j_0, j_1, j_2, j_3, j_4, j_5, j_6, j_8, j_9, j_16, j_20, j_24, j_33, j_48, j_49, j_57, j_58, j_82, j_83, j_100, j_131, j_179, j_227, j_275, j_512, j_825, j_999, j_1000, j_9999, j_10000, j_11000, j_65536, j_m1, jI_add, jI_sub, jI_mul, jI_neg, nca_9, nca_33, nca_58, nca_83, nca_131, nca_179, nca_227, nca_825, nca_4, nca_24, nca_275, ncb_1, ncb_275, ncb_24, nc_1add, Int.toNat_natCast, tz_0, tz_1, tz_2, tz_3, tz_4, tz_5, tz_6, tz_8, tz_9, tz_16, tz_20, tz_24, tz_33, tz_48, tz_49, tz_57, tz_58, tz_82, tz_83, tz_100, tz_131, tz_179, tz_227, tz_275, tz_512, tz_825, tz_999, tz_1000, tz_9999, tz_10000, tz_11000, tz_65536, nc_sub1, i_lt, n_lt, i_eq, n_eq, jI_natc, jI_nat, ck_ok, nc_lt, nc_le, if_true, if_false, Option.bind_some, wr_def, and_true, true_and, and_false, false_and, or_true, true_or, or_false, false_or, not_true, not_false_eq_true, not_true_eq_false, ite_true, ite_false, Nat.zero_add, Nat.add_zero, Int.add_zero, Int.zero_add, Int.sub_zero, up_eq, up_ne, up_i, up_j, h1.1.1]
  · have key : ∀ (m i : Nat) (x4 : mV) (μ2 : mM), i + m = sNs σ → spZ σ ρ τ μ2 → (∀ k i, ¬ (k = 5 ∨ (20 ≤ k ∧ k ≤ 27)) → μ2 k i = μ k i) → ∃ μ', r_X5_sizeOfOneMore_20 (jI ((gr0 σ 0 (sB σ) (sNb σ)).2.2 : Int)) (jI (mO σ i)) (jI (i : Int)) x4 μ2 = some (jI (mO σ (sNs σ)), μ') ∧ (∀ k i, ¬ (k = 5 ∨ (20 ≤ k ∧ k ≤ 27)) → μ' k i = μ k i) := by
      intro m
      induction m with
      | zero =>
        intro i x4 μ2 him hz hf
        have e0 : i = sNs σ := by omega
        subst e0
        refine ⟨μ2, ?_, hf⟩
        rw [e_X5_sizeOfOneMore_20]
        simp (disch := omega) only [j_0, j_1, j_2, j_3, j_4, j_5, j_6, j_8, j_9, j_16, j_20, j_24, j_33, j_48, j_49, j_57, j_58, j_82, j_83, j_100, j_131, j_179, j_227, j_275, j_512, j_825, j_999, j_1000, j_9999, j_10000, j_11000, j_65536, j_m1, jI_add, jI_sub, jI_mul, jI_neg, nca_9, nca_33, nca_58, nca_83, nca_131, nca_179, nca_227, nca_825, nca_4, nca_24, nca_275, ncb_1, ncb_275, ncb_24, nc_1add, Int.toNat_natCast, tz_0, tz_1, tz_2, tz_3, tz_4, tz_5, tz_6, tz_8, tz_9, tz_16, tz_20, tz_24, tz_33, tz_48, tz_49, tz_57, tz_58, tz_82, tz_83, tz_100, tz_131, tz_179, tz_227, tz_275, tz_512, tz_825, tz_999, tz_1000, tz_9999, tz_10000, tz_11000, tz_65536, nc_sub1, i_lt, n_lt, i_eq, n_eq, jI_natc, jI_nat, ck_ok, nc_lt, nc_le, if_true, if_false, Option.bind_some, wr_def, and_true, true_and, and_false, false_and, or_true, true_or, or_false, false_or, not_true, not_false_eq_true, not_true_eq_false, ite_true, ite_false, Nat.zero_add, Nat.add_zero, Int.add_zero, Int.zero_add, Int.sub_zero, up_eq, up_ne, up_i, up_j, hz.1.1]
      | succ m ih =>
        intro i x4 μ2 him hz hf
        have hi : i < sNs σ := by omega
        have b1 := wf_be hw hi
        have b2 := mO_bd hw i (by omega)
        have b3 := pW_le hw (beg σ i)
        have q1 := (hz.1.2 i hi).2.1
        obtain ⟨μ3, e3, z3, f3, g3⟩ := f_pairsWith hz hw (z := beg σ i) (by omega)
        have q3 := (g3 i hi).trans q1
        have f3' : ∀ k i, ¬ (k = 5 ∨ (20 ≤ k ∧ k ≤ 27)) → μ3 k i = μ k i := fun k i hk => (f3 k i hk).trans (hf k i hk)
        by_cases c1 : beg σ i < 10000
        · by_cases c2 : mO σ i = -1 ∨ beg σ i < mO σ i
          · by_cases c3 : (gr0 σ 0 (sB σ) (sNb σ)).2.2 < pW σ (beg σ i)
            · have hx : mO σ (i + 1) = beg σ i := by rw [mO, if_pos ⟨c1, c2, c3⟩]
              obtain ⟨μ', a1, a2⟩ := ih (i + 1) (vi (jI 1)) μ3 (by omega) z3 f3'
              refine ⟨μ', ?_, a2⟩
              rw [hx] at a1
              rw [← a1, e_X5_sizeOfOneMore_20]
              by_cases c4 : mO σ i = -1
              · simp (disch := omega) only [j_0, j_1, j_2, j_3, j_4, j_5, j_6, j_8, j_9, j_16, j_20, j_24, j_33, j_48, j_49, j_57, j_58, j_82, j_83, j_100, j_131, j_179, j_227, j_275, j_512, j_825, j_999, j_1000, j_9999, j_10000, j_11000, j_65536, j_m1, jI_add, jI_sub, jI_mul, jI_neg, nca_9, nca_33, nca_58, nca_83, nca_131, nca_179, nca_227, nca_825, nca_4, nca_24, nca_275, ncb_1, ncb_275, ncb_24, nc_1add, Int.toNat_natCast, tz_0, tz_1, tz_2, tz_3, tz_4, tz_5, tz_6, tz_8, tz_9, tz_16, tz_20, tz_24, tz_33, tz_48, tz_49, tz_57, tz_58, tz_82, tz_83, tz_100, tz_131, tz_179, tz_227, tz_275, tz_512, tz_825, tz_999, tz_1000, tz_9999, tz_10000, tz_11000, tz_65536, nc_sub1, i_lt, n_lt, i_eq, n_eq, jI_natc, jI_nat, ck_ok, nc_lt, nc_le, if_true, if_false, Option.bind_some, wr_def, and_true, true_and, and_false, false_and, or_true, true_or, or_false, false_or, not_true, not_false_eq_true, not_true_eq_false, ite_true, ite_false, Nat.zero_add, Nat.add_zero, Int.add_zero, Int.zero_add, Int.sub_zero, up_eq, up_ne, up_i, up_j, hz.1.1, q1, q3, e3, c4]
              · simp (disch := omega) only [j_0, j_1, j_2, j_3, j_4, j_5, j_6, j_8, j_9, j_16, j_20, j_24, j_33, j_48, j_49, j_57, j_58, j_82, j_83, j_100, j_131, j_179, j_227, j_275, j_512, j_825, j_999, j_1000, j_9999, j_10000, j_11000, j_65536, j_m1, jI_add, jI_sub, jI_mul, jI_neg, nca_9, nca_33, nca_58, nca_83, nca_131, nca_179, nca_227, nca_825, nca_4, nca_24, nca_275, ncb_1, ncb_275, ncb_24, nc_1add, Int.toNat_natCast, tz_0, tz_1, tz_2, tz_3, tz_4, tz_5, tz_6, tz_8, tz_9, tz_16, tz_20, tz_24, tz_33, tz_48, tz_49, tz_57, tz_58, tz_82, tz_83, tz_100, tz_131, tz_179, tz_227, tz_275, tz_512, tz_825, tz_999, tz_1000, tz_9999, tz_10000, tz_11000, tz_65536, nc_sub1, i_lt, n_lt, i_eq, n_eq, jI_natc, jI_nat, ck_ok, nc_lt, nc_le, if_true, if_false, Option.bind_some, wr_def, and_true, true_and, and_false, false_and, or_true, true_or, or_false, false_or, not_true, not_false_eq_true, not_true_eq_false, ite_true, ite_false, Nat.zero_add, Nat.add_zero, Int.add_zero, Int.zero_add, Int.sub_zero, up_eq, up_ne, up_i, up_j, hz.1.1, q1, q3, e3]
            · have hx : mO σ (i + 1) = mO σ i := by rw [mO, if_neg (by omega)]
              obtain ⟨μ', a1, a2⟩ := ih (i + 1) (vi (jI 1)) μ3 (by omega) z3 f3'
              refine ⟨μ', ?_, a2⟩
              rw [hx] at a1
              rw [← a1, e_X5_sizeOfOneMore_20]
              by_cases c4 : mO σ i = -1
              · simp (disch := omega) only [j_0, j_1, j_2, j_3, j_4, j_5, j_6, j_8, j_9, j_16, j_20, j_24, j_33, j_48, j_49, j_57, j_58, j_82, j_83, j_100, j_131, j_179, j_227, j_275, j_512, j_825, j_999, j_1000, j_9999, j_10000, j_11000, j_65536, j_m1, jI_add, jI_sub, jI_mul, jI_neg, nca_9, nca_33, nca_58, nca_83, nca_131, nca_179, nca_227, nca_825, nca_4, nca_24, nca_275, ncb_1, ncb_275, ncb_24, nc_1add, Int.toNat_natCast, tz_0, tz_1, tz_2, tz_3, tz_4, tz_5, tz_6, tz_8, tz_9, tz_16, tz_20, tz_24, tz_33, tz_48, tz_49, tz_57, tz_58, tz_82, tz_83, tz_100, tz_131, tz_179, tz_227, tz_275, tz_512, tz_825, tz_999, tz_1000, tz_9999, tz_10000, tz_11000, tz_65536, nc_sub1, i_lt, n_lt, i_eq, n_eq, jI_natc, jI_nat, ck_ok, nc_lt, nc_le, if_true, if_false, Option.bind_some, wr_def, and_true, true_and, and_false, false_and, or_true, true_or, or_false, false_or, not_true, not_false_eq_true, not_true_eq_false, ite_true, ite_false, Nat.zero_add, Nat.add_zero, Int.add_zero, Int.zero_add, Int.sub_zero, up_eq, up_ne, up_i, up_j, hz.1.1, q1, q3, e3, c4]
              · simp (disch := omega) only [j_0, j_1, j_2, j_3, j_4, j_5, j_6, j_8, j_9, j_16, j_20, j_24, j_33, j_48, j_49, j_57, j_58, j_82, j_83, j_100, j_131, j_179, j_227, j_275, j_512, j_825, j_999, j_1000, j_9999, j_10000, j_11000, j_65536, j_m1, jI_add, jI_sub, jI_mul, jI_neg, nca_9, nca_33, nca_58, nca_83, nca_131, nca_179, nca_227, nca_825, nca_4, nca_24, nca_275, ncb_1, ncb_275, ncb_24, nc_1add, Int.toNat_natCast, tz_0, tz_1, tz_2, tz_3, tz_4, tz_5, tz_6, tz_8, tz_9, tz_16, tz_20, tz_24, tz_33, tz_48, tz_49, tz_57, tz_58, tz_82, tz_83, tz_100, tz_131, tz_179, tz_227, tz_275, tz_512, tz_825, tz_999, tz_1000, tz_9999, tz_10000, tz_11000, tz_65536, nc_sub1, i_lt, n_lt, i_eq, n_eq, jI_natc, jI_nat, ck_ok, nc_lt, nc_le, if_true, if_false, Option.bind_some, wr_def, and_true, true_and, and_false, false_and, or_true, true_or, or_false, false_or, not_true, not_false_eq_true, not_true_eq_false, ite_true, ite_false, Nat.zero_add, Nat.add_zero, Int.add_zero, Int.zero_add, Int.sub_zero, up_eq, up_ne, up_i, up_j, hz.1.1, q1, q3, e3]
          · have hx : mO σ (i + 1) = mO σ i := by rw [mO, if_neg (by omega)]
            obtain ⟨μ', a1, a2⟩ := ih (i + 1) (vi (jI 0)) μ2 (by omega) hz hf
            refine ⟨μ', ?_, a2⟩
            rw [hx] at a1
            rw [← a1, e_X5_sizeOfOneMore_20]
            simp (disch := omega) only [j_0, j_1, j_2, j_3, j_4, j_5, j_6, j_8, j_9, j_16, j_20, j_24, j_33, j_48, j_49, j_57, j_58, j_82, j_83, j_100, j_131, j_179, j_227, j_275, j_512, j_825, j_999, j_1000, j_9999, j_10000, j_11000, j_65536, j_m1, jI_add, jI_sub, jI_mul, jI_neg, nca_9, nca_33, nca_58, nca_83, nca_131, nca_179, nca_227, nca_825, nca_4, nca_24, nca_275, ncb_1, ncb_275, ncb_24, nc_1add, Int.toNat_natCast, tz_0, tz_1, tz_2, tz_3, tz_4, tz_5, tz_6, tz_8, tz_9, tz_16, tz_20, tz_24, tz_33, tz_48, tz_49, tz_57, tz_58, tz_82, tz_83, tz_100, tz_131, tz_179, tz_227, tz_275, tz_512, tz_825, tz_999, tz_1000, tz_9999, tz_10000, tz_11000, tz_65536, nc_sub1, i_lt, n_lt, i_eq, n_eq, jI_natc, jI_nat, ck_ok, nc_lt, nc_le, if_true, if_false, Option.bind_some, wr_def, and_true, true_and, and_false, false_and, or_true, true_or, or_false, false_or, not_true, not_false_eq_true, not_true_eq_false, ite_true, ite_false, Nat.zero_add, Nat.add_zero, Int.add_zero, Int.zero_add, Int.sub_zero, up_eq, up_ne, up_i, up_j, hz.1.1, q1, q3, e3]
        · have hx : mO σ (i + 1) = mO σ i := by rw [mO, if_neg (by omega)]
          obtain ⟨μ', a1, a2⟩ := ih (i + 1) (vi (jI 0)) μ2 (by omega) hz hf
          refine ⟨μ', ?_, a2⟩
          rw [hx] at a1
          rw [← a1, e_X5_sizeOfOneMore_20]
          simp (disch := omega) only [j_0, j_1, j_2, j_3, j_4, j_5, j_6, j_8, j_9, j_16, j_20, j_24, j_33, j_48, j_49, j_57, j_58, j_82, j_83, j_100, j_131, j_179, j_227, j_275, j_512, j_825, j_999, j_1000, j_9999, j_10000, j_11000, j_65536, j_m1, jI_add, jI_sub, jI_mul, jI_neg, nca_9, nca_33, nca_58, nca_83, nca_131, nca_179, nca_227, nca_825, nca_4, nca_24, nca_275, ncb_1, ncb_275, ncb_24, nc_1add, Int.toNat_natCast, tz_0, tz_1, tz_2, tz_3, tz_4, tz_5, tz_6, tz_8, tz_9, tz_16, tz_20, tz_24, tz_33, tz_48, tz_49, tz_57, tz_58, tz_82, tz_83, tz_100, tz_131, tz_179, tz_227, tz_275, tz_512, tz_825, tz_999, tz_1000, tz_9999, tz_10000, tz_11000, tz_65536, nc_sub1, i_lt, n_lt, i_eq, n_eq, jI_natc, jI_nat, ck_ok, nc_lt, nc_le, if_true, if_false, Option.bind_some, wr_def, and_true, true_and, and_false, false_and, or_true, true_or, or_false, false_or, not_true, not_false_eq_true, not_true_eq_false, ite_true, ite_false, Nat.zero_add, Nat.add_zero, Int.add_zero, Int.zero_add, Int.sub_zero, up_eq, up_ne, up_i, up_j, hz.1.1, q1, q3, e3]
    obtain ⟨μ', a1, a2⟩ := key (sNs σ) 0 vu μ1 (by omega) h1 (fun k i hk => f1 k i (by omega))
    refine ⟨μ', ?_, a2⟩
    rw [← a1]
    simp (disch := omega) only [j_0, j_1, j_2, j_3, j_4, j_5, j_6, j_8, j_9, j_16, j_20, j_24, j_33, j_48, j_49, j_57, j_58, j_82, j_83, j_100, j_131, j_179, j_227, j_275, j_512, j_825, j_999, j_1000, j_9999, j_10000, j_11000, j_65536, j_m1, jI_add, jI_sub, jI_mul, jI_neg, nca_9, nca_33, nca_58, nca_83, nca_131, nca_179, nca_227, nca_825, nca_4, nca_24, nca_275, ncb_1, ncb_275, ncb_24, nc_1add, Int.toNat_natCast, tz_0, tz_1, tz_2, tz_3, tz_4, tz_5, tz_6, tz_8, tz_9, tz_16, tz_20, tz_24, tz_33, tz_48, tz_49, tz_57, tz_58, tz_82, tz_83, tz_100, tz_131, tz_179, tz_227, tz_275, tz_512, tz_825, tz_999, tz_1000, tz_9999, tz_10000, tz_11000, tz_65536, nc_sub1, i_lt, n_lt, i_eq, n_eq, jI_natc, jI_nat, ck_ok, nc_lt, nc_le, if_true, if_false, Option.bind_some, wr_def, and_true, true_and, and_false, false_and, or_true, true_or, or_false, false_or, not_true, not_false_eq_true, not_true_eq_false, ite_true, ite_false, Nat.zero_add, Nat.add_zero, Int.add_zero, Int.zero_add, Int.sub_zero, up_eq, up_ne, up_i, up_j, h1.1.1]
    rfl
theorem m_more {σ : sT} {μ : mM} (h : mL σ μ) (hw : wf σ) : ∃ μ', f_X8_more [vr 8 0] μ = some (jI (mO σ (sNs σ)), μ') ∧ (∀ k i, ¬ (k = 53 ∨ k = 54 ∨ k = 55) → μ' k i = μ k i) := by
  have hn := hw.1
  have hle := (gr0_bd hw (e := 0) (B := sB σ) (N := sNb σ) (by have := hw.2.1; omega)).2.1
  obtain ⟨μ1, e1, f1, -, -⟩ := m_now h hw
  have key : ∀ (m i : Nat) (x4 x5 : mV) (μ2 : mM), i + m = sNs σ → (∀ k i, ¬ (k = 53 ∨ k = 54 ∨ k = 55) → μ2 k i = μ k i) → ∃ μ', r_X8_more_9 (jI (mO σ i)) (jI ((gr0 σ 0 (sB σ) (sNb σ)).2.2 : Int)) (jI (i : Int)) x4 x5 μ2 = some (jI (mO σ (sNs σ)), μ') ∧ (∀ k i, ¬ (k = 53 ∨ k = 54 ∨ k = 55) → μ' k i = μ k i) := by
    intro m
    induction m with
    | zero =>
      intro i x4 x5 μ2 him hf
      have e0 : i = sNs σ := by omega
      subst e0
      refine ⟨μ2, ?_, hf⟩
      rw [e_X8_more_9]
      simp (disch := omega) only [j_0, j_1, j_2, j_3, j_4, j_5, j_6, j_8, j_9, j_16, j_20, j_24, j_33, j_48, j_49, j_57, j_58, j_82, j_83, j_100, j_131, j_179, j_227, j_275, j_512, j_825, j_999, j_1000, j_9999, j_10000, j_11000, j_65536, j_m1, jI_add, jI_sub, jI_mul, jI_neg, nca_9, nca_33, nca_58, nca_83, nca_131, nca_179, nca_227, nca_825, nca_4, nca_24, nca_275, ncb_1, ncb_275, ncb_24, nc_1add, Int.toNat_natCast, tz_0, tz_1, tz_2, tz_3, tz_4, tz_5, tz_6, tz_8, tz_9, tz_16, tz_20, tz_24, tz_33, tz_48, tz_49, tz_57, tz_58, tz_82, tz_83, tz_100, tz_131, tz_179, tz_227, tz_275, tz_512, tz_825, tz_999, tz_1000, tz_9999, tz_10000, tz_11000, tz_65536, nc_sub1, i_lt, n_lt, i_eq, n_eq, jI_natc, jI_nat, ck_ok, nc_lt, nc_le, if_true, if_false, Option.bind_some, wr_def, and_true, true_and, and_false, false_and, or_true, true_or, or_false, false_or, not_true, not_false_eq_true, not_true_eq_false, ite_true, ite_false, Nat.zero_add, Nat.add_zero, Int.add_zero, Int.zero_add, Int.sub_zero, up_eq, up_ne, up_i, up_j, (m_kept h hf).1]
    | succ m ih =>
      intro i x4 x5 μ2 him hf
      have hi : i < sNs σ := by omega
      have hm2 := m_kept h hf
      have b1 := wf_be hw hi
      have b2 := mO_bd hw i (by omega)
      have b3 := pW_le hw (beg σ i)
      have hbg := m_begin hm2 hw hi
      have his := f_isSize (beg σ i) (by omega) μ2
      obtain ⟨μ3, e3, f3⟩ := m_pairs1 hm2 hw (z := beg σ i) (by omega)
      have f3' : ∀ k i, ¬ (k = 53 ∨ k = 54 ∨ k = 55) → μ3 k i = μ k i := fun k i hk => (f3 k i hk).trans (hf k i hk)
      by_cases c1 : beg σ i < 10000
      · rw [if_pos (by omega)] at his
        by_cases c2 : mO σ i = -1 ∨ beg σ i < mO σ i
        · by_cases c3 : (gr0 σ 0 (sB σ) (sNb σ)).2.2 < pW σ (beg σ i)
          · have hx : mO σ (i + 1) = beg σ i := by rw [mO, if_pos ⟨c1, c2, c3⟩]
            obtain ⟨μ', a1, a2⟩ := ih (i + 1) (vi (jI (beg σ i))) (vi (jI 1)) μ3 (by omega) f3'
            refine ⟨μ', ?_, a2⟩
            rw [hx] at a1
            rw [← a1, e_X8_more_9]
            by_cases c4 : mO σ i = -1
            · simp (disch := omega) only [j_0, j_1, j_2, j_3, j_4, j_5, j_6, j_8, j_9, j_16, j_20, j_24, j_33, j_48, j_49, j_57, j_58, j_82, j_83, j_100, j_131, j_179, j_227, j_275, j_512, j_825, j_999, j_1000, j_9999, j_10000, j_11000, j_65536, j_m1, jI_add, jI_sub, jI_mul, jI_neg, nca_9, nca_33, nca_58, nca_83, nca_131, nca_179, nca_227, nca_825, nca_4, nca_24, nca_275, ncb_1, ncb_275, ncb_24, nc_1add, Int.toNat_natCast, tz_0, tz_1, tz_2, tz_3, tz_4, tz_5, tz_6, tz_8, tz_9, tz_16, tz_20, tz_24, tz_33, tz_48, tz_49, tz_57, tz_58, tz_82, tz_83, tz_100, tz_131, tz_179, tz_227, tz_275, tz_512, tz_825, tz_999, tz_1000, tz_9999, tz_10000, tz_11000, tz_65536, nc_sub1, i_lt, n_lt, i_eq, n_eq, jI_natc, jI_nat, ck_ok, nc_lt, nc_le, if_true, if_false, Option.bind_some, wr_def, and_true, true_and, and_false, false_and, or_true, true_or, or_false, false_or, not_true, not_false_eq_true, not_true_eq_false, ite_true, ite_false, Nat.zero_add, Nat.add_zero, Int.add_zero, Int.zero_add, Int.sub_zero, up_eq, up_ne, up_i, up_j, hm2.1, hbg, his, e3, c4]
            · simp (disch := omega) only [j_0, j_1, j_2, j_3, j_4, j_5, j_6, j_8, j_9, j_16, j_20, j_24, j_33, j_48, j_49, j_57, j_58, j_82, j_83, j_100, j_131, j_179, j_227, j_275, j_512, j_825, j_999, j_1000, j_9999, j_10000, j_11000, j_65536, j_m1, jI_add, jI_sub, jI_mul, jI_neg, nca_9, nca_33, nca_58, nca_83, nca_131, nca_179, nca_227, nca_825, nca_4, nca_24, nca_275, ncb_1, ncb_275, ncb_24, nc_1add, Int.toNat_natCast, tz_0, tz_1, tz_2, tz_3, tz_4, tz_5, tz_6, tz_8, tz_9, tz_16, tz_20, tz_24, tz_33, tz_48, tz_49, tz_57, tz_58, tz_82, tz_83, tz_100, tz_131, tz_179, tz_227, tz_275, tz_512, tz_825, tz_999, tz_1000, tz_9999, tz_10000, tz_11000, tz_65536, nc_sub1, i_lt, n_lt, i_eq, n_eq, jI_natc, jI_nat, ck_ok, nc_lt, nc_le, if_true, if_false, Option.bind_some, wr_def, and_true, true_and, and_false, false_and, or_true, true_or, or_false, false_or, not_true, not_false_eq_true, not_true_eq_false, ite_true, ite_false, Nat.zero_add, Nat.add_zero, Int.add_zero, Int.zero_add, Int.sub_zero, up_eq, up_ne, up_i, up_j, hm2.1, hbg, his, e3]
          · have hx : mO σ (i + 1) = mO σ i := by rw [mO, if_neg (by omega)]
            obtain ⟨μ', a1, a2⟩ := ih (i + 1) (vi (jI (beg σ i))) (vi (jI 0)) μ3 (by omega) f3'
            refine ⟨μ', ?_, a2⟩
            rw [hx] at a1
            rw [← a1, e_X8_more_9]
            by_cases c4 : mO σ i = -1
            · simp (disch := omega) only [j_0, j_1, j_2, j_3, j_4, j_5, j_6, j_8, j_9, j_16, j_20, j_24, j_33, j_48, j_49, j_57, j_58, j_82, j_83, j_100, j_131, j_179, j_227, j_275, j_512, j_825, j_999, j_1000, j_9999, j_10000, j_11000, j_65536, j_m1, jI_add, jI_sub, jI_mul, jI_neg, nca_9, nca_33, nca_58, nca_83, nca_131, nca_179, nca_227, nca_825, nca_4, nca_24, nca_275, ncb_1, ncb_275, ncb_24, nc_1add, Int.toNat_natCast, tz_0, tz_1, tz_2, tz_3, tz_4, tz_5, tz_6, tz_8, tz_9, tz_16, tz_20, tz_24, tz_33, tz_48, tz_49, tz_57, tz_58, tz_82, tz_83, tz_100, tz_131, tz_179, tz_227, tz_275, tz_512, tz_825, tz_999, tz_1000, tz_9999, tz_10000, tz_11000, tz_65536, nc_sub1, i_lt, n_lt, i_eq, n_eq, jI_natc, jI_nat, ck_ok, nc_lt, nc_le, if_true, if_false, Option.bind_some, wr_def, and_true, true_and, and_false, false_and, or_true, true_or, or_false, false_or, not_true, not_false_eq_true, not_true_eq_false, ite_true, ite_false, Nat.zero_add, Nat.add_zero, Int.add_zero, Int.zero_add, Int.sub_zero, up_eq, up_ne, up_i, up_j, hm2.1, hbg, his, e3, c4]
            · simp (disch := omega) only [j_0, j_1, j_2, j_3, j_4, j_5, j_6, j_8, j_9, j_16, j_20, j_24, j_33, j_48, j_49, j_57, j_58, j_82, j_83, j_100, j_131, j_179, j_227, j_275, j_512, j_825, j_999, j_1000, j_9999, j_10000, j_11000, j_65536, j_m1, jI_add, jI_sub, jI_mul, jI_neg, nca_9, nca_33, nca_58, nca_83, nca_131, nca_179, nca_227, nca_825, nca_4, nca_24, nca_275, ncb_1, ncb_275, ncb_24, nc_1add, Int.toNat_natCast, tz_0, tz_1, tz_2, tz_3, tz_4, tz_5, tz_6, tz_8, tz_9, tz_16, tz_20, tz_24, tz_33, tz_48, tz_49, tz_57, tz_58, tz_82, tz_83, tz_100, tz_131, tz_179, tz_227, tz_275, tz_512, tz_825, tz_999, tz_1000, tz_9999, tz_10000, tz_11000, tz_65536, nc_sub1, i_lt, n_lt, i_eq, n_eq, jI_natc, jI_nat, ck_ok, nc_lt, nc_le, if_true, if_false, Option.bind_some, wr_def, and_true, true_and, and_false, false_and, or_true, true_or, or_false, false_or, not_true, not_false_eq_true, not_true_eq_false, ite_true, ite_false, Nat.zero_add, Nat.add_zero, Int.add_zero, Int.zero_add, Int.sub_zero, up_eq, up_ne, up_i, up_j, hm2.1, hbg, his, e3]
        · have hx : mO σ (i + 1) = mO σ i := by rw [mO, if_neg (by omega)]
          obtain ⟨μ', a1, a2⟩ := ih (i + 1) (vi (jI (beg σ i))) (vi (jI 0)) μ2 (by omega) hf
          refine ⟨μ', ?_, a2⟩
          rw [hx] at a1
          rw [← a1, e_X8_more_9]
          simp (disch := omega) only [j_0, j_1, j_2, j_3, j_4, j_5, j_6, j_8, j_9, j_16, j_20, j_24, j_33, j_48, j_49, j_57, j_58, j_82, j_83, j_100, j_131, j_179, j_227, j_275, j_512, j_825, j_999, j_1000, j_9999, j_10000, j_11000, j_65536, j_m1, jI_add, jI_sub, jI_mul, jI_neg, nca_9, nca_33, nca_58, nca_83, nca_131, nca_179, nca_227, nca_825, nca_4, nca_24, nca_275, ncb_1, ncb_275, ncb_24, nc_1add, Int.toNat_natCast, tz_0, tz_1, tz_2, tz_3, tz_4, tz_5, tz_6, tz_8, tz_9, tz_16, tz_20, tz_24, tz_33, tz_48, tz_49, tz_57, tz_58, tz_82, tz_83, tz_100, tz_131, tz_179, tz_227, tz_275, tz_512, tz_825, tz_999, tz_1000, tz_9999, tz_10000, tz_11000, tz_65536, nc_sub1, i_lt, n_lt, i_eq, n_eq, jI_natc, jI_nat, ck_ok, nc_lt, nc_le, if_true, if_false, Option.bind_some, wr_def, and_true, true_and, and_false, false_and, or_true, true_or, or_false, false_or, not_true, not_false_eq_true, not_true_eq_false, ite_true, ite_false, Nat.zero_add, Nat.add_zero, Int.add_zero, Int.zero_add, Int.sub_zero, up_eq, up_ne, up_i, up_j, hm2.1, hbg, his]
      · rw [if_neg (by omega)] at his
        have hx : mO σ (i + 1) = mO σ i := by rw [mO, if_neg (by omega)]
        obtain ⟨μ', a1, a2⟩ := ih (i + 1) (vi (jI (beg σ i))) (vi (jI 0)) μ2 (by omega) hf
        refine ⟨μ', ?_, a2⟩
        rw [hx] at a1
        rw [← a1, e_X8_more_9]
        simp (disch := omega) only [j_0, j_1, j_2, j_3, j_4, j_5, j_6, j_8, j_9, j_16, j_20, j_24, j_33, j_48, j_49, j_57, j_58, j_82, j_83, j_100, j_131, j_179, j_227, j_275, j_512, j_825, j_999, j_1000, j_9999, j_10000, j_11000, j_65536, j_m1, jI_add, jI_sub, jI_mul, jI_neg, nca_9, nca_33, nca_58, nca_83, nca_131, nca_179, nca_227, nca_825, nca_4, nca_24, nca_275, ncb_1, ncb_275, ncb_24, nc_1add, Int.toNat_natCast, tz_0, tz_1, tz_2, tz_3, tz_4, tz_5, tz_6, tz_8, tz_9, tz_16, tz_20, tz_24, tz_33, tz_48, tz_49, tz_57, tz_58, tz_82, tz_83, tz_100, tz_131, tz_179, tz_227, tz_275, tz_512, tz_825, tz_999, tz_1000, tz_9999, tz_10000, tz_11000, tz_65536, nc_sub1, i_lt, n_lt, i_eq, n_eq, jI_natc, jI_nat, ck_ok, nc_lt, nc_le, if_true, if_false, Option.bind_some, wr_def, and_true, true_and, and_false, false_and, or_true, true_or, or_false, false_or, not_true, not_false_eq_true, not_true_eq_false, ite_true, ite_false, Nat.zero_add, Nat.add_zero, Int.add_zero, Int.zero_add, Int.sub_zero, up_eq, up_ne, up_i, up_j, hm2.1, hbg, his]
  obtain ⟨μ', a1, a2⟩ := key (sNs σ) 0 vu vu μ1 (by omega) f1
  refine ⟨μ', ?_, a2⟩
  rw [← a1, e_X8_more, e1]
  rfl
