/-! one order alone is sorted; the pairing of a state -/
theorem srt_uniq {k1 k2 : Nat → Int} {ρ ρ' : Nat → Nat} {n : Nat} (h : srt k1 k2 ρ n) (h' : srt k1 k2 ρ' n) : ∀ m i, i < m → i < n → ρ i = ρ' i := by
  intro m
  induction m with
  | zero => intro i hi; omega
  | succ m ih =>
    intro i him hi
    obtain ⟨k, hk, ek⟩ := h'.2.2 (ρ i) (h.1 i hi)
    obtain ⟨l, hl, el⟩ := h.2.2 (ρ' i) (h'.1 i hi)
    have hki : i ≤ k := by
      rcases Nat.lt_or_ge k i with c | c
      · have := ih k (by omega) hk
        rw [ek] at this
        have := srt_inj h hk hi this
        omega
      · exact c
    have hli : i ≤ l := by
      rcases Nat.lt_or_ge l i with c | c
      · have := ih l (by omega) hl
        rw [el] at this
        have := srt_inj h' hi hl this
        omega
      · exact c
    by_cases c1 : k = i
    · rw [← ek, c1]
    · by_cases c2 : l = i
      · rw [← el, c2]
      · have q1 := h'.2.1 i k (by omega) hk
        have q2 := h.2.1 i l (by omega) hl
        rw [ek] at q1
        rw [el] at q2
        exact absurd q1 (lx_irr q2)
theorem pk_congr {zs bs es : Nat → Int} {e z : Int} {bo : Nat → Int} {n : Nat} : True := trivial
theorem grd_congr {n : Nat} {zs bs es : Nat → Int} {e : Int} {B B' : Nat → Int} {τ τ' : Nat → Nat} : ∀ N, (∀ i, i < N → τ i = τ' i) → (∀ i, i < N → B (τ i) = B' (τ i)) → grd n zs bs es e B τ N = grd n zs bs es e B' τ' N
  | 0, _, _ => rfl
  | N + 1, h1, h2 => by
    rw [grd_s, grd_s, grd_congr N (fun i hi => h1 i (by omega)) (fun i hi => h2 i (by omega)), h2 N (by omega), h1 N (by omega)]
noncomputable def tau (B : Nat → Int) (N : Nat) : Nat → Nat := Classical.choose (srt_ex B (fun _ => 0) N)
theorem tau_srt (B : Nat → Int) (N : Nat) : srt B (fun _ => 0) (tau B N) N := Classical.choose_spec (srt_ex B (fun _ => 0) N)
noncomputable def gr0 (σ : sT) (e : Int) (B : Nat → Int) (N : Nat) : (Nat → Int) × (Nat → Int) × Nat := grd (sNs σ) (sZ σ) (beg σ) (enn σ) e B (tau B N) N
theorem gr0_of {σ : sT} {e : Int} {B : Nat → Int} {N : Nat} {τ : Nat → Nat} (h : srt B (fun _ => 0) τ N) : grd (sNs σ) (sZ σ) (beg σ) (enn σ) e B τ N = gr0 σ e B N :=
  grd_congr N (fun i hi => srt_uniq h (tau_srt B N) N i hi hi) (fun _ _ => rfl)
theorem srt_congr {B B' : Nat → Int} {N : Nat} {τ : Nat → Nat} (h : srt B (fun _ => 0) τ N) (hB : ∀ i, i < N → B i = B' i) : srt B' (fun _ => 0) τ N := by
  refine ⟨h.1, fun i j hij hj => ?_, h.2.2⟩
  have := h.2.1 i j hij hj
  unfold lx at *
  rw [← hB _ (h.1 i (by omega)), ← hB _ (h.1 j hj)]
  exact this
theorem gr0_congr {σ : sT} {e : Int} {B B' : Nat → Int} {N : Nat} (hB : ∀ i, i < N → B i = B' i) : gr0 σ e B N = gr0 σ e B' N := by
  have h := tau_srt B N
  rw [← gr0_of (srt_congr h hB)]
  exact grd_congr N (fun _ _ => rfl) (fun i hi => hB _ (h.1 i hi))
/-- what a question of the class, of the model, leaves as it was -/
def qC (μ μ' : mM) : Prop := (∀ k i, ¬ (k ≤ 1 ∨ k = 4 ∨ k = 5 ∨ (20 ≤ k ∧ k ≤ 34) ∨ k = 42 ∨ k = 43) → μ' k i = μ k i) ∧ (∀ i, μ' 4 i 4 = μ 4 i 4) ∧ μ' 34 0 = μ 34 0 ∧ ∀ i, μ' 34 i 0 = μ 34 i 0
def qM (μ μ' : mM) : Prop := (∀ k i, ¬ (k = 8 ∨ k = 53 ∨ k = 54 ∨ k = 55 ∨ k = 59 ∨ k = 60) → μ' k i = μ k i) ∧ ∀ f, f ≠ 12 → f ≠ 13 → f ≠ 14 → μ' 8 0 f = μ 8 0 f
theorem qC.rfl' (μ : mM) : qC μ μ := ⟨fun _ _ _ => rfl, fun _ => rfl, rfl, fun _ => rfl⟩
theorem qM.rfl' (μ : mM) : qM μ μ := ⟨fun _ _ _ => rfl, fun _ _ _ _ => rfl⟩
theorem qC.tr {μ μ' μ'' : mM} (h : qC μ μ') (h' : qC μ' μ'') : qC μ μ'' := ⟨fun k i hk => (h'.1 k i hk).trans (h.1 k i hk), fun i => (h'.2.1 i).trans (h.2.1 i), h'.2.2.1.trans h.2.2.1, fun i => (h'.2.2.2 i).trans (h.2.2.2 i)⟩
theorem qM.tr {μ μ' μ'' : mM} (h : qM μ μ') (h' : qM μ' μ'') : qM μ μ'' := ⟨fun k i hk => (h'.1 k i hk).trans (h.1 k i hk), fun f h1 h2 h3 => (h'.2 f h1 h2 h3).trans (h.2 f h1 h2 h3)⟩
theorem qC.sp {μ μ' : mM} (h : ∀ k i, ¬ (k = 5 ∨ (20 ≤ k ∧ k ≤ 27)) → μ' k i = μ k i) : qC μ μ' := ⟨fun k i hk => h k i (by omega), fun i => by rw [h 4 i (by omega)], h 34 0 (by omega), fun i => by rw [h 34 i (by omega)]⟩
theorem qM.pr {μ μ' : mM} (h : ∀ k i, ¬ (k = 53 ∨ k = 54 ∨ k = 55) → μ' k i = μ k i) : qM μ μ' := ⟨fun k i hk => h k i (by omega), fun f _ _ _ => by rw [h 8 0 (by omega)]⟩
theorem qC.st {σ : sT} {a : Nat} {μ μ' : mM} (h : qC μ μ') (hs : cSt σ a μ) : cSt σ a μ' := by
  unfold cSt
  rw [h.1 6 a (by omega), h.1 10 a (by omega), h.1 11 a (by omega), h.1 12 a (by omega), h.1 13 a (by omega), h.1 14 a (by omega), h.1 15 a (by omega)]
  exact hs
theorem qM.st {σ : sT} {μ μ' : mM} (h : qM μ μ') (hs : mL σ μ) : mL σ μ' := by
  show mSt σ (μ' 50 0)
  rw [h.1 50 0 (by omega)]
  exact hs
/-- the class's pairing of the state -/
theorem f_pairUp {σ : sT} {μ : mM} (h : cSt σ 0 μ) (hw : wf σ) : ∃ μ' ρ τ, f_X7_pairUp [vr 7 0] μ = some (jI ((gr0 σ 0 (sB σ) (sNb σ)).2.2 : Int), μ') ∧ (∀ k i, ¬ (k = 5 ∨ (20 ≤ k ∧ k ≤ 27)) → μ' k i = μ k i) ∧ (∀ s, s < sNs σ → μ' 24 0 s = jI ((gr0 σ 0 (sB σ) (sNb σ)).1 s)) ∧ (∀ b, b < sNb σ → μ' 27 0 b = jI ((gr0 σ 0 (sB σ) (sNb σ)).2.1 b)) ∧ spS (sNs σ) (sZ σ) (beg σ) (enn σ) ρ μ' ∧ srt (enn σ) (sZ σ) ρ (sNs σ) ∧ spB (sNb σ) (sB σ) τ μ' ∧ srt (sB σ) (fun _ => 0) τ (sNb σ) := by
  obtain ⟨μ1, ρ, τ, e1, hS, hs, hB, hb, hf⟩ := f_read h hw
  have hn := hw.1
  have hnb := hw.2.1
  obtain ⟨μ2, e2, hf2, h24, h27⟩ := f_pair (e := 0) hS hs hB hn (by omega) hb.1 (fun i hi => by have := wf_be hw hi; omega) (fun i hi => by have := hw.2.2.2.2.1 i hi; omega) (by omega)
  rw [gr0_of hb] at e2 h24 h27
  refine ⟨μ2, ρ, τ, ?_, fun k i hk => (hf2 k i (by omega)).trans (hf k i (by omega)), h24, fun b hb2 => ?_, ?_, hs, ?_, hb⟩
  · rw [e_X7_pairUp, e1]
    simp (disch := omega) only [j_0, j_1, j_2, j_3, j_4, j_5, j_6, j_8, j_9, j_16, j_20, j_24, j_33, j_48, j_49, j_57, j_58, j_82, j_83, j_100, j_131, j_179, j_227, j_275, j_512, j_825, j_999, j_1000, j_9999, j_10000, j_11000, j_65536, j_m1, jI_add, jI_sub, jI_mul, jI_neg, nca_9, nca_33, nca_58, nca_83, nca_131, nca_179, nca_227, nca_825, nca_4, nca_24, nca_275, ncb_1, ncb_275, ncb_24, nc_1add, Int.toNat_natCast, tz_0, tz_1, tz_2, tz_3, tz_4, tz_5, tz_6, tz_8, tz_9, tz_16, tz_20, tz_24, tz_33, tz_48, tz_49, tz_57, tz_58, tz_82, tz_83, tz_100, tz_131, tz_179, tz_227, tz_275, tz_512, tz_825, tz_999, tz_1000, tz_9999, tz_10000, tz_11000, tz_65536, nc_sub1, i_lt, n_lt, i_eq, n_eq, jI_natc, jI_nat, ck_ok, nc_lt, nc_le, if_true, if_false, Option.bind_some, wr_def, and_true, true_and, and_false, false_and, or_true, true_or, or_false, false_or, not_true, not_false_eq_true, not_true_eq_false, ite_true, ite_false, Nat.zero_add, Nat.add_zero, Int.add_zero, Int.zero_add, Int.sub_zero, up_eq, up_ne, up_i, up_j, e2]
  · obtain ⟨j, hj, rfl⟩ := hb.2.2 b hb2
    exact h27 j hj
  · refine ⟨by rw [hf2 5 0 (by omega)]; exact hS.1, fun i hi => ?_⟩
    rw [hf2 20 0 (by omega), hf2 21 0 (by omega), hf2 22 0 (by omega), hf2 23 0 (by omega)]
    exact hS.2 i hi
  · refine ⟨by rw [hf2 5 0 (by omega)]; exact hB.1, fun i hi => ?_⟩
    rw [hf2 25 0 (by omega), hf2 26 0 (by omega)]
    exact hB.2 i hi
/-- the model's -/
theorem m_now {σ : sT} {μ : mM} (h : mL σ μ) (hw : wf σ) : ∃ μ', f_X8_now [vr 8 0] μ = some (jI ((gr0 σ 0 (sB σ) (sNb σ)).2.2 : Int), μ') ∧ (∀ k i, ¬ (k = 53 ∨ k = 54 ∨ k = 55) → μ' k i = μ k i) ∧ (∀ s, s < sNs σ → μ' 53 0 s = jI ((gr0 σ 0 (sB σ) (sNb σ)).1 s)) ∧ (∀ b, b < sNb σ → μ' 54 0 b = jI ((gr0 σ 0 (sB σ) (sNb σ)).2.1 b)) := by
  obtain ⟨μ1, e1, hf, h53, h54⟩ := m_pairs (e := 0) (mo := -1) h hw (by omega) (Or.inl ⟨rfl, rfl, fun _ _ => rfl⟩) (tau_srt (sB σ) (sNb σ))
  refine ⟨μ1, ?_, hf, h53, fun b hb => ?_⟩
  · rw [e_X8_now, j_0, j_m1, e1]
    rfl
  · obtain ⟨j, hj, rfl⟩ := (tau_srt (sB σ) (sNb σ)).2.2 b hb
    exact h54 j hj
/-- bounds of it -/
theorem gr0_bd {σ : sT} (hw : wf σ) {e : Int} {B : Nat → Int} {N : Nat} (hN : N ≤ 25) : (∀ s, -1 ≤ (gr0 σ e B N).1 s ∧ (gr0 σ e B N).1 s < 25) ∧ (gr0 σ e B N).2.2 ≤ sNs σ ∧ (gr0 σ e B N).2.2 ≤ N := by
  have h := grd_bd (n := sNs σ) (zs := sZ σ) (bs := beg σ) (es := enn σ) (e := e) (B := B) (ρ := tau B N) (N := N) (fun i hi => by have := (tau_srt B N).1 i hi; omega) N (Nat.le_refl N)
  exact ⟨h.1, grd_le N, h.2.2⟩
theorem gr0_play {σ : sT} (hw : wf σ) {s : Nat} (hs : s < sNs σ) (hb : (gr0 σ 0 (sB σ) (sNb σ)).1 s ≠ -1) : ∃ b, b < sNb σ ∧ (gr0 σ 0 (sB σ) (sNb σ)).1 s = (b : Int) ∧ beg σ s ≤ sB σ b ∧ sB σ b ≤ enn σ s := by
  obtain ⟨g1, -⟩ := grd_inv (n := sNs σ) (zs := sZ σ) (bs := beg σ) (es := enn σ) (e := 0) (tau_srt (sB σ) (sNb σ)) (sNb σ) (Nat.le_refl _)
  obtain ⟨j, k1, k2, k3, k4⟩ := g1 s hs hb
  exact ⟨tau (sB σ) (sNb σ) j, (tau_srt (sB σ) (sNb σ)).1 j k1, k2, by omega, by omega⟩
noncomputable def plY (σ : sT) (s : Nat) : Int := sB σ ((gr0 σ 0 (sB σ) (sNb σ)).1 s).toNat - sZ σ s
noncomputable def lPl (σ : sT) : Nat → Int
  | 0 => -1
  | s + 1 => if (gr0 σ 0 (sB σ) (sNb σ)).1 s ≠ -1 ∧ (lPl σ s = -1 ∨ plY σ s < lPl σ s) then plY σ s else lPl σ s
noncomputable def gPl (σ : sT) : Nat → Int
  | 0 => -1
  | s + 1 => if (gr0 σ 0 (sB σ) (sNb σ)).1 s ≠ -1 ∧ gPl σ s < plY σ s then plY σ s else gPl σ s
theorem plY_bd {σ : sT} (hw : wf σ) {s : Nat} (hs : s < sNs σ) (hb : (gr0 σ 0 (sB σ) (sNb σ)).1 s ≠ -1) : 0 ≤ plY σ s ∧ plY σ s < 20000 := by
  obtain ⟨b, h1, h2, h3, h4⟩ := gr0_play hw hs hb
  have h5 := wf_be hw hs
  have h6 := hw.2.2.2.1 s hs
  unfold plY
  rw [h2, Int.toNat_natCast]
  omega
theorem lPl_bd {σ : sT} (hw : wf σ) : ∀ s, s ≤ sNs σ → -1 ≤ lPl σ s ∧ lPl σ s < 20000 ∧ -1 ≤ gPl σ s ∧ gPl σ s < 20000
  | 0, _ => by simp [lPl, gPl]
  | s + 1, hs => by
    have ih := lPl_bd hw s (by omega)
    rw [lPl, gPl]
    by_cases c : (gr0 σ 0 (sB σ) (sNb σ)).1 s ≠ -1
    · have := plY_bd hw (by omega) c
      split <;> split <;> omega
    · rw [if_neg (fun q => c q.1), if_neg (fun q => c q.1)]; exact ih
theorem f_playOf {σ : sT} {μ : mM} (hw : wf σ) {ρ τ : Nat → Nat} (hS : spS (sNs σ) (sZ σ) (beg σ) (enn σ) ρ μ) (hB : spB (sNb σ) (sB σ) τ μ) (h24 : ∀ s, s < sNs σ → μ 24 0 s = jI ((gr0 σ 0 (sB σ) (sNb σ)).1 s)) {s : Nat} (hs : s < sNs σ) (hb : (gr0 σ 0 (sB σ) (sNb σ)).1 s ≠ -1) : f_X5_playOf [vr 5 0, vi (jI (s : Int))] μ = some (jI (plY σ s), μ) := by
  obtain ⟨b, h1, h2, h3, h4⟩ := gr0_play hw hs hb
  have hn := hw.1
  have hnb := hw.2.1
  have q1 := h24 s hs
  have q2 := (hB.2 b h1).1
  have q3 := (hS.2 s hs).1
  rw [h2] at q1
  rw [e_X5_playOf]
  unfold plY
  rw [h2]
  simp (disch := omega) only [j_0, j_1, j_2, j_3, j_4, j_5, j_6, j_8, j_9, j_16, j_20, j_24, j_33, j_48, j_49, j_57, j_58, j_82, j_83, j_100, j_131, j_179, j_227, j_275, j_512, j_825, j_999, j_1000, j_9999, j_10000, j_11000, j_65536, j_m1, jI_add, jI_sub, jI_mul, jI_neg, nca_9, nca_33, nca_58, nca_83, nca_131, nca_179, nca_227, nca_825, nca_4, nca_24, nca_275, ncb_1, ncb_275, ncb_24, nc_1add, Int.toNat_natCast, tz_0, tz_1, tz_2, tz_3, tz_4, tz_5, tz_6, tz_8, tz_9, tz_16, tz_20, tz_24, tz_33, tz_48, tz_49, tz_57, tz_58, tz_82, tz_83, tz_100, tz_131, tz_179, tz_227, tz_275, tz_512, tz_825, tz_999, tz_1000, tz_9999, tz_10000, tz_11000, tz_65536, nc_sub1, i_lt, n_lt, i_eq, n_eq, jI_natc, jI_nat, ck_ok, nc_lt, nc_le, if_true, if_false, Option.bind_some, wr_def, and_true, true_and, and_false, false_and, or_true, true_or, or_false, false_or, not_true, not_false_eq_true, not_true_eq_false, ite_true, ite_false, Nat.zero_add, Nat.add_zero, Int.add_zero, Int.zero_add, Int.sub_zero, up_eq, up_ne, up_i, up_j, q1, q2, q3]
theorem f_leastPlay {σ : sT} {μ : mM} (hw : wf σ) {ρ τ : Nat → Nat} (hS : spS (sNs σ) (sZ σ) (beg σ) (enn σ) ρ μ) (hB : spB (sNb σ) (sB σ) τ μ) (h24 : ∀ s, s < sNs σ → μ 24 0 s = jI ((gr0 σ 0 (sB σ) (sNb σ)).1 s)) : f_X5_leastPlay [vr 5 0] μ = some (jI (lPl σ (sNs σ)), μ) ∧ f_X5_greatestPlay [vr 5 0] μ = some (jI (gPl σ (sNs σ)), μ) := by
  have hn := hw.1
  have hnb := hw.2.1
  have bd := (gr0_bd hw (e := 0) (B := sB σ) (N := sNb σ) (by omega)).1
  constructor
  · rw [e_X5_leastPlay]
    have key : ∀ (m i : Nat), i + m = sNs σ → r_X5_leastPlay_4 (jI (lPl σ i)) (jI (i : Int)) μ = some (jI (lPl σ (sNs σ)), μ) := by
      intro m
      induction m with
      | zero =>
        intro i him
        have e0 : i = sNs σ := by omega
        subst e0
        rw [e_X5_leastPlay_4]
        simp (disch := omega) only [j_0, j_1, j_2, j_3, j_4, j_5, j_6, j_8, j_9, j_16, j_20, j_24, j_33, j_48, j_49, j_57, j_58, j_82, j_83, j_100, j_131, j_179, j_227, j_275, j_512, j_825, j_999, j_1000, j_9999, j_10000, j_11000, j_65536, j_m1, jI_add, jI_sub, jI_mul, jI_neg, nca_9, nca_33, nca_58, nca_83, nca_131, nca_179, nca_227, nca_825, nca_4, nca_24, nca_275, ncb_1, ncb_275, ncb_24, nc_1add, Int.toNat_natCast, tz_0, tz_1, tz_2, tz_3, tz_4, tz_5, tz_6, tz_8, tz_9, tz_16, tz_20, tz_24, tz_33, tz_48, tz_49, tz_57, tz_58, tz_82, tz_83, tz_100, tz_131, tz_179, tz_227, tz_275, tz_512, tz_825, tz_999, tz_1000, tz_9999, tz_10000, tz_11000, tz_65536, nc_sub1, i_lt, n_lt, i_eq, n_eq, jI_natc, jI_nat, ck_ok, nc_lt, nc_le, if_true, if_false, Option.bind_some, wr_def, and_true, true_and, and_false, false_and, or_true, true_or, or_false, false_or, not_true, not_false_eq_true, not_true_eq_false, ite_true, ite_false, Nat.zero_add, Nat.add_zero, Int.add_zero, Int.zero_add, Int.sub_zero, up_eq, up_ne, up_i, up_j, hS.1]
      | succ m ih =>
        intro i him
        have hi : i < sNs σ := by omega
        have q1 := h24 i hi
        have b1 := bd i
        have b2 := lPl_bd hw i (by omega)
        have ih2 := ih (i + 1) (by omega)
        rw [lPl] at ih2
        by_cases c : (gr0 σ 0 (sB σ) (sNb σ)).1 i = -1
        · rw [if_neg (fun q => q.1 c)] at ih2
          rw [← ih2, e_X5_leastPlay_4]
          simp (disch := omega) only [j_0, j_1, j_2, j_3, j_4, j_5, j_6, j_8, j_9, j_16, j_20, j_24, j_33, j_48, j_49, j_57, j_58, j_82, j_83, j_100, j_131, j_179, j_227, j_275, j_512, j_825, j_999, j_1000, j_9999, j_10000, j_11000, j_65536, j_m1, jI_add, jI_sub, jI_mul, jI_neg, nca_9, nca_33, nca_58, nca_83, nca_131, nca_179, nca_227, nca_825, nca_4, nca_24, nca_275, ncb_1, ncb_275, ncb_24, nc_1add, Int.toNat_natCast, tz_0, tz_1, tz_2, tz_3, tz_4, tz_5, tz_6, tz_8, tz_9, tz_16, tz_20, tz_24, tz_33, tz_48, tz_49, tz_57, tz_58, tz_82, tz_83, tz_100, tz_131, tz_179, tz_227, tz_275, tz_512, tz_825, tz_999, tz_1000, tz_9999, tz_10000, tz_11000, tz_65536, nc_sub1, i_lt, n_lt, i_eq, n_eq, jI_natc, jI_nat, ck_ok, nc_lt, nc_le, if_true, if_false, Option.bind_some, wr_def, and_true, true_and, and_false, false_and, or_true, true_or, or_false, false_or, not_true, not_false_eq_true, not_true_eq_false, ite_true, ite_false, Nat.zero_add, Nat.add_zero, Int.add_zero, Int.zero_add, Int.sub_zero, up_eq, up_ne, up_i, up_j, hS.1, q1, c]
        · have hp := f_playOf hw hS hB h24 hi c
          have b3 := plY_bd hw hi c
          by_cases c2 : lPl σ i = -1
          · rw [if_pos ⟨c, Or.inl c2⟩] at ih2
            rw [← ih2, e_X5_leastPlay_4]
            simp (disch := omega) only [j_0, j_1, j_2, j_3, j_4, j_5, j_6, j_8, j_9, j_16, j_20, j_24, j_33, j_48, j_49, j_57, j_58, j_82, j_83, j_100, j_131, j_179, j_227, j_275, j_512, j_825, j_999, j_1000, j_9999, j_10000, j_11000, j_65536, j_m1, jI_add, jI_sub, jI_mul, jI_neg, nca_9, nca_33, nca_58, nca_83, nca_131, nca_179, nca_227, nca_825, nca_4, nca_24, nca_275, ncb_1, ncb_275, ncb_24, nc_1add, Int.toNat_natCast, tz_0, tz_1, tz_2, tz_3, tz_4, tz_5, tz_6, tz_8, tz_9, tz_16, tz_20, tz_24, tz_33, tz_48, tz_49, tz_57, tz_58, tz_82, tz_83, tz_100, tz_131, tz_179, tz_227, tz_275, tz_512, tz_825, tz_999, tz_1000, tz_9999, tz_10000, tz_11000, tz_65536, nc_sub1, i_lt, n_lt, i_eq, n_eq, jI_natc, jI_nat, ck_ok, nc_lt, nc_le, if_true, if_false, Option.bind_some, wr_def, and_true, true_and, and_false, false_and, or_true, true_or, or_false, false_or, not_true, not_false_eq_true, not_true_eq_false, ite_true, ite_false, Nat.zero_add, Nat.add_zero, Int.add_zero, Int.zero_add, Int.sub_zero, up_eq, up_ne, up_i, up_j, hS.1, q1, hp, c2]
          · by_cases c3 : plY σ i < lPl σ i
            · rw [if_pos ⟨c, Or.inr c3⟩] at ih2
              rw [← ih2, e_X5_leastPlay_4]
              simp (disch := omega) only [j_0, j_1, j_2, j_3, j_4, j_5, j_6, j_8, j_9, j_16, j_20, j_24, j_33, j_48, j_49, j_57, j_58, j_82, j_83, j_100, j_131, j_179, j_227, j_275, j_512, j_825, j_999, j_1000, j_9999, j_10000, j_11000, j_65536, j_m1, jI_add, jI_sub, jI_mul, jI_neg, nca_9, nca_33, nca_58, nca_83, nca_131, nca_179, nca_227, nca_825, nca_4, nca_24, nca_275, ncb_1, ncb_275, ncb_24, nc_1add, Int.toNat_natCast, tz_0, tz_1, tz_2, tz_3, tz_4, tz_5, tz_6, tz_8, tz_9, tz_16, tz_20, tz_24, tz_33, tz_48, tz_49, tz_57, tz_58, tz_82, tz_83, tz_100, tz_131, tz_179, tz_227, tz_275, tz_512, tz_825, tz_999, tz_1000, tz_9999, tz_10000, tz_11000, tz_65536, nc_sub1, i_lt, n_lt, i_eq, n_eq, jI_natc, jI_nat, ck_ok, nc_lt, nc_le, if_true, if_false, Option.bind_some, wr_def, and_true, true_and, and_false, false_and, or_true, true_or, or_false, false_or, not_true, not_false_eq_true, not_true_eq_false, ite_true, ite_false, Nat.zero_add, Nat.add_zero, Int.add_zero, Int.zero_add, Int.sub_zero, up_eq, up_ne, up_i, up_j, hS.1, q1, hp]
            · rw [if_neg (by omega)] at ih2
              rw [← ih2, e_X5_leastPlay_4]
              simp (disch := omega) only [j_0, j_1, j_2, j_3, j_4, j_5, j_6, j_8, j_9, j_16, j_20, j_24, j_33, j_48, j_49, j_57, j_58, j_82, j_83, j_100, j_131, j_179, j_227, j_275, j_512, j_825, j_999, j_1000, j_9999, j_10000, j_11000, j_65536, j_m1, jI_add, jI_sub, jI_mul, jI_neg, nca_9, nca_33, nca_58, nca_83, nca_131, nca_179, nca_227, nca_825, nca_4, nca_24, nca_275, ncb_1, ncb_275, ncb_24, nc_1add, Int.toNat_natCast, tz_0, tz_1, tz_2, tz_3, tz_4, tz_5, tz_6, tz_8, tz_9, tz_16, tz_20, tz_24, tz_33, tz_48, tz_49, tz_57, tz_58, tz_82, tz_83, tz_100, tz_131, tz_179, tz_227, tz_275, tz_512, tz_825, tz_999, tz_1000, tz_9999, tz_10000, tz_11000, tz_65536, nc_sub1, i_lt, n_lt, i_eq, n_eq, jI_natc, jI_nat, ck_ok, nc_lt, nc_le, if_true, if_false, Option.bind_some, wr_def, and_true, true_and, and_false, false_and, or_true, true_or, or_false, false_or, not_true, not_false_eq_true, not_true_eq_false, ite_true, ite_false, Nat.zero_add, Nat.add_zero, Int.add_zero, Int.zero_add, Int.sub_zero, up_eq, up_ne, up_i, up_j, hS.1, q1, hp]
    exact key (sNs σ) 0 (by omega)
  · rw [e_X5_greatestPlay]
    have key : ∀ (m i : Nat), i + m = sNs σ → r_X5_greatestPlay_4 (jI (gPl σ i)) (jI (i : Int)) μ = some (jI (gPl σ (sNs σ)), μ) := by
      intro m
      induction m with
      | zero =>
        intro i him
        have e0 : i = sNs σ := by omega
        subst e0
        rw [e_X5_greatestPlay_4]
        simp (disch := omega) only [j_0, j_1, j_2, j_3, j_4, j_5, j_6, j_8, j_9, j_16, j_20, j_24, j_33, j_48, j_49, j_57, j_58, j_82, j_83, j_100, j_131, j_179, j_227, j_275, j_512, j_825, j_999, j_1000, j_9999, j_10000, j_11000, j_65536, j_m1, jI_add, jI_sub, jI_mul, jI_neg, nca_9, nca_33, nca_58, nca_83, nca_131, nca_179, nca_227, nca_825, nca_4, nca_24, nca_275, ncb_1, ncb_275, ncb_24, nc_1add, Int.toNat_natCast, tz_0, tz_1, tz_2, tz_3, tz_4, tz_5, tz_6, tz_8, tz_9, tz_16, tz_20, tz_24, tz_33, tz_48, tz_49, tz_57, tz_58, tz_82, tz_83, tz_100, tz_131, tz_179, tz_227, tz_275, tz_512, tz_825, tz_999, tz_1000, tz_9999, tz_10000, tz_11000, tz_65536, nc_sub1, i_lt, n_lt, i_eq, n_eq, jI_natc, jI_nat, ck_ok, nc_lt, nc_le, if_true, if_false, Option.bind_some, wr_def, and_true, true_and, and_false, false_and, or_true, true_or, or_false, false_or, not_true, not_false_eq_true, not_true_eq_false, ite_true, ite_false, Nat.zero_add, Nat.add_zero, Int.add_zero, Int.zero_add, Int.sub_zero, up_eq, up_ne, up_i, up_j, hS.1]
      | succ m ih =>
        intro i him
        have hi : i < sNs σ := by omega
        have q1 := h24 i hi
        have b1 := bd i
        have b2 := lPl_bd hw i (by omega)
        have ih2 := ih (i + 1) (by omega)
        rw [gPl] at ih2
        by_cases c : (gr0 σ 0 (sB σ) (sNb σ)).1 i = -1
        · rw [if_neg (fun q => q.1 c)] at ih2
          rw [← ih2, e_X5_greatestPlay_4]
          simp (disch := omega) only [j_0, j_1, j_2, j_3, j_4, j_5, j_6, j_8, j_9, j_16, j_20, j_24, j_33, j_48, j_49, j_57, j_58, j_82, j_83, j_100, j_131, j_179, j_227, j_275, j_512, j_825, j_999, j_1000, j_9999, j_10000, j_11000, j_65536, j_m1, jI_add, jI_sub, jI_mul, jI_neg, nca_9, nca_33, nca_58, nca_83, nca_131, nca_179, nca_227, nca_825, nca_4, nca_24, nca_275, ncb_1, ncb_275, ncb_24, nc_1add, Int.toNat_natCast, tz_0, tz_1, tz_2, tz_3, tz_4, tz_5, tz_6, tz_8, tz_9, tz_16, tz_20, tz_24, tz_33, tz_48, tz_49, tz_57, tz_58, tz_82, tz_83, tz_100, tz_131, tz_179, tz_227, tz_275, tz_512, tz_825, tz_999, tz_1000, tz_9999, tz_10000, tz_11000, tz_65536, nc_sub1, i_lt, n_lt, i_eq, n_eq, jI_natc, jI_nat, ck_ok, nc_lt, nc_le, if_true, if_false, Option.bind_some, wr_def, and_true, true_and, and_false, false_and, or_true, true_or, or_false, false_or, not_true, not_false_eq_true, not_true_eq_false, ite_true, ite_false, Nat.zero_add, Nat.add_zero, Int.add_zero, Int.zero_add, Int.sub_zero, up_eq, up_ne, up_i, up_j, hS.1, q1, c]
        · have hp := f_playOf hw hS hB h24 hi c
          have b3 := plY_bd hw hi c
          by_cases c3 : gPl σ i < plY σ i
          · rw [if_pos ⟨c, c3⟩] at ih2
            rw [← ih2, e_X5_greatestPlay_4]
            simp (disch := omega) only [j_0, j_1, j_2, j_3, j_4, j_5, j_6, j_8, j_9, j_16, j_20, j_24, j_33, j_48, j_49, j_57, j_58, j_82, j_83, j_100, j_131, j_179, j_227, j_275, j_512, j_825, j_999, j_1000, j_9999, j_10000, j_11000, j_65536, j_m1, jI_add, jI_sub, jI_mul, jI_neg, nca_9, nca_33, nca_58, nca_83, nca_131, nca_179, nca_227, nca_825, nca_4, nca_24, nca_275, ncb_1, ncb_275, ncb_24, nc_1add, Int.toNat_natCast, tz_0, tz_1, tz_2, tz_3, tz_4, tz_5, tz_6, tz_8, tz_9, tz_16, tz_20, tz_24, tz_33, tz_48, tz_49, tz_57, tz_58, tz_82, tz_83, tz_100, tz_131, tz_179, tz_227, tz_275, tz_512, tz_825, tz_999, tz_1000, tz_9999, tz_10000, tz_11000, tz_65536, nc_sub1, i_lt, n_lt, i_eq, n_eq, jI_natc, jI_nat, ck_ok, nc_lt, nc_le, if_true, if_false, Option.bind_some, wr_def, and_true, true_and, and_false, false_and, or_true, true_or, or_false, false_or, not_true, not_false_eq_true, not_true_eq_false, ite_true, ite_false, Nat.zero_add, Nat.add_zero, Int.add_zero, Int.zero_add, Int.sub_zero, up_eq, up_ne, up_i, up_j, hS.1, q1, hp]
          · rw [if_neg (by omega)] at ih2
            rw [← ih2, e_X5_greatestPlay_4]
            simp (disch := omega) only [j_0, j_1, j_2, j_3, j_4, j_5, j_6, j_8, j_9, j_16, j_20, j_24, j_33, j_48, j_49, j_57, j_58, j_82, j_83, j_100, j_131, j_179, j_227, j_275, j_512, j_825, j_999, j_1000, j_9999, j_10000, j_11000, j_65536, j_m1, jI_add, jI_sub, jI_mul, jI_neg, nca_9, nca_33, nca_58, nca_83, nca_131, nca_179, nca_227, nca_825, nca_4, nca_24, nca_275, ncb_1, ncb_275, ncb_24, nc_1add, Int.toNat_natCast, tz_0, tz_1, tz_2, tz_3, tz_4, tz_5, tz_6, tz_8, tz_9, tz_16, tz_20, tz_24, tz_33, tz_48, tz_49, tz_57, tz_58, tz_82, tz_83, tz_100, tz_131, tz_179, tz_227, tz_275, tz_512, tz_825, tz_999, tz_1000, tz_9999, tz_10000, tz_11000, tz_65536, nc_sub1, i_lt, n_lt, i_eq, n_eq, jI_natc, jI_nat, ck_ok, nc_lt, nc_le, if_true, if_false, Option.bind_some, wr_def, and_true, true_and, and_false, false_and, or_true, true_or, or_false, false_or, not_true, not_false_eq_true, not_true_eq_false, ite_true, ite_false, Nat.zero_add, Nat.add_zero, Int.add_zero, Int.zero_add, Int.sub_zero, up_eq, up_ne, up_i, up_j, hS.1, q1, hp]
    exact key (sNs σ) 0 (by omega)
theorem m_playOf {σ : sT} {μ : mM} (h : mL σ μ) (hw : wf σ) (l1 : Int) (hl : l1 = 0 ∨ l1 = 1) : ∃ μ', f_X8_playOf [vr 8 0, vi (jI l1)] μ = some (jI (if l1 = 0 then lPl σ (sNs σ) else gPl σ (sNs σ)), μ') ∧ qM μ μ' := by
  obtain ⟨μ1, e1, hf, h53, h54⟩ := m_now h hw
  have hn := hw.1
  have hnb := hw.2.1
  have hm1 : mL σ μ1 := by
    show mSt σ (μ1 50 0)
    rw [hf 50 0 (by omega)]
    exact h
  have bd := gr0_bd hw (e := 0) (B := sB σ) (N := sNb σ) (by omega)
  refine ⟨μ1, ?_, qM.pr hf⟩
  rw [e_X8_playOf, e1]
  simp only [Option.bind_some]
  have zero : (gr0 σ 0 (sB σ) (sNb σ)).2.2 = 0 → ∀ s, s < sNs σ → (gr0 σ 0 (sB σ) (sNb σ)).1 s = -1 := by
    intro hz s hs
    have hc := grd_cnt (n := sNs σ) (zs := sZ σ) (bs := beg σ) (es := enn σ) (e := 0) (B := sB σ) (τ := tau (sB σ) (sNb σ)) (sNb σ)
    by_cases c : (gr0 σ 0 (sB σ) (sNb σ)).1 s = -1
    · exact c
    · exfalso
      have hpos : ∀ n, s < n → 1 ≤ cnt (fun s => decide ((grd (sNs σ) (sZ σ) (beg σ) (enn σ) 0 (sB σ) (tau (sB σ) (sNb σ)) (sNb σ)).1 s ≠ -1)) n := by
        intro n
        induction n with
        | zero => intro q; omega
        | succ n ih =>
          intro q
          rw [cnt]
          by_cases c2 : s = n
          · subst c2
            have c' : (grd (sNs σ) (sZ σ) (beg σ) (enn σ) 0 (sB σ) (tau (sB σ) (sNb σ)) (sNb σ)).1 s ≠ -1 := c
            rw [if_pos (decide_eq_true c')]
            omega
          · have := ih (by omega)
            omega
      have := hpos (sNs σ) hs
      unfold gr0 at hz
      omega
  have key : ∀ (m i : Nat) (x5 : mV), i + m = sNs σ → r_X8_playOf_10 (jI l1) (jI (if l1 = 0 then lPl σ i else gPl σ i)) (jI ((gr0 σ 0 (sB σ) (sNb σ)).2.2 : Int)) (jI (i : Int)) x5 μ1 = some (jI (if l1 = 0 then lPl σ (sNs σ) else gPl σ (sNs σ)), μ1) := by
    intro m
    induction m with
    | zero =>
      intro i x5 him
      have e0 : i = sNs σ := by omega
      subst e0
      rw [e_X8_playOf_10]
      simp (disch := omega) only [j_0, j_1, j_2, j_3, j_4, j_5, j_6, j_8, j_9, j_16, j_20, j_24, j_33, j_48, j_49, j_57, j_58, j_82, j_83, j_100, j_131, j_179, j_227, j_275, j_512, j_825, j_999, j_1000, j_9999, j_10000, j_11000, j_65536, j_m1, jI_add, jI_sub, jI_mul, jI_neg, nca_9, nca_33, nca_58, nca_83, nca_131, nca_179, nca_227, nca_825, nca_4, nca_24, nca_275, ncb_1, ncb_275, ncb_24, nc_1add, Int.toNat_natCast, tz_0, tz_1, tz_2, tz_3, tz_4, tz_5, tz_6, tz_8, tz_9, tz_16, tz_20, tz_24, tz_33, tz_48, tz_49, tz_57, tz_58, tz_82, tz_83, tz_100, tz_131, tz_179, tz_227, tz_275, tz_512, tz_825, tz_999, tz_1000, tz_9999, tz_10000, tz_11000, tz_65536, nc_sub1, i_lt, n_lt, i_eq, n_eq, jI_natc, jI_nat, ck_ok, nc_lt, nc_le, if_true, if_false, Option.bind_some, wr_def, and_true, true_and, and_false, false_and, or_true, true_or, or_false, false_or, not_true, not_false_eq_true, not_true_eq_false, ite_true, ite_false, Nat.zero_add, Nat.add_zero, Int.add_zero, Int.zero_add, Int.sub_zero, up_eq, up_ne, up_i, up_j, hm1.1]
    | succ m ih =>
      intro i x5 him
      have hi : i < sNs σ := by omega
      have q1 := h53 i hi
      have b1 := bd.1 i
      have b2 := lPl_bd hw i (by omega)
      have q2 := hm1.2.2.2.2.1 i hi
      by_cases cz : (gr0 σ 0 (sB σ) (sNb σ)).2.2 = 0
      · -- no pairs: the walk ends at once
        have hz := zero cz
        have hl0 : ∀ n, n ≤ sNs σ → lPl σ n = -1 ∧ gPl σ n = -1 := by
          intro n
          induction n with
          | zero => intro _; exact ⟨rfl, rfl⟩
          | succ n ihn =>
            intro hnn
            rw [lPl, gPl, if_neg (fun q => q.1 (hz n (by omega))), if_neg (fun q => q.1 (hz n (by omega)))]
            exact ihn (by omega)
        rw [(hl0 i (by omega)).1, (hl0 i (by omega)).2, (hl0 (sNs σ) (by omega)).1, (hl0 (sNs σ) (by omega)).2, cz, e_X8_playOf_10]
        simp (disch := omega) only [j_0, j_1, j_2, j_3, j_4, j_5, j_6, j_8, j_9, j_16, j_20, j_24, j_33, j_48, j_49, j_57, j_58, j_82, j_83, j_100, j_131, j_179, j_227, j_275, j_512, j_825, j_999, j_1000, j_9999, j_10000, j_11000, j_65536, j_m1, jI_add, jI_sub, jI_mul, jI_neg, nca_9, nca_33, nca_58, nca_83, nca_131, nca_179, nca_227, nca_825, nca_4, nca_24, nca_275, ncb_1, ncb_275, ncb_24, nc_1add, Int.toNat_natCast, tz_0, tz_1, tz_2, tz_3, tz_4, tz_5, tz_6, tz_8, tz_9, tz_16, tz_20, tz_24, tz_33, tz_48, tz_49, tz_57, tz_58, tz_82, tz_83, tz_100, tz_131, tz_179, tz_227, tz_275, tz_512, tz_825, tz_999, tz_1000, tz_9999, tz_10000, tz_11000, tz_65536, nc_sub1, i_lt, n_lt, i_eq, n_eq, jI_natc, jI_nat, ck_ok, nc_lt, nc_le, if_true, if_false, Option.bind_some, wr_def, and_true, true_and, and_false, false_and, or_true, true_or, or_false, false_or, not_true, not_false_eq_true, not_true_eq_false, ite_true, ite_false, Nat.zero_add, Nat.add_zero, Int.add_zero, Int.zero_add, Int.sub_zero, up_eq, up_ne, up_i, up_j, hm1.1]
      · by_cases c : (gr0 σ 0 (sB σ) (sNb σ)).1 i = -1
        · have ih2 := ih (i + 1) x5 (by omega)
          have hx1 : lPl σ (i + 1) = lPl σ i := by rw [lPl, if_neg (fun q => q.1 c)]
          have hx2 : gPl σ (i + 1) = gPl σ i := by rw [gPl, if_neg (fun q => q.1 c)]
          rw [hx1, hx2] at ih2
          rw [← ih2, e_X8_playOf_10]
          simp (disch := omega) only [j_0, j_1, j_2, j_3, j_4, j_5, j_6, j_8, j_9, j_16, j_20, j_24, j_33, j_48, j_49, j_57, j_58, j_82, j_83, j_100, j_131, j_179, j_227, j_275, j_512, j_825, j_999, j_1000, j_9999, j_10000, j_11000, j_65536, j_m1, jI_add, jI_sub, jI_mul, jI_neg, nca_9, nca_33, nca_58, nca_83, nca_131, nca_179, nca_227, nca_825, nca_4, nca_24, nca_275, ncb_1, ncb_275, ncb_24, nc_1add, Int.toNat_natCast, tz_0, tz_1, tz_2, tz_3, tz_4, tz_5, tz_6, tz_8, tz_9, tz_16, tz_20, tz_24, tz_33, tz_48, tz_49, tz_57, tz_58, tz_82, tz_83, tz_100, tz_131, tz_179, tz_227, tz_275, tz_512, tz_825, tz_999, tz_1000, tz_9999, tz_10000, tz_11000, tz_65536, nc_sub1, i_lt, n_lt, i_eq, n_eq, jI_natc, jI_nat, ck_ok, nc_lt, nc_le, if_true, if_false, Option.bind_some, wr_def, and_true, true_and, and_false, false_and, or_true, true_or, or_false, false_or, not_true, not_false_eq_true, not_true_eq_false, ite_true, ite_false, Nat.zero_add, Nat.add_zero, Int.add_zero, Int.zero_add, Int.sub_zero, up_eq, up_ne, up_i, up_j, hm1.1, q1, c]
        · obtain ⟨b, g1, g2, g3, g4⟩ := gr0_play hw hi c
          have q3 := hm1.2.2.2.2.2.1 b g1
          have b3 := plY_bd hw hi c
          have ep : plY σ i = sB σ b - sZ σ i := by unfold plY; rw [g2, Int.toNat_natCast]
          rw [g2] at q1
          have ih2 := ih (i + 1) (vi (jI (sB σ b - sZ σ i))) (by omega)
          rw [lPl, gPl] at ih2
          rw [ep] at ih2 b3
          rcases hl with rfl | rfl
          · simp only [if_true] at ih2 ⊢
            by_cases c2 : lPl σ i = -1
            · rw [if_pos ⟨c, Or.inl c2⟩] at ih2
              rw [← ih2, e_X8_playOf_10]
              simp (disch := omega) only [j_0, j_1, j_2, j_3, j_4, j_5, j_6, j_8, j_9, j_16, j_20, j_24, j_33, j_48, j_49, j_57, j_58, j_82, j_83, j_100, j_131, j_179, j_227, j_275, j_512, j_825, j_999, j_1000, j_9999, j_10000, j_11000, j_65536, j_m1, jI_add, jI_sub, jI_mul, jI_neg, nca_9, nca_33, nca_58, nca_83, nca_131, nca_179, nca_227, nca_825, nca_4, nca_24, nca_275, ncb_1, ncb_275, ncb_24, nc_1add, Int.toNat_natCast, tz_0, tz_1, tz_2, tz_3, tz_4, tz_5, tz_6, tz_8, tz_9, tz_16, tz_20, tz_24, tz_33, tz_48, tz_49, tz_57, tz_58, tz_82, tz_83, tz_100, tz_131, tz_179, tz_227, tz_275, tz_512, tz_825, tz_999, tz_1000, tz_9999, tz_10000, tz_11000, tz_65536, nc_sub1, i_lt, n_lt, i_eq, n_eq, jI_natc, jI_nat, ck_ok, nc_lt, nc_le, if_true, if_false, Option.bind_some, wr_def, and_true, true_and, and_false, false_and, or_true, true_or, or_false, false_or, not_true, not_false_eq_true, not_true_eq_false, ite_true, ite_false, Nat.zero_add, Nat.add_zero, Int.add_zero, Int.zero_add, Int.sub_zero, up_eq, up_ne, up_i, up_j, hm1.1, q1, q2, q3, c2]
            · by_cases c3 : sB σ b - sZ σ i < lPl σ i
              · rw [if_pos ⟨c, Or.inr c3⟩] at ih2
                rw [← ih2, e_X8_playOf_10]
                simp (disch := omega) only [j_0, j_1, j_2, j_3, j_4, j_5, j_6, j_8, j_9, j_16, j_20, j_24, j_33, j_48, j_49, j_57, j_58, j_82, j_83, j_100, j_131, j_179, j_227, j_275, j_512, j_825, j_999, j_1000, j_9999, j_10000, j_11000, j_65536, j_m1, jI_add, jI_sub, jI_mul, jI_neg, nca_9, nca_33, nca_58, nca_83, nca_131, nca_179, nca_227, nca_825, nca_4, nca_24, nca_275, ncb_1, ncb_275, ncb_24, nc_1add, Int.toNat_natCast, tz_0, tz_1, tz_2, tz_3, tz_4, tz_5, tz_6, tz_8, tz_9, tz_16, tz_20, tz_24, tz_33, tz_48, tz_49, tz_57, tz_58, tz_82, tz_83, tz_100, tz_131, tz_179, tz_227, tz_275, tz_512, tz_825, tz_999, tz_1000, tz_9999, tz_10000, tz_11000, tz_65536, nc_sub1, i_lt, n_lt, i_eq, n_eq, jI_natc, jI_nat, ck_ok, nc_lt, nc_le, if_true, if_false, Option.bind_some, wr_def, and_true, true_and, and_false, false_and, or_true, true_or, or_false, false_or, not_true, not_false_eq_true, not_true_eq_false, ite_true, ite_false, Nat.zero_add, Nat.add_zero, Int.add_zero, Int.zero_add, Int.sub_zero, up_eq, up_ne, up_i, up_j, hm1.1, q1, q2, q3]
              · rw [if_neg (by omega)] at ih2
                rw [← ih2, e_X8_playOf_10]
                simp (disch := omega) only [j_0, j_1, j_2, j_3, j_4, j_5, j_6, j_8, j_9, j_16, j_20, j_24, j_33, j_48, j_49, j_57, j_58, j_82, j_83, j_100, j_131, j_179, j_227, j_275, j_512, j_825, j_999, j_1000, j_9999, j_10000, j_11000, j_65536, j_m1, jI_add, jI_sub, jI_mul, jI_neg, nca_9, nca_33, nca_58, nca_83, nca_131, nca_179, nca_227, nca_825, nca_4, nca_24, nca_275, ncb_1, ncb_275, ncb_24, nc_1add, Int.toNat_natCast, tz_0, tz_1, tz_2, tz_3, tz_4, tz_5, tz_6, tz_8, tz_9, tz_16, tz_20, tz_24, tz_33, tz_48, tz_49, tz_57, tz_58, tz_82, tz_83, tz_100, tz_131, tz_179, tz_227, tz_275, tz_512, tz_825, tz_999, tz_1000, tz_9999, tz_10000, tz_11000, tz_65536, nc_sub1, i_lt, n_lt, i_eq, n_eq, jI_natc, jI_nat, ck_ok, nc_lt, nc_le, if_true, if_false, Option.bind_some, wr_def, and_true, true_and, and_false, false_and, or_true, true_or, or_false, false_or, not_true, not_false_eq_true, not_true_eq_false, ite_true, ite_false, Nat.zero_add, Nat.add_zero, Int.add_zero, Int.zero_add, Int.sub_zero, up_eq, up_ne, up_i, up_j, hm1.1, q1, q2, q3]
          · have h10 : ¬ (1 : Int) = 0 := by decide
            simp only [if_neg h10] at ih2 ⊢
            by_cases c2 : gPl σ i = -1
            · rw [if_pos ⟨c, by omega⟩] at ih2
              rw [← ih2, e_X8_playOf_10]
              simp (disch := omega) only [j_0, j_1, j_2, j_3, j_4, j_5, j_6, j_8, j_9, j_16, j_20, j_24, j_33, j_48, j_49, j_57, j_58, j_82, j_83, j_100, j_131, j_179, j_227, j_275, j_512, j_825, j_999, j_1000, j_9999, j_10000, j_11000, j_65536, j_m1, jI_add, jI_sub, jI_mul, jI_neg, nca_9, nca_33, nca_58, nca_83, nca_131, nca_179, nca_227, nca_825, nca_4, nca_24, nca_275, ncb_1, ncb_275, ncb_24, nc_1add, Int.toNat_natCast, tz_0, tz_1, tz_2, tz_3, tz_4, tz_5, tz_6, tz_8, tz_9, tz_16, tz_20, tz_24, tz_33, tz_48, tz_49, tz_57, tz_58, tz_82, tz_83, tz_100, tz_131, tz_179, tz_227, tz_275, tz_512, tz_825, tz_999, tz_1000, tz_9999, tz_10000, tz_11000, tz_65536, nc_sub1, i_lt, n_lt, i_eq, n_eq, jI_natc, jI_nat, ck_ok, nc_lt, nc_le, if_true, if_false, Option.bind_some, wr_def, and_true, true_and, and_false, false_and, or_true, true_or, or_false, false_or, not_true, not_false_eq_true, not_true_eq_false, ite_true, ite_false, Nat.zero_add, Nat.add_zero, Int.add_zero, Int.zero_add, Int.sub_zero, up_eq, up_ne, up_i, up_j, hm1.1, q1, q2, q3, c2]
            · by_cases c3 : gPl σ i < sB σ b - sZ σ i
              · rw [if_pos ⟨c, c3⟩] at ih2
                rw [← ih2, e_X8_playOf_10]
                simp (disch := omega) only [j_0, j_1, j_2, j_3, j_4, j_5, j_6, j_8, j_9, j_16, j_20, j_24, j_33, j_48, j_49, j_57, j_58, j_82, j_83, j_100, j_131, j_179, j_227, j_275, j_512, j_825, j_999, j_1000, j_9999, j_10000, j_11000, j_65536, j_m1, jI_add, jI_sub, jI_mul, jI_neg, nca_9, nca_33, nca_58, nca_83, nca_131, nca_179, nca_227, nca_825, nca_4, nca_24, nca_275, ncb_1, ncb_275, ncb_24, nc_1add, Int.toNat_natCast, tz_0, tz_1, tz_2, tz_3, tz_4, tz_5, tz_6, tz_8, tz_9, tz_16, tz_20, tz_24, tz_33, tz_48, tz_49, tz_57, tz_58, tz_82, tz_83, tz_100, tz_131, tz_179, tz_227, tz_275, tz_512, tz_825, tz_999, tz_1000, tz_9999, tz_10000, tz_11000, tz_65536, nc_sub1, i_lt, n_lt, i_eq, n_eq, jI_natc, jI_nat, ck_ok, nc_lt, nc_le, if_true, if_false, Option.bind_some, wr_def, and_true, true_and, and_false, false_and, or_true, true_or, or_false, false_or, not_true, not_false_eq_true, not_true_eq_false, ite_true, ite_false, Nat.zero_add, Nat.add_zero, Int.add_zero, Int.zero_add, Int.sub_zero, up_eq, up_ne, up_i, up_j, hm1.1, q1, q2, q3]
              · rw [if_neg (by omega)] at ih2
                rw [← ih2, e_X8_playOf_10]
                simp (disch := omega) only [j_0, j_1, j_2, j_3, j_4, j_5, j_6, j_8, j_9, j_16, j_20, j_24, j_33, j_48, j_49, j_57, j_58, j_82, j_83, j_100, j_131, j_179, j_227, j_275, j_512, j_825, j_999, j_1000, j_9999, j_10000, j_11000, j_65536, j_m1, jI_add, jI_sub, jI_mul, jI_neg, nca_9, nca_33, nca_58, nca_83, nca_131, nca_179, nca_227, nca_825, nca_4, nca_24, nca_275, ncb_1, ncb_275, ncb_24, nc_1add, Int.toNat_natCast, tz_0, tz_1, tz_2, tz_3, tz_4, tz_5, tz_6, tz_8, tz_9, tz_16, tz_20, tz_24, tz_33, tz_48, tz_49, tz_57, tz_58, tz_82, tz_83, tz_100, tz_131, tz_179, tz_227, tz_275, tz_512, tz_825, tz_999, tz_1000, tz_9999, tz_10000, tz_11000, tz_65536, nc_sub1, i_lt, n_lt, i_eq, n_eq, jI_natc, jI_nat, ck_ok, nc_lt, nc_le, if_true, if_false, Option.bind_some, wr_def, and_true, true_and, and_false, false_and, or_true, true_or, or_false, false_or, not_true, not_false_eq_true, not_true_eq_false, ite_true, ite_false, Nat.zero_add, Nat.add_zero, Int.add_zero, Int.zero_add, Int.sub_zero, up_eq, up_ne, up_i, up_j, hm1.1, q1, q2, q3]
  have := key (sNs σ) 0 vu (by omega)
  have e2 : (if l1 = 0 then lPl σ 0 else gPl σ 0) = -1 := by split <;> rfl
  rw [e2] at this
  exact this
