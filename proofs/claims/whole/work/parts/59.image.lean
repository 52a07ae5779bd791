/-! images -/
def aKeep (A : aT) (i : Nat) : aT := ((aS A, aN A, 0, aP A), (fun j => if j = i then aS A else aI A j, fun j => if j = i then true else aK A j, fun j => if j = i then aE A else aZ A j), A.2.2)
theorem k_keep (l1 : Int32) : alk (f_X7_keep [vr 7 0, vi l1]) (f_X8_keep [vr 8 0, vi l1]) := by
  obtain ⟨n, rfl, hn1, hn2⟩ := jI_ex l1
  refine alk_of fun A μ hW hC => ?_
  have ln := jI_long (z := n) (by omega)
  have hin := f_isIn n 2 (by omega) (by omega) μ
  have hin2 := fun μ' => f_in n 0 1 (by omega) (by omega) (by omega) μ'
  by_cases c : 0 ≤ n ∧ n < 2
  · rw [if_pos c] at hin
    rw [if_pos (by omega)] at hin2
    obtain ⟨t, rfl⟩ : ∃ t : Nat, n = t := ⟨n.toNat, by omega⟩
    have ht : t < 2 := by omega
    have hw := hW.1
    obtain ⟨c1, c2, c3, c4, c5, c6, c7, c8, c9⟩ := hC
    obtain ⟨μ1, a1, a2, a3⟩ := f_copyFrom (a := t + 0 + 17) c1 hw.1 hw.2.1 hw.2.2.1 (by omega)
    have k7 : μ1 7 0 7 = jI (aE A) := by rw [a3 7 0 (by omega)]; exact c6
    -- the memory after it
    have hf : ∀ k i, ¬ (k = 2 ∨ k = 3) → (mm_up (mm_up (mm_up μ1 2 t 1 (jI (aE A))) 2 t 2 (jI 1)) 3 0 2 (jI 0)) k i = μ1 k i := fun k i hk => by rw [up_ne (by omega), up_ne (by omega), up_ne (by omega)]
    have st : ∀ σ a, cSt σ a μ1 → cSt σ a (mm_up (mm_up (mm_up μ1 2 t 1 (jI (aE A))) 2 t 2 (jI 1)) 3 0 2 (jI 0)) := fun σ a h => by
      unfold cSt
      rw [hf 6 a (by omega), hf 10 a (by omega), hf 11 a (by omega), hf 12 a (by omega), hf 13 a (by omega), hf 14 a (by omega), hf 15 a (by omega)]
      exact h
    refine ⟨jI 1, mm_up (mm_up (mm_up μ1 2 t 1 (jI (aE A))) 2 t 2 (jI 1)) 3 0 2 (jI 0), aKeep A t, ?_, ⟨st _ _ (a3.st (by omega) c1), ?_, ?_, fun j hj => absurd hj (Nat.not_lt_zero j), fun i hi => ?_, ?_, ?_, fun i hi => ?_, fun b hb => ?_⟩, ?_, ?_, fun μ' hM => ?_⟩
    · rw [e_X7_keep]
      simp (disch := omega) only [j_0, j_1, j_2, j_3, j_4, j_5, j_6, j_8, j_9, j_16, j_20, j_24, j_33, j_48, j_49, j_57, j_58, j_82, j_83, j_100, j_131, j_179, j_227, j_275, j_512, j_825, j_999, j_1000, j_9999, j_10000, j_11000, j_65536, j_m1, jI_add, jI_sub, jI_mul, jI_neg, nca_9, nca_33, nca_58, nca_83, nca_131, nca_179, nca_227, nca_825, nca_4, nca_24, nca_275, ncb_1, ncb_275, ncb_24, nc_1add, Int.toNat_natCast, tz_0, tz_1, tz_2, tz_3, tz_4, tz_5, tz_6, tz_8, tz_9, tz_16, tz_20, tz_24, tz_33, tz_48, tz_49, tz_57, tz_58, tz_82, tz_83, tz_100, tz_131, tz_179, tz_227, tz_275, tz_512, tz_825, tz_999, tz_1000, tz_9999, tz_10000, tz_11000, tz_65536, nc_sub1, i_lt, n_lt, i_eq, n_eq, jI_natc, jI_nat, ck_ok, nc_lt, nc_le, if_true, if_false, Option.bind_some, wr_def, and_true, true_and, and_false, false_and, or_true, true_or, or_false, false_or, not_true, not_false_eq_true, not_true_eq_false, ite_true, ite_false, Nat.zero_add, Nat.add_zero, Int.add_zero, Int.zero_add, Int.sub_zero, up_eq, up_ne, up_i, up_j, hin]
      rw [show t + 0 + 17 = t + 17 by omega] at a1
      simp (disch := omega) only [j_0, j_1, j_2, j_3, j_4, j_5, j_6, j_8, j_9, j_16, j_20, j_24, j_33, j_48, j_49, j_57, j_58, j_82, j_83, j_100, j_131, j_179, j_227, j_275, j_512, j_825, j_999, j_1000, j_9999, j_10000, j_11000, j_65536, j_m1, jI_add, jI_sub, jI_mul, jI_neg, nca_9, nca_33, nca_58, nca_83, nca_131, nca_179, nca_227, nca_825, nca_4, nca_24, nca_275, ncb_1, ncb_275, ncb_24, nc_1add, Int.toNat_natCast, tz_0, tz_1, tz_2, tz_3, tz_4, tz_5, tz_6, tz_8, tz_9, tz_16, tz_20, tz_24, tz_33, tz_48, tz_49, tz_57, tz_58, tz_82, tz_83, tz_100, tz_131, tz_179, tz_227, tz_275, tz_512, tz_825, tz_999, tz_1000, tz_9999, tz_10000, tz_11000, tz_65536, nc_sub1, i_lt, n_lt, i_eq, n_eq, jI_natc, jI_nat, ck_ok, nc_lt, nc_le, if_true, if_false, Option.bind_some, wr_def, and_true, true_and, and_false, false_and, or_true, true_or, or_false, false_or, not_true, not_false_eq_true, not_true_eq_false, ite_true, ite_false, Nat.zero_add, Nat.add_zero, Int.add_zero, Int.zero_add, Int.sub_zero, up_eq, up_ne, up_i, up_j, a1, k7]
    · rw [up_j (by omega), up_ne (by omega), up_ne (by omega), a3 3 0 (by omega)]; exact c2
    · rw [up_eq]; rfl
    · by_cases q : i = t
      · subst q
        have e1 : aK (aKeep A i) i = true := by show (if i = i then true else aK A i) = true; rw [if_pos rfl]
        rw [e1, if_pos rfl]
        refine ⟨by rw [up_ne (by omega), up_eq], fun _ => ⟨?_, ?_⟩⟩
        · have e2 : aI (aKeep A i) i = aS A := by show (if i = i then aS A else aI A i) = aS A; rw [if_pos rfl]
          rw [e2]
          have := st _ _ a2
          rw [show i + 0 + 17 = 17 + i by omega] at this
          exact this
        · have e3 : aZ (aKeep A i) i = aE A := by show (if i = i then aE A else aZ A i) = aE A; rw [if_pos rfl]
          rw [e3, up_ne (by omega), up_j (by omega), up_eq]
      · have e1 : aK (aKeep A t) i = aK A i := by show (if i = t then true else aK A i) = aK A i; rw [if_neg q]
        have e2 : aI (aKeep A t) i = aI A i := by show (if i = t then aS A else aI A i) = aI A i; rw [if_neg q]
        have e3 : aZ (aKeep A t) i = aZ A i := by show (if i = t then aE A else aZ A i) = aZ A i; rw [if_neg q]
        obtain ⟨g1, g2⟩ := c5 i hi
        rw [e1, e2, e3, up_ne (by omega), up_i (by omega), up_i (by omega), a3 2 i (by omega)]
        exact ⟨g1, fun w => ⟨st _ _ (a3.st (by omega) (g2 w).1), (g2 w).2⟩⟩
    · rw [hf 7 0 (by omega)]; exact k7
    · unfold cSee; rw [hf 4 0 (by omega), a3 4 0 (by omega), hf 40 0 (by omega), a3 40 0 (by omega), hf 41 0 (by omega), a3 41 0 (by omega)]; exact c7
    · rw [hf 34 0 (by omega), a3 34 0 (by omega)]; exact c8 i hi
    · rw [hf 34 b (by omega), a3 34 b (by omega)]; exact c9 b hb
    · intro k i hk
      rw [hf k i (by omega), a3 k i (by omega)]
    · obtain ⟨w1, w2, w3, w4, w5, w6, w7, w8⟩ := hW
      refine ⟨w1, w2, by show 0 ≤ 16; omega, fun j hj => absurd hj (Nat.not_lt_zero j), fun i hi q => ?_, w6, w7, w8⟩
      show wf (if i = t then aS A else aI A i) ∧ 0 ≤ (if i = t then aE A else aZ A i) ∧ (if i = t then aE A else aZ A i) < 2147483648
      by_cases q' : i = t
      · simp only [if_pos q']; exact ⟨w1, w6, w7⟩
      · simp only [if_neg q']
        have q2 : aK A i = true := by
          have q3 : (if i = t then true else aK A i) = true := q
          rw [if_neg q'] at q3; exact q3
        exact w5 i hi q2
    · obtain ⟨m1, m2, m3, m4, m5, m6⟩ := hM
      obtain ⟨μ3, b1, b2, b3, b4⟩ := m_copy (a := 0) (b := 275 + 275 * t) (by omega) (by omega) (by omega) μ'
      have b1' : f_X8_copy [vr 8 0, vi 0, vi (jI ((275 + 275 * t : Nat) : Int))] μ' = some (0, μ3) := b1
      have p4 : μ3 8 0 4 = jI (aE A) := by rw [b2 8 0 (by omega)]; exact m5
      have hg : ∀ k i, ¬ (k = 8 ∨ k = 51 ∨ k = 52) → (mm_up (mm_up (mm_up μ3 52 0 t (jI (aE A))) 51 0 t (jI 1)) 8 0 3 (jI 0)) k i = μ3 k i := fun k i hk => by rw [up_ne (by omega), up_ne (by omega), up_ne (by omega)]
      refine ⟨mm_up (mm_up (mm_up μ3 52 0 t (jI (aE A))) 51 0 t (jI 1)) 8 0 3 (jI 0), ?_, ⟨?_, ?_, fun j hj => absurd hj (Nat.not_lt_zero j), fun i hi => ?_, ?_, ?_⟩, ?_⟩
      · have hi := hin2 μ'
        have e2 : (275 : Int32) + 275 * jI (t : Int) = jI ((275 + 275 * t : Nat) : Int) := by rw [j_275, jI_mul, jI_add]; rfl
        have nv : vp_nar .boolean (jI 1) = jI 1 := by decide
        rw [e_X8_keep, ln, l_0, l_1, e2, hi]
        simp (disch := omega) only [j_0, j_1, j_2, j_3, j_4, j_5, j_6, j_8, j_9, j_16, j_20, j_24, j_33, j_48, j_49, j_57, j_58, j_82, j_83, j_100, j_131, j_179, j_227, j_275, j_512, j_825, j_999, j_1000, j_9999, j_10000, j_11000, j_65536, j_m1, jI_add, jI_sub, jI_mul, jI_neg, nca_9, nca_33, nca_58, nca_83, nca_131, nca_179, nca_227, nca_825, nca_4, nca_24, nca_275, ncb_1, ncb_275, ncb_24, nc_1add, Int.toNat_natCast, tz_0, tz_1, tz_2, tz_3, tz_4, tz_5, tz_6, tz_8, tz_9, tz_16, tz_20, tz_24, tz_33, tz_48, tz_49, tz_57, tz_58, tz_82, tz_83, tz_100, tz_131, tz_179, tz_227, tz_275, tz_512, tz_825, tz_999, tz_1000, tz_9999, tz_10000, tz_11000, tz_65536, nc_sub1, i_lt, n_lt, i_eq, n_eq, jI_natc, jI_nat, ck_ok, nc_lt, nc_le, if_true, if_false, Option.bind_some, wr_def, and_true, true_and, and_false, false_and, or_true, true_or, or_false, false_or, not_true, not_false_eq_true, not_true_eq_false, ite_true, ite_false, Nat.zero_add, Nat.add_zero, Int.add_zero, Int.zero_add, Int.sub_zero, up_eq, up_ne, up_i, up_j, p4, nv]
        have b1'' : f_X8_copy [vr 8 0, vi (jI 0), vi (jI ((275 + 275 * t : Nat) : Int))] μ' = some (0, μ3) := b1
        simp (disch := omega) only [j_0, j_1, j_2, j_3, j_4, j_5, j_6, j_8, j_9, j_16, j_20, j_24, j_33, j_48, j_49, j_57, j_58, j_82, j_83, j_100, j_131, j_179, j_227, j_275, j_512, j_825, j_999, j_1000, j_9999, j_10000, j_11000, j_65536, j_m1, jI_add, jI_sub, jI_mul, jI_neg, nca_9, nca_33, nca_58, nca_83, nca_131, nca_179, nca_227, nca_825, nca_4, nca_24, nca_275, ncb_1, ncb_275, ncb_24, nc_1add, Int.toNat_natCast, tz_0, tz_1, tz_2, tz_3, tz_4, tz_5, tz_6, tz_8, tz_9, tz_16, tz_20, tz_24, tz_33, tz_48, tz_49, tz_57, tz_58, tz_82, tz_83, tz_100, tz_131, tz_179, tz_227, tz_275, tz_512, tz_825, tz_999, tz_1000, tz_9999, tz_10000, tz_11000, tz_65536, nc_sub1, i_lt, n_lt, i_eq, n_eq, jI_natc, jI_nat, ck_ok, nc_lt, nc_le, if_true, if_false, Option.bind_some, wr_def, and_true, true_and, and_false, false_and, or_true, true_or, or_false, false_or, not_true, not_false_eq_true, not_true_eq_false, ite_true, ite_false, Nat.zero_add, Nat.add_zero, Int.add_zero, Int.zero_add, Int.sub_zero, up_eq, up_ne, up_i, up_j, b1'', p4, nv]
      · refine mSt_congr m1 hw.1 hw.2.1 hw.2.2.1 (fun q hq => ?_)
        rw [hg 50 0 (by omega), b4 q (by omega)]
      · rw [up_eq]; rfl
      · by_cases q : i = t
        · subst q
          have e1 : aK (aKeep A i) i = true := by show (if i = i then true else aK A i) = true; rw [if_pos rfl]
          have e2 : aI (aKeep A i) i = aS A := by show (if i = i then aS A else aI A i) = aS A; rw [if_pos rfl]
          have e3 : aZ (aKeep A i) i = aE A := by show (if i = i then aE A else aZ A i) = aE A; rw [if_pos rfl]
          rw [e1, e2, e3, if_pos rfl]
          refine ⟨by rw [up_ne (by omega), up_eq], fun _ => ⟨?_, by rw [up_ne (by omega), up_ne (by omega), up_eq]⟩⟩
          refine mSt_congr m1 hw.1 hw.2.1 hw.2.2.1 (fun q hq => ?_)
          show (mm_up (mm_up (mm_up μ3 52 0 i (jI (aE A))) 51 0 i (jI 1)) 8 0 3 (jI 0)) 50 0 (275 + 275 * i + q) = μ' 50 0 q
          rw [hg 50 0 (by omega), b3 q hq, Nat.zero_add]
        · have e1 : aK (aKeep A t) i = aK A i := by show (if i = t then true else aK A i) = aK A i; rw [if_neg q]
          have e2 : aI (aKeep A t) i = aI A i := by show (if i = t then aS A else aI A i) = aI A i; rw [if_neg q]
          have e3 : aZ (aKeep A t) i = aZ A i := by show (if i = t then aE A else aZ A i) = aZ A i; rw [if_neg q]
          obtain ⟨g1, g2⟩ := m4 i hi
          rw [e1, e2, e3]
          refine ⟨by rw [up_ne (by omega), up_j (by omega), up_ne (by omega), b2 51 0 (by omega)]; exact g1, fun w => ⟨?_, by rw [up_ne (by omega), up_ne (by omega), up_j (by omega), b2 52 0 (by omega)]; exact (g2 w).2⟩⟩
          have hwi := (hW.2.2.2.2.1 i hi w).1
          refine mSt_congr (g2 w).1 hwi.1 hwi.2.1 hwi.2.2.1 (fun q' hq => ?_)
          show (mm_up (mm_up (mm_up μ3 52 0 t (jI (aE A))) 51 0 t (jI 1)) 8 0 3 (jI 0)) 50 0 (275 + 275 * i + q') = μ' 50 0 (275 + 275 * i + q')
          rw [hg 50 0 (by omega), b4 _ (by omega)]
      · rw [up_j (by omega), up_ne (by omega), up_ne (by omega)]; exact p4
      · unfold mSee; rw [up_j (by omega), up_ne (by omega), up_ne (by omega), b2 8 0 (by omega), hg 56 0 (by omega), b2 56 0 (by omega), hg 57 0 (by omega), b2 57 0 (by omega), hg 58 0 (by omega), b2 58 0 (by omega)]; exact m6
      · intro k i hk
        rw [hg k i (by omega), b2 k i (by omega)]
  · rw [if_neg c] at hin
    rw [if_neg (by omega)] at hin2
    refine ⟨-1000000001, μ, A, by rw [e_X7_keep]; simp (disch := omega) only [j_0, j_1, j_2, j_3, j_4, j_5, j_6, j_8, j_9, j_16, j_20, j_24, j_33, j_48, j_49, j_57, j_58, j_82, j_83, j_100, j_131, j_179, j_227, j_275, j_512, j_825, j_999, j_1000, j_9999, j_10000, j_11000, j_65536, j_m1, jI_add, jI_sub, jI_mul, jI_neg, nca_9, nca_33, nca_58, nca_83, nca_131, nca_179, nca_227, nca_825, nca_4, nca_24, nca_275, ncb_1, ncb_275, ncb_24, nc_1add, Int.toNat_natCast, tz_0, tz_1, tz_2, tz_3, tz_4, tz_5, tz_6, tz_8, tz_9, tz_16, tz_20, tz_24, tz_33, tz_48, tz_49, tz_57, tz_58, tz_82, tz_83, tz_100, tz_131, tz_179, tz_227, tz_275, tz_512, tz_825, tz_999, tz_1000, tz_9999, tz_10000, tz_11000, tz_65536, nc_sub1, i_lt, n_lt, i_eq, n_eq, jI_natc, jI_nat, ck_ok, nc_lt, nc_le, if_true, if_false, Option.bind_some, wr_def, and_true, true_and, and_false, false_and, or_true, true_or, or_false, false_or, not_true, not_false_eq_true, not_true_eq_false, ite_true, ite_false, Nat.zero_add, Nat.add_zero, Int.add_zero, Int.zero_add, Int.sub_zero, up_eq, up_ne, up_i, up_j, hin], hC, fC.r μ, hW, fun μ' hM => ⟨μ', ?_, hM, fM.r μ'⟩⟩
    have hi := hin2 μ'
    rw [e_X8_keep, ln, l_0, l_1]; simp (disch := omega) only [j_0, j_1, j_2, j_3, j_4, j_5, j_6, j_8, j_9, j_16, j_20, j_24, j_33, j_48, j_49, j_57, j_58, j_82, j_83, j_100, j_131, j_179, j_227, j_275, j_512, j_825, j_999, j_1000, j_9999, j_10000, j_11000, j_65536, j_m1, jI_add, jI_sub, jI_mul, jI_neg, nca_9, nca_33, nca_58, nca_83, nca_131, nca_179, nca_227, nca_825, nca_4, nca_24, nca_275, ncb_1, ncb_275, ncb_24, nc_1add, Int.toNat_natCast, tz_0, tz_1, tz_2, tz_3, tz_4, tz_5, tz_6, tz_8, tz_9, tz_16, tz_20, tz_24, tz_33, tz_48, tz_49, tz_57, tz_58, tz_82, tz_83, tz_100, tz_131, tz_179, tz_227, tz_275, tz_512, tz_825, tz_999, tz_1000, tz_9999, tz_10000, tz_11000, tz_65536, nc_sub1, i_lt, n_lt, i_eq, n_eq, jI_natc, jI_nat, ck_ok, nc_lt, nc_le, if_true, if_false, Option.bind_some, wr_def, and_true, true_and, and_false, false_and, or_true, true_or, or_false, false_or, not_true, not_false_eq_true, not_true_eq_false, ite_true, ite_false, Nat.zero_add, Nat.add_zero, Int.add_zero, Int.zero_add, Int.sub_zero, up_eq, up_ne, up_i, up_j, hi]
/-! sorts anew -/
def nilK (σ : sT) : sT := (σ.1, σ.2.1, σ.2.2.1, (0, σ.2.2.2.2))
def anI (σ : sT) (i j : Nat) (κ : sT) : Prop := κ.1 = σ.1 ∧ κ.2.1 = σ.2.1 ∧ κ.2.2.1 = σ.2.2.1 ∧ wfK κ ∧ sNk κ ≤ i + j ∧ (∀ t, t < i → ∃ k, k < sNk κ ∧ sKg κ k = sG σ t ∧ sKz κ k = sZ σ t) ∧ ∀ t, t < j → ∃ k, k < sNk κ ∧ sKg κ k = 4 ∧ sKz κ k = sB σ t
def anN (σ : sT) (i j : Nat) (g z : Int) : Nat := cnt (fun t => decide (sG σ t = g ∧ sZ σ t = z)) i + (if g = 4 then cnt (fun t => decide (sB σ t = z)) j else 0)
def anC (σ : sT) (i j : Nat) (κ : sT) (c : Nat → Nat) : Prop := ∀ k, k < sNk κ → c k = anN σ i j (sKg κ k) (sKz κ k)
theorem anI_0 {σ : sT} : anI σ 0 0 (nilK σ) := ⟨rfl, rfl, rfl, ⟨by show 0 ≤ 48; omega, fun j hj => absurd hj (Nat.not_lt_zero j), fun j k hj => absurd hj (Nat.not_lt_zero j)⟩, Nat.le_refl 0, fun t ht => absurd ht (Nat.not_lt_zero t), fun t ht => absurd ht (Nat.not_lt_zero t)⟩
theorem anN_0 {σ κ : sT} {i j : Nat} (h : anI σ i j κ) {g z : Int} (hx : sIx κ g z = -1) : anN σ i j g z = 0 := by
  obtain ⟨-, -, -, -, -, h6, h7⟩ := h
  have hno : ∀ j, j < sNk κ → ¬ (sKg κ j = g ∧ sKz κ j = z) := by
    rcases sIx_c (σ := κ) g z with ⟨-, e⟩ | ⟨k, e1, e2, -⟩
    · exact e
    · omega
  unfold anN
  have a : cnt (fun t => decide (sG σ t = g ∧ sZ σ t = z)) i = 0 := cnt_cut (j := 0) _ (by omega) (fun t _ ht => decide_eq_false (fun q => by
    obtain ⟨k, k1, k2, k3⟩ := h6 t ht
    exact hno k k1 ⟨k2.trans q.1, k3.trans q.2⟩))
  by_cases c : g = 4
  · rw [if_pos c, a]
    have b : cnt (fun t => decide (sB σ t = z)) j = 0 := cnt_cut (j := 0) _ (by omega) (fun t _ ht => decide_eq_false (fun q => by
      obtain ⟨k, k1, k2, k3⟩ := h7 t ht
      exact hno k k1 ⟨k2.trans c.symm, k3.trans q⟩))
    rw [b]
  · rw [if_neg c, a]
theorem anI_room {σ κ : sT} {i j : Nat} (h : anI σ i j κ) (hij : i + j < 48) (g z : Int) : sNk κ < 48 ∨ sIx κ g z ≠ -1 := Or.inl (by have := h.2.2.2.2.1; omega)
theorem anI_S {σ κ : sT} {i : Nat} (hw : wf σ) (h : anI σ i 0 κ) (hi : i < sNs σ) : anI σ (i + 1) 0 (addK κ (sG σ i) (sZ σ i)) ∧ ∀ c, anC σ i 0 κ c → anC σ (i + 1) 0 (addK κ (sG σ i) (sZ σ i)) (addC κ c (sG σ i) (sZ σ i)) := by
  have hb := hw.2.2.2.1 i hi
  have hn := hw.1
  have hr := anI_room h (by omega) (sG σ i) (sZ σ i)
  have h0 := fun e => anN_0 (g := sG σ i) (z := sZ σ i) h e
  obtain ⟨h1, h2, h3, h4, h5, h6, h7⟩ := h
  obtain ⟨k1, ⟨k, hk1, hk2, hk3⟩, k5, k6, k7⟩ := addK_wf h4 (g := sG σ i) (z := sZ σ i) (by omega) (by omega) hr
  obtain ⟨p1, p2, p3⟩ := addK_p (σ := κ) (g := sG σ i) (z := sZ σ i)
  refine ⟨⟨p1.trans h1, p2.trans h2, p3.trans h3, k1, by omega, fun t ht => ?_, fun t ht => by omega⟩, fun c hc => ?_⟩
  · by_cases q : t = i
    · rw [q]; exact ⟨k, hk1, hk2, hk3⟩
    · obtain ⟨k', q1, q2, q3⟩ := h6 t (by omega)
      exact ⟨k', by omega, (k7 k' q1).1.trans q2, (k7 k' q1).2.trans q3⟩
  · exact addC_cnt h4 hc h0 (fun g' z' => by
      unfold anN
      have e1 : cnt (fun t => decide (sG σ t = g' ∧ sZ σ t = z')) (i + 1) = cnt (fun t => decide (sG σ t = g' ∧ sZ σ t = z')) i + (if decide (sG σ i = g' ∧ sZ σ i = z') = true then 1 else 0) := rfl
      rw [e1]
      simp only [decide_eq_true_eq]
      by_cases e : g' = sG σ i ∧ z' = sZ σ i
      · rw [if_pos e, if_pos (show sG σ i = g' ∧ sZ σ i = z' from ⟨e.1.symm, e.2.symm⟩)]; omega
      · rw [if_neg e, if_neg (show ¬ (sG σ i = g' ∧ sZ σ i = z') from fun q => e ⟨q.1.symm, q.2.symm⟩)]; omega)
theorem anI_B {σ κ : sT} {j : Nat} (hw : wf σ) (h : anI σ (sNs σ) j κ) (hj : j < sNb σ) : anI σ (sNs σ) (j + 1) (addK κ 4 (sB σ j)) ∧ ∀ c, anC σ (sNs σ) j κ c → anC σ (sNs σ) (j + 1) (addK κ 4 (sB σ j)) (addC κ c 4 (sB σ j)) := by
  have hb := hw.2.2.2.2.1 j hj
  have hn := hw.1
  have hnb := hw.2.1
  have hr := anI_room h (by omega) 4 (sB σ j)
  have h0 := fun e => anN_0 (g := 4) (z := sB σ j) h e
  obtain ⟨h1, h2, h3, h4, h5, h6, h7⟩ := h
  obtain ⟨k1, ⟨k, hk1, hk2, hk3⟩, k5, k6, k7⟩ := addK_wf h4 (g := 4) (z := sB σ j) (by omega) (by omega) hr
  obtain ⟨p1, p2, p3⟩ := addK_p (σ := κ) (g := 4) (z := sB σ j)
  refine ⟨⟨p1.trans h1, p2.trans h2, p3.trans h3, k1, by omega, fun t ht => ?_, fun t ht => ?_⟩, fun c hc => ?_⟩
  · obtain ⟨k', q1, q2, q3⟩ := h6 t ht
    exact ⟨k', by omega, (k7 k' q1).1.trans q2, (k7 k' q1).2.trans q3⟩
  · by_cases q : t = j
    · rw [q]; exact ⟨k, hk1, hk2, hk3⟩
    · obtain ⟨k', q1, q2, q3⟩ := h7 t (by omega)
      exact ⟨k', by omega, (k7 k' q1).1.trans q2, (k7 k' q1).2.trans q3⟩
  · exact addC_cnt h4 hc h0 (fun g' z' => by
      unfold anN
      have e1 : cnt (fun t => decide (sB σ t = z')) (j + 1) = cnt (fun t => decide (sB σ t = z')) j + (if decide (sB σ j = z') = true then 1 else 0) := rfl
      rw [e1]
      simp only [decide_eq_true_eq]
      by_cases d : g' = 4
      · rw [if_pos d, if_pos d]
        by_cases e : z' = sB σ j
        · rw [if_pos (show g' = 4 ∧ z' = sB σ j from ⟨d, e⟩), if_pos (show sB σ j = z' from e.symm)]; omega
        · rw [if_neg (show ¬ (g' = 4 ∧ z' = sB σ j) from fun q => e q.2), if_neg (show ¬ sB σ j = z' from fun q => e q.symm)]; omega
      · rw [if_neg d, if_neg d, if_neg (fun q => d q.1)])
/-- what the sorts are after all are counted anew -/
def ankS (σ : sT) : Nat → sT
  | 0 => nilK σ
  | i + 1 => addK (ankS σ i) (sG σ i) (sZ σ i)
def ankB (σ : sT) : Nat → sT
  | 0 => ankS σ (sNs σ)
  | j + 1 => addK (ankB σ j) 4 (sB σ j)
def ancS (σ : sT) : Nat → Nat → Nat
  | 0 => fun _ => 0
  | i + 1 => addC (ankS σ i) (ancS σ i) (sG σ i) (sZ σ i)
def ancB (σ : sT) : Nat → Nat → Nat
  | 0 => ancS σ (sNs σ)
  | j + 1 => addC (ankB σ j) (ancB σ j) 4 (sB σ j)
theorem ankS_I {σ : sT} (hw : wf σ) : ∀ i, i ≤ sNs σ → anI σ i 0 (ankS σ i) ∧ anC σ i 0 (ankS σ i) (ancS σ i)
  | 0, _ => ⟨anI_0, fun k hk => absurd hk (Nat.not_lt_zero k)⟩
  | i + 1, hi => by
    obtain ⟨h1, h2⟩ := ankS_I hw i (by omega)
    obtain ⟨g1, g2⟩ := anI_S hw h1 (by omega)
    exact ⟨g1, g2 _ h2⟩
theorem ankB_I {σ : sT} (hw : wf σ) : ∀ j, j ≤ sNb σ → anI σ (sNs σ) j (ankB σ j) ∧ anC σ (sNs σ) j (ankB σ j) (ancB σ j)
  | 0, _ => ankS_I hw (sNs σ) (Nat.le_refl _)
  | j + 1, hj => by
    obtain ⟨h1, h2⟩ := ankB_I hw j (by omega)
    obtain ⟨g1, g2⟩ := anI_B hw h1 (by omega)
    exact ⟨g1, g2 _ h2⟩
theorem an_wf {σ : sT} (hw : wf σ) : wf (ankB σ (sNb σ)) := by
  obtain ⟨⟨h1, h2, h3, h4, h5, h6, h7⟩, -⟩ := ankB_I hw (sNb σ) (Nat.le_refl _)
  obtain ⟨w1, w2, w3, w4, w5, w6, w7, w8, w9, w10⟩ := hw
  have n1 : sNs (ankB σ (sNb σ)) = sNs σ := by show (ankB σ (sNb σ)).1.1 = _; rw [h1]
  have n2 : sNb (ankB σ (sNb σ)) = sNb σ := by show (ankB σ (sNb σ)).2.1.1 = _; rw [h2]
  have n3 : sG (ankB σ (sNb σ)) = sG σ := by show (ankB σ (sNb σ)).1.2.1 = _; rw [h1]
  have n4 : sZ (ankB σ (sNb σ)) = sZ σ := by show (ankB σ (sNb σ)).1.2.2 = _; rw [h1]
  have n5 : sB (ankB σ (sNb σ)) = sB σ := by show (ankB σ (sNb σ)).2.1.2 = _; rw [h2]
  have n6 : sL (ankB σ (sNb σ)) = sL σ := by show (ankB σ (sNb σ)).2.2.1.1 = _; rw [h3]
  have n7 : sM (ankB σ (sNb σ)) = sM σ := by show (ankB σ (sNb σ)).2.2.1.2 = _; rw [h3]
  unfold wf
  rw [n1, n2, n3, n4, n5, n6, n7]
  exact ⟨w1, w2, h4.1, w4, w5, w6, h4.2.1, h4.2.2, h6, h7⟩
theorem c_anew {σ : sT} {μ : mM} (h : cSt σ 0 μ) (hw : wf σ) : ∃ μ', f_X6_sortAnew [vr 6 0] μ = some (0, μ') ∧ cSt (ankB σ (sNb σ)) 0 μ' ∧ frS 0 μ μ' := by
  have hn := hw.1
  have hnb := hw.2.1
  have lB : ∀ (m j : Nat) (μ1 : mM), j + m = sNb σ → cSt (ankB σ j) 0 μ1 → ∃ μ', r_X6_sortAnew_33 0 (jI (j : Int)) μ1 = some (0, μ') ∧ cSt (ankB σ (sNb σ)) 0 μ' ∧ frS 0 μ1 μ' := by
    intro m
    induction m with
    | zero =>
      intro j μ1 hj hs
      have e : j = sNb σ := by omega
      subst e
      obtain ⟨hI, -⟩ := ankB_I hw (sNb σ) (Nat.le_refl _)
      have n2 : sNb (ankB σ (sNb σ)) = sNb σ := by show (ankB σ (sNb σ)).2.1.1 = _; rw [hI.2.1]
      have k7 := hs.2.1
      rw [n2] at k7
      refine ⟨μ1, ?_, hs, frS.r 0 μ1⟩
      rw [e_X6_sortAnew_33, k7]; simp (disch := omega) only [j_0, j_1, j_2, j_3, j_4, j_5, j_6, j_8, j_9, j_16, j_20, j_24, j_33, j_48, j_49, j_57, j_58, j_82, j_83, j_100, j_131, j_179, j_227, j_275, j_512, j_825, j_999, j_1000, j_9999, j_10000, j_11000, j_65536, j_m1, jI_add, jI_sub, jI_mul, jI_neg, nca_9, nca_33, nca_58, nca_83, nca_131, nca_179, nca_227, nca_825, nca_4, nca_24, nca_275, ncb_1, ncb_275, ncb_24, nc_1add, Int.toNat_natCast, tz_0, tz_1, tz_2, tz_3, tz_4, tz_5, tz_6, tz_8, tz_9, tz_16, tz_20, tz_24, tz_33, tz_48, tz_49, tz_57, tz_58, tz_82, tz_83, tz_100, tz_131, tz_179, tz_227, tz_275, tz_512, tz_825, tz_999, tz_1000, tz_9999, tz_10000, tz_11000, tz_65536, nc_sub1, i_lt, n_lt, i_eq, n_eq, jI_natc, jI_nat, ck_ok, nc_lt, nc_le, if_true, if_false, Option.bind_some, wr_def, and_true, true_and, and_false, false_and, or_true, true_or, or_false, false_or, not_true, not_false_eq_true, not_true_eq_false, ite_true, ite_false, Nat.zero_add, Nat.add_zero, Int.add_zero, Int.zero_add, Int.sub_zero, up_eq, up_ne, up_i, up_j]
    | succ m ih =>
      intro j μ1 hj hs
      have hjn : j < sNb σ := by omega
      obtain ⟨hI, -⟩ := ankB_I hw j (by omega)
      have n2 : sNb (ankB σ j) = sNb σ := by show (ankB σ j).2.1.1 = _; rw [hI.2.1]
      have n5 : sB (ankB σ j) = sB σ := by show (ankB σ j).2.1.2 = _; rw [hI.2.1]
      have k7 := hs.2.1
      rw [n2] at k7
      have kb := hs.2.2.2.2.1 j (by rw [n2]; exact hjn)
      rw [n5] at kb
      have hb := hw.2.2.2.2.1 j hjn
      obtain ⟨μ2, a1, a2, a3⟩ := c_count hs hI.2.2.2.1 (g := 4) (z := sB σ j) (by omega) (by omega) (anI_room hI (by omega) _ _)
      rw [show (4 : Int) * 10000 + sB σ j = 40000 + sB σ j by omega] at a1
      obtain ⟨μ', b1, b2, b3⟩ := ih (j + 1) μ2 (by omega) a2
      refine ⟨μ', ?_, b2, a3.tr b3⟩
      rw [← b1, e_X6_sortAnew_33, k7]; simp (disch := omega) only [j_0, j_1, j_2, j_3, j_4, j_5, j_6, j_8, j_9, j_16, j_20, j_24, j_33, j_48, j_49, j_57, j_58, j_82, j_83, j_100, j_131, j_179, j_227, j_275, j_512, j_825, j_999, j_1000, j_9999, j_10000, j_11000, j_65536, j_m1, jI_add, jI_sub, jI_mul, jI_neg, nca_9, nca_33, nca_58, nca_83, nca_131, nca_179, nca_227, nca_825, nca_4, nca_24, nca_275, ncb_1, ncb_275, ncb_24, nc_1add, Int.toNat_natCast, tz_0, tz_1, tz_2, tz_3, tz_4, tz_5, tz_6, tz_8, tz_9, tz_16, tz_20, tz_24, tz_33, tz_48, tz_49, tz_57, tz_58, tz_82, tz_83, tz_100, tz_131, tz_179, tz_227, tz_275, tz_512, tz_825, tz_999, tz_1000, tz_9999, tz_10000, tz_11000, tz_65536, nc_sub1, i_lt, n_lt, i_eq, n_eq, jI_natc, jI_nat, ck_ok, nc_lt, nc_le, if_true, if_false, Option.bind_some, wr_def, and_true, true_and, and_false, false_and, or_true, true_or, or_false, false_or, not_true, not_false_eq_true, not_true_eq_false, ite_true, ite_false, Nat.zero_add, Nat.add_zero, Int.add_zero, Int.zero_add, Int.sub_zero, up_eq, up_ne, up_i, up_j, kb, a1]
  have lS : ∀ (m i : Nat) (μ1 : mM), i + m = sNs σ → cSt (ankS σ i) 0 μ1 → ∃ μ', r_X6_sortAnew_7 0 (jI (i : Int)) μ1 = some (0, μ') ∧ cSt (ankB σ (sNb σ)) 0 μ' ∧ frS 0 μ1 μ' := by
    intro m
    induction m with
    | zero =>
      intro i μ1 hi hs
      have e : i = sNs σ := by omega
      subst e
      obtain ⟨hI, -⟩ := ankS_I hw (sNs σ) (Nat.le_refl _)
      have n1 : sNs (ankS σ (sNs σ)) = sNs σ := by show (ankS σ (sNs σ)).1.1 = _; rw [hI.1]
      have k6 := hs.1
      rw [n1] at k6
      obtain ⟨μ', b1, b2, b3⟩ := lB (sNb σ) 0 μ1 (by omega) hs
      refine ⟨μ', ?_, b2, b3⟩
      rw [← b1, e_X6_sortAnew_7, k6]; simp (disch := omega) only [j_0, j_1, j_2, j_3, j_4, j_5, j_6, j_8, j_9, j_16, j_20, j_24, j_33, j_48, j_49, j_57, j_58, j_82, j_83, j_100, j_131, j_179, j_227, j_275, j_512, j_825, j_999, j_1000, j_9999, j_10000, j_11000, j_65536, j_m1, jI_add, jI_sub, jI_mul, jI_neg, nca_9, nca_33, nca_58, nca_83, nca_131, nca_179, nca_227, nca_825, nca_4, nca_24, nca_275, ncb_1, ncb_275, ncb_24, nc_1add, Int.toNat_natCast, tz_0, tz_1, tz_2, tz_3, tz_4, tz_5, tz_6, tz_8, tz_9, tz_16, tz_20, tz_24, tz_33, tz_48, tz_49, tz_57, tz_58, tz_82, tz_83, tz_100, tz_131, tz_179, tz_227, tz_275, tz_512, tz_825, tz_999, tz_1000, tz_9999, tz_10000, tz_11000, tz_65536, nc_sub1, i_lt, n_lt, i_eq, n_eq, jI_natc, jI_nat, ck_ok, nc_lt, nc_le, if_true, if_false, Option.bind_some, wr_def, and_true, true_and, and_false, false_and, or_true, true_or, or_false, false_or, not_true, not_false_eq_true, not_true_eq_false, ite_true, ite_false, Nat.zero_add, Nat.add_zero, Int.add_zero, Int.zero_add, Int.sub_zero, up_eq, up_ne, up_i, up_j]; rfl
    | succ m ih =>
      intro i μ1 hi hs
      have hin : i < sNs σ := by omega
      obtain ⟨hI, -⟩ := ankS_I hw i (by omega)
      have n1 : sNs (ankS σ i) = sNs σ := by show (ankS σ i).1.1 = _; rw [hI.1]
      have n3 : sG (ankS σ i) = sG σ := by show (ankS σ i).1.2.1 = _; rw [hI.1]
      have n4 : sZ (ankS σ i) = sZ σ := by show (ankS σ i).1.2.2 = _; rw [hI.1]
      have k6 := hs.1
      rw [n1] at k6
      have kb := hs.2.2.2.1 i (by rw [n1]; exact hin)
      rw [n3, n4] at kb
      have hb := hw.2.2.2.1 i hin
      obtain ⟨μ2, a1, a2, a3⟩ := c_count hs hI.2.2.2.1 (g := sG σ i) (z := sZ σ i) (by omega) (by omega) (anI_room hI (by omega) _ _)
      obtain ⟨μ', b1, b2, b3⟩ := ih (i + 1) μ2 (by omega) a2
      refine ⟨μ', ?_, b2, a3.tr b3⟩
      rw [← b1, e_X6_sortAnew_7, k6]; simp (disch := omega) only [j_0, j_1, j_2, j_3, j_4, j_5, j_6, j_8, j_9, j_16, j_20, j_24, j_33, j_48, j_49, j_57, j_58, j_82, j_83, j_100, j_131, j_179, j_227, j_275, j_512, j_825, j_999, j_1000, j_9999, j_10000, j_11000, j_65536, j_m1, jI_add, jI_sub, jI_mul, jI_neg, nca_9, nca_33, nca_58, nca_83, nca_131, nca_179, nca_227, nca_825, nca_4, nca_24, nca_275, ncb_1, ncb_275, ncb_24, nc_1add, Int.toNat_natCast, tz_0, tz_1, tz_2, tz_3, tz_4, tz_5, tz_6, tz_8, tz_9, tz_16, tz_20, tz_24, tz_33, tz_48, tz_49, tz_57, tz_58, tz_82, tz_83, tz_100, tz_131, tz_179, tz_227, tz_275, tz_512, tz_825, tz_999, tz_1000, tz_9999, tz_10000, tz_11000, tz_65536, nc_sub1, i_lt, n_lt, i_eq, n_eq, jI_natc, jI_nat, ck_ok, nc_lt, nc_le, if_true, if_false, Option.bind_some, wr_def, and_true, true_and, and_false, false_and, or_true, true_or, or_false, false_or, not_true, not_false_eq_true, not_true_eq_false, ite_true, ite_false, Nat.zero_add, Nat.add_zero, Int.add_zero, Int.zero_add, Int.sub_zero, up_eq, up_ne, up_i, up_j, kb, a1]
  obtain ⟨c1, c2, c3, c4, c5, c6, c7, c8, c9⟩ := h
  obtain ⟨μ', b1, b2, b3⟩ := lS (sNs σ) 0 (mm_up μ 6 0 8 (jI 0)) (by omega) ⟨by rw [up_j (by omega)]; exact c1, by rw [up_j (by omega)]; exact c2, by rw [up_eq]; rfl, fun j hj => by rw [up_ne (by omega)]; exact c4 j hj, fun j hj => by rw [up_ne (by omega)]; exact c5 j hj, fun j hj => by rw [up_ne (by omega)]; exact c6 j hj, fun j hj => by rw [up_ne (by omega)]; exact c7 j hj, fun j hj => absurd hj (Nat.not_lt_zero j), fun j hj => absurd hj (Nat.not_lt_zero j)⟩
  refine ⟨μ', ?_, b2, (frS.up (by omega)).tr b3⟩
  rw [← b1, e_X6_sortAnew]
  rfl
theorem m_anew {σ : sT} {μ : mM} (h : mL σ μ) (hw : wf σ) (x1 : mV) : ∃ μ', r_X8_goBack_64 x1 0 (mm_up μ 50 0 82 0) = some (1, μ') ∧ mL (ankB σ (sNb σ)) μ' ∧ frV μ μ' := by
  have hn := hw.1
  have hnb := hw.2.1
  have lB : ∀ (m j : Nat) (μ1 : mM), j + m = sNb σ → mS0 (ankB σ j) (μ1 50 0) → mSc (ankB σ j) (ancB σ j) (μ1 50 0) → ∃ μ', r_X8_goBack_105 x1 (jI (j : Int)) μ1 = some (1, μ') ∧ mS0 (ankB σ (sNb σ)) (μ' 50 0) ∧ mSc (ankB σ (sNb σ)) (ancB σ (sNb σ)) (μ' 50 0) ∧ frV μ1 μ' := by
    intro m
    induction m with
    | zero =>
      intro j μ1 hj hs hc
      have e : j = sNb σ := by omega
      subst e
      obtain ⟨hI, -⟩ := ankB_I hw (sNb σ) (Nat.le_refl _)
      have n2 : sNb (ankB σ (sNb σ)) = sNb σ := by show (ankB σ (sNb σ)).2.1.1 = _; rw [hI.2.1]
      have k7 := hs.2.1
      rw [n2] at k7
      refine ⟨μ1, ?_, hs, hc, frV.r μ1⟩
      rw [e_X8_goBack_105]; simp (disch := omega) only [j_0, j_1, j_2, j_3, j_4, j_5, j_6, j_8, j_9, j_16, j_20, j_24, j_33, j_48, j_49, j_57, j_58, j_82, j_83, j_100, j_131, j_179, j_227, j_275, j_512, j_825, j_999, j_1000, j_9999, j_10000, j_11000, j_65536, j_m1, jI_add, jI_sub, jI_mul, jI_neg, nca_9, nca_33, nca_58, nca_83, nca_131, nca_179, nca_227, nca_825, nca_4, nca_24, nca_275, ncb_1, ncb_275, ncb_24, nc_1add, Int.toNat_natCast, tz_0, tz_1, tz_2, tz_3, tz_4, tz_5, tz_6, tz_8, tz_9, tz_16, tz_20, tz_24, tz_33, tz_48, tz_49, tz_57, tz_58, tz_82, tz_83, tz_100, tz_131, tz_179, tz_227, tz_275, tz_512, tz_825, tz_999, tz_1000, tz_9999, tz_10000, tz_11000, tz_65536, nc_sub1, i_lt, n_lt, i_eq, n_eq, jI_natc, jI_nat, ck_ok, nc_lt, nc_le, if_true, if_false, Option.bind_some, wr_def, and_true, true_and, and_false, false_and, or_true, true_or, or_false, false_or, not_true, not_false_eq_true, not_true_eq_false, ite_true, ite_false, Nat.zero_add, Nat.add_zero, Int.add_zero, Int.zero_add, Int.sub_zero, up_eq, up_ne, up_i, up_j, k7]
    | succ m ih =>
      intro j μ1 hj hs hc
      have hjn : j < sNb σ := by omega
      obtain ⟨hI, -⟩ := ankB_I hw j (by omega)
      have n1 : sNs (ankB σ j) = sNs σ := by show (ankB σ j).1.1 = _; rw [hI.1]
      have n2 : sNb (ankB σ j) = sNb σ := by show (ankB σ j).2.1.1 = _; rw [hI.2.1]
      have n5 : sB (ankB σ j) = sB σ := by show (ankB σ j).2.1.2 = _; rw [hI.2.1]
      have k7 := hs.2.1
      rw [n2] at k7
      have kb := hs.2.2.2.2.2.1 j (by rw [n2]; exact hjn)
      rw [n5] at kb
      have hb := hw.2.2.2.2.1 j hjn
      obtain ⟨μ2, a1, a2, a3, a4⟩ := m_count hs hc hI.2.2.2.1 (by rw [n1]; exact hn) (by rw [n2]; exact hnb) (g := 4) (z := sB σ j) (by omega) (by omega) (anI_room hI (by omega) _ _)
      obtain ⟨μ', b1, b2, b3, b4⟩ := ih (j + 1) μ2 (by omega) a2 a3
      refine ⟨μ', ?_, b2, b3, a4.tr b4⟩
      rw [← b1, e_X8_goBack_105]; simp (disch := omega) only [j_0, j_1, j_2, j_3, j_4, j_5, j_6, j_8, j_9, j_16, j_20, j_24, j_33, j_48, j_49, j_57, j_58, j_82, j_83, j_100, j_131, j_179, j_227, j_275, j_512, j_825, j_999, j_1000, j_9999, j_10000, j_11000, j_65536, j_m1, jI_add, jI_sub, jI_mul, jI_neg, nca_9, nca_33, nca_58, nca_83, nca_131, nca_179, nca_227, nca_825, nca_4, nca_24, nca_275, ncb_1, ncb_275, ncb_24, nc_1add, Int.toNat_natCast, tz_0, tz_1, tz_2, tz_3, tz_4, tz_5, tz_6, tz_8, tz_9, tz_16, tz_20, tz_24, tz_33, tz_48, tz_49, tz_57, tz_58, tz_82, tz_83, tz_100, tz_131, tz_179, tz_227, tz_275, tz_512, tz_825, tz_999, tz_1000, tz_9999, tz_10000, tz_11000, tz_65536, nc_sub1, i_lt, n_lt, i_eq, n_eq, jI_natc, jI_nat, ck_ok, nc_lt, nc_le, if_true, if_false, Option.bind_some, wr_def, and_true, true_and, and_false, false_and, or_true, true_or, or_false, false_or, not_true, not_false_eq_true, not_true_eq_false, ite_true, ite_false, Nat.zero_add, Nat.add_zero, Int.add_zero, Int.zero_add, Int.sub_zero, up_eq, up_ne, up_i, up_j, k7, kb, a1]
  have lS : ∀ (m i : Nat) (μ1 : mM), i + m = sNs σ → mS0 (ankS σ i) (μ1 50 0) → mSc (ankS σ i) (ancS σ i) (μ1 50 0) → ∃ μ', r_X8_goBack_64 x1 (jI (i : Int)) μ1 = some (1, μ') ∧ mS0 (ankB σ (sNb σ)) (μ' 50 0) ∧ mSc (ankB σ (sNb σ)) (ancB σ (sNb σ)) (μ' 50 0) ∧ frV μ1 μ' := by
    intro m
    induction m with
    | zero =>
      intro i μ1 hi hs hc
      have e : i = sNs σ := by omega
      subst e
      obtain ⟨hI, -⟩ := ankS_I hw (sNs σ) (Nat.le_refl _)
      have n1 : sNs (ankS σ (sNs σ)) = sNs σ := by show (ankS σ (sNs σ)).1.1 = _; rw [hI.1]
      have k6 := hs.1
      rw [n1] at k6
      obtain ⟨μ', b1, b2, b3, b4⟩ := lB (sNb σ) 0 μ1 (by omega) hs hc
      refine ⟨μ', ?_, b2, b3, b4⟩
      rw [← b1, e_X8_goBack_64]; simp (disch := omega) only [j_0, j_1, j_2, j_3, j_4, j_5, j_6, j_8, j_9, j_16, j_20, j_24, j_33, j_48, j_49, j_57, j_58, j_82, j_83, j_100, j_131, j_179, j_227, j_275, j_512, j_825, j_999, j_1000, j_9999, j_10000, j_11000, j_65536, j_m1, jI_add, jI_sub, jI_mul, jI_neg, nca_9, nca_33, nca_58, nca_83, nca_131, nca_179, nca_227, nca_825, nca_4, nca_24, nca_275, ncb_1, ncb_275, ncb_24, nc_1add, Int.toNat_natCast, tz_0, tz_1, tz_2, tz_3, tz_4, tz_5, tz_6, tz_8, tz_9, tz_16, tz_20, tz_24, tz_33, tz_48, tz_49, tz_57, tz_58, tz_82, tz_83, tz_100, tz_131, tz_179, tz_227, tz_275, tz_512, tz_825, tz_999, tz_1000, tz_9999, tz_10000, tz_11000, tz_65536, nc_sub1, i_lt, n_lt, i_eq, n_eq, jI_natc, jI_nat, ck_ok, nc_lt, nc_le, if_true, if_false, Option.bind_some, wr_def, and_true, true_and, and_false, false_and, or_true, true_or, or_false, false_or, not_true, not_false_eq_true, not_true_eq_false, ite_true, ite_false, Nat.zero_add, Nat.add_zero, Int.add_zero, Int.zero_add, Int.sub_zero, up_eq, up_ne, up_i, up_j, k6]; rfl
    | succ m ih =>
      intro i μ1 hi hs hc
      have hin : i < sNs σ := by omega
      obtain ⟨hI, -⟩ := ankS_I hw i (by omega)
      have n1 : sNs (ankS σ i) = sNs σ := by show (ankS σ i).1.1 = _; rw [hI.1]
      have n2 : sNb (ankS σ i) = sNb σ := by show (ankS σ i).2.1.1 = _; rw [hI.2.1]
      have n3 : sG (ankS σ i) = sG σ := by show (ankS σ i).1.2.1 = _; rw [hI.1]
      have n4 : sZ (ankS σ i) = sZ σ := by show (ankS σ i).1.2.2 = _; rw [hI.1]
      have k6 := hs.1
      rw [n1] at k6
      have kb := hs.2.2.2.1 i (by rw [n1]; exact hin)
      rw [n3] at kb
      have kc := hs.2.2.2.2.1 i (by rw [n1]; exact hin)
      rw [n4] at kc
      have hb := hw.2.2.2.1 i hin
      obtain ⟨μ2, a1, a2, a3, a4⟩ := m_count hs hc hI.2.2.2.1 (by rw [n1]; exact hn) (by rw [n2]; exact hnb) (g := sG σ i) (z := sZ σ i) (by omega) (by omega) (anI_room hI (by omega) _ _)
      obtain ⟨μ', b1, b2, b3, b4⟩ := ih (i + 1) μ2 (by omega) a2 a3
      refine ⟨μ', ?_, b2, b3, a4.tr b4⟩
      rw [← b1, e_X8_goBack_64]; simp (disch := omega) only [j_0, j_1, j_2, j_3, j_4, j_5, j_6, j_8, j_9, j_16, j_20, j_24, j_33, j_48, j_49, j_57, j_58, j_82, j_83, j_100, j_131, j_179, j_227, j_275, j_512, j_825, j_999, j_1000, j_9999, j_10000, j_11000, j_65536, j_m1, jI_add, jI_sub, jI_mul, jI_neg, nca_9, nca_33, nca_58, nca_83, nca_131, nca_179, nca_227, nca_825, nca_4, nca_24, nca_275, ncb_1, ncb_275, ncb_24, nc_1add, Int.toNat_natCast, tz_0, tz_1, tz_2, tz_3, tz_4, tz_5, tz_6, tz_8, tz_9, tz_16, tz_20, tz_24, tz_33, tz_48, tz_49, tz_57, tz_58, tz_82, tz_83, tz_100, tz_131, tz_179, tz_227, tz_275, tz_512, tz_825, tz_999, tz_1000, tz_9999, tz_10000, tz_11000, tz_65536, nc_sub1, i_lt, n_lt, i_eq, n_eq, jI_natc, jI_nat, ck_ok, nc_lt, nc_le, if_true, if_false, Option.bind_some, wr_def, and_true, true_and, and_false, false_and, or_true, true_or, or_false, false_or, not_true, not_false_eq_true, not_true_eq_false, ite_true, ite_false, Nat.zero_add, Nat.add_zero, Int.add_zero, Int.zero_add, Int.sub_zero, up_eq, up_ne, up_i, up_j, k6, kb, kc, a1]
  obtain ⟨c1, c2, c3, c4, c5, c6, c7, c8, c9, c10, c11, c12⟩ := h
  obtain ⟨μ', b1, b2, b3, b4⟩ := lS (sNs σ) 0 (mm_up μ 50 0 82 0) (by omega) ⟨by rw [up_j (by omega)]; exact c1, by rw [up_j (by omega)]; exact c2, by rw [up_eq]; rfl, fun j hj => by rw [up_j (by have hj' : j < sNs σ := hj; omega)]; exact c4 j hj, fun j hj => by rw [up_j (by have hj' : j < sNs σ := hj; omega)]; exact c5 j hj, fun j hj => by rw [up_j (by have hj' : j < sNb σ := hj; omega)]; exact c6 j hj, fun j hj => by rw [up_j (by omega)]; exact c7 j hj, fun j hj => by rw [up_j (by omega)]; exact c8 j hj, fun j hj => absurd hj (Nat.not_lt_zero j), fun j hj => absurd hj (Nat.not_lt_zero j), fun j hj => absurd hj (Nat.not_lt_zero j)⟩ (fun j hj => absurd hj (Nat.not_lt_zero j))
  refine ⟨μ', b1, ?_, (frV.up (by omega)).tr b4⟩
  obtain ⟨hI, hc⟩ := ankB_I hw (sNb σ) (Nat.le_refl _)
  refine mSt_0.mpr ⟨b2, fun j hj => ?_⟩
  rw [b3 j hj, hc j hj]
  have : anN σ (sNs σ) (sNb σ) (sKg (ankB σ (sNb σ)) j) (sKz (ankB σ (sNb σ)) j) = sCnt σ (sKg (ankB σ (sNb σ)) j) (sKz (ankB σ (sNb σ)) j) := rfl
  rw [this]
  show _ = jI (sCnt (ankB σ (sNb σ)) (sKg (ankB σ (sNb σ)) j) (sKz (ankB σ (sNb σ)) j) : Int)
  rw [sCnt_congr hI.1 hI.2.1]
def aBack (A : aT) (i : Nat) : aT := ((ankB (aI A i) (sNb (aI A i)), aN A, 0, aP A), A.2.1, aZ A i, A.2.2.2)
theorem k_goBack (l1 : Int32) : alk (f_X7_goBack [vr 7 0, vi l1]) (f_X8_goBack [vr 8 0, vi l1]) := by
  obtain ⟨n, rfl, hn1, hn2⟩ := jI_ex l1
  refine alk_of fun A μ hW hC => ?_
  have ln := jI_long (z := n) (by omega)
  have hin := f_isIn n 2 (by omega) (by omega) μ
  have hin2 := fun μ' => f_in n 0 1 (by omega) (by omega) (by omega) μ'
  by_cases c : 0 ≤ n ∧ n < 2
  · rw [if_pos c] at hin
    rw [if_pos (by omega)] at hin2
    obtain ⟨t, rfl⟩ : ∃ t : Nat, n = t := ⟨n.toNat, by omega⟩
    have ht : t < 2 := by omega
    obtain ⟨g1, g2⟩ := hC.2.2.2.2.1 t ht
    cases hk : aK A t with
    | false =>
      rw [hk, if_neg (by simp)] at g1
      refine ⟨-1000000003, μ, A, by rw [e_X7_goBack]; simp (disch := omega) only [j_0, j_1, j_2, j_3, j_4, j_5, j_6, j_8, j_9, j_16, j_20, j_24, j_33, j_48, j_49, j_57, j_58, j_82, j_83, j_100, j_131, j_179, j_227, j_275, j_512, j_825, j_999, j_1000, j_9999, j_10000, j_11000, j_65536, j_m1, jI_add, jI_sub, jI_mul, jI_neg, nca_9, nca_33, nca_58, nca_83, nca_131, nca_179, nca_227, nca_825, nca_4, nca_24, nca_275, ncb_1, ncb_275, ncb_24, nc_1add, Int.toNat_natCast, tz_0, tz_1, tz_2, tz_3, tz_4, tz_5, tz_6, tz_8, tz_9, tz_16, tz_20, tz_24, tz_33, tz_48, tz_49, tz_57, tz_58, tz_82, tz_83, tz_100, tz_131, tz_179, tz_227, tz_275, tz_512, tz_825, tz_999, tz_1000, tz_9999, tz_10000, tz_11000, tz_65536, nc_sub1, i_lt, n_lt, i_eq, n_eq, jI_natc, jI_nat, ck_ok, nc_lt, nc_le, if_true, if_false, Option.bind_some, wr_def, and_true, true_and, and_false, false_and, or_true, true_or, or_false, false_or, not_true, not_false_eq_true, not_true_eq_false, ite_true, ite_false, Nat.zero_add, Nat.add_zero, Int.add_zero, Int.zero_add, Int.sub_zero, up_eq, up_ne, up_i, up_j, hin, g1], hC, fC.r μ, hW, fun μ' hM => ⟨μ', ?_, hM, fM.r μ'⟩⟩
      have m := (hM.2.2.2.1 t ht).1
      rw [hk, if_neg (by simp)] at m
      have hi := hin2 μ'
      rw [e_X8_goBack, ln, l_0, l_1]; simp (disch := omega) only [j_0, j_1, j_2, j_3, j_4, j_5, j_6, j_8, j_9, j_16, j_20, j_24, j_33, j_48, j_49, j_57, j_58, j_82, j_83, j_100, j_131, j_179, j_227, j_275, j_512, j_825, j_999, j_1000, j_9999, j_10000, j_11000, j_65536, j_m1, jI_add, jI_sub, jI_mul, jI_neg, nca_9, nca_33, nca_58, nca_83, nca_131, nca_179, nca_227, nca_825, nca_4, nca_24, nca_275, ncb_1, ncb_275, ncb_24, nc_1add, Int.toNat_natCast, tz_0, tz_1, tz_2, tz_3, tz_4, tz_5, tz_6, tz_8, tz_9, tz_16, tz_20, tz_24, tz_33, tz_48, tz_49, tz_57, tz_58, tz_82, tz_83, tz_100, tz_131, tz_179, tz_227, tz_275, tz_512, tz_825, tz_999, tz_1000, tz_9999, tz_10000, tz_11000, tz_65536, nc_sub1, i_lt, n_lt, i_eq, n_eq, jI_natc, jI_nat, ck_ok, nc_lt, nc_le, if_true, if_false, Option.bind_some, wr_def, and_true, true_and, and_false, false_and, or_true, true_or, or_false, false_or, not_true, not_false_eq_true, not_true_eq_false, ite_true, ite_false, Nat.zero_add, Nat.add_zero, Int.add_zero, Int.zero_add, Int.sub_zero, up_eq, up_ne, up_i, up_j, hi, m]
    | true =>
      rw [hk, if_pos rfl] at g1
      obtain ⟨g3, g4⟩ := g2 hk
      obtain ⟨hwi, hz1, hz2⟩ := hW.2.2.2.2.1 t ht hk
      obtain ⟨c1, c2, c3, c4, c5, c6, c7, c8, c9⟩ := hC
      obtain ⟨μ1, a1, a2, a3⟩ := f_copyFrom (a := 0) g3 hwi.1 hwi.2.1 hwi.2.2.1 (by omega)
      obtain ⟨μ2, b1, b2, b3⟩ := c_anew a2 hwi
      have fr : frS 0 μ μ2 := a3.tr b3
      have k21 : μ2 2 t 1 = jI (aZ A t) := by rw [fr 2 t (by omega)]; exact g4
      have hf : ∀ k i, ¬ (k = 7 ∨ k = 3) → (mm_up (mm_up μ2 7 0 7 (jI (aZ A t))) 3 0 2 (jI 0)) k i = μ2 k i := fun k i hk => by rw [up_ne (by omega), up_ne (by omega)]
      have st : ∀ σ a, cSt σ a μ2 → cSt σ a (mm_up (mm_up μ2 7 0 7 (jI (aZ A t))) 3 0 2 (jI 0)) := fun σ a h => by
        unfold cSt
        rw [hf 6 a (by omega), hf 10 a (by omega), hf 11 a (by omega), hf 12 a (by omega), hf 13 a (by omega), hf 14 a (by omega), hf 15 a (by omega)]
        exact h
      refine ⟨jI 1, mm_up (mm_up μ2 7 0 7 (jI (aZ A t))) 3 0 2 (jI 0), aBack A t, ?_, ⟨st _ _ b2, ?_, ?_, fun j hj => absurd hj (Nat.not_lt_zero j), fun i hi => ?_, ?_, ?_, fun i hi => ?_, fun b hb => ?_⟩, ?_, ?_, fun μ' hM => ?_⟩
      · rw [e_X7_goBack]
        have a1' : f_X6_copyFrom [vr 6 0, vr 6 (t + 17)] μ = some (0, μ1) := by rw [show t + 17 = 17 + t by omega]; exact a1
        simp (disch := omega) only [j_0, j_1, j_2, j_3, j_4, j_5, j_6, j_8, j_9, j_16, j_20, j_24, j_33, j_48, j_49, j_57, j_58, j_82, j_83, j_100, j_131, j_179, j_227, j_275, j_512, j_825, j_999, j_1000, j_9999, j_10000, j_11000, j_65536, j_m1, jI_add, jI_sub, jI_mul, jI_neg, nca_9, nca_33, nca_58, nca_83, nca_131, nca_179, nca_227, nca_825, nca_4, nca_24, nca_275, ncb_1, ncb_275, ncb_24, nc_1add, Int.toNat_natCast, tz_0, tz_1, tz_2, tz_3, tz_4, tz_5, tz_6, tz_8, tz_9, tz_16, tz_20, tz_24, tz_33, tz_48, tz_49, tz_57, tz_58, tz_82, tz_83, tz_100, tz_131, tz_179, tz_227, tz_275, tz_512, tz_825, tz_999, tz_1000, tz_9999, tz_10000, tz_11000, tz_65536, nc_sub1, i_lt, n_lt, i_eq, n_eq, jI_natc, jI_nat, ck_ok, nc_lt, nc_le, if_true, if_false, Option.bind_some, wr_def, and_true, true_and, and_false, false_and, or_true, true_or, or_false, false_or, not_true, not_false_eq_true, not_true_eq_false, ite_true, ite_false, Nat.zero_add, Nat.add_zero, Int.add_zero, Int.zero_add, Int.sub_zero, up_eq, up_ne, up_i, up_j, hin, g1, a1', b1, k21]
      · rw [up_j (by omega), up_ne (by omega), fr 3 0 (by omega)]; exact c2
      · rw [up_eq]; rfl
      · obtain ⟨q1, q2⟩ := c5 i hi
        show _ = jI (if aK A i = true then 1 else 0) ∧ (aK A i = true → cSt (aI A i) (17 + i) _ ∧ _ = jI (aZ A i))
        rw [hf 2 i (by omega), fr 2 i (by omega)]
        exact ⟨q1, fun w => ⟨st _ _ (fr.st (by omega) (q2 w).1), (q2 w).2⟩⟩
      · rw [up_ne (by omega), up_eq]; rfl
      · show cSee (aQ A) _
        unfold cSee; rw [hf 4 0 (by omega), fr 4 0 (by omega), hf 40 0 (by omega), fr 40 0 (by omega), hf 41 0 (by omega), fr 41 0 (by omega)]; exact c7
      · rw [hf 34 0 (by omega), fr 34 0 (by omega)]; exact c8 i hi
      · rw [hf 34 b (by omega), fr 34 b (by omega)]; exact c9 b hb
      · intro k i hk
        rw [hf k i (by omega), fr k i (by omega)]
      · obtain ⟨w1, w2, w3, w4, w5, w6, w7, w8⟩ := hW
        exact ⟨an_wf hwi, w2, by show 0 ≤ 16; omega, fun j hj => absurd hj (Nat.not_lt_zero j), w5, hz1, hz2, w8⟩
      · obtain ⟨m1, m2, m3, m4, m5, m6⟩ := hM
        obtain ⟨p1, p2⟩ := m4 t ht
        rw [hk, if_pos rfl] at p1
        obtain ⟨p3, p4⟩ := p2 hk
        obtain ⟨μ3, d1, d2, d3, d4⟩ := m_copy (a := 275 + 275 * t) (b := 0) (by omega) (by omega) (by omega) μ'
        have hl : mL (aI A t) (mm_up (mm_up μ3 8 0 4 (jI (aZ A t))) 8 0 3 (jI 0)) := by
          unfold mL
          rw [up_ne (by omega), up_ne (by omega)]
          exact mSt_congr p3 hwi.1 hwi.2.1 hwi.2.2.1 (fun q hq => by
            have := d3 q hq
            rw [Nat.zero_add] at this
            exact this)
        obtain ⟨μ4, e1, e2, e3⟩ := m_anew hl hwi (vi (jI (t : Int)))
        have k52 : μ3 52 0 t = jI (aZ A t) := by rw [d2 52 0 (by omega)]; exact p4
        have hfr : ∀ k i, ¬ (k = 8 ∨ k = 50) → μ4 k i = μ' k i := fun k i hk => by rw [e3.1 k i (by omega), up_ne (by omega), up_ne (by omega), d2 k i (by omega)]
        have hi5 : ∀ t', 275 ≤ t' → μ4 50 0 t' = μ' 50 0 t' := fun t' ht' => by rw [e3.2 t' ht', up_ne (by omega), up_ne (by omega), d4 t' (by omega)]
        refine ⟨μ4, ?_, ⟨e2, ?_, fun j hj => absurd hj (Nat.not_lt_zero j), fun i hi => ?_, ?_, ?_⟩, fun k i hk => hfr k i (by omega)⟩
        · have hi := hin2 μ'
          have ex : (275 : Int32) + 275 * jI (t : Int) = jI ((275 + 275 * t : Nat) : Int) := by rw [j_275, jI_mul, jI_add]; rfl
          have d1' : f_X8_copy [vr 8 0, vi (jI ((275 + 275 * t : Nat) : Int)), vi (jI 0)] μ' = some (0, μ3) := d1
          have e1' : r_X8_goBack_64 (vi (jI (t : Int))) (jI 0) (mm_up (mm_up (mm_up μ3 8 0 4 (jI (aZ A t))) 8 0 3 (jI 0)) 50 0 82 (jI 0)) = some (jI 1, μ4) := e1
          rw [e_X8_goBack, ln, l_0, l_1, ex, hi]
          simp (disch := omega) only [j_0, j_1, j_2, j_3, j_4, j_5, j_6, j_8, j_9, j_16, j_20, j_24, j_33, j_48, j_49, j_57, j_58, j_82, j_83, j_100, j_131, j_179, j_227, j_275, j_512, j_825, j_999, j_1000, j_9999, j_10000, j_11000, j_65536, j_m1, jI_add, jI_sub, jI_mul, jI_neg, nca_9, nca_33, nca_58, nca_83, nca_131, nca_179, nca_227, nca_825, nca_4, nca_24, nca_275, ncb_1, ncb_275, ncb_24, nc_1add, Int.toNat_natCast, tz_0, tz_1, tz_2, tz_3, tz_4, tz_5, tz_6, tz_8, tz_9, tz_16, tz_20, tz_24, tz_33, tz_48, tz_49, tz_57, tz_58, tz_82, tz_83, tz_100, tz_131, tz_179, tz_227, tz_275, tz_512, tz_825, tz_999, tz_1000, tz_9999, tz_10000, tz_11000, tz_65536, nc_sub1, i_lt, n_lt, i_eq, n_eq, jI_natc, jI_nat, ck_ok, nc_lt, nc_le, if_true, if_false, Option.bind_some, wr_def, and_true, true_and, and_false, false_and, or_true, true_or, or_false, false_or, not_true, not_false_eq_true, not_true_eq_false, ite_true, ite_false, Nat.zero_add, Nat.add_zero, Int.add_zero, Int.zero_add, Int.sub_zero, up_eq, up_ne, up_i, up_j, p1, k52, d1', e1']
        · rw [e3.1 8 0 (by omega), up_eq]; rfl
        · show _ = jI (if aK A i = true then 1 else 0) ∧ (aK A i = true → mSt (aI A i) _ ∧ _ = jI (aZ A i))
          obtain ⟨q1, q2⟩ := m4 i hi
          rw [hfr 51 0 (by omega), hfr 52 0 (by omega)]
          refine ⟨q1, fun w => ⟨?_, (q2 w).2⟩⟩
          have hwi' := (hW.2.2.2.2.1 i hi w).1
          exact mSt_congr (q2 w).1 hwi'.1 hwi'.2.1 hwi'.2.2.1 (fun q hq => hi5 _ (by omega))
        · rw [e3.1 8 0 (by omega), up_j (by omega), up_eq]; rfl
        · show mSee (aQ A) _
          unfold mSee; rw [e3.1 8 0 (by omega), up_j (by omega), up_j (by omega), d2 8 0 (by omega), hfr 56 0 (by omega), hfr 57 0 (by omega), hfr 58 0 (by omega)]; exact m6
  · rw [if_neg c] at hin
    rw [if_neg (by omega)] at hin2
    refine ⟨-1000000001, μ, A, by rw [e_X7_goBack]; simp (disch := omega) only [j_0, j_1, j_2, j_3, j_4, j_5, j_6, j_8, j_9, j_16, j_20, j_24, j_33, j_48, j_49, j_57, j_58, j_82, j_83, j_100, j_131, j_179, j_227, j_275, j_512, j_825, j_999, j_1000, j_9999, j_10000, j_11000, j_65536, j_m1, jI_add, jI_sub, jI_mul, jI_neg, nca_9, nca_33, nca_58, nca_83, nca_131, nca_179, nca_227, nca_825, nca_4, nca_24, nca_275, ncb_1, ncb_275, ncb_24, nc_1add, Int.toNat_natCast, tz_0, tz_1, tz_2, tz_3, tz_4, tz_5, tz_6, tz_8, tz_9, tz_16, tz_20, tz_24, tz_33, tz_48, tz_49, tz_57, tz_58, tz_82, tz_83, tz_100, tz_131, tz_179, tz_227, tz_275, tz_512, tz_825, tz_999, tz_1000, tz_9999, tz_10000, tz_11000, tz_65536, nc_sub1, i_lt, n_lt, i_eq, n_eq, jI_natc, jI_nat, ck_ok, nc_lt, nc_le, if_true, if_false, Option.bind_some, wr_def, and_true, true_and, and_false, false_and, or_true, true_or, or_false, false_or, not_true, not_false_eq_true, not_true_eq_false, ite_true, ite_false, Nat.zero_add, Nat.add_zero, Int.add_zero, Int.zero_add, Int.sub_zero, up_eq, up_ne, up_i, up_j, hin], hC, fC.r μ, hW, fun μ' hM => ⟨μ', ?_, hM, fM.r μ'⟩⟩
    have hi := hin2 μ'
    rw [e_X8_goBack, ln, l_0, l_1]; simp (disch := omega) only [j_0, j_1, j_2, j_3, j_4, j_5, j_6, j_8, j_9, j_16, j_20, j_24, j_33, j_48, j_49, j_57, j_58, j_82, j_83, j_100, j_131, j_179, j_227, j_275, j_512, j_825, j_999, j_1000, j_9999, j_10000, j_11000, j_65536, j_m1, jI_add, jI_sub, jI_mul, jI_neg, nca_9, nca_33, nca_58, nca_83, nca_131, nca_179, nca_227, nca_825, nca_4, nca_24, nca_275, ncb_1, ncb_275, ncb_24, nc_1add, Int.toNat_natCast, tz_0, tz_1, tz_2, tz_3, tz_4, tz_5, tz_6, tz_8, tz_9, tz_16, tz_20, tz_24, tz_33, tz_48, tz_49, tz_57, tz_58, tz_82, tz_83, tz_100, tz_131, tz_179, tz_227, tz_275, tz_512, tz_825, tz_999, tz_1000, tz_9999, tz_10000, tz_11000, tz_65536, nc_sub1, i_lt, n_lt, i_eq, n_eq, jI_natc, jI_nat, ck_ok, nc_lt, nc_le, if_true, if_false, Option.bind_some, wr_def, and_true, true_and, and_false, false_and, or_true, true_or, or_false, false_or, not_true, not_false_eq_true, not_true_eq_false, ite_true, ite_false, Nat.zero_add, Nat.add_zero, Int.add_zero, Int.zero_add, Int.sub_zero, up_eq, up_ne, up_i, up_j, hi]
/-! at the start -/
theorem inv_0 : Inv (fun _ _ _ => 0) := by
  refine ⟨((((0, fun _ => 0, fun _ => 0), (0, fun _ => 0), (fun _ => 0, fun _ => 0), (0, fun _ => 0, fun _ => 0, fun _ => 0)), 0, 0, fun _ => ((0, fun _ => 0, fun _ => 0), (0, fun _ => 0), (fun _ => 0, fun _ => 0), (0, fun _ => 0, fun _ => 0, fun _ => 0))), (fun _ => ((0, fun _ => 0, fun _ => 0), (0, fun _ => 0), (fun _ => 0, fun _ => 0), (0, fun _ => 0, fun _ => 0, fun _ => 0)), fun _ => false, fun _ => 0), 0, (0, fun _ => 0, fun _ => 0, fun _ => 0)), ?_, ?_, ?_⟩
  · refine ⟨⟨by show 0 ≤ 24; omega, by show 0 ≤ 24; omega, by show 0 ≤ 48; omega, fun j hj => absurd hj (Nat.not_lt_zero j), fun j hj => absurd hj (Nat.not_lt_zero j), fun j hj => ⟨Int.le_refl 0, Int.le_refl 0, by show (0 : Int) ≤ 999; omega⟩, fun j hj => absurd hj (Nat.not_lt_zero j), fun j k hj => absurd hj (Nat.not_lt_zero j), fun j hj => absurd hj (Nat.not_lt_zero j), fun j hj => absurd hj (Nat.not_lt_zero j)⟩, by show 0 < 16; omega, by show 0 ≤ 16; omega, fun j hj => absurd hj (Nat.not_lt_zero j), fun i hi q => absurd q (by simp), by show (0 : Int) ≤ 0; omega, by show (0 : Int) < 2147483648; omega, by show 0 ≤ 6; omega, fun i hi => absurd hi (Nat.not_lt_zero i)⟩
  · exact ⟨⟨rfl, rfl, rfl, fun j hj => absurd hj (Nat.not_lt_zero j), fun j hj => absurd hj (Nat.not_lt_zero j), fun j hj => rfl, fun j hj => rfl, fun j hj => absurd hj (Nat.not_lt_zero j), fun j hj => absurd hj (Nat.not_lt_zero j)⟩, rfl, rfl, fun j hj => absurd hj (Nat.not_lt_zero j), fun i hi => ⟨rfl, fun q => absurd q (by simp)⟩, rfl, ⟨rfl, fun i hi => absurd hi (Nat.not_lt_zero i)⟩, fun i hi => rfl, fun b hb => rfl⟩
  · exact ⟨⟨rfl, rfl, rfl, fun j hj => absurd hj (Nat.not_lt_zero j), fun j hj => absurd hj (Nat.not_lt_zero j), fun j hj => absurd hj (Nat.not_lt_zero j), fun j hj => rfl, fun j hj => rfl, fun j hj => absurd hj (Nat.not_lt_zero j), fun j hj => absurd hj (Nat.not_lt_zero j), fun j hj => absurd hj (Nat.not_lt_zero j), fun j hj => absurd hj (Nat.not_lt_zero j)⟩, rfl, fun j hj => absurd hj (Nat.not_lt_zero j), fun i hi => ⟨rfl, fun q => absurd q (by simp)⟩, rfl, ⟨rfl, fun i hi => absurd hi (Nat.not_lt_zero i)⟩⟩
