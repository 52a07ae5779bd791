/-! undone, seen, seeds, images -/
theorem floorMod_v : ∀ k : Fin 32, (if jI ((k.val : Int) - 16) ^^^ 16 < 0 then (if jI ((k.val : Int) - 16) - jI ((k.val : Int) - 16) / 16 * 16 = 0 then jI ((k.val : Int) - 16) - jI ((k.val : Int) - 16) / 16 * 16 else (jI ((k.val : Int) - 16) - jI ((k.val : Int) - 16) / 16 * 16) + 16) else jI ((k.val : Int) - 16) - jI ((k.val : Int) - 16) / 16 * 16) = jI (((k.val % 16 : Nat)) : Int) := by decide
theorem f_floorMod {a : Int} {r : Nat} (h : -16 ≤ a ∧ a < 16) (hr : r = ((a + 16).toNat) % 16) (μ : mM) : f_J9_floorMod_7cf53 [vi (jI a), vi 16] μ = some (jI (r : Int), μ) := by
  have hk := floorMod_v ⟨(a + 16).toNat, by omega⟩
  have e : (((a + 16).toNat : Nat) : Int) - 16 = a := by omega
  simp only [e] at hk
  rw [e_J9_floorMod_7cf53, if_neg (by decide), hr]
  by_cases c : jI a ^^^ 16 < 0
  · rw [if_pos c] at hk ⊢
    by_cases d : jI a - jI a / 16 * 16 = 0
    · rw [if_pos d] at hk ⊢; rw [hk]
    · rw [if_neg d] at hk ⊢; rw [hk]
  · rw [if_neg c] at hk ⊢; rw [hk]
def aUndo (A : aT) (n : Nat) : aT := ((aP A (aD A - n), (aN A + 16 - n) % 16, aD A - n, aP A), A.2)
theorem k_undo (l1 : Int32) : alk (f_X7_undo [vr 7 0, vi l1]) (f_X8_undo [vr 8 0, vi l1]) := by
  obtain ⟨n, rfl, hn1, hn2⟩ := jI_ex l1
  refine alk_of fun A μ hW hC => ?_
  have hN := hW.2.1
  have hD := hW.2.2.1
  have ln := jI_long (z := n) (by omega)
  have hin := fun μ' => f_in n 1 16 (by omega) (by omega) (by omega) μ'
  have k2 := hC.2.2.1
  by_cases c : 1 ≤ n ∧ n ≤ 16
  · rw [if_pos c] at hin
    by_cases d : n ≤ aD A
    · obtain ⟨t, rfl⟩ : ∃ t : Nat, n = t := ⟨n.toNat, by omega⟩
      have htd : t ≤ aD A := by omega
      have hwP := hW.2.2.2.1 (aD A - t) (by omega)
      obtain ⟨c1, c2, c3, c4, c5, c6, c7, c8, c9⟩ := hC
      have hfm := f_floorMod (a := (aN A : Int) - t) (r := (aN A + 16 - t) % 16) (by omega) (by omega)
      have hcp := c4 (aD A - t) (by omega)
      have es : 1 + (aN A + 16 - aD A + (aD A - t)) % 16 = (aN A + 16 - t) % 16 + 1 := by omega
      rw [es] at hcp
      -- memory with next and deeds set
      have hf : ∀ k i, k ≠ 3 → (mm_up (mm_up μ 3 0 1 (jI (((aN A + 16 - t) % 16 : Nat) : Int))) 3 0 2 (jI ((aD A - t : Nat) : Int))) k i = μ k i := fun k i hk => by rw [up_ne hk, up_ne hk]
      have st : ∀ σ a, cSt σ a μ → cSt σ a (mm_up (mm_up μ 3 0 1 (jI (((aN A + 16 - t) % 16 : Nat) : Int))) 3 0 2 (jI ((aD A - t : Nat) : Int))) := fun σ a h => by
        unfold cSt
        rw [hf 6 a (by omega), hf 10 a (by omega), hf 11 a (by omega), hf 12 a (by omega), hf 13 a (by omega), hf 14 a (by omega), hf 15 a (by omega)]
        exact h
      obtain ⟨μ1, a1, a2, a3⟩ := f_copyFrom (a := 0) (st _ _ hcp) hwP.1 hwP.2.1 hwP.2.2.1 (by omega)
      have k1 : μ1 6 0 6 = jI (sNs (aP A (aD A - t)) : Int) := a2.1
      have k7 : μ1 6 0 7 = jI (sNb (aP A (aD A - t)) : Int) := a2.2.1
      refine ⟨jI (sNs (aP A (aD A - t)) : Int) + jI (sNb (aP A (aD A - t)) : Int), μ1, aUndo A t, ?_, ⟨a2, ?_, ?_, fun j hj => ?_, fun i hi => ?_, ?_, ?_, fun i hi => ?_, fun b hb => ?_⟩, ?_, ?_, fun μ' hM => ?_⟩
      · have hgb : f_X3_giveBack [vr 3 0, vr 6 0, vi (jI (t : Int))] μ = some (0, μ1) := by
          rw [e_X3_giveBack, c2, jI_sub, hfm, Option.bind_some]
          simp only [wr_def]
          have e1 : (mm_up μ 3 0 1 (jI (((aN A + 16 - t) % 16 : Nat) : Int))) 3 0 2 - jI (t : Int) = jI ((aD A - t : Nat) : Int) := by
            rw [up_j (by omega), c3, jI_sub]; congr 1; omega
          rw [e1]
          have e2 : (mm_up (mm_up μ 3 0 1 (jI (((aN A + 16 - t) % 16 : Nat) : Int))) 3 0 2 (jI ((aD A - t : Nat) : Int))) 3 0 1 = jI (((aN A + 16 - t) % 16 : Nat) : Int) := by
            rw [up_j (by omega), up_eq]
          rw [e2, ck_ok (by omega) (by omega) (by omega), jI_natc (by omega), a1]
          rfl
        have hp : f_X6_parts [vr 6 0] μ1 = some (jI (sNs (aP A (aD A - t)) : Int) + jI (sNb (aP A (aD A - t)) : Int), μ1) := by rw [e_X6_parts, k1, k7]
        rw [e_X7_undo, c3]
        simp (disch := omega) only [j_1, j_16, n_lt, hgb, Option.bind_some, hp]
      · rw [a3 3 0 (by omega), up_j (by omega), up_eq]; rfl
      · rw [a3 3 0 (by omega), up_eq]; rfl
      · have hj' : j < aD A - t := hj
        show cSt (aP A j) (1 + ((aN A + 16 - t) % 16 + 16 - (aD A - t) + j) % 16) μ1
        have e : 1 + ((aN A + 16 - t) % 16 + 16 - (aD A - t) + j) % 16 = 1 + (aN A + 16 - aD A + j) % 16 := by omega
        rw [e]
        exact a3.st (by omega) (st _ _ (c4 j (by omega)))
      · obtain ⟨g1, g2⟩ := c5 i hi
        rw [a3 2 i (by omega), hf 2 i (by omega)]
        exact ⟨g1, fun q => ⟨a3.st (by omega) (st _ _ (g2 q).1), (g2 q).2⟩⟩
      · rw [a3 7 0 (by omega), hf 7 0 (by omega)]; exact c6
      · unfold cSee; rw [a3 4 0 (by omega), hf 4 0 (by omega), a3 40 0 (by omega), hf 40 0 (by omega), a3 41 0 (by omega), hf 41 0 (by omega)]; exact c7
      · rw [a3 34 0 (by omega), hf 34 0 (by omega)]; exact c8 i hi
      · rw [a3 34 b (by omega), hf 34 b (by omega)]; exact c9 b hb
      · intro k i hk
        rw [a3 k i (by omega), hf k i (by omega)]
      · obtain ⟨w1, w2, w3, w4, w5⟩ := hW
        exact ⟨hwP, Nat.mod_lt _ (by omega), by show aD A - t ≤ 16; omega, fun j hj => w4 j (by have hj' : j < aD A - t := hj; omega), w5⟩
      · obtain ⟨m1, m2, m3, m4, m5, m6⟩ := hM
        obtain ⟨μ3, b1, b2, b3, b4⟩ := m_copy (a := 825 + 275 * (aD A - t)) (b := 0) (by omega) (by omega) (by omega) (mm_up μ' 8 0 3 (jI ((aD A - t : Nat) : Int)))
        have b1' : f_X8_copy [vr 8 0, vi (jI ((825 + 275 * (aD A - t) : Nat) : Int)), vi 0] (mm_up μ' 8 0 3 (jI ((aD A - t : Nat) : Int))) = some (0, μ3) := b1
        have hl : mSt (aP A (aD A - t)) (μ3 50 0) := mSt_congr (m3 (aD A - t) (by omega)) hwP.1 hwP.2.1 hwP.2.2.1 (fun q hq => by
          have := b3 q hq
          rw [Nat.zero_add, up_ne (by omega)] at this
          exact this)
        have hi5 : ∀ t', 275 ≤ t' → μ3 50 0 t' = μ' 50 0 t' := fun t' ht' => by rw [b4 t' (by omega), up_ne (by omega)]
        refine ⟨μ3, ?_, ⟨hl, ?_, fun j hj => ?_, fun i hi => ?_, ?_, ?_⟩, ?_⟩
        · have p1 : μ3 50 0 8 = jI (sNs (aP A (aD A - t)) : Int) := hl.1
          have p2 : μ3 50 0 57 = jI (sNb (aP A (aD A - t)) : Int) := hl.2.1
          have hi := hin μ'
          have e1 : μ' 8 0 3 - jI (t : Int) = jI ((aD A - t : Nat) : Int) := by rw [m2, jI_sub]; congr 1; omega
          have e2 : (825 : Int32) + 275 * (mm_up μ' 8 0 3 (jI ((aD A - t : Nat) : Int))) 8 0 3 = jI ((825 + 275 * (aD A - t) : Nat) : Int) := by
            rw [up_eq, j_825, j_275, jI_mul, jI_add]; rfl
          rw [e_X8_undo, ln, l_1, l_16, hi, Option.bind_some]
          have hne : ¬ (jI 1 = (0 : Int32)) := by decide
          rw [if_neg hne]
          have hnl : ¬ (μ' 8 0 3 < jI (t : Int)) := fun q => by rw [m2] at q; have := (jI_lt (by omega) (by omega)).mp q; omega
          show (if μ' 8 0 3 < jI (t : Int) then _ else _) = _
          rw [if_neg hnl, wr_def]
          show Option.bind (f_X8_copy [vr 8 0, vi ((825 : Int32) + 275 * (mm_up μ' 8 0 3 (μ' 8 0 3 - jI (t : Int))) 8 0 3), vi 0] (mm_up μ' 8 0 3 (μ' 8 0 3 - jI (t : Int)))) _ = _
          rw [e1, e2, b1', Option.bind_some]
          simp (disch := omega) only [j_0, j_1, j_2, j_3, j_4, j_5, j_6, j_8, j_9, j_16, j_20, j_24, j_33, j_48, j_49, j_57, j_58, j_82, j_83, j_100, j_131, j_179, j_227, j_275, j_512, j_825, j_999, j_1000, j_9999, j_10000, j_11000, j_65536, j_m1, jI_add, jI_sub, jI_mul, jI_neg, nca_9, nca_33, nca_58, nca_83, nca_131, nca_179, nca_227, nca_825, nca_4, nca_24, nca_275, ncb_1, ncb_275, ncb_24, nc_1add, Int.toNat_natCast, tz_0, tz_1, tz_2, tz_3, tz_4, tz_5, tz_6, tz_8, tz_9, tz_16, tz_20, tz_24, tz_33, tz_48, tz_49, tz_57, tz_58, tz_82, tz_83, tz_100, tz_131, tz_179, tz_227, tz_275, tz_512, tz_825, tz_999, tz_1000, tz_9999, tz_10000, tz_11000, tz_65536, nc_sub1, i_lt, n_lt, i_eq, n_eq, jI_natc, jI_nat, ck_ok, nc_lt, nc_le, if_true, if_false, Option.bind_some, wr_def, and_true, true_and, and_false, false_and, or_true, true_or, or_false, false_or, not_true, not_false_eq_true, not_true_eq_false, ite_true, ite_false, Nat.zero_add, Nat.add_zero, Int.add_zero, Int.zero_add, Int.sub_zero, up_eq, up_ne, up_i, up_j, p1, p2]
        · rw [b2 8 0 (by omega), up_eq]; rfl
        · have hj' : j < aD A - t := hj
          have hwj := hW.2.2.2.1 j (by omega)
          exact mSt_congr (m3 j (by omega)) hwj.1 hwj.2.1 hwj.2.2.1 (fun q hq => hi5 _ (by omega))
        · obtain ⟨g1, g2⟩ := m4 i hi
          rw [b2 51 0 (by omega), up_ne (by omega), b2 52 0 (by omega), up_ne (by omega)]
          refine ⟨g1, fun q => ⟨?_, (g2 q).2⟩⟩
          have hwi := (hW.2.2.2.2.1 i hi q).1
          exact mSt_congr (g2 q).1 hwi.1 hwi.2.1 hwi.2.2.1 (fun q hq => hi5 _ (by omega))
        · rw [b2 8 0 (by omega), up_j (by omega)]; exact m5
        · unfold mSee; rw [b2 8 0 (by omega), up_j (by omega), b2 56 0 (by omega), up_ne (by omega), b2 57 0 (by omega), up_ne (by omega), b2 58 0 (by omega), up_ne (by omega)]; exact m6
        · intro k i hk
          rw [b2 k i (by omega), up_ne (by omega)]
    · refine ⟨-1000000003, μ, A, by rw [e_X7_undo, k2]; simp (disch := omega) only [j_0, j_1, j_2, j_3, j_4, j_5, j_6, j_8, j_9, j_16, j_20, j_24, j_33, j_48, j_49, j_57, j_58, j_82, j_83, j_100, j_131, j_179, j_227, j_275, j_512, j_825, j_999, j_1000, j_9999, j_10000, j_11000, j_65536, j_m1, jI_add, jI_sub, jI_mul, jI_neg, nca_9, nca_33, nca_58, nca_83, nca_131, nca_179, nca_227, nca_825, nca_4, nca_24, nca_275, ncb_1, ncb_275, ncb_24, nc_1add, Int.toNat_natCast, tz_0, tz_1, tz_2, tz_3, tz_4, tz_5, tz_6, tz_8, tz_9, tz_16, tz_20, tz_24, tz_33, tz_48, tz_49, tz_57, tz_58, tz_82, tz_83, tz_100, tz_131, tz_179, tz_227, tz_275, tz_512, tz_825, tz_999, tz_1000, tz_9999, tz_10000, tz_11000, tz_65536, nc_sub1, i_lt, n_lt, i_eq, n_eq, jI_natc, jI_nat, ck_ok, nc_lt, nc_le, if_true, if_false, Option.bind_some, wr_def, and_true, true_and, and_false, false_and, or_true, true_or, or_false, false_or, not_true, not_false_eq_true, not_true_eq_false, ite_true, ite_false, Nat.zero_add, Nat.add_zero, Int.add_zero, Int.zero_add, Int.sub_zero, up_eq, up_ne, up_i, up_j], hC, fC.r μ, hW, fun μ' hM => ⟨μ', ?_, hM, fM.r μ'⟩⟩
      have p := hM.2.1
      have hi := hin μ'
      rw [e_X8_undo, ln, l_1, l_16]; simp (disch := omega) only [j_0, j_1, j_2, j_3, j_4, j_5, j_6, j_8, j_9, j_16, j_20, j_24, j_33, j_48, j_49, j_57, j_58, j_82, j_83, j_100, j_131, j_179, j_227, j_275, j_512, j_825, j_999, j_1000, j_9999, j_10000, j_11000, j_65536, j_m1, jI_add, jI_sub, jI_mul, jI_neg, nca_9, nca_33, nca_58, nca_83, nca_131, nca_179, nca_227, nca_825, nca_4, nca_24, nca_275, ncb_1, ncb_275, ncb_24, nc_1add, Int.toNat_natCast, tz_0, tz_1, tz_2, tz_3, tz_4, tz_5, tz_6, tz_8, tz_9, tz_16, tz_20, tz_24, tz_33, tz_48, tz_49, tz_57, tz_58, tz_82, tz_83, tz_100, tz_131, tz_179, tz_227, tz_275, tz_512, tz_825, tz_999, tz_1000, tz_9999, tz_10000, tz_11000, tz_65536, nc_sub1, i_lt, n_lt, i_eq, n_eq, jI_natc, jI_nat, ck_ok, nc_lt, nc_le, if_true, if_false, Option.bind_some, wr_def, and_true, true_and, and_false, false_and, or_true, true_or, or_false, false_or, not_true, not_false_eq_true, not_true_eq_false, ite_true, ite_false, Nat.zero_add, Nat.add_zero, Int.add_zero, Int.zero_add, Int.sub_zero, up_eq, up_ne, up_i, up_j, hi, p]
  · rw [if_neg c] at hin
    refine ⟨-1000000002, μ, A, ?_, hC, fC.r μ, hW, fun μ' hM => ⟨μ', ?_, hM, fM.r μ'⟩⟩
    · rw [e_X7_undo]
      by_cases d : n < 1
      · simp (disch := omega) only [j_0, j_1, j_2, j_3, j_4, j_5, j_6, j_8, j_9, j_16, j_20, j_24, j_33, j_48, j_49, j_57, j_58, j_82, j_83, j_100, j_131, j_179, j_227, j_275, j_512, j_825, j_999, j_1000, j_9999, j_10000, j_11000, j_65536, j_m1, jI_add, jI_sub, jI_mul, jI_neg, nca_9, nca_33, nca_58, nca_83, nca_131, nca_179, nca_227, nca_825, nca_4, nca_24, nca_275, ncb_1, ncb_275, ncb_24, nc_1add, Int.toNat_natCast, tz_0, tz_1, tz_2, tz_3, tz_4, tz_5, tz_6, tz_8, tz_9, tz_16, tz_20, tz_24, tz_33, tz_48, tz_49, tz_57, tz_58, tz_82, tz_83, tz_100, tz_131, tz_179, tz_227, tz_275, tz_512, tz_825, tz_999, tz_1000, tz_9999, tz_10000, tz_11000, tz_65536, nc_sub1, i_lt, n_lt, i_eq, n_eq, jI_natc, jI_nat, ck_ok, nc_lt, nc_le, if_true, if_false, Option.bind_some, wr_def, and_true, true_and, and_false, false_and, or_true, true_or, or_false, false_or, not_true, not_false_eq_true, not_true_eq_false, ite_true, ite_false, Nat.zero_add, Nat.add_zero, Int.add_zero, Int.zero_add, Int.sub_zero, up_eq, up_ne, up_i, up_j]
      · simp (disch := omega) only [j_0, j_1, j_2, j_3, j_4, j_5, j_6, j_8, j_9, j_16, j_20, j_24, j_33, j_48, j_49, j_57, j_58, j_82, j_83, j_100, j_131, j_179, j_227, j_275, j_512, j_825, j_999, j_1000, j_9999, j_10000, j_11000, j_65536, j_m1, jI_add, jI_sub, jI_mul, jI_neg, nca_9, nca_33, nca_58, nca_83, nca_131, nca_179, nca_227, nca_825, nca_4, nca_24, nca_275, ncb_1, ncb_275, ncb_24, nc_1add, Int.toNat_natCast, tz_0, tz_1, tz_2, tz_3, tz_4, tz_5, tz_6, tz_8, tz_9, tz_16, tz_20, tz_24, tz_33, tz_48, tz_49, tz_57, tz_58, tz_82, tz_83, tz_100, tz_131, tz_179, tz_227, tz_275, tz_512, tz_825, tz_999, tz_1000, tz_9999, tz_10000, tz_11000, tz_65536, nc_sub1, i_lt, n_lt, i_eq, n_eq, jI_natc, jI_nat, ck_ok, nc_lt, nc_le, if_true, if_false, Option.bind_some, wr_def, and_true, true_and, and_false, false_and, or_true, true_or, or_false, false_or, not_true, not_false_eq_true, not_true_eq_false, ite_true, ite_false, Nat.zero_add, Nat.add_zero, Int.add_zero, Int.zero_add, Int.sub_zero, up_eq, up_ne, up_i, up_j]
    · have hi := hin μ'
      rw [e_X8_undo, ln, l_1, l_16]; simp (disch := omega) only [j_0, j_1, j_2, j_3, j_4, j_5, j_6, j_8, j_9, j_16, j_20, j_24, j_33, j_48, j_49, j_57, j_58, j_82, j_83, j_100, j_131, j_179, j_227, j_275, j_512, j_825, j_999, j_1000, j_9999, j_10000, j_11000, j_65536, j_m1, jI_add, jI_sub, jI_mul, jI_neg, nca_9, nca_33, nca_58, nca_83, nca_131, nca_179, nca_227, nca_825, nca_4, nca_24, nca_275, ncb_1, ncb_275, ncb_24, nc_1add, Int.toNat_natCast, tz_0, tz_1, tz_2, tz_3, tz_4, tz_5, tz_6, tz_8, tz_9, tz_16, tz_20, tz_24, tz_33, tz_48, tz_49, tz_57, tz_58, tz_82, tz_83, tz_100, tz_131, tz_179, tz_227, tz_275, tz_512, tz_825, tz_999, tz_1000, tz_9999, tz_10000, tz_11000, tz_65536, nc_sub1, i_lt, n_lt, i_eq, n_eq, jI_natc, jI_nat, ck_ok, nc_lt, nc_le, if_true, if_false, Option.bind_some, wr_def, and_true, true_and, and_false, false_and, or_true, true_or, or_false, false_or, not_true, not_false_eq_true, not_true_eq_false, ite_true, ite_false, Nat.zero_add, Nat.add_zero, Int.add_zero, Int.zero_add, Int.sub_zero, up_eq, up_ne, up_i, up_j, hi]
/-! seen, forgotten -/
def aSee (A : aT) (ν : qT) : aT := (A.1, A.2.1, A.2.2.1, ν)
theorem ci_see {A : aT} {ν : qT} {μ μ' : mM} (hC : CI A μ) (hf : ∀ k i, ¬ (k = 4 ∨ k = 40 ∨ k = 41) → μ' k i = μ k i) (hs : cSee ν μ') : CI (aSee A ν) μ' := by
  obtain ⟨c1, c2, c3, c4, c5, c6, c7, c8, c9⟩ := hC
  have st : ∀ σ a, cSt σ a μ → cSt σ a μ' := fun σ a h => by
    unfold cSt
    rw [hf 6 a (by omega), hf 10 a (by omega), hf 11 a (by omega), hf 12 a (by omega), hf 13 a (by omega), hf 14 a (by omega), hf 15 a (by omega)]
    exact h
  refine ⟨st _ _ c1, ?_, ?_, fun j hj => st _ _ (c4 j hj), fun i hi => ?_, ?_, hs, fun i hi => ?_, fun b hb => ?_⟩
  · rw [hf 3 0 (by omega)]; exact c2
  · rw [hf 3 0 (by omega)]; exact c3
  · rw [hf 2 i (by omega)]; exact ⟨(c5 i hi).1, fun q => ⟨st _ _ ((c5 i hi).2 q).1, ((c5 i hi).2 q).2⟩⟩
  · rw [hf 7 0 (by omega)]; exact c6
  · rw [hf 34 0 (by omega)]; exact c8 i hi
  · rw [hf 34 b (by omega)]; exact c9 b hb
theorem mi_see {A : aT} {ν : qT} {μ μ' : mM} (hM : MI A μ) (hf : ∀ k i, ¬ (k = 8 ∨ k = 56 ∨ k = 57 ∨ k = 58) → μ' k i = μ k i) (hf2 : ∀ f, f ≠ 8 → μ' 8 0 f = μ 8 0 f) (hs : mSee ν μ') : MI (aSee A ν) μ' := by
  obtain ⟨c1, c2, c3, c4, c5, c6⟩ := hM
  refine ⟨?_, ?_, ?_, ?_, ?_, hs⟩
  · unfold mL; rw [hf 50 0 (by omega)]; exact c1
  · rw [hf2 3 (by omega)]; exact c2
  · rw [hf 50 0 (by omega)]; exact c3
  · rw [hf 50 0 (by omega), hf 51 0 (by omega), hf 52 0 (by omega)]; exact c4
  · rw [hf2 4 (by omega)]; exact c5
theorem k_forget : alk (f_X7_forget [vr 7 0]) (f_X8_forget [vr 8 0]) := by
  refine alk_of fun A μ hW hC => ?_
  have k4 := hC.2.2.2.2.2.2.1.1
  refine ⟨jI (qN (aQ A) : Int), mm_up μ 4 0 4 0, aSee A (0, (aQ A).2), ?_, ci_see hC (fun k i hk => by rw [up_ne (by omega)]) ⟨by rw [up_eq]; rfl, fun i hi => absurd hi (Nat.not_lt_zero i)⟩, fun k i hk => by rw [up_ne (by omega)], ?_, fun μ' hM => ?_⟩
  · rw [e_X7_forget, k4]; rfl
  · obtain ⟨w1, w2, w3, w4, w5, w6, w7, w8⟩ := hW
    exact ⟨w1, w2, w3, w4, w5, w6, w7, by show 0 ≤ 6; omega, fun i hi => absurd hi (Nat.not_lt_zero i)⟩
  · refine ⟨mm_up μ' 8 0 8 0, ?_, mi_see hM (fun k i hk => by rw [up_ne (by omega)]) (fun f hf => by rw [up_j (by omega)]) ⟨by rw [up_eq]; rfl, fun i hi => absurd hi (Nat.not_lt_zero i)⟩, fun k i hk => by rw [up_ne (by omega)]⟩
    rw [e_X8_forget, hM.2.2.2.2.2.1]; rfl
theorem nar_01 {w : Int} (h : w = 0 ∨ w = 1) : vp_nar .boolean (jI w) = jI w := by
  rcases h with rfl | rfl <;> decide
theorem k_see (l1 l2 l3 : Int32) (h3 : l3 = 0 ∨ l3 = 1) : alk (f_X7_see [vr 7 0, vi l1, vi l2, vi l3]) (f_X8_see [vr 8 0, vi l1, vi l2, vi l3]) := by
  obtain ⟨g, rfl, hg1, hg2⟩ := jI_ex l1
  obtain ⟨z, rfl, hz1, hz2⟩ := jI_ex l2
  obtain ⟨w, rfl, hw⟩ : ∃ w : Int, l3 = jI w ∧ (w = 0 ∨ w = 1) := by
    rcases h3 with rfl | rfl
    · exact ⟨0, j_0, Or.inl rfl⟩
    · exact ⟨1, j_1, Or.inr rfl⟩
  have nw := nar_01 hw
  refine alk_of fun A μ hW hC => ?_
  have hin := f_isIn g 4 (by omega) (by omega) μ
  have hin2 := f_isIn z 10000 (by omega) (by omega) μ
  have hgr := fun μ' => f_isGrade g (by omega) μ'
  have hsz := fun μ' => f_isSize z (by omega) μ'
  have hS := hC.2.2.2.2.2.2.1
  have hs := hW.2.2.2.2.2.2.2
  have hq := hs.1
  by_cases c : 0 ≤ g ∧ g < 4
  · rw [if_pos c] at hin hgr
    by_cases d : 0 ≤ z ∧ z < 10000
    · rw [if_pos d] at hin2 hsz
      have hk := f_kindOf g z μ
      by_cases e : qN (aQ A) < 6
      · have hnote : f_X4_note [vr 4 0, vi (jI (g * 10000 + z)), vi (jI w)] μ = some (jI ((qN (aQ A) + 1 : Nat) : Int), mm_up (mm_up (mm_up μ 40 0 (qN (aQ A)) (jI (g * 10000 + z))) 41 0 (qN (aQ A)) (jI w)) 4 0 4 (jI ((qN (aQ A) + 1 : Nat) : Int))) := by
          rw [e_X4_note, hS.1]
          simp (disch := omega) only [j_0, j_1, j_2, j_3, j_4, j_5, j_6, j_8, j_9, j_16, j_20, j_24, j_33, j_48, j_49, j_57, j_58, j_82, j_83, j_100, j_131, j_179, j_227, j_275, j_512, j_825, j_999, j_1000, j_9999, j_10000, j_11000, j_65536, j_m1, jI_add, jI_sub, jI_mul, jI_neg, nca_9, nca_33, nca_58, nca_83, nca_131, nca_179, nca_227, nca_825, nca_4, nca_24, nca_275, ncb_1, ncb_275, ncb_24, nc_1add, Int.toNat_natCast, tz_0, tz_1, tz_2, tz_3, tz_4, tz_5, tz_6, tz_8, tz_9, tz_16, tz_20, tz_24, tz_33, tz_48, tz_49, tz_57, tz_58, tz_82, tz_83, tz_100, tz_131, tz_179, tz_227, tz_275, tz_512, tz_825, tz_999, tz_1000, tz_9999, tz_10000, tz_11000, tz_65536, nc_sub1, i_lt, n_lt, i_eq, n_eq, jI_natc, jI_nat, ck_ok, nc_lt, nc_le, if_true, if_false, Option.bind_some, wr_def, and_true, true_and, and_false, false_and, or_true, true_or, or_false, false_or, not_true, not_false_eq_true, not_true_eq_false, ite_true, ite_false, Nat.zero_add, Nat.add_zero, Int.add_zero, Int.zero_add, Int.sub_zero, up_eq, up_ne, up_i, up_j, hS.1, nw]
        refine ⟨_, _, aSee A (qN (aQ A) + 1, upI (qG (aQ A)) (qN (aQ A)) g, upI (qZ (aQ A)) (qN (aQ A)) z, upI (qW (aQ A)) (qN (aQ A)) w), by rw [e_X7_see]; simp (disch := omega) only [j_0, j_1, j_2, j_3, j_4, j_5, j_6, j_8, j_9, j_16, j_20, j_24, j_33, j_48, j_49, j_57, j_58, j_82, j_83, j_100, j_131, j_179, j_227, j_275, j_512, j_825, j_999, j_1000, j_9999, j_10000, j_11000, j_65536, j_m1, jI_add, jI_sub, jI_mul, jI_neg, nca_9, nca_33, nca_58, nca_83, nca_131, nca_179, nca_227, nca_825, nca_4, nca_24, nca_275, ncb_1, ncb_275, ncb_24, nc_1add, Int.toNat_natCast, tz_0, tz_1, tz_2, tz_3, tz_4, tz_5, tz_6, tz_8, tz_9, tz_16, tz_20, tz_24, tz_33, tz_48, tz_49, tz_57, tz_58, tz_82, tz_83, tz_100, tz_131, tz_179, tz_227, tz_275, tz_512, tz_825, tz_999, tz_1000, tz_9999, tz_10000, tz_11000, tz_65536, nc_sub1, i_lt, n_lt, i_eq, n_eq, jI_natc, jI_nat, ck_ok, nc_lt, nc_le, if_true, if_false, Option.bind_some, wr_def, and_true, true_and, and_false, false_and, or_true, true_or, or_false, false_or, not_true, not_false_eq_true, not_true_eq_false, ite_true, ite_false, Nat.zero_add, Nat.add_zero, Int.add_zero, Int.zero_add, Int.sub_zero, up_eq, up_ne, up_i, up_j, hin, hin2, hk, hnote]; rfl, ci_see hC (fun k i hk => by rw [up_ne (by omega), up_ne (by omega), up_ne (by omega)]) ⟨by rw [up_eq]; rfl, fun i hi => ?_⟩, fun k i hk => by rw [up_ne (by omega), up_ne (by omega), up_ne (by omega)], ?_, fun μ' hM => ?_⟩
        · have hi' : i < qN (aQ A) + 1 := hi
          show _ = jI (upI (qG (aQ A)) (qN (aQ A)) g i * 10000 + upI (qZ (aQ A)) (qN (aQ A)) z i) ∧ _ = jI (upI (qW (aQ A)) (qN (aQ A)) w i)
          by_cases q : i = qN (aQ A)
          · rw [q, upI_eq, upI_eq, upI_eq]; exact ⟨by simp (disch := omega) only [j_0, j_1, j_2, j_3, j_4, j_5, j_6, j_8, j_9, j_16, j_20, j_24, j_33, j_48, j_49, j_57, j_58, j_82, j_83, j_100, j_131, j_179, j_227, j_275, j_512, j_825, j_999, j_1000, j_9999, j_10000, j_11000, j_65536, j_m1, jI_add, jI_sub, jI_mul, jI_neg, nca_9, nca_33, nca_58, nca_83, nca_131, nca_179, nca_227, nca_825, nca_4, nca_24, nca_275, ncb_1, ncb_275, ncb_24, nc_1add, Int.toNat_natCast, tz_0, tz_1, tz_2, tz_3, tz_4, tz_5, tz_6, tz_8, tz_9, tz_16, tz_20, tz_24, tz_33, tz_48, tz_49, tz_57, tz_58, tz_82, tz_83, tz_100, tz_131, tz_179, tz_227, tz_275, tz_512, tz_825, tz_999, tz_1000, tz_9999, tz_10000, tz_11000, tz_65536, nc_sub1, i_lt, n_lt, i_eq, n_eq, jI_natc, jI_nat, ck_ok, nc_lt, nc_le, if_true, if_false, Option.bind_some, wr_def, and_true, true_and, and_false, false_and, or_true, true_or, or_false, false_or, not_true, not_false_eq_true, not_true_eq_false, ite_true, ite_false, Nat.zero_add, Nat.add_zero, Int.add_zero, Int.zero_add, Int.sub_zero, up_eq, up_ne, up_i, up_j], by simp (disch := omega) only [j_0, j_1, j_2, j_3, j_4, j_5, j_6, j_8, j_9, j_16, j_20, j_24, j_33, j_48, j_49, j_57, j_58, j_82, j_83, j_100, j_131, j_179, j_227, j_275, j_512, j_825, j_999, j_1000, j_9999, j_10000, j_11000, j_65536, j_m1, jI_add, jI_sub, jI_mul, jI_neg, nca_9, nca_33, nca_58, nca_83, nca_131, nca_179, nca_227, nca_825, nca_4, nca_24, nca_275, ncb_1, ncb_275, ncb_24, nc_1add, Int.toNat_natCast, tz_0, tz_1, tz_2, tz_3, tz_4, tz_5, tz_6, tz_8, tz_9, tz_16, tz_20, tz_24, tz_33, tz_48, tz_49, tz_57, tz_58, tz_82, tz_83, tz_100, tz_131, tz_179, tz_227, tz_275, tz_512, tz_825, tz_999, tz_1000, tz_9999, tz_10000, tz_11000, tz_65536, nc_sub1, i_lt, n_lt, i_eq, n_eq, jI_natc, jI_nat, ck_ok, nc_lt, nc_le, if_true, if_false, Option.bind_some, wr_def, and_true, true_and, and_false, false_and, or_true, true_or, or_false, false_or, not_true, not_false_eq_true, not_true_eq_false, ite_true, ite_false, Nat.zero_add, Nat.add_zero, Int.add_zero, Int.zero_add, Int.sub_zero, up_eq, up_ne, up_i, up_j]⟩
          · obtain ⟨s1, s2⟩ := hS.2 i (by omega)
            rw [upI_ne q, upI_ne q, upI_ne q]; exact ⟨by simp (disch := omega) only [j_0, j_1, j_2, j_3, j_4, j_5, j_6, j_8, j_9, j_16, j_20, j_24, j_33, j_48, j_49, j_57, j_58, j_82, j_83, j_100, j_131, j_179, j_227, j_275, j_512, j_825, j_999, j_1000, j_9999, j_10000, j_11000, j_65536, j_m1, jI_add, jI_sub, jI_mul, jI_neg, nca_9, nca_33, nca_58, nca_83, nca_131, nca_179, nca_227, nca_825, nca_4, nca_24, nca_275, ncb_1, ncb_275, ncb_24, nc_1add, Int.toNat_natCast, tz_0, tz_1, tz_2, tz_3, tz_4, tz_5, tz_6, tz_8, tz_9, tz_16, tz_20, tz_24, tz_33, tz_48, tz_49, tz_57, tz_58, tz_82, tz_83, tz_100, tz_131, tz_179, tz_227, tz_275, tz_512, tz_825, tz_999, tz_1000, tz_9999, tz_10000, tz_11000, tz_65536, nc_sub1, i_lt, n_lt, i_eq, n_eq, jI_natc, jI_nat, ck_ok, nc_lt, nc_le, if_true, if_false, Option.bind_some, wr_def, and_true, true_and, and_false, false_and, or_true, true_or, or_false, false_or, not_true, not_false_eq_true, not_true_eq_false, ite_true, ite_false, Nat.zero_add, Nat.add_zero, Int.add_zero, Int.zero_add, Int.sub_zero, up_eq, up_ne, up_i, up_j, s1], by simp (disch := omega) only [j_0, j_1, j_2, j_3, j_4, j_5, j_6, j_8, j_9, j_16, j_20, j_24, j_33, j_48, j_49, j_57, j_58, j_82, j_83, j_100, j_131, j_179, j_227, j_275, j_512, j_825, j_999, j_1000, j_9999, j_10000, j_11000, j_65536, j_m1, jI_add, jI_sub, jI_mul, jI_neg, nca_9, nca_33, nca_58, nca_83, nca_131, nca_179, nca_227, nca_825, nca_4, nca_24, nca_275, ncb_1, ncb_275, ncb_24, nc_1add, Int.toNat_natCast, tz_0, tz_1, tz_2, tz_3, tz_4, tz_5, tz_6, tz_8, tz_9, tz_16, tz_20, tz_24, tz_33, tz_48, tz_49, tz_57, tz_58, tz_82, tz_83, tz_100, tz_131, tz_179, tz_227, tz_275, tz_512, tz_825, tz_999, tz_1000, tz_9999, tz_10000, tz_11000, tz_65536, nc_sub1, i_lt, n_lt, i_eq, n_eq, jI_natc, jI_nat, ck_ok, nc_lt, nc_le, if_true, if_false, Option.bind_some, wr_def, and_true, true_and, and_false, false_and, or_true, true_or, or_false, false_or, not_true, not_false_eq_true, not_true_eq_false, ite_true, ite_false, Nat.zero_add, Nat.add_zero, Int.add_zero, Int.zero_add, Int.sub_zero, up_eq, up_ne, up_i, up_j, s2]⟩
        · obtain ⟨w1, w2, w3, w4, w5, w6, w7, w8⟩ := hW
          refine ⟨w1, w2, w3, w4, w5, w6, w7, by show qN (aQ A) + 1 ≤ 6; omega, fun i hi => ?_⟩
          have hi' : i < qN (aQ A) + 1 := hi
          show 0 ≤ upI (qG (aQ A)) (qN (aQ A)) g i ∧ upI (qG (aQ A)) (qN (aQ A)) g i < 4 ∧ 0 ≤ upI (qZ (aQ A)) (qN (aQ A)) z i ∧ upI (qZ (aQ A)) (qN (aQ A)) z i < 10000 ∧ 0 ≤ upI (qW (aQ A)) (qN (aQ A)) w i ∧ upI (qW (aQ A)) (qN (aQ A)) w i ≤ 1
          by_cases q : i = qN (aQ A)
          · rw [q, upI_eq, upI_eq, upI_eq]; omega
          · rw [upI_ne q, upI_ne q, upI_ne q]; exact w8.2 i (by omega)
        · have hm := hM.2.2.2.2.2
          refine ⟨mm_up (mm_up (mm_up (mm_up μ' 56 0 (qN (aQ A)) (jI g)) 57 0 (qN (aQ A)) (jI z)) 58 0 (qN (aQ A)) (jI w)) 8 0 8 (jI ((qN (aQ A) + 1 : Nat) : Int)), ?_, mi_see hM (fun k i hk => by rw [up_ne (by omega), up_ne (by omega), up_ne (by omega), up_ne (by omega)]) (fun f hf => by rw [up_j (by omega), up_ne (by omega), up_ne (by omega), up_ne (by omega)]) ⟨by rw [up_eq]; rfl, fun i hi => ?_⟩, fun k i hk => by rw [up_ne (by omega), up_ne (by omega), up_ne (by omega), up_ne (by omega)]⟩
          · have h1 := hgr μ'
            have h2 := hsz μ'
            have hm1 := hm.1
            rw [e_X8_see]; simp (disch := omega) only [j_0, j_1, j_2, j_3, j_4, j_5, j_6, j_8, j_9, j_16, j_20, j_24, j_33, j_48, j_49, j_57, j_58, j_82, j_83, j_100, j_131, j_179, j_227, j_275, j_512, j_825, j_999, j_1000, j_9999, j_10000, j_11000, j_65536, j_m1, jI_add, jI_sub, jI_mul, jI_neg, nca_9, nca_33, nca_58, nca_83, nca_131, nca_179, nca_227, nca_825, nca_4, nca_24, nca_275, ncb_1, ncb_275, ncb_24, nc_1add, Int.toNat_natCast, tz_0, tz_1, tz_2, tz_3, tz_4, tz_5, tz_6, tz_8, tz_9, tz_16, tz_20, tz_24, tz_33, tz_48, tz_49, tz_57, tz_58, tz_82, tz_83, tz_100, tz_131, tz_179, tz_227, tz_275, tz_512, tz_825, tz_999, tz_1000, tz_9999, tz_10000, tz_11000, tz_65536, nc_sub1, i_lt, n_lt, i_eq, n_eq, jI_natc, jI_nat, ck_ok, nc_lt, nc_le, if_true, if_false, Option.bind_some, wr_def, and_true, true_and, and_false, false_and, or_true, true_or, or_false, false_or, not_true, not_false_eq_true, not_true_eq_false, ite_true, ite_false, Nat.zero_add, Nat.add_zero, Int.add_zero, Int.zero_add, Int.sub_zero, up_eq, up_ne, up_i, up_j, h1, h2, hm1, nw]
          · have hi' : i < qN (aQ A) + 1 := hi
            show _ = jI (upI (qG (aQ A)) (qN (aQ A)) g i) ∧ _ = jI (upI (qZ (aQ A)) (qN (aQ A)) z i) ∧ _ = jI (upI (qW (aQ A)) (qN (aQ A)) w i)
            by_cases q : i = qN (aQ A)
            · rw [q, upI_eq, upI_eq, upI_eq]; exact ⟨by simp (disch := omega) only [j_0, j_1, j_2, j_3, j_4, j_5, j_6, j_8, j_9, j_16, j_20, j_24, j_33, j_48, j_49, j_57, j_58, j_82, j_83, j_100, j_131, j_179, j_227, j_275, j_512, j_825, j_999, j_1000, j_9999, j_10000, j_11000, j_65536, j_m1, jI_add, jI_sub, jI_mul, jI_neg, nca_9, nca_33, nca_58, nca_83, nca_131, nca_179, nca_227, nca_825, nca_4, nca_24, nca_275, ncb_1, ncb_275, ncb_24, nc_1add, Int.toNat_natCast, tz_0, tz_1, tz_2, tz_3, tz_4, tz_5, tz_6, tz_8, tz_9, tz_16, tz_20, tz_24, tz_33, tz_48, tz_49, tz_57, tz_58, tz_82, tz_83, tz_100, tz_131, tz_179, tz_227, tz_275, tz_512, tz_825, tz_999, tz_1000, tz_9999, tz_10000, tz_11000, tz_65536, nc_sub1, i_lt, n_lt, i_eq, n_eq, jI_natc, jI_nat, ck_ok, nc_lt, nc_le, if_true, if_false, Option.bind_some, wr_def, and_true, true_and, and_false, false_and, or_true, true_or, or_false, false_or, not_true, not_false_eq_true, not_true_eq_false, ite_true, ite_false, Nat.zero_add, Nat.add_zero, Int.add_zero, Int.zero_add, Int.sub_zero, up_eq, up_ne, up_i, up_j], by simp (disch := omega) only [j_0, j_1, j_2, j_3, j_4, j_5, j_6, j_8, j_9, j_16, j_20, j_24, j_33, j_48, j_49, j_57, j_58, j_82, j_83, j_100, j_131, j_179, j_227, j_275, j_512, j_825, j_999, j_1000, j_9999, j_10000, j_11000, j_65536, j_m1, jI_add, jI_sub, jI_mul, jI_neg, nca_9, nca_33, nca_58, nca_83, nca_131, nca_179, nca_227, nca_825, nca_4, nca_24, nca_275, ncb_1, ncb_275, ncb_24, nc_1add, Int.toNat_natCast, tz_0, tz_1, tz_2, tz_3, tz_4, tz_5, tz_6, tz_8, tz_9, tz_16, tz_20, tz_24, tz_33, tz_48, tz_49, tz_57, tz_58, tz_82, tz_83, tz_100, tz_131, tz_179, tz_227, tz_275, tz_512, tz_825, tz_999, tz_1000, tz_9999, tz_10000, tz_11000, tz_65536, nc_sub1, i_lt, n_lt, i_eq, n_eq, jI_natc, jI_nat, ck_ok, nc_lt, nc_le, if_true, if_false, Option.bind_some, wr_def, and_true, true_and, and_false, false_and, or_true, true_or, or_false, false_or, not_true, not_false_eq_true, not_true_eq_false, ite_true, ite_false, Nat.zero_add, Nat.add_zero, Int.add_zero, Int.zero_add, Int.sub_zero, up_eq, up_ne, up_i, up_j], by simp (disch := omega) only [j_0, j_1, j_2, j_3, j_4, j_5, j_6, j_8, j_9, j_16, j_20, j_24, j_33, j_48, j_49, j_57, j_58, j_82, j_83, j_100, j_131, j_179, j_227, j_275, j_512, j_825, j_999, j_1000, j_9999, j_10000, j_11000, j_65536, j_m1, jI_add, jI_sub, jI_mul, jI_neg, nca_9, nca_33, nca_58, nca_83, nca_131, nca_179, nca_227, nca_825, nca_4, nca_24, nca_275, ncb_1, ncb_275, ncb_24, nc_1add, Int.toNat_natCast, tz_0, tz_1, tz_2, tz_3, tz_4, tz_5, tz_6, tz_8, tz_9, tz_16, tz_20, tz_24, tz_33, tz_48, tz_49, tz_57, tz_58, tz_82, tz_83, tz_100, tz_131, tz_179, tz_227, tz_275, tz_512, tz_825, tz_999, tz_1000, tz_9999, tz_10000, tz_11000, tz_65536, nc_sub1, i_lt, n_lt, i_eq, n_eq, jI_natc, jI_nat, ck_ok, nc_lt, nc_le, if_true, if_false, Option.bind_some, wr_def, and_true, true_and, and_false, false_and, or_true, true_or, or_false, false_or, not_true, not_false_eq_true, not_true_eq_false, ite_true, ite_false, Nat.zero_add, Nat.add_zero, Int.add_zero, Int.zero_add, Int.sub_zero, up_eq, up_ne, up_i, up_j]⟩
            · obtain ⟨s1, s2, s3⟩ := hm.2 i (by omega)
              rw [upI_ne q, upI_ne q, upI_ne q]; exact ⟨by simp (disch := omega) only [j_0, j_1, j_2, j_3, j_4, j_5, j_6, j_8, j_9, j_16, j_20, j_24, j_33, j_48, j_49, j_57, j_58, j_82, j_83, j_100, j_131, j_179, j_227, j_275, j_512, j_825, j_999, j_1000, j_9999, j_10000, j_11000, j_65536, j_m1, jI_add, jI_sub, jI_mul, jI_neg, nca_9, nca_33, nca_58, nca_83, nca_131, nca_179, nca_227, nca_825, nca_4, nca_24, nca_275, ncb_1, ncb_275, ncb_24, nc_1add, Int.toNat_natCast, tz_0, tz_1, tz_2, tz_3, tz_4, tz_5, tz_6, tz_8, tz_9, tz_16, tz_20, tz_24, tz_33, tz_48, tz_49, tz_57, tz_58, tz_82, tz_83, tz_100, tz_131, tz_179, tz_227, tz_275, tz_512, tz_825, tz_999, tz_1000, tz_9999, tz_10000, tz_11000, tz_65536, nc_sub1, i_lt, n_lt, i_eq, n_eq, jI_natc, jI_nat, ck_ok, nc_lt, nc_le, if_true, if_false, Option.bind_some, wr_def, and_true, true_and, and_false, false_and, or_true, true_or, or_false, false_or, not_true, not_false_eq_true, not_true_eq_false, ite_true, ite_false, Nat.zero_add, Nat.add_zero, Int.add_zero, Int.zero_add, Int.sub_zero, up_eq, up_ne, up_i, up_j, s1], by simp (disch := omega) only [j_0, j_1, j_2, j_3, j_4, j_5, j_6, j_8, j_9, j_16, j_20, j_24, j_33, j_48, j_49, j_57, j_58, j_82, j_83, j_100, j_131, j_179, j_227, j_275, j_512, j_825, j_999, j_1000, j_9999, j_10000, j_11000, j_65536, j_m1, jI_add, jI_sub, jI_mul, jI_neg, nca_9, nca_33, nca_58, nca_83, nca_131, nca_179, nca_227, nca_825, nca_4, nca_24, nca_275, ncb_1, ncb_275, ncb_24, nc_1add, Int.toNat_natCast, tz_0, tz_1, tz_2, tz_3, tz_4, tz_5, tz_6, tz_8, tz_9, tz_16, tz_20, tz_24, tz_33, tz_48, tz_49, tz_57, tz_58, tz_82, tz_83, tz_100, tz_131, tz_179, tz_227, tz_275, tz_512, tz_825, tz_999, tz_1000, tz_9999, tz_10000, tz_11000, tz_65536, nc_sub1, i_lt, n_lt, i_eq, n_eq, jI_natc, jI_nat, ck_ok, nc_lt, nc_le, if_true, if_false, Option.bind_some, wr_def, and_true, true_and, and_false, false_and, or_true, true_or, or_false, false_or, not_true, not_false_eq_true, not_true_eq_false, ite_true, ite_false, Nat.zero_add, Nat.add_zero, Int.add_zero, Int.zero_add, Int.sub_zero, up_eq, up_ne, up_i, up_j, s2], by simp (disch := omega) only [j_0, j_1, j_2, j_3, j_4, j_5, j_6, j_8, j_9, j_16, j_20, j_24, j_33, j_48, j_49, j_57, j_58, j_82, j_83, j_100, j_131, j_179, j_227, j_275, j_512, j_825, j_999, j_1000, j_9999, j_10000, j_11000, j_65536, j_m1, jI_add, jI_sub, jI_mul, jI_neg, nca_9, nca_33, nca_58, nca_83, nca_131, nca_179, nca_227, nca_825, nca_4, nca_24, nca_275, ncb_1, ncb_275, ncb_24, nc_1add, Int.toNat_natCast, tz_0, tz_1, tz_2, tz_3, tz_4, tz_5, tz_6, tz_8, tz_9, tz_16, tz_20, tz_24, tz_33, tz_48, tz_49, tz_57, tz_58, tz_82, tz_83, tz_100, tz_131, tz_179, tz_227, tz_275, tz_512, tz_825, tz_999, tz_1000, tz_9999, tz_10000, tz_11000, tz_65536, nc_sub1, i_lt, n_lt, i_eq, n_eq, jI_natc, jI_nat, ck_ok, nc_lt, nc_le, if_true, if_false, Option.bind_some, wr_def, and_true, true_and, and_false, false_and, or_true, true_or, or_false, false_or, not_true, not_false_eq_true, not_true_eq_false, ite_true, ite_false, Nat.zero_add, Nat.add_zero, Int.add_zero, Int.zero_add, Int.sub_zero, up_eq, up_ne, up_i, up_j, s3]⟩
      · have hnote : f_X4_note [vr 4 0, vi (jI (g * 10000 + z)), vi (jI w)] μ = some (-1000000004, μ) := by
          rw [e_X4_note, hS.1]
          simp (disch := omega) only [j_0, j_1, j_2, j_3, j_4, j_5, j_6, j_8, j_9, j_16, j_20, j_24, j_33, j_48, j_49, j_57, j_58, j_82, j_83, j_100, j_131, j_179, j_227, j_275, j_512, j_825, j_999, j_1000, j_9999, j_10000, j_11000, j_65536, j_m1, jI_add, jI_sub, jI_mul, jI_neg, nca_9, nca_33, nca_58, nca_83, nca_131, nca_179, nca_227, nca_825, nca_4, nca_24, nca_275, ncb_1, ncb_275, ncb_24, nc_1add, Int.toNat_natCast, tz_0, tz_1, tz_2, tz_3, tz_4, tz_5, tz_6, tz_8, tz_9, tz_16, tz_20, tz_24, tz_33, tz_48, tz_49, tz_57, tz_58, tz_82, tz_83, tz_100, tz_131, tz_179, tz_227, tz_275, tz_512, tz_825, tz_999, tz_1000, tz_9999, tz_10000, tz_11000, tz_65536, nc_sub1, i_lt, n_lt, i_eq, n_eq, jI_natc, jI_nat, ck_ok, nc_lt, nc_le, if_true, if_false, Option.bind_some, wr_def, and_true, true_and, and_false, false_and, or_true, true_or, or_false, false_or, not_true, not_false_eq_true, not_true_eq_false, ite_true, ite_false, Nat.zero_add, Nat.add_zero, Int.add_zero, Int.zero_add, Int.sub_zero, up_eq, up_ne, up_i, up_j]
        refine ⟨-1000000004, μ, A, by rw [e_X7_see]; simp (disch := omega) only [j_0, j_1, j_2, j_3, j_4, j_5, j_6, j_8, j_9, j_16, j_20, j_24, j_33, j_48, j_49, j_57, j_58, j_82, j_83, j_100, j_131, j_179, j_227, j_275, j_512, j_825, j_999, j_1000, j_9999, j_10000, j_11000, j_65536, j_m1, jI_add, jI_sub, jI_mul, jI_neg, nca_9, nca_33, nca_58, nca_83, nca_131, nca_179, nca_227, nca_825, nca_4, nca_24, nca_275, ncb_1, ncb_275, ncb_24, nc_1add, Int.toNat_natCast, tz_0, tz_1, tz_2, tz_3, tz_4, tz_5, tz_6, tz_8, tz_9, tz_16, tz_20, tz_24, tz_33, tz_48, tz_49, tz_57, tz_58, tz_82, tz_83, tz_100, tz_131, tz_179, tz_227, tz_275, tz_512, tz_825, tz_999, tz_1000, tz_9999, tz_10000, tz_11000, tz_65536, nc_sub1, i_lt, n_lt, i_eq, n_eq, jI_natc, jI_nat, ck_ok, nc_lt, nc_le, if_true, if_false, Option.bind_some, wr_def, and_true, true_and, and_false, false_and, or_true, true_or, or_false, false_or, not_true, not_false_eq_true, not_true_eq_false, ite_true, ite_false, Nat.zero_add, Nat.add_zero, Int.add_zero, Int.zero_add, Int.sub_zero, up_eq, up_ne, up_i, up_j, hin, hin2, hk, hnote], hC, fC.r μ, hW, fun μ' hM => ⟨μ', ?_, hM, fM.r μ'⟩⟩
        have h1 := hgr μ'
        have h2 := hsz μ'
        have hm1 := hM.2.2.2.2.2.1
        rw [e_X8_see]; simp (disch := omega) only [j_0, j_1, j_2, j_3, j_4, j_5, j_6, j_8, j_9, j_16, j_20, j_24, j_33, j_48, j_49, j_57, j_58, j_82, j_83, j_100, j_131, j_179, j_227, j_275, j_512, j_825, j_999, j_1000, j_9999, j_10000, j_11000, j_65536, j_m1, jI_add, jI_sub, jI_mul, jI_neg, nca_9, nca_33, nca_58, nca_83, nca_131, nca_179, nca_227, nca_825, nca_4, nca_24, nca_275, ncb_1, ncb_275, ncb_24, nc_1add, Int.toNat_natCast, tz_0, tz_1, tz_2, tz_3, tz_4, tz_5, tz_6, tz_8, tz_9, tz_16, tz_20, tz_24, tz_33, tz_48, tz_49, tz_57, tz_58, tz_82, tz_83, tz_100, tz_131, tz_179, tz_227, tz_275, tz_512, tz_825, tz_999, tz_1000, tz_9999, tz_10000, tz_11000, tz_65536, nc_sub1, i_lt, n_lt, i_eq, n_eq, jI_natc, jI_nat, ck_ok, nc_lt, nc_le, if_true, if_false, Option.bind_some, wr_def, and_true, true_and, and_false, false_and, or_true, true_or, or_false, false_or, not_true, not_false_eq_true, not_true_eq_false, ite_true, ite_false, Nat.zero_add, Nat.add_zero, Int.add_zero, Int.zero_add, Int.sub_zero, up_eq, up_ne, up_i, up_j, h1, h2, hm1]
    · rw [if_neg d] at hin2 hsz
      refine ⟨-1000000002, μ, A, by rw [e_X7_see]; simp (disch := omega) only [j_0, j_1, j_2, j_3, j_4, j_5, j_6, j_8, j_9, j_16, j_20, j_24, j_33, j_48, j_49, j_57, j_58, j_82, j_83, j_100, j_131, j_179, j_227, j_275, j_512, j_825, j_999, j_1000, j_9999, j_10000, j_11000, j_65536, j_m1, jI_add, jI_sub, jI_mul, jI_neg, nca_9, nca_33, nca_58, nca_83, nca_131, nca_179, nca_227, nca_825, nca_4, nca_24, nca_275, ncb_1, ncb_275, ncb_24, nc_1add, Int.toNat_natCast, tz_0, tz_1, tz_2, tz_3, tz_4, tz_5, tz_6, tz_8, tz_9, tz_16, tz_20, tz_24, tz_33, tz_48, tz_49, tz_57, tz_58, tz_82, tz_83, tz_100, tz_131, tz_179, tz_227, tz_275, tz_512, tz_825, tz_999, tz_1000, tz_9999, tz_10000, tz_11000, tz_65536, nc_sub1, i_lt, n_lt, i_eq, n_eq, jI_natc, jI_nat, ck_ok, nc_lt, nc_le, if_true, if_false, Option.bind_some, wr_def, and_true, true_and, and_false, false_and, or_true, true_or, or_false, false_or, not_true, not_false_eq_true, not_true_eq_false, ite_true, ite_false, Nat.zero_add, Nat.add_zero, Int.add_zero, Int.zero_add, Int.sub_zero, up_eq, up_ne, up_i, up_j, hin, hin2], hC, fC.r μ, hW, fun μ' hM => ⟨μ', ?_, hM, fM.r μ'⟩⟩
      have h1 := hgr μ'
      have h2 := hsz μ'
      rw [e_X8_see]; simp (disch := omega) only [j_0, j_1, j_2, j_3, j_4, j_5, j_6, j_8, j_9, j_16, j_20, j_24, j_33, j_48, j_49, j_57, j_58, j_82, j_83, j_100, j_131, j_179, j_227, j_275, j_512, j_825, j_999, j_1000, j_9999, j_10000, j_11000, j_65536, j_m1, jI_add, jI_sub, jI_mul, jI_neg, nca_9, nca_33, nca_58, nca_83, nca_131, nca_179, nca_227, nca_825, nca_4, nca_24, nca_275, ncb_1, ncb_275, ncb_24, nc_1add, Int.toNat_natCast, tz_0, tz_1, tz_2, tz_3, tz_4, tz_5, tz_6, tz_8, tz_9, tz_16, tz_20, tz_24, tz_33, tz_48, tz_49, tz_57, tz_58, tz_82, tz_83, tz_100, tz_131, tz_179, tz_227, tz_275, tz_512, tz_825, tz_999, tz_1000, tz_9999, tz_10000, tz_11000, tz_65536, nc_sub1, i_lt, n_lt, i_eq, n_eq, jI_natc, jI_nat, ck_ok, nc_lt, nc_le, if_true, if_false, Option.bind_some, wr_def, and_true, true_and, and_false, false_and, or_true, true_or, or_false, false_or, not_true, not_false_eq_true, not_true_eq_false, ite_true, ite_false, Nat.zero_add, Nat.add_zero, Int.add_zero, Int.zero_add, Int.sub_zero, up_eq, up_ne, up_i, up_j, h1, h2]
  · rw [if_neg c] at hin hgr
    refine ⟨-1000000001, μ, A, by rw [e_X7_see]; simp (disch := omega) only [j_0, j_1, j_2, j_3, j_4, j_5, j_6, j_8, j_9, j_16, j_20, j_24, j_33, j_48, j_49, j_57, j_58, j_82, j_83, j_100, j_131, j_179, j_227, j_275, j_512, j_825, j_999, j_1000, j_9999, j_10000, j_11000, j_65536, j_m1, jI_add, jI_sub, jI_mul, jI_neg, nca_9, nca_33, nca_58, nca_83, nca_131, nca_179, nca_227, nca_825, nca_4, nca_24, nca_275, ncb_1, ncb_275, ncb_24, nc_1add, Int.toNat_natCast, tz_0, tz_1, tz_2, tz_3, tz_4, tz_5, tz_6, tz_8, tz_9, tz_16, tz_20, tz_24, tz_33, tz_48, tz_49, tz_57, tz_58, tz_82, tz_83, tz_100, tz_131, tz_179, tz_227, tz_275, tz_512, tz_825, tz_999, tz_1000, tz_9999, tz_10000, tz_11000, tz_65536, nc_sub1, i_lt, n_lt, i_eq, n_eq, jI_natc, jI_nat, ck_ok, nc_lt, nc_le, if_true, if_false, Option.bind_some, wr_def, and_true, true_and, and_false, false_and, or_true, true_or, or_false, false_or, not_true, not_false_eq_true, not_true_eq_false, ite_true, ite_false, Nat.zero_add, Nat.add_zero, Int.add_zero, Int.zero_add, Int.sub_zero, up_eq, up_ne, up_i, up_j, hin], hC, fC.r μ, hW, fun μ' hM => ⟨μ', ?_, hM, fM.r μ'⟩⟩
    have h1 := hgr μ'
    rw [e_X8_see]; simp (disch := omega) only [j_0, j_1, j_2, j_3, j_4, j_5, j_6, j_8, j_9, j_16, j_20, j_24, j_33, j_48, j_49, j_57, j_58, j_82, j_83, j_100, j_131, j_179, j_227, j_275, j_512, j_825, j_999, j_1000, j_9999, j_10000, j_11000, j_65536, j_m1, jI_add, jI_sub, jI_mul, jI_neg, nca_9, nca_33, nca_58, nca_83, nca_131, nca_179, nca_227, nca_825, nca_4, nca_24, nca_275, ncb_1, ncb_275, ncb_24, nc_1add, Int.toNat_natCast, tz_0, tz_1, tz_2, tz_3, tz_4, tz_5, tz_6, tz_8, tz_9, tz_16, tz_20, tz_24, tz_33, tz_48, tz_49, tz_57, tz_58, tz_82, tz_83, tz_100, tz_131, tz_179, tz_227, tz_275, tz_512, tz_825, tz_999, tz_1000, tz_9999, tz_10000, tz_11000, tz_65536, nc_sub1, i_lt, n_lt, i_eq, n_eq, jI_natc, jI_nat, ck_ok, nc_lt, nc_le, if_true, if_false, Option.bind_some, wr_def, and_true, true_and, and_false, false_and, or_true, true_or, or_false, false_or, not_true, not_false_eq_true, not_true_eq_false, ite_true, ite_false, Nat.zero_add, Nat.add_zero, Int.add_zero, Int.zero_add, Int.sub_zero, up_eq, up_ne, up_i, up_j, h1]
theorem k_seed (l1 : Int32) : alk (f_X7_seed [vr 7 0, vi l1]) (f_X8_seed [vr 8 0, vi l1]) := by
  obtain ⟨v, rfl, hn1, hn2⟩ := jI_ex l1
  refine alk_of fun A μ hW hC => ?_
  by_cases c : v < 0
  · refine ⟨-1000000002, μ, A, by rw [e_X7_seed]; simp (disch := omega) only [j_0, j_1, j_2, j_3, j_4, j_5, j_6, j_8, j_9, j_16, j_20, j_24, j_33, j_48, j_49, j_57, j_58, j_82, j_83, j_100, j_131, j_179, j_227, j_275, j_512, j_825, j_999, j_1000, j_9999, j_10000, j_11000, j_65536, j_m1, jI_add, jI_sub, jI_mul, jI_neg, nca_9, nca_33, nca_58, nca_83, nca_131, nca_179, nca_227, nca_825, nca_4, nca_24, nca_275, ncb_1, ncb_275, ncb_24, nc_1add, Int.toNat_natCast, tz_0, tz_1, tz_2, tz_3, tz_4, tz_5, tz_6, tz_8, tz_9, tz_16, tz_20, tz_24, tz_33, tz_48, tz_49, tz_57, tz_58, tz_82, tz_83, tz_100, tz_131, tz_179, tz_227, tz_275, tz_512, tz_825, tz_999, tz_1000, tz_9999, tz_10000, tz_11000, tz_65536, nc_sub1, i_lt, n_lt, i_eq, n_eq, jI_natc, jI_nat, ck_ok, nc_lt, nc_le, if_true, if_false, Option.bind_some, wr_def, and_true, true_and, and_false, false_and, or_true, true_or, or_false, false_or, not_true, not_false_eq_true, not_true_eq_false, ite_true, ite_false, Nat.zero_add, Nat.add_zero, Int.add_zero, Int.zero_add, Int.sub_zero, up_eq, up_ne, up_i, up_j], hC, fC.r μ, hW, fun μ' hM => ⟨μ', ?_, hM, fM.r μ'⟩⟩
    rw [e_X8_seed]; simp (disch := omega) only [j_0, j_1, j_2, j_3, j_4, j_5, j_6, j_8, j_9, j_16, j_20, j_24, j_33, j_48, j_49, j_57, j_58, j_82, j_83, j_100, j_131, j_179, j_227, j_275, j_512, j_825, j_999, j_1000, j_9999, j_10000, j_11000, j_65536, j_m1, jI_add, jI_sub, jI_mul, jI_neg, nca_9, nca_33, nca_58, nca_83, nca_131, nca_179, nca_227, nca_825, nca_4, nca_24, nca_275, ncb_1, ncb_275, ncb_24, nc_1add, Int.toNat_natCast, tz_0, tz_1, tz_2, tz_3, tz_4, tz_5, tz_6, tz_8, tz_9, tz_16, tz_20, tz_24, tz_33, tz_48, tz_49, tz_57, tz_58, tz_82, tz_83, tz_100, tz_131, tz_179, tz_227, tz_275, tz_512, tz_825, tz_999, tz_1000, tz_9999, tz_10000, tz_11000, tz_65536, nc_sub1, i_lt, n_lt, i_eq, n_eq, jI_natc, jI_nat, ck_ok, nc_lt, nc_le, if_true, if_false, Option.bind_some, wr_def, and_true, true_and, and_false, false_and, or_true, true_or, or_false, false_or, not_true, not_false_eq_true, not_true_eq_false, ite_true, ite_false, Nat.zero_add, Nat.add_zero, Int.add_zero, Int.zero_add, Int.sub_zero, up_eq, up_ne, up_i, up_j]
  · obtain ⟨c1, c2, c3, c4, c5, c6, c7, c8, c9⟩ := hC
    have hf : ∀ k i, k ≠ 7 → (mm_up μ 7 0 7 (jI v)) k i = μ k i := fun k i hk => by rw [up_ne hk]
    have st : ∀ σ a, cSt σ a μ → cSt σ a (mm_up μ 7 0 7 (jI v)) := fun σ a h => by
      unfold cSt
      rw [hf 6 a (by omega), hf 10 a (by omega), hf 11 a (by omega), hf 12 a (by omega), hf 13 a (by omega), hf 14 a (by omega), hf 15 a (by omega)]
      exact h
    refine ⟨jI (aE A), mm_up μ 7 0 7 (jI v), aSeed A v, ?_, ⟨st _ _ c1, ?_, ?_, fun j hj => st _ _ (c4 j hj), fun i hi => ?_, up_eq, ?_, fun i hi => ?_, fun b hb => ?_⟩, fun k i hk => hf k i (by omega), ?_, fun μ' hM => ?_⟩
    · rw [e_X7_seed, c6]; simp (disch := omega) only [j_0, j_1, j_2, j_3, j_4, j_5, j_6, j_8, j_9, j_16, j_20, j_24, j_33, j_48, j_49, j_57, j_58, j_82, j_83, j_100, j_131, j_179, j_227, j_275, j_512, j_825, j_999, j_1000, j_9999, j_10000, j_11000, j_65536, j_m1, jI_add, jI_sub, jI_mul, jI_neg, nca_9, nca_33, nca_58, nca_83, nca_131, nca_179, nca_227, nca_825, nca_4, nca_24, nca_275, ncb_1, ncb_275, ncb_24, nc_1add, Int.toNat_natCast, tz_0, tz_1, tz_2, tz_3, tz_4, tz_5, tz_6, tz_8, tz_9, tz_16, tz_20, tz_24, tz_33, tz_48, tz_49, tz_57, tz_58, tz_82, tz_83, tz_100, tz_131, tz_179, tz_227, tz_275, tz_512, tz_825, tz_999, tz_1000, tz_9999, tz_10000, tz_11000, tz_65536, nc_sub1, i_lt, n_lt, i_eq, n_eq, jI_natc, jI_nat, ck_ok, nc_lt, nc_le, if_true, if_false, Option.bind_some, wr_def, and_true, true_and, and_false, false_and, or_true, true_or, or_false, false_or, not_true, not_false_eq_true, not_true_eq_false, ite_true, ite_false, Nat.zero_add, Nat.add_zero, Int.add_zero, Int.zero_add, Int.sub_zero, up_eq, up_ne, up_i, up_j]
    · rw [hf 3 0 (by omega)]; exact c2
    · rw [hf 3 0 (by omega)]; exact c3
    · rw [hf 2 i (by omega)]; exact ⟨(c5 i hi).1, fun q => ⟨st _ _ ((c5 i hi).2 q).1, ((c5 i hi).2 q).2⟩⟩
    · unfold cSee; rw [hf 4 0 (by omega), hf 40 0 (by omega), hf 41 0 (by omega)]; exact c7
    · rw [hf 34 0 (by omega)]; exact c8 i hi
    · rw [hf 34 b (by omega)]; exact c9 b hb
    · obtain ⟨w1, w2, w3, w4, w5, w6, w7, w8⟩ := hW
      exact ⟨w1, w2, w3, w4, w5, by show 0 ≤ v; omega, by show v < 2147483648; omega, w8⟩
    · obtain ⟨m1, m2, m3, m4, m5, m6⟩ := hM
      have hg : ∀ k i, k ≠ 8 → (mm_up μ' 8 0 4 (jI v)) k i = μ' k i := fun k i hk => by rw [up_ne hk]
      refine ⟨mm_up μ' 8 0 4 (jI v), ?_, ⟨?_, ?_, ?_, ?_, up_eq, ?_⟩, fun k i hk => hg k i (by omega)⟩
      · rw [e_X8_seed, m5]; simp (disch := omega) only [j_0, j_1, j_2, j_3, j_4, j_5, j_6, j_8, j_9, j_16, j_20, j_24, j_33, j_48, j_49, j_57, j_58, j_82, j_83, j_100, j_131, j_179, j_227, j_275, j_512, j_825, j_999, j_1000, j_9999, j_10000, j_11000, j_65536, j_m1, jI_add, jI_sub, jI_mul, jI_neg, nca_9, nca_33, nca_58, nca_83, nca_131, nca_179, nca_227, nca_825, nca_4, nca_24, nca_275, ncb_1, ncb_275, ncb_24, nc_1add, Int.toNat_natCast, tz_0, tz_1, tz_2, tz_3, tz_4, tz_5, tz_6, tz_8, tz_9, tz_16, tz_20, tz_24, tz_33, tz_48, tz_49, tz_57, tz_58, tz_82, tz_83, tz_100, tz_131, tz_179, tz_227, tz_275, tz_512, tz_825, tz_999, tz_1000, tz_9999, tz_10000, tz_11000, tz_65536, nc_sub1, i_lt, n_lt, i_eq, n_eq, jI_natc, jI_nat, ck_ok, nc_lt, nc_le, if_true, if_false, Option.bind_some, wr_def, and_true, true_and, and_false, false_and, or_true, true_or, or_false, false_or, not_true, not_false_eq_true, not_true_eq_false, ite_true, ite_false, Nat.zero_add, Nat.add_zero, Int.add_zero, Int.zero_add, Int.sub_zero, up_eq, up_ne, up_i, up_j]
      · unfold mL; rw [hg 50 0 (by omega)]; exact m1
      · rw [up_j (by omega)]; exact m2
      · rw [hg 50 0 (by omega)]; exact m3
      · rw [hg 50 0 (by omega), hg 51 0 (by omega), hg 52 0 (by omega)]; exact m4
      · unfold mSee; rw [up_j (by omega), hg 56 0 (by omega), hg 57 0 (by omega), hg 58 0 (by omega)]; exact m6
