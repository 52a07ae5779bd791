section LL
variable {p : Program} {l : Launch} {e : Env} {s : State} {m : MethodId} {below : List Frame} {meth : Method} {c : Code} {H : Heap} {locs : List Loc} {Q : State → Prop} {pc : Nat} {ls : Array Slot} {rest : List Value} {D : va_G} {cy : Nat → ClassId} {ad : Nat → Nat → Nat} {b L cells slots : Nat} {xs : Nat → Int32} {μ μ1 : mM}
theorem ll_ofI {j : Nat} : nI j = jI (j : Int) := by
  unfold nI jI
  exact (Int32.ofInt_eq_ofNat).symm
set_option maxRecDepth 20000 in
set_option maxHeartbeats 4000000 in
/-- the law's loop -/
theorem law_loop (C : lw_C p s m c b L xs ad D cy) (hr : meth.sig.returnType = ret) (hlocks : meth.locks = false) : ∀ (n i : Nat), i ≤ L → L + 1 ≤ i + n → ∀ (μ : mM) (H : Heap) (locs : List Loc) (ls : Array Slot), Inv μ → va_P D vwCl (mm_wl ad cy μ) H → va_S (fun q => s.heap.size ≤ q) s.heap H locs → lw_F b ad (nI i) ls → W p l e room_1 s m #[Value.ref b] below meth c H locs 600000 7302250 (lw_Z below #[Value.ref b] s) (F0 m 18 ls []) := by
  have hexec := C.1
  have hb := C.2.1
  have hX := C.2.2.2.2.2.2.2.2.1
  have hbl := C.2.2.2.2.2.2.2.2.2.1
  have hL : L ≤ 2048 := C.2.2.2.2.2.2.2.2.2.2
  have hbA : ¬ (fun q : Nat => s.heap.size ≤ q) b := Nat.not_le.mpr hbl
  intro n
  induction n with
  | zero => intro i h1 h2; exact absurd h2 (by omega)
  | succ n ih =>
    intro i hi hin μ H locs ls hI hP hS hF
    refine lv_iload_n hexec hb dL_law_18 rfl (lv_at hF 3 rfl) ?_
    refine lv_aload_n hexec hb dL_law_19 rfl (lv_at hF 0 rfl) ?_
    refine va_slen hexec hb hX hbl hbA hS dL_law_20 ?_
    refine lv_iconst (v := 4) hexec hb dL_law_21 (by decide) ?_
    refine lv_isub hexec hb dL_law_22 ?_
    have e4 : Int32.ofNat L - 4 = jI ((L : Int) - 4) := by
      have e1 : Int32.ofNat L = jI (L : Int) := ll_ofI
      have e2 : (4 : Int32) = jI 4 := by decide
      rw [e1, e2, jI_sub]
    refine lv_icmp_gt (tgt := 761) hexec hb dL_law_23 (by decide) (fun _ => ?_) (fun hgt => ?_)
    · refine lv_iconst (v := 1) hexec hb dL_law_761 (by decide) ?_
      refine va_forget (fun q hq => hS.2.2 q hq) ?_
      exact lw_ret hexec hb hr hlocks dL_law_762
    · have hi4 : i + 4 ≤ L := by
        rw [e4, ll_ofI, jI_lt (by omega) (by omega)] at hgt
        omega
      have hin0 : vp_in (nI i) L := vp_in_nI (by omega) (by omega)
      have hins : lw_in (nI i) L := by
        refine ⟨?_, ?_, ?_⟩
        · rw [show (1 : Int32) = nI 1 by decide, nI_add]; exact vp_in_nI (by omega) (by omega)
        · rw [show (2 : Int32) = nI 2 by decide, nI_add]; exact vp_in_nI (by omega) (by omega)
        · rw [show (3 : Int32) = nI 3 by decide, nI_add]; exact vp_in_nI (by omega) (by omega)
      have tail : ∀ (μ2 : mM) (H2 : Heap) (locs2 : List Loc), Inv μ2 → va_P D vwCl (mm_wl ad cy μ2) H2 → va_S (fun q => s.heap.size ≤ q) s.heap H2 locs2 → W p l e room_1 s m #[Value.ref b] below meth c H2 locs2 600000 7302250 (lw_Z below #[Value.ref b] s) (F0 m 755 ls []) := by
        intro μ2 H2 locs2 hI2 hP2 hS2
        refine lv_iinc (v := nI (i + 4)) (lv' := [(3, .int (nI (i + 4))), (0, .ref b), (1, .ref (ad 7 0)), (2, .ref (ad 8 0))]) hexec hb dL_law_755 hF (k := 3) rfl (by rw [show Int32.ofInt 4 = nI 4 by decide, nI_add]) (by decide) rfl (fun ls2 hl2 => ?_)
        refine lv_goto (tgt := 18) hexec hb dL_law_758 (by decide) ?_
        exact ih (i + 4) hi4 (by omega) μ2 H2 locs2 ls2 hI2 hP2 hS2 (lv_sub hl2 [1, 2, 3, 0] rfl)
      refine lv_aload_n hexec hb dL_law_26 rfl (lv_at hF 0 rfl) ?_
      refine lv_iload_n hexec hb dL_law_27 rfl (lv_at hF 3 rfl) ?_
      refine va_sld hexec hb hX hbl hbA hS hin0 dL_law_28 ?_
      refine lv_bipush (v := 31) hexec hb dL_law_29 (by decide) ?_
      refine lv_iand hexec hb dL_law_31 ?_
      refine lv_topi (fun v _ => ?_)
      by_cases hv : v.toInt < 0 ∨ 22 < v.toInt
      · exact lv_tableOut (tgt := 755) hexec hb dL_law_32 hv (by decide) (tail μ H locs hI hP hS)
      · have h0 : ¬ v.toInt < 0 := fun h => hv (Or.inl h)
        have h22 : ¬ 22 < v.toInt := fun h => hv (Or.inr h)
        rcases (show v.toInt = 0 ∨ v.toInt = 1 ∨ v.toInt = 2 ∨ v.toInt = 3 ∨ v.toInt = 4 ∨ v.toInt = 5 ∨ v.toInt = 6 ∨ v.toInt = 7 ∨ v.toInt = 8 ∨ v.toInt = 9 ∨ v.toInt = 10 ∨ v.toInt = 11 ∨ v.toInt = 12 ∨ v.toInt = 13 ∨ v.toInt = 14 ∨ v.toInt = 15 ∨ v.toInt = 16 ∨ v.toInt = 17 ∨ v.toInt = 18 ∨ v.toInt = 19 ∨ v.toInt = 20 ∨ v.toInt = 21 ∨ v.toInt = 22 by omega) with hk | hk | hk | hk | hk | hk | hk | hk | hk | hk | hk | hk | hk | hk | hk | hk | hk | hk | hk | hk | hk | hk | hk
        · exact lv_tableIn (off := 108) (tgt := 140) hexec hb dL_law_32 h0 h22 (by rw [hk]; rfl) (by decide) (lc_told C hF hins hI hP hS (Nat.le_refl _) (Nat.le_refl _) tail)
        · exact lv_tableIn (off := 131) (tgt := 163) hexec hb dL_law_32 h0 h22 (by rw [hk]; rfl) (by decide) (lc_shaftAt C hF hins hI hP hS (Nat.le_refl _) (Nat.le_refl _) tail)
        · exact lv_tableIn (off := 164) (tgt := 196) hexec hb dL_law_32 h0 h22 (by rw [hk]; rfl) (by decide) (lc_boreAt C hF hins hI hP hS (Nat.le_refl _) (Nat.le_refl _) tail)
        · exact lv_tableIn (off := 197) (tgt := 229) hexec hb dL_law_32 h0 h22 (by rw [hk]; rfl) (by decide) (lc_gradeAt C hF hins hI hP hS (Nat.le_refl _) (Nat.le_refl _) tail)
        · exact lv_tableIn (off := 230) (tgt := 262) hexec hb dL_law_32 h0 h22 (by rw [hk]; rfl) (by decide) (lc_sort C hF hins hI hP hS (Nat.le_refl _) (Nat.le_refl _) tail)
        · exact lv_tableIn (off := 263) (tgt := 295) hexec hb dL_law_32 h0 h22 (by rw [hk]; rfl) (by decide) (lc_find C hF hins hI hP hS (Nat.le_refl _) (Nat.le_refl _) tail)
        · exact lv_tableIn (off := 296) (tgt := 328) hexec hb dL_law_32 h0 h22 (by rw [hk]; rfl) (by decide) (lc_shaft C hF hins hI hP hS (Nat.le_refl _) (Nat.le_refl _) tail)
        · exact lv_tableIn (off := 329) (tgt := 361) hexec hb dL_law_32 h0 h22 (by rw [hk]; rfl) (by decide) (lc_bore C hF hins hI hP hS (Nat.le_refl _) (Nat.le_refl _) tail)
        · exact lv_tableIn (off := 352) (tgt := 384) hexec hb dL_law_32 h0 h22 (by rw [hk]; rfl) (by decide) (lc_takeShaft C hF hins hI hP hS (Nat.le_refl _) (Nat.le_refl _) tail)
        · exact lv_tableIn (off := 375) (tgt := 407) hexec hb dL_law_32 h0 h22 (by rw [hk]; rfl) (by decide) (lc_takeBore C hF hins hI hP hS (Nat.le_refl _) (Nat.le_refl _) tail)
        · exact lv_tableIn (off := 398) (tgt := 430) hexec hb dL_law_32 h0 h22 (by rw [hk]; rfl) (by decide) (lc_grade C hF hins hI hP hS (Nat.le_refl _) (Nat.le_refl _) tail)
        · exact lv_tableIn (off := 441) (tgt := 473) hexec hb dL_law_32 h0 h22 (by rw [hk]; rfl) (by decide) (lc_putAway C hF hins hI hP hS (Nat.le_refl _) (Nat.le_refl _) tail)
        · exact lv_tableIn (off := 454) (tgt := 486) hexec hb dL_law_32 h0 h22 (by rw [hk]; rfl) (by decide) (lc_batch C hF hins hI hP hS (Nat.le_refl _) (Nat.le_refl _) tail)
        · exact lv_tableIn (off := 477) (tgt := 509) hexec hb dL_law_32 h0 h22 (by rw [hk]; rfl) (by decide) (lc_clear C hF hins hI hP hS (Nat.le_refl _) (Nat.le_refl _) tail)
        · exact lv_tableIn (off := 490) (tgt := 522) hexec hb dL_law_32 h0 h22 (by rw [hk]; rfl) (by decide) (lc_undo C hF hins hI hP hS (Nat.le_refl _) (Nat.le_refl _) tail)
        · exact lv_tableIn (off := 513) (tgt := 545) hexec hb dL_law_32 h0 h22 (by rw [hk]; rfl) (by decide) (lc_crowd C hF hins hI hP hS (Nat.le_refl _) (Nat.le_refl _) tail)
        · exact lv_tableIn (off := 536) (tgt := 568) hexec hb dL_law_32 h0 h22 (by rw [hk]; rfl) (by decide) (lc_boxes C hF hins hI hP hS (Nat.le_refl _) (Nat.le_refl _) tail)
        · exact lv_tableIn (off := 559) (tgt := 591) hexec hb dL_law_32 h0 h22 (by rw [hk]; rfl) (by decide) (lc_withBore C hF hins hI hP hS (Nat.le_refl _) (Nat.le_refl _) tail)
        · exact lv_tableIn (off := 582) (tgt := 614) hexec hb dL_law_32 h0 h22 (by rw [hk]; rfl) (by decide) (lc_see C hF hins hI hP hS (Nat.le_refl _) (Nat.le_refl _) tail)
        · exact lv_tableIn (off := 641) (tgt := 673) hexec hb dL_law_32 h0 h22 (by rw [hk]; rfl) (by decide) (lc_forget C hF hins hI hP hS (Nat.le_refl _) (Nat.le_refl _) tail)
        · exact lv_tableIn (off := 654) (tgt := 686) hexec hb dL_law_32 h0 h22 (by rw [hk]; rfl) (by decide) (lc_seed C hF hins hI hP hS (Nat.le_refl _) (Nat.le_refl _) tail)
        · exact lv_tableIn (off := 677) (tgt := 709) hexec hb dL_law_32 h0 h22 (by rw [hk]; rfl) (by decide) (lc_keep C hF hins hI hP hS (Nat.le_refl _) (Nat.le_refl _) tail)
        · exact lv_tableIn (off := 700) (tgt := 732) hexec hb dL_law_32 h0 h22 (by rw [hk]; rfl) (by decide) (lc_goBack C hF hins hI hP hS (Nat.le_refl _) (Nat.le_refl _) tail)
end LL
