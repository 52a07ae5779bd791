section LS
variable {p : Program} {l : Launch} {e : Env} {s : State} {m : MethodId} {below : List Frame} {meth : Method} {c : Code} {H : Heap} {locs : List Loc} {Q : State → Prop} {pc : Nat} {ls : Array Slot} {rest : List Value} {D : va_G} {cy : Nat → ClassId} {ad : Nat → Nat → Nat} {b L cells slots : Nat} {xs : Nat → Int32} {μ μ1 : mM}
def ls_iw : Nat → Nat
  | 0 => 223
  | 1 => 196
  | 2 => 275
  | 3 => 130
  | 4 => 248
  | 5 => 150
  | 6 => 76
  | 7 => 68
  | _ => 677
theorem ls_inst : ∀ k, k < 9 → Cond.instantiable (mm_rn k) (mm_fs k).length ∈ mm_gt := by
  have h : (List.range 9).all (fun k => mm_w1 (ls_iw k) (.instantiable (mm_rn k) (mm_fs k).length)) = true := by decide +kernel
  intro k hk
  exact mm_w1_in (List.all_eq_true.mp h k (List.mem_range.mpr hk))
theorem ls_known {args : Array Value} (hts : ∀ w ∈ mm_gt, w.before args s = true) : ∃ D : va_G, ∀ (k : Nat) (r : vw_C), vwCl[k]? = some r → u_Kn s r.1 r.2.1 r.2.2 (D.1 k) (D.2 k) := by
  have h : ∀ k : Nat, ∃ x : ClassId × (Nat → Nat), ∀ r : vw_C, vwCl[k]? = some r → u_Kn s r.1 r.2.1 r.2.2 x.1 x.2 := by
    intro k
    by_cases hk : k < 9
    · obtain ⟨r, hr, hrn⟩ := zm_vw k hk
      obtain ⟨cC, iS, hKn⟩ := u_known (C := r.1) (T := r.2.1) (N := r.2.2) hts (mm_ucl k r hr) (by rw [hrn]; exact hts _ (ls_inst k hk))
      exact ⟨(cC, iS), fun r' hr' => by cases hr.symm.trans hr'; exact hKn⟩
    · exact ⟨(0, fun _ => 0), fun r hr => absurd (mm_cl_lt hr) hk⟩
  obtain ⟨f, hf⟩ := Classical.axiomOfChoice h
  exact ⟨(fun k => (f k).1, fun k => (f k).2), hf⟩
/-- classes of arrays -/
theorem ls_cy {args : Array Value} (hts : ∀ w ∈ lw_tbl, w.before args s = true) : ∃ cy : Nat → ClassId, ∀ (k : Nat) (q : ClassId × FieldType), (mm_ty cy)[k]? = some q → ArrOfT s q.1 q.2 ∧ va_RA s q.1 q.2 := by
  have hg : ∀ w ∈ mm_gt, w.before args s = true := fun w hw => hts w (List.mem_filter.mp hw).1
  obtain ⟨c0, k0, p0, f0, g0, h0⟩ := Cond.arrayClass_spec (hg _ zm_obj.2.2.1)
  obtain ⟨c1, k1, p1, f1, g1, h1⟩ := Cond.arrayClass_spec (hg _ zm_obj.2.2.2.1)
  obtain ⟨p2, c2, k2, e2, -, g2, h2, f2⟩ := Cond.arrayOver_spec (hts (.arrayOver (.object RX6)) (List.mem_of_getElem? (i := 136) (by decide +kernel)))
  obtain ⟨p3, c3, k3, e3, -, g3, h3, f3⟩ := Cond.arrayOver_spec (hts (.arrayOver (.object RX2)) (List.mem_of_getElem? (i := 274) (by decide +kernel)))
  obtain ⟨p4, c4, k4, e4, -, g4, h4, f4⟩ := arrayOverA_spec (hts (.arrayOver (.array .int)) (List.mem_of_getElem? (i := 229) (by decide +kernel)))
  refine ⟨fun j => if j = 0 then c0 else if j = 1 then c1 else if j = 16 then c2 else if j = 17 then c3 else c4, fun k q hq => ?_⟩
  have key : ∀ (cA : ClassId) (kA : Class) (comp : ClassId) (t : FieldType), s.vm.classes[cA]? = some kA → kA.kind = .array comp t → ArrOfT s cA t := fun cA kA comp t a1 a2 => fun N z => ⟨(fun k h => by cases h), kA, a1, comp, a2⟩
  match k, hq with
  | 0, hq => cases hq; exact ⟨key _ _ _ _ g0 h0, f0⟩
  | 1, hq => cases hq; exact ⟨key _ _ _ _ g1 h1, f1⟩
  | 2, hq => cases hq; exact ⟨key _ _ _ _ g2 h2, k2, p2, g2, h2, e2, f2⟩
  | 3, hq => cases hq; exact ⟨key _ _ _ _ g3 h3, k3, p3, g3, h3, e3, f3⟩
  | 4, hq => cases hq; exact ⟨key _ _ _ _ g4 h4, f4⟩
  | k + 5, hq => exact absurd (List.getElem?_eq_some_iff.mp hq).1 (by show ¬ k + 5 < 5; omega)
theorem ls_ao {args : Array Value} (hts : ∀ w ∈ lw_tbl, w.before args s = true) : zm_ao s :=
  ⟨va_AO.of (hts (.arrayOver (.object RX6)) (List.mem_of_getElem? (i := 136) (by decide +kernel))), va_AO.of (hts (.arrayOver (.object RX2)) (List.mem_of_getElem? (i := 274) (by decide +kernel))), hts (.arrayOver (.array .int)) (List.mem_of_getElem? (i := 229) (by decide +kernel))⟩
theorem ls_nw {args : Array Value} (hts : ∀ w ∈ lw_tbl, w.before args s = true) : ∀ w ∈ mm_nw, va_Nw w s := by
  intro w hw
  have h1 := hts w (List.mem_filter.mp hw).1
  have h2 := (List.mem_filter.mp hw).2
  cases w <;> first | (simp [mm_isn] at h2; done) | exact va_Nw.of rfl h1
/-- the cells of the second small machine are the picture of the first, all 0 -/
def ls_ad (b0 : Nat) (k i : Nat) : Nat := b0 + zm_ix k i
theorem ls_adr (b0 : Nat) : mm_adr (ls_ad b0) b0 := by
  refine ⟨fun p hp q hq h => ?_, fun p _ => Nat.le_add_right _ _⟩
  have h1 := List.all_eq_true.mp (List.all_eq_true.mp zm_ix_inj p hp) q hq
  have h2 : zm_ix p.1 p.2 = zm_ix q.1 q.2 := Nat.add_left_cancel h
  simpa [h2] using h1
theorem ls_ce (b0 : Nat) (cy : Nat → ClassId) (k i : Nat) (h : (k, i) ∈ mm_all) : mm_ce (ls_ad b0) cy (fun _ _ _ => 0) k i = zR b0 cy (zm_ds k i) ∨ ∃ (n : Nat) (f g : Nat → Option Nat), mm_ce (ls_ad b0) cy (fun _ _ _ => 0) k i = .inl (cy k, n, .inr (.inr (.inr (.inr f)))) ∧ zR b0 cy (zm_ds k i) = .inl (cy k, n, .inr (.inr (.inr (.inr g)))) ∧ ∀ j, j < n → f j = g j := by
  by_cases hk : k < 9
  · left
    have e : zm_ds k i = (k, 0, (mm_fs k).map (fun t => if t.1 = 2 then some (.inr (zm_ix t.2.1 (i + t.2.2))) else some (.inl 0))) := if_pos hk
    rw [e]
    have e2 : ∀ vs : List (Option zX), zR b0 cy (k, 0, vs) = .inr (k, vs.map (zr b0)) := fun vs => if_pos hk
    rw [e2]
    unfold mm_ce
    rw [if_pos hk]
    refine congrArg (fun x => Sum.inr (k, x)) ?_
    unfold mm_fvs
    rw [List.map_map]
    apply List.ext_getElem?
    intro j
    rw [List.getElem?_map, List.getElem?_map, List.getElem?_zipIdx]
    cases ht : (mm_fs k)[j]? with
    | none => rfl
    | some t =>
      show some (mm_fv (ls_ad b0) (fun _ _ _ => 0) k i (t, 0 + j)) = some (zr b0 (if t.1 = 2 then some (.inr (zm_ix t.2.1 (i + t.2.2))) else some (.inl 0)))
      unfold mm_fv
      by_cases h2 : t.1 = 2
      · rw [if_pos h2, if_pos h2]; rfl
      · rw [if_neg h2, if_neg h2]; rfl
  · have hd : zm_ds k i = match mm_as k with
      | some (0, n, _, _) => (9, n, [])
      | some (1, n, _, _) => (10, n, [])
      | some (_, n, k', off) => (k, n, (List.range n).map (fun j => some (.inr (zm_ix k' (j + off)))))
      | none => (99, 0, []) := if_neg hk
    have hc : mm_ce (ls_ad b0) cy (fun _ _ _ => 0) k i = match mm_as k with
      | some q => mm_ae (ls_ad b0) cy (fun _ _ _ => 0) k i q
      | none => .inl (cy 0, 0, .inl (fun _ => 0)) := if_neg hk
    cases ha : mm_as k with
    | none =>
      have hn : mm_all.all (fun q => decide (q.1 < 9) || (mm_as q.1).isSome) = true := by decide +kernel
      have := List.all_eq_true.mp hn (k, i) h
      simp [hk, ha] at this
    | some t =>
      obtain ⟨h9, ht⟩ := mm_as_hi (k, i) h t ha
      obtain ⟨t0, n, k', off⟩ := t
      rw [ha] at hd hc
      rcases ht with ht | ht | ⟨ht, hkk⟩
      · have ht : t0 = 0 := ht
        subst ht
        left
        rw [hd, hc]
        rfl
      · have ht : t0 = 1 := ht
        subst ht
        left
        rw [hd, hc]
        rfl
      · have ht : t0 = 2 := ht
        subst ht
        right
        refine ⟨n, fun j => some (ls_ad b0 k' (j + off)), zq b0 ((List.range n).map (fun j => some (.inr (zm_ix k' (j + off))))), ?_, ?_, fun j hj => ?_⟩
        · rw [hc]; rfl
        · rw [hd]
          rcases hkk with hkk | hkk | hkk
          · have hkk : k = 16 := hkk
            subst hkk; rfl
          · have hkk : k = 17 := hkk
            subst hkk; rfl
          · have hkk : k = 33 := hkk
            subst hkk; rfl
        · unfold zq
          rw [List.getElem?_map, List.getElem?_range hj]
          rfl
theorem ls_P {b0 : Nat} (hP : va_P D vwCl (zW b0 cy zm_w2) H) : va_P D vwCl (mm_wl (ls_ad b0) cy (fun _ _ _ => 0)) H := by
  intro k q hk
  unfold mm_wl at hk
  rw [List.getElem?_map] at hk
  cases hx : mm_all[k]? with
  | none => rw [hx] at hk; cases hk
  | some x =>
    rw [hx] at hk
    cases hk
    obtain ⟨kk, i⟩ := x
    have hm : (kk, i) ∈ mm_all := List.mem_of_getElem? hx
    have h1 := List.all_eq_true.mp zm_ix_ok (kk, i) hm
    rw [decide_eq_true_eq] at h1
    have h2 := hP _ _ (zW_get (b := b0) (cy := cy) h1)
    show va_at D vwCl (b0 + zm_ix kk i, mm_ce (ls_ad b0) cy (fun _ _ _ => 0) kk i) H
    rcases ls_ce b0 cy kk i hm with h3 | ⟨n, f, g, h3, h4, h5⟩
    · rw [h3]; exact h2
    · rw [h3]
      rw [show ((kk, i) : Nat × Nat).1 = kk from rfl, show ((kk, i) : Nat × Nat).2 = i from rfl, h4] at h2
      have h2 : H[b0 + zm_ix kk i]? = some (vp_cell (cy kk) (n, .inr (.inr (.inr (.inr g))))) := h2
      show H[b0 + zm_ix kk i]? = some (vp_cell (cy kk) (n, .inr (.inr (.inr (.inr f)))))
      rw [h2, vp_cell_q, vp_cell_q]
      exact congrArg some (arrV_cg (fun j hj => by rw [h5 j hj]))
theorem ls_nil : va_P D vwCl (zW b cy []) H := fun k q h => by
  obtain ⟨d, hd, -⟩ := zW_inv h
  simp at hd
end LS
