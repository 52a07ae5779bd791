theorem mm_ft_ok {o i k f j : Nat} (h : mm_ft o i = some (k, f, j)) : ∃ r : vw_C, vwCl[k]? = some r ∧ f < r.2.2 ∧ Cond.fieldLink (mm_rn o) i (r.2.1 f).1 (r.2.1 f).2.1 (r.2.1 f).2.2.1 ∈ mm_gt := by
  unfold mm_ft at h
  cases hq : mm_fl.find? (fun q => q.1 == o && q.2.1 == i) with
  | none => rw [hq] at h; cases h
  | some q =>
    rw [hq] at h
    cases h
    have h1 := List.find?_some hq
    simp only [Bool.and_eq_true, beq_iff_eq] at h1
    have h2 := List.all_eq_true.mp mm_fl_ok q (List.mem_of_find?_eq_some hq)
    unfold mm_fchk at h2
    split at h2
    · rename_i r hr
      simp only [Bool.and_eq_true, decide_eq_true_eq] at h2
      refine ⟨r, hr, h2.1, ?_⟩
      rw [← h1.1, ← h1.2]
      exact mm_w1_in h2.2
    · cases h2
theorem mm_kt_ok {o i j : Nat} {v : Int32} (h : mm_kt o i = some (v, j)) : Cond.constant (mm_rn o) i v ∈ mm_gt := by
  unfold mm_kt at h
  cases hq : mm_kl.find? (fun q => q.1 == o && q.2.1 == i) with
  | none => rw [hq] at h; cases h
  | some q =>
    rw [hq] at h
    cases h
    have h1 := List.find?_some hq
    simp only [Bool.and_eq_true, beq_iff_eq] at h1
    have h2 := List.all_eq_true.mp mm_kl_ok q (List.mem_of_find?_eq_some hq)
    rw [← h1.1, ← h1.2]
    exact mm_w1_in h2
theorem mm_lt_ok {o i j : Nat} {v : Int64} (h : mm_lt o i = some (v, j)) : Cond.constantLong (mm_rn o) i v ∈ mm_gt := by
  unfold mm_lt at h
  cases hq : mm_ll.find? (fun q => q.1 == o && q.2.1 == i) with
  | none => rw [hq] at h; cases h
  | some q =>
    rw [hq] at h
    cases h
    have h1 := List.find?_some hq
    simp only [Bool.and_eq_true, beq_iff_eq] at h1
    have h2 := List.all_eq_true.mp mm_ll_ok q (List.mem_of_find?_eq_some hq)
    rw [← h1.1, ← h1.2]
    exact mm_w1_in h2
theorem mm_mt_ok {o i t id cl a b d : Nat} (h : mm_mt o i = some (t, id, cl, a, b, d)) : mm_mchk (o, i, t, id, cl, a, b, d) = true := by
  unfold mm_mt at h
  cases hq : mm_ml.find? (fun q => q.1 == o && q.2.1 == i) with
  | none => rw [hq] at h; cases h
  | some q =>
    rw [hq] at h
    cases h
    have h1 := List.find?_some hq
    simp only [Bool.and_eq_true, beq_iff_eq] at h1
    have h2 := List.all_eq_true.mp mm_ml_ok q (List.mem_of_find?_eq_some hq)
    rw [← h1.1, ← h1.2]
    exact h2
/-- the class's own words -/
theorem mm_ucl : ∀ (k : Nat) (r : vw_C), vwCl[k]? = some r → ∀ w ∈ u_ws r.1 r.2.1 r.2.2, w ∈ mm_gt := by
  have h : vwCl.all (fun r => (u_ws r.1 r.2.1 r.2.2).all (fun w => decide (w ∈ lw_tbl) && goodWord w)) = true := by decide +kernel
  intro k r hr w hw
  have h1 := List.all_eq_true.mp (List.all_eq_true.mp h r (List.mem_of_getElem? hr)) w hw
  simp only [Bool.and_eq_true, decide_eq_true_eq] at h1
  exact List.mem_filter.mpr h1
def mm_tyo : Nat → Nat → FieldType
  | 0 => tyX0
  | 1 => tyX1
  | 2 => tyX2
  | 3 => tyX3
  | 4 => tyX4
  | 5 => tyX5
  | 6 => tyX6
  | 7 => tyX7
  | _ => tyX8
theorem mm_cls_ok : ∀ (k : Nat) (r : vw_C), vwCl[k]? = some r → (∀ f, f < r.2.2 → parseFieldDescriptor (r.2.1 f).2.2.1 = some (mm_tyo k f)) ∧ (∀ a, a < r.2.2 → ∀ b, b < r.2.2 → a ≠ b → (r.2.1 a).2.1 ≠ (r.2.1 b).2.1) ∧ r.2.2 = (mm_fs k).length ∧ ∀ f, f < r.2.2 → ∀ t, (mm_fs k)[f]? = some t → t.1 ≠ 2 → (r.2.1 f).2.2.2 = false ∧ ((t.1 = 0 ∧ mm_tyo k f = .int) ∨ (t.1 = 1 ∧ mm_tyo k f = .boolean)) := by
  intro k r hr
  match k, hr with
  | 0, hr => cases hr; exact ⟨tyX0_ok, nmX0, rfl, by decide +kernel⟩
  | 1, hr => cases hr; exact ⟨tyX1_ok, nmX1, rfl, by decide +kernel⟩
  | 2, hr => cases hr; exact ⟨tyX2_ok, nmX2, rfl, by decide +kernel⟩
  | 3, hr => cases hr; exact ⟨tyX3_ok, nmX3, rfl, by decide +kernel⟩
  | 4, hr => cases hr; exact ⟨tyX4_ok, nmX4, rfl, by decide +kernel⟩
  | 5, hr => cases hr; exact ⟨tyX5_ok, nmX5, rfl, by decide +kernel⟩
  | 6, hr => cases hr; exact ⟨tyX6_ok, nmX6, rfl, by decide +kernel⟩
  | 7, hr => cases hr; exact ⟨tyX7_ok, nmX7, rfl, by decide +kernel⟩
  | 8, hr => cases hr; exact ⟨tyX8_ok, nmX8, rfl, by decide +kernel⟩
  | k + 9, hr => simp [vwCl] at hr
theorem mm_cl_lt {k : Nat} {r : vw_C} (h : vwCl[k]? = some r) : k < 9 := (List.getElem?_eq_some_iff.mp h).1
section MEM
variable {p : Program} {l : Launch} {e : Env} {R : Room} {s : State} {m : MethodId} {args : Array Value} {below : List Frame} {meth : Method} {c : Code} {cc : ByteArray} {nL o rt : Nat} {ad : Nat → Nat → Nat} {D : va_G} {cy : Nat → ClassId} {z : Nat} {Q : State → Prop} {pc : Nat} {ls st : List mV} {μ : mM} {x : mC ⊕ mR}
/-- what a step leads to -/
def mm_T (p : Program) (l : Launch) (e : Env) (R : Room) (s : State) (m : MethodId) (args : Array Value) (below : List Frame) (meth : Method) (c : Code) (ad : Nat → Nat → Nat) (D : va_G) (cy : Nat → ClassId) (z rt nL : Nat) (Q : State → Prop) : mC ⊕ mR → Prop
  | .inl c' => mm_V p l e R s m args below meth c ad D cy z rt nL Q c'
  | .inr q => Q = MQ below (mm_Q ad D cy z rt q.1 q.2) args s 0 0 (fun q => z ≤ q)
theorem o_getfield {n : Nat} (G : mm_G p R s m args meth c cc nL o rt ad D cy z) (hd : decode cc pc = .ok (.getfield n, 3)) (h : mm_gf o n (pc + 3) ls st μ = some x) (hx : mm_T p l e R s m args below meth c ad D cy z rt nL Q x) : mm_V p l e R s m args below meth c ad D cy z rt nL Q (pc, ls, st, μ) := by
  obtain ⟨k, i, f, j, t, st', rfl, hf, ht, rfl⟩ := mm_gf_inv h
  obtain ⟨r, hr, hlt, hw⟩ := mm_ft_ok hf
  have hk := mm_cl_lt hr
  intro H locs A hP hS hL hok
  have hq : (k, i) ∈ mm_all := (mm_okc hok).1
  obtain ⟨n0, -, hn⟩ := mm_idx hq ad cy
  have he := hn μ
  simp only [mm_ce, if_pos hk] at he
  refine va_get G.1 G.2.1 (T := r.2.1) (C := r.1) (N := r.2.2) (own := mm_rn o) G.2.2.2.2.1 (mm_ucl k r hr) G.2.2.2.1 G.2.2.2.2.2.1 hP n0 he hr f hlt (G.2.2.2.2.1 _ hw) (fun _ h9 => h9) (mm_fvs_get ht) hd ?_
  have hv := hx H locs A hP hS hL (mm_oki (by
    by_cases h2 : t.1 = 2
    · rw [if_pos h2]; exact mm_ok_fs (k, i) hq f t ht h2
    · rw [if_neg h2]; exact trivial) (mm_okc hok).2)
  have e : mm_fv ad μ k i (t, f) = mm_tv ad (if t.1 = 2 then .inr (.inl (t.2.1, i + t.2.2)) else .inl (μ k i f)) := by
    unfold mm_fv
    by_cases h2 : t.1 = 2
    · rw [if_pos h2, if_pos h2]; rfl
    · rw [if_neg h2, if_neg h2]; rfl
  rw [e]
  exact hv
theorem o_putfield {n : Nat} (G : mm_G p R s m args meth c cc nL o rt ad D cy z) (hd : decode cc pc = .ok (.putfield n, 3)) (h : mm_pf o n (pc + 3) ls st μ = some x) (hx : mm_T p l e R s m args below meth c ad D cy z rt nL Q x) : mm_V p l e R s m args below meth c ad D cy z rt nL Q (pc, ls, st, μ) := by
  obtain ⟨k, i, f, j, t, v, st', rfl, hf, ht, htv, rfl⟩ := mm_pf_inv h
  obtain ⟨r, hr, hlt, hw⟩ := mm_ft_ok hf
  have hk := mm_cl_lt hr
  obtain ⟨c1, c2, c3, c4⟩ := mm_cls_ok k r hr
  have h2 : t.1 ≠ 2 := by rcases htv with h0 | h0 <;> omega
  obtain ⟨hfin, hty⟩ := c4 f hlt t ht h2
  intro H locs A hP hS hL hok
  have hq : (k, i) ∈ mm_all := (mm_okc (mm_okc hok).2).1
  obtain ⟨n0, hn0, hn⟩ := mm_idx hq ad cy
  have he := hn μ
  simp only [mm_ce, if_pos hk] at he
  have hnar : narrow (mm_tyo k f) (.int v) = .int v ∧ fits (mm_tyo k f) (.int v) = true := by
    rcases hty with ⟨-, h1⟩ | ⟨h0, h1⟩
    · rw [h1]; exact ⟨rfl, rfl⟩
    · rw [h1]
      have hv : v = 0 ∨ v = 1 := by
        rcases htv with h3 | h3
        · omega
        · exact h3.2
      rcases hv with rfl | rfl
      · exact ⟨by decide, by decide⟩
      · exact ⟨by decide, by decide⟩
  refine va_put G.1 G.2.1 (T := r.2.1) (C := r.1) (N := r.2.2) (own := mm_rn o) G.2.2.2.2.1 (mm_ucl k r hr) (mm_tyo k) c1 c2 G.2.2.2.1 G.2.2.2.2.2.1 hP (mm_D G.2.2.2.2.2.2.2.1) hS n0 he hr f hlt (G.2.2.2.2.1 _ hw) (fun _ h9 => h9) hfin (c1 f hlt) hnar.1 hnar.2 (by simp [mm_fvs, ← c3]; exact hlt) hd (fun H1 locs1 hP1 _ hS1 => ?_)
  refine hx H1 locs1 A ?_ hS1 hL (mm_okc (mm_okc hok).2).2
  have e : (mm_wl ad cy μ).set n0 (ad k i, .inr (k, (mm_fvs ad μ k i).set f (.int v))) = mm_wl ad cy (mm_up μ k i f v) := by
    have h5 := mm_set (f := fun q => (ad q.1 q.2, mm_ce ad cy μ q.1 q.2)) (g := fun q => (ad q.1 q.2, mm_ce ad cy (mm_up μ k i f v) q.1 q.2)) hn0 (fun y _ hy => by rw [mm_ce_up hy])
    unfold mm_wl
    rw [← h5]
    simp only [mm_ce, if_pos hk]
    rw [mm_fvs_up ht h2]
  have hP2 : va_P D vwCl ((mm_wl ad cy μ).set n0 (ad k i, .inr (k, (mm_fvs ad μ k i).set f (.int v)))) H1 := hP1
  rw [e] at hP2
  exact hP2
theorem mm_arr {k i n : Nat} {q : Nat × Nat} {t : Nat} (hq : (k, i) ∈ mm_all) (ha : mm_as k = some (t, n, q)) (ht : t ≠ 2) : mm_ce ad cy μ k i = .inl (cy t, n, .inl (μ k i)) := by
  have h9 := (mm_as_hi (k, i) hq _ ha).1
  unfold mm_ce mm_ae
  rw [if_neg h9, ha]
  simp [ht]
theorem o_iaload (G : mm_G p R s m args meth c cc nL o rt ad D cy z) (hd : decode cc pc = .ok (.iaload, 1)) (h : mm_al 0 (pc + 1) ls st μ = some x) (hx : mm_T p l e R s m args below meth c ad D cy z rt nL Q x) : mm_V p l e R s m args below meth c ad D cy z rt nL Q (pc, ls, st, μ) := by
  obtain ⟨j, k, i, n, q, st', rfl, ha, hj, rfl⟩ := mm_al_inv h
  intro H locs A hP hS hL hok
  have hq : (k, i) ∈ mm_all := (mm_okc (mm_okc hok).2).1
  obtain ⟨n0, -, hn⟩ := mm_idx hq ad cy
  have he := hn μ
  rw [mm_arr hq ha (by decide)] at he
  exact va_iald G.1 G.2.1 G.2.2.2.2.2.1 hP n0 0 he rfl hj hd (hx H locs A hP hS hL (mm_oki trivial (mm_okc (mm_okc hok).2).2))
theorem o_baload (G : mm_G p R s m args meth c cc nL o rt ad D cy z) (hd : decode cc pc = .ok (.baload, 1)) (h : mm_al 1 (pc + 1) ls st μ = some x) (hx : mm_T p l e R s m args below meth c ad D cy z rt nL Q x) : mm_V p l e R s m args below meth c ad D cy z rt nL Q (pc, ls, st, μ) := by
  obtain ⟨j, k, i, n, q, st', rfl, ha, hj, rfl⟩ := mm_al_inv h
  intro H locs A hP hS hL hok
  have hq : (k, i) ∈ mm_all := (mm_okc (mm_okc hok).2).1
  obtain ⟨n0, -, hn⟩ := mm_idx hq ad cy
  have he := hn μ
  rw [mm_arr hq ha (by decide)] at he
  exact va_zald G.1 G.2.1 G.2.2.2.2.2.1 hP n0 1 he rfl hj hd (hx H locs A hP hS hL (mm_oki trivial (mm_okc (mm_okc hok).2).2))
theorem mm_upd_wl {k i n n0 t j : Nat} {q : Nat × Nat} {v : Int32} (hn0 : mm_all[n0]? = some (k, i)) (ha : mm_as k = some (t, n, q)) (ht : t ≠ 2) : (mm_wl ad cy μ).set n0 (ad k i, .inl (cy t, n, .inl (upd (μ k i) j v))) = mm_wl ad cy (mm_up μ k i j v) := by
  have hq : (k, i) ∈ mm_all := List.mem_of_getElem? hn0
  have h5 := mm_set (f := fun q => (ad q.1 q.2, mm_ce ad cy μ q.1 q.2)) (g := fun q => (ad q.1 q.2, mm_ce ad cy (mm_up μ k i j v) q.1 q.2)) hn0 (fun y _ hy => by rw [mm_ce_up hy])
  unfold mm_wl
  rw [← h5]
  simp only
  rw [mm_arr hq ha ht]
  have e : mm_up μ k i j v k i = upd (μ k i) j v := by
    funext q
    simp [mm_up, upd]
  rw [e]
theorem o_iastore (G : mm_G p R s m args meth c cc nL o rt ad D cy z) (hd : decode cc pc = .ok (.iastore, 1)) (h : mm_sl 0 (pc + 1) ls st μ = some x) (hx : mm_T p l e R s m args below meth c ad D cy z rt nL Q x) : mm_V p l e R s m args below meth c ad D cy z rt nL Q (pc, ls, st, μ) := by
  obtain ⟨v, j, k, i, n, q, st', rfl, ha, hj, rfl⟩ := mm_sl_inv h
  intro H locs A hP hS hL hok
  have hok2 := (mm_okc (mm_okc hok).2).2
  have hq : (k, i) ∈ mm_all := (mm_okc hok2).1
  obtain ⟨n0, hn0, hn⟩ := mm_idx hq ad cy
  have he := hn μ
  rw [mm_arr hq ha (by decide)] at he
  refine va_iast G.1 G.2.1 G.2.2.2.2.2.1 hP (mm_D G.2.2.2.2.2.2.2.1) hS n0 0 he rfl hj hd (fun H1 locs1 hP1 _ hS1 => ?_)
  rw [mm_upd_wl hn0 ha (by decide)] at hP1
  exact hx H1 locs1 A hP1 hS1 hL (mm_okc hok2).2
theorem o_bastore (G : mm_G p R s m args meth c cc nL o rt ad D cy z) (hd : decode cc pc = .ok (.bastore, 1)) (h : mm_sl 1 (pc + 1) ls st μ = some x) (hx : mm_T p l e R s m args below meth c ad D cy z rt nL Q x) : mm_V p l e R s m args below meth c ad D cy z rt nL Q (pc, ls, st, μ) := by
  obtain ⟨v, j, k, i, n, q, st', rfl, ha, hj, rfl⟩ := mm_sl_inv h
  intro H locs A hP hS hL hok
  have hok2 := (mm_okc (mm_okc hok).2).2
  have hq : (k, i) ∈ mm_all := (mm_okc hok2).1
  obtain ⟨n0, hn0, hn⟩ := mm_idx hq ad cy
  have he := hn μ
  rw [mm_arr hq ha (by decide)] at he
  refine va_zast G.1 G.2.1 G.2.2.2.2.2.1 hP (mm_D G.2.2.2.2.2.2.2.1) hS n0 1 he rfl hj hd (fun H1 locs1 hP1 _ hS1 => ?_)
  rw [mm_upd_wl hn0 ha (by decide)] at hP1
  exact hx H1 locs1 A hP1 hS1 hL (mm_okc hok2).2
theorem o_aaload (G : mm_G p R s m args meth c cc nL o rt ad D cy z) (hd : decode cc pc = .ok (.aaload, 1)) (h : mm_aa (pc + 1) ls st μ = some x) (hx : mm_T p l e R s m args below meth c ad D cy z rt nL Q x) : mm_V p l e R s m args below meth c ad D cy z rt nL Q (pc, ls, st, μ) := by
  obtain ⟨j, k, i, n, k', off, st', rfl, ha, hj, rfl⟩ := mm_aa_inv h
  intro H locs A hP hS hL hok
  have hq : (k, i) ∈ mm_all := (mm_okc (mm_okc hok).2).1
  obtain ⟨n0, -, hn⟩ := mm_idx hq ad cy
  have he := hn μ
  obtain ⟨h9, hk⟩ := mm_as_hi (k, i) hq _ ha
  have hk : k = 16 ∨ k = 17 ∨ k = 33 := by
    rcases hk with h0 | h0 | h0
    · cases h0
    · cases h0
    · exact h0.2
  have ec : mm_ce ad cy μ k i = .inl (cy k, n, .inr (.inr (.inr (.inr (fun j => some (ad k' (j + off))))))) := by
    unfold mm_ce mm_ae
    rw [if_neg h9, ha]
    simp
  rw [ec] at he
  have hlt : j.toNatClampNeg < n := Nat.not_le.mp fun q => hj (Or.inr q)
  have hkk := hx H locs A hP hS hL (mm_oki (mm_ok_as (k, i) hq _ ha rfl _ hlt) (mm_okc (mm_okc hok).2).2)
  have harr : ∃ ty : FieldType, ty.isReference = true ∧ ArrOfT s (cy k) ty := by
    rcases hk with rfl | rfl | rfl
    · exact ⟨_, rfl, (G.2.2.2.2.2.1.2 2 _ rfl).1⟩
    · exact ⟨_, rfl, (G.2.2.2.2.2.1.2 3 _ rfl).1⟩
    · exact ⟨_, rfl, (G.2.2.2.2.2.1.2 4 _ rfl).1⟩
  obtain ⟨ty, hty, hA⟩ := harr
  exact W.aald (v := .ref (ad k' (j.toNatClampNeg + off))) (ty := ty) G.1 G.2.1 (hP n0 _ he) (hA n (fun j => va_rf (some (ad k' (j + off))))) hty (fun q => by cases q) (by show ¬ (j < 0 ∨ (arrV _ _ _).slots.size ≤ _); rw [arrV_size]; exact hj) (by show (arrV _ _ _).slots[_]? = _; rw [arrV_read _ _ hlt]; rfl) rfl rfl hd hkk
end MEM
