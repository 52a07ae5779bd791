/-! The small machine is sound: what it answers, the machine does. -/
def mm_tv (ad : Nat → Nat → Nat) : mV → Value
  | .inl x => .int x
  | .inr (.inl q) => .ref (ad q.1 q.2)
  | .inr (.inr x) => .long x
def mm_fv (ad : Nat → Nat → Nat) (μ : mM) (k i : Nat) (q : (Nat × Nat × Nat) × Nat) : Value := if q.1.1 = 2 then .ref (ad q.1.2.1 (i + q.1.2.2)) else .int (μ k i q.2)
def mm_fvs (ad : Nat → Nat → Nat) (μ : mM) (k i : Nat) : List Value := (mm_fs k).zipIdx.map (mm_fv ad μ k i)
def mm_ae (ad : Nat → Nat → Nat) (cy : Nat → ClassId) (μ : mM) (k i : Nat) (q : Nat × Nat × Nat × Nat) : va_E :=
  if q.1 = 2 then .inl (cy k, q.2.1, .inr (.inr (.inr (.inr (fun j => some (ad q.2.2.1 (j + q.2.2.2))))))) else .inl (cy q.1, q.2.1, .inl (μ k i))
def mm_ce (ad : Nat → Nat → Nat) (cy : Nat → ClassId) (μ : mM) (k i : Nat) : va_E :=
  if k < 9 then .inr (k, mm_fvs ad μ k i) else match mm_as k with
    | some q => mm_ae ad cy μ k i q
    | none => .inl (cy 0, 0, .inl (fun _ => 0))
def mm_wl (ad : Nat → Nat → Nat) (cy : Nat → ClassId) (μ : mM) : va_W := mm_all.map (fun q => (ad q.1 q.2, mm_ce ad cy μ q.1 q.2))
def mm_ty (cy : Nat → ClassId) : List (ClassId × FieldType) := [(cy 0, .int), (cy 1, .boolean), (cy 16, .object RX6), (cy 17, .object RX2), (cy 33, .array .int)]
def mm_adr (ad : Nat → Nat → Nat) (z : Nat) : Prop := (∀ p ∈ mm_all, ∀ q ∈ mm_all, ad p.1 p.2 = ad q.1 q.2 → p = q) ∧ ∀ p ∈ mm_all, z ≤ ad p.1 p.2
theorem mm_nodup : mm_all.Nodup := by decide +kernel
theorem mm_idx {q : Nat × Nat} (h : q ∈ mm_all) (ad : Nat → Nat → Nat) (cy : Nat → ClassId) : ∃ n : Nat, mm_all[n]? = some q ∧ ∀ μ : mM, (mm_wl ad cy μ)[n]? = some (ad q.1 q.2, mm_ce ad cy μ q.1 q.2) := by
  obtain ⟨n, hn⟩ := List.getElem?_of_mem h
  exact ⟨n, hn, fun μ => by simp [mm_wl, hn]⟩
theorem mm_D {ad : Nat → Nat → Nat} {cy : Nat → ClassId} {μ : mM} {z : Nat} (h : mm_adr ad z) : va_D (fun q => z ≤ q) (mm_wl ad cy μ) := by
  have key : ∀ (k : Nat) (q : Nat × va_E), (mm_wl ad cy μ)[k]? = some q → ∃ x, mm_all[k]? = some x ∧ x ∈ mm_all ∧ q.1 = ad x.1 x.2 := by
    intro k q hk
    simp only [mm_wl, List.getElem?_map] at hk
    cases hx : mm_all[k]? with
    | none => rw [hx] at hk; cases hk
    | some x => rw [hx] at hk; cases hk; exact ⟨x, rfl, List.mem_of_getElem? hx, rfl⟩
  refine ⟨fun i j p q hi hj hpq => ?_, fun k q hk => ?_⟩
  · obtain ⟨x, h1, h2, h3⟩ := key i p hi
    obtain ⟨y, h4, h5, h6⟩ := key j q hj
    have hxy := h.1 x h2 y h5 (by rw [← h3, ← h6]; exact hpq)
    subst hxy
    exact (List.getElem?_inj (List.getElem?_eq_some_iff.mp h1).1 mm_nodup).mp (h1.trans h4.symm)
  · obtain ⟨x, -, h2, h3⟩ := key k q hk
    rw [h3]
    exact h.2 x h2
theorem mm_set {α : Type} {f g : Nat × Nat → α} {n : Nat} {q : Nat × Nat} (hn : mm_all[n]? = some q) (h : ∀ x ∈ mm_all, x ≠ q → f x = g x) : (mm_all.map f).set n (g q) = mm_all.map g := by
  apply List.ext_getElem?
  intro j
  have hl := (List.getElem?_eq_some_iff.mp hn).1
  by_cases hj : j = n
  · subst hj
    rw [List.getElem?_set_self (by simpa using hl), List.getElem?_map, hn]
    rfl
  · rw [List.getElem?_set_ne (Ne.symm hj), List.getElem?_map, List.getElem?_map]
    cases hx : mm_all[j]? with
    | none => rfl
    | some x =>
      have hne : x ≠ q := fun e => by
        subst e
        exact hj ((List.getElem?_inj (List.getElem?_eq_some_iff.mp hx).1 mm_nodup).mp (hx.trans hn.symm))
      show some (f x) = some (g x)
      rw [h x (List.mem_of_getElem? hx) hne]
theorem mm_ce_up {ad : Nat → Nat → Nat} {cy : Nat → ClassId} {μ : mM} {k i j : Nat} {v : Int32} {x : Nat × Nat} (h : x ≠ (k, i)) : mm_ce ad cy μ x.1 x.2 = mm_ce ad cy (mm_up μ k i j v) x.1 x.2 := by
  have e : ∀ f, mm_up μ k i j v x.1 x.2 f = μ x.1 x.2 f := fun f => by
    unfold mm_up
    rw [if_neg (fun q => h (Prod.ext q.1 q.2.1))]
  have e2 : mm_up μ k i j v x.1 x.2 = μ x.1 x.2 := funext e
  unfold mm_ce mm_fvs mm_ae
  have e3 : mm_fv ad μ x.1 x.2 = mm_fv ad (mm_up μ k i j v) x.1 x.2 := by
    funext q
    unfold mm_fv
    rw [e]
  rw [e3, e2]
theorem mm_ce_row {ad : Nat → Nat → Nat} {cy : Nat → ClassId} {μ : mM} {k i : Nat} {f : Nat → Int32} {x : Nat × Nat} (h : x ≠ (k, i)) : mm_ce ad cy μ x.1 x.2 = mm_ce ad cy (mm_row μ k i f) x.1 x.2 := by
  have e2 : mm_row μ k i f x.1 x.2 = μ x.1 x.2 := by
    unfold mm_row
    rw [if_neg (fun q => h (Prod.ext q.1 q.2))]
  unfold mm_ce mm_fvs mm_ae
  have e3 : mm_fv ad μ x.1 x.2 = mm_fv ad (mm_row μ k i f) x.1 x.2 := by
    funext q
    unfold mm_fv
    rw [e2]
  rw [e3, e2]
theorem mm_fvs_get {ad : Nat → Nat → Nat} {μ : mM} {k i f : Nat} {t : Nat × Nat × Nat} (h : (mm_fs k)[f]? = some t) : (mm_fvs ad μ k i)[f]? = some (mm_fv ad μ k i (t, f)) := by
  simp [mm_fvs, List.getElem?_zipIdx, h]
theorem mm_fvs_up {ad : Nat → Nat → Nat} {μ : mM} {k i f : Nat} {v : Int32} {t : Nat × Nat × Nat} (h : (mm_fs k)[f]? = some t) (ht : t.1 ≠ 2) : (mm_fvs ad μ k i).set f (.int v) = mm_fvs ad (mm_up μ k i f v) k i := by
  have hl : f < (mm_fvs ad μ k i).length := by
    simp [mm_fvs]
    exact (List.getElem?_eq_some_iff.mp h).1
  apply List.ext_getElem?
  intro j
  by_cases hj : j = f
  · subst hj
    rw [List.getElem?_set_self hl, mm_fvs_get h]
    simp [mm_fv, ht, mm_up]
  · rw [List.getElem?_set_ne (Ne.symm hj)]
    cases hx : (mm_fs k)[j]? with
    | none =>
      have h1 : ∀ μ' : mM, (mm_fvs ad μ' k i)[j]? = none := fun μ' => by simp [mm_fvs, List.getElem?_zipIdx, hx]
      rw [h1, h1]
    | some t' =>
      rw [mm_fvs_get hx, mm_fvs_get hx]
      simp [mm_fv, mm_up, hj]
/-- the words of nest mates -/
def mm_isn : Cond → Bool
  | .methodLinkNest _ _ _ _ => true
  | _ => false
def mm_nw : List Cond := lw_tbl.filter mm_isn
theorem mm_nw_warm {s U : State} (hW : s.WarmedH U.vm) (h : ∀ w ∈ mm_nw, va_Nw w s) : ∀ w ∈ mm_nw, va_Nw w U := by
  intro w hw
  have h1 := h w hw
  have h2 := (List.mem_filter.mp hw).2
  cases w <;> first | (simp [mm_isn] at h2; done) | exact va_Nw.warmM hW h1
theorem mm_nw_same {u U : State} (hv : u.vm = U.vm) (h : ∀ w ∈ mm_nw, va_Nw w u) : ∀ w ∈ mm_nw, va_Nw w U := by
  intro w hw
  have h1 := h w hw
  have h2 := (List.mem_filter.mp hw).2
  cases w <;> first | (simp [mm_isn] at h2; done) | exact va_Nw.same rfl hv h1
def mm_rm (id : Nat) : Room := { frames := (mm_qn id).2.2.1, cells := 0, slots := 0, locals := 40 * (mm_qn id).2.2.1 }
def mm_wd (id : Nat) : List Cond := .code (mm_yn id) (mm_cn id) (mm_qn id).1 (mm_rf (mm_qn id).2.1) :: mm_gt
def mm_B (ad : Nat → Nat → Nat) (D : va_G) (cy : Nat → ClassId) (μ : mM) : State → Prop := fun U => va_K D vwCl (mm_ty cy) U ∧ (∀ w ∈ mm_nw, va_Nw w U) ∧ va_P D vwCl (mm_wl ad cy μ) U.heap
def mm_Q (ad : Nat → Nat → Nat) (D : va_G) (cy : Nat → ClassId) (z rt : Nat) (r : Int32) (μ : mM) : Array Value → State → Outcome → State → Prop :=
  if rt = 0 then va_Qv (fun _ : Unit => True) (fun _ t => va_P D vwCl (mm_wl ad cy μ) t.heap) (fun q => z ≤ q)
  else va_Qi (fun x (_ : Unit) => x = r) (fun _ t => va_P D vwCl (mm_wl ad cy μ) t.heap) (fun q => z ≤ q)
def mm_met (l : Launch) (ad : Nat → Nat → Nat) (D : va_G) (cy : Nat → ClassId) (z id : Nat) (as : List mV) (μ : mM) (r : Int32) (μ' : mM) : Prop :=
  Met l (mm_yn id) (mm_wd id) (mm_rm id) (va_Pc (as.map (mm_tv ad)) (mm_B ad D cy μ)) (mm_Q ad D cy z (mm_qn id).2.1 r μ') 0 0 (fun q => z ≤ q)
/-- a function that is the method -/
def mm_OK (l : Launch) (id : Nat) (f : List mV → mM → Option mR) : Prop := ∀ (ad : Nat → Nat → Nat) (D : va_G) (cy : Nat → ClassId) (z : Nat) (as : List mV) (μ : mM) (r : Int32) (μ' : mM), f as μ = some (r, μ') → (∀ v ∈ as, mm_ok v) → mm_adr ad z → mm_met l ad D cy z id as μ r μ'
def mm_L (ad : Nat → Nat → Nat) (rt nL : Nat) (A : Array Slot) (ls : List mV) : Prop := A.size = nL ∧ lv_wf A ∧ ls.length = nL ∧ (rt ≠ 3 → ∀ v ∈ ls, mm_cat v = 1) ∧ ∀ (i : Nat) (v : mV), ls[i]? = some v → (∃ j, v = .inr (.inl (99, j))) ∨ (mm_ok v ∧ A[i]? = some (.val (mm_tv ad v)))
/-- what stays through a method -/
def mm_G (p : Program) (R : Room) (s : State) (m : MethodId) (args : Array Value) (meth : Method) (c : Code) (cc : ByteArray) (nL o rt : Nat) (ad : Nat → Nat → Nat) (D : va_G) (cy : Nat → ClassId) (z : Nat) : Prop :=
  p.tables.exec = Jvm.exec ∧ c.code = cc ∧ c.maxLocals = nL ∧ s.vm.findClass (mm_rn o) = some m.cls ∧ (∀ w ∈ mm_gt, w.before args s = true) ∧ va_K D vwCl (mm_ty cy) s ∧ (∀ w ∈ mm_nw, va_Nw w s) ∧ mm_adr ad z ∧ 1 ≤ R.frames ∧ 40 ≤ R.locals ∧ meth.sig.returnType = mm_rf rt ∧ meth.locks = false
def mm_V (p : Program) (l : Launch) (e : Env) (R : Room) (s : State) (m : MethodId) (args : Array Value) (below : List Frame) (meth : Method) (c : Code) (ad : Nat → Nat → Nat) (D : va_G) (cy : Nat → ClassId) (z rt nL : Nat) (Q : State → Prop) (x : mC) : Prop :=
  ∀ (H : Heap) (locs : List Loc) (A : Array Slot), va_P D vwCl (mm_wl ad cy x.2.2.2) H → va_S (fun q => z ≤ q) s.heap H locs → mm_L ad rt nL A x.2.1 → (∀ v ∈ x.2.2.1, mm_ok v) → W p l e R s m args below meth c H locs 0 0 Q (F0 m x.1 A (x.2.2.1.map (mm_tv ad)))
theorem mm_ok_fs : ∀ q ∈ mm_all, ∀ (f : Nat) (t : Nat × Nat × Nat), (mm_fs q.1)[f]? = some t → t.1 = 2 → (t.2.1, q.2 + t.2.2) ∈ mm_all := by
  have h : mm_all.all (fun q => (mm_fs q.1).all (fun t => !(t.1 == 2) || decide ((t.2.1, q.2 + t.2.2) ∈ mm_all))) = true := by decide +kernel
  intro q hq f t ht h2
  have h1 := List.all_eq_true.mp (List.all_eq_true.mp h q hq) t (List.mem_of_getElem? ht)
  simpa [h2] using h1
theorem mm_ok_as : ∀ q ∈ mm_all, ∀ t, mm_as q.1 = some t → t.1 = 2 → ∀ j, j < t.2.1 → (t.2.2.1, j + t.2.2.2) ∈ mm_all := by
  have h : mm_all.all (fun q => match mm_as q.1 with
    | some t => !(t.1 == 2) || (List.range t.2.1).all (fun j => decide ((t.2.2.1, j + t.2.2.2) ∈ mm_all))
    | none => true) = true := by decide +kernel
  intro q hq t ht h2 j hj
  have h1 := List.all_eq_true.mp h q hq
  simp only [ht, h2] at h1
  have h3 : ((List.range t.2.1).all (fun j => decide ((t.2.2.1, j + t.2.2.2) ∈ mm_all))) = true := by simpa using h1
  simpa using List.all_eq_true.mp h3 j (List.mem_range.mpr hj)
theorem mm_as_hi : ∀ q ∈ mm_all, ∀ t, mm_as q.1 = some t → ¬ q.1 < 9 ∧ (t.1 = 0 ∨ t.1 = 1 ∨ (t.1 = 2 ∧ (q.1 = 16 ∨ q.1 = 17 ∨ q.1 = 33))) := by
  have h : mm_all.all (fun q => match mm_as q.1 with
    | some t => !decide (q.1 < 9) && (t.1 == 0 || t.1 == 1 || (t.1 == 2 && (q.1 == 16 || q.1 == 17 || q.1 == 33)))
    | none => true) = true := by decide +kernel
  intro q hq t ht
  have h1 := List.all_eq_true.mp h q hq
  simp only [ht] at h1
  simp at h1
  omega
