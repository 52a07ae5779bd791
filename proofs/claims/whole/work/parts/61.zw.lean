/-! the cells of the second small machine as a world -/
def zr (b : Nat) : Option zX → Value
  | none => .null
  | some (.inl x) => .int x
  | some (.inr i) => .ref (b + i)
def zv (b : Nat) : zX → Value
  | .inl x => .int x
  | .inr i => .ref (b + i)
def zq (b : Nat) (vs : List (Option zX)) : Nat → Option Nat := fun j => match vs[j]? with
  | some (some (.inr i)) => some (b + i)
  | _ => none
def zR (b : Nat) (cy : Nat → ClassId) (d : zD) : va_E := if d.1 < 9 then .inr (d.1, d.2.2.map (zr b)) else if d.1 = 9 then .inl (cy 0, d.2.1, .inl (fun _ => 0)) else if d.1 = 10 then .inl (cy 1, d.2.1, .inl (fun _ => 0)) else .inl (cy d.1, d.2.1, .inr (.inr (.inr (.inr (zq b d.2.2)))))
def zW (b : Nat) (cy : Nat → ClassId) (cs : List zD) : va_W := cs.zipIdx.map (fun q => (b + q.2, zR b cy q.1))
theorem zW_get {b : Nat} {cy : Nat → ClassId} {cs : List zD} {i : Nat} {d : zD} (h : cs[i]? = some d) : (zW b cy cs)[i]? = some (b + i, zR b cy d) := by
  simp [zW, List.getElem?_zipIdx, h]
theorem zW_inv {b : Nat} {cy : Nat → ClassId} {cs : List zD} {i : Nat} {q : Nat × va_E} (h : (zW b cy cs)[i]? = some q) : ∃ d, cs[i]? = some d ∧ q = (b + i, zR b cy d) := by
  cases hd : cs[i]? with
  | none =>
    have : (zW b cy cs)[i]? = none := by simp [zW, List.getElem?_zipIdx, hd]
    rw [this] at h; cases h
  | some d =>
    rw [zW_get hd] at h
    cases h
    exact ⟨d, rfl, rfl⟩
theorem zW_D {b : Nat} {cy : Nat → ClassId} {cs : List zD} : va_D (fun q => b ≤ q) (zW b cy cs) := by
  refine ⟨fun i j p q hi hj e => ?_, fun k q hk => ?_⟩
  · obtain ⟨_, _, rfl⟩ := zW_inv hi
    obtain ⟨_, _, rfl⟩ := zW_inv hj
    simp at e; exact e
  · obtain ⟨_, _, rfl⟩ := zW_inv hk
    simp
theorem zW_len {b : Nat} {cy : Nat → ClassId} {cs : List zD} : (zW b cy cs).length = cs.length := by simp [zW]
theorem zW_set {b : Nat} {cy : Nat → ClassId} {cs : List zD} {i : Nat} {d : zD} {q : va_E} (hq : q = zR b cy d) (hi : i < cs.length) : (zW b cy cs).set i (b + i, q) = zW b cy (cs.set i d) := by
  subst hq
  apply List.ext_getElem?
  intro j
  by_cases hj : j = i
  · subst hj
    rw [List.getElem?_set_self (by rw [zW_len]; exact hi), zW_get (List.getElem?_set_self hi)]
  · rw [List.getElem?_set_ne (Ne.symm hj)]
    cases hd : cs[j]? with
    | none =>
      have h1 : (zW b cy cs)[j]? = none := by simp [zW, List.getElem?_zipIdx, hd]
      have h2 : (zW b cy (cs.set i d))[j]? = none := by simp [zW, List.getElem?_zipIdx, List.getElem?_set_ne (Ne.symm hj), hd]
      rw [h1, h2]
    | some x => rw [zW_get hd, zW_get (by rw [List.getElem?_set_ne (Ne.symm hj)]; exact hd)]
/-- a world with more cells behind -/
theorem zP_app {D : va_G} {b : Nat} {cy : Nat → ClassId} {cs ds : List zD} {H H1 : Heap} (hP : va_P D vwCl (zW b cy cs) H) (hz : H.size = b + cs.length) (ho : ∀ q, q < H.size → H1[q]? = H[q]?) (hn : ∀ j d, ds[j]? = some d → va_at D vwCl (H.size + j, zR b cy d) H1) : va_P D vwCl (zW b cy (cs ++ ds)) H1 := by
  intro k q hk
  obtain ⟨d, hd, rfl⟩ := zW_inv hk
  by_cases hl : k < cs.length
  · rw [List.getElem?_append_left hl] at hd
    have h1 := hP k _ (zW_get hd)
    exact h1.kept (ho _ (by rw [hz]; show b + k < b + cs.length; omega))
  · rw [List.getElem?_append_right (by omega)] at hd
    have := hn _ _ hd
    rw [hz, show b + cs.length + (k - cs.length) = b + k by omega] at this
    exact this
/-! what the tables hold -/
def zm_iw : Nat → Nat
  | 0 => 61
  | 1 => 60
  | 2 => 63
  | 3 => 58
  | 4 => 62
  | 5 => 59
  | 6 => 57
  | 7 => 56
  | _ => 64
def zm_cx : Nat → Nat × Nat
  | 0 => (226, 225)
  | 1 => (199, 198)
  | 2 => (278, 277)
  | 3 => (133, 132)
  | 4 => (251, 250)
  | 5 => (153, 152)
  | 6 => (79, 78)
  | 7 => (71, 70)
  | _ => (680, 679)
theorem zm_cl_ok : ∀ c, c < 9 → Cond.initialized (mm_rn c) ∈ mm_gt ∧ Cond.code (zm_y c) (zm_c c) (zm_q c).2.2.2 none ∈ mm_gt ∧ Cond.instanceMethod (zm_y c) ∈ mm_gt ∧ (zm_y c).cls = mm_rn c ∧ (zm_y c).name = "<init>" ∧ (zm_y c).cls ≠ "java/lang/invoke/MethodHandle" ∧ (zm_y c).cls ≠ "java/lang/invoke/VarHandle" ∧ (parseMethodDescriptor (zm_y c).desc).map (fun d => d.parameters.length) = some 0 ∧ plainFor (zm_y c) = true := by
  have h : (List.range 9).all (fun c => mm_w1 (zm_iw c) (.initialized (mm_rn c)) && mm_w1 (zm_cx c).1 (.code (zm_y c) (zm_c c) (zm_q c).2.2.2 none) && mm_w1 (zm_cx c).2 (.instanceMethod (zm_y c)) && decide ((zm_y c).cls = mm_rn c) && decide ((zm_y c).name = "<init>") && decide ((zm_y c).cls ≠ "java/lang/invoke/MethodHandle") && decide ((zm_y c).cls ≠ "java/lang/invoke/VarHandle") && decide ((parseMethodDescriptor (zm_y c).desc).map (fun d => d.parameters.length) = some 0) && plainFor (zm_y c)) = true := by decide +kernel
  intro c hc
  have h1 := List.all_eq_true.mp h c (List.mem_range.mpr hc)
  simp only [Bool.and_eq_true, decide_eq_true_eq] at h1
  obtain ⟨⟨⟨⟨⟨⟨⟨⟨a1, a2⟩, a3⟩, a4⟩, a5⟩, a6⟩, a7⟩, a8⟩, a9⟩ := h1
  exact ⟨mm_w1_in a1, mm_w1_in a2, mm_w1_in a3, a4, a5, a6, a7, a8, a9⟩
theorem zm_nt_ok {o i c w v : Nat} (h : zm_nt o i = some (c, w, v)) : c < 9 ∧ Cond.classLink (mm_rn o) i (mm_rn c) ∈ mm_gt ∧ Cond.instantiable (mm_rn c) (mm_fs c).length ∈ mm_gt := by
  have hk : zm_nl.all (fun q => decide (q.2.2.1 < 9) && mm_w1 q.2.2.2.1 (.classLink (mm_rn q.1) q.2.1 (mm_rn q.2.2.1)) && mm_w1 q.2.2.2.2 (.instantiable (mm_rn q.2.2.1) (mm_fs q.2.2.1).length)) = true := by decide +kernel
  unfold zm_nt at h
  cases hf : zm_nl.find? (fun q => q.1 == o && q.2.1 == i) with
  | none => rw [hf] at h; cases h
  | some q =>
    rw [hf] at h
    have h1 := List.all_eq_true.mp hk q (List.mem_of_find?_eq_some hf)
    have h2 := List.find?_some hf
    simp only [Bool.and_eq_true, decide_eq_true_eq, beq_iff_eq] at h1 h2
    obtain ⟨o', i', c', w', v'⟩ := q
    simp only [Option.map_some, Option.some.injEq, Prod.mk.injEq] at h
    obtain ⟨rfl, rfl, rfl⟩ := h
    obtain ⟨rfl, rfl⟩ := h2
    exact ⟨h1.1.1, mm_w1_in h1.1.2, mm_w1_in h1.2⟩
def zm_rc (t : Nat) : Nat := if t = 16 then 6 else 2
theorem zm_at_ok {o i t w : Nat} (h : zm_at o i = some (t, w)) : (t = 16 ∨ t = 17) ∧ Cond.classLink (mm_rn o) i (mm_rn (zm_rc t)) ∈ mm_gt := by
  have hk : zm_al.all (fun q => (q.2.2.1 == 16 || q.2.2.1 == 17) && mm_w1 q.2.2.2 (.classLink (mm_rn q.1) q.2.1 (mm_rn (zm_rc q.2.2.1)))) = true := by decide +kernel
  unfold zm_at at h
  cases hf : zm_al.find? (fun q => q.1 == o && q.2.1 == i) with
  | none => rw [hf] at h; cases h
  | some q =>
    rw [hf] at h
    have h1 := List.all_eq_true.mp hk q (List.mem_of_find?_eq_some hf)
    have h2 := List.find?_some hf
    simp only [Bool.and_eq_true, Bool.or_eq_true, beq_iff_eq] at h1 h2
    obtain ⟨o', i', c', w'⟩ := q
    simp only [Option.map_some, Option.some.injEq, Prod.mk.injEq] at h
    obtain ⟨rfl, rfl⟩ := h
    obtain ⟨rfl, rfl⟩ := h2
    exact ⟨h1.1, mm_w1_in h1.2⟩
def zm_io (o i t c w : Nat) : Bool := decide (c < 9) && (if t = 0 then mm_w1 w (.methodLink (mm_rn o) i objectInit) else if t = 1 then mm_w1 w (.methodLink (mm_rn o) i (zm_y c)) else decide (lw_tbl[w]? = some (.methodLinkNest (mm_rn o) i (zm_y c) RX7)))
theorem zm_it_ok {o i t c w : Nat} (h : zm_it o i = some (t, c, w)) : zm_io o i t c w = true := by
  have hk : zm_il.all (fun q => zm_io q.1 q.2.1 q.2.2.1 q.2.2.2.1 q.2.2.2.2) = true := by decide +kernel
  unfold zm_it at h
  cases hf : zm_il.find? (fun q => q.1 == o && q.2.1 == i) with
  | none => rw [hf] at h; cases h
  | some q =>
    rw [hf] at h
    have h1 := List.all_eq_true.mp hk q (List.mem_of_find?_eq_some hf)
    have h2 := List.find?_some hf
    simp only [Bool.and_eq_true, beq_iff_eq] at h2
    obtain ⟨o', i', t', c', w'⟩ := q
    simp only [Option.map_some, Option.some.injEq, Prod.mk.injEq] at h
    obtain ⟨rfl, rfl, rfl⟩ := h
    obtain ⟨rfl, rfl⟩ := h2
    exact h1
theorem zm_obj : Cond.instanceMethod objectInit ∈ mm_gt ∧ Cond.code objectInit ⟨#[0xb1]⟩ 1 none ∈ mm_gt ∧ Cond.arrayClass .int ∈ mm_gt ∧ Cond.arrayClass .boolean ∈ mm_gt ∧ Cond.classLink RX0 22 "[[I" ∈ mm_gt :=
  ⟨mm_w1_in (i := 73) (by decide +kernel), mm_w1_in (i := 74) (by decide +kernel), mm_w1_in (i := 128) (by decide +kernel), mm_w1_in (i := 246) (by decide +kernel), mm_w1_in (i := 228) (by decide +kernel)⟩
/-- the class of a number -/
theorem zm_vw : ∀ c, c < 9 → ∃ r : vw_C, vwCl[c]? = some r ∧ r.1 = mm_rn c := by
  intro c hc
  match c, hc with
  | 0, _ => exact ⟨_, rfl, rfl⟩
  | 1, _ => exact ⟨_, rfl, rfl⟩
  | 2, _ => exact ⟨_, rfl, rfl⟩
  | 3, _ => exact ⟨_, rfl, rfl⟩
  | 4, _ => exact ⟨_, rfl, rfl⟩
  | 5, _ => exact ⟨_, rfl, rfl⟩
  | 6, _ => exact ⟨_, rfl, rfl⟩
  | 7, _ => exact ⟨_, rfl, rfl⟩
  | 8, _ => exact ⟨_, rfl, rfl⟩
def zm_isr : FieldType → Bool
  | .object _ => true
  | .array _ => true
  | _ => false
/-- fields that hold references are final, of their class, of a reference's type -/
theorem zm_fin : ∀ (k : Nat) (r : vw_C), vwCl[k]? = some r → ∀ f, f < r.2.2 → ∀ t, (mm_fs k)[f]? = some t → t.1 = 2 → (r.2.1 f).2.2.2 = true ∧ (r.2.1 f).1 = mm_rn k ∧ zm_isr (mm_tyo k f) = true := by
  have h : (List.range 9).all (fun k => match vwCl[k]? with
    | some r => (List.range r.2.2).all (fun f => match (mm_fs k)[f]? with
      | some t => !(t.1 == 2) || ((r.2.1 f).2.2.2 && decide ((r.2.1 f).1 = mm_rn k) && zm_isr (mm_tyo k f))
      | none => true)
    | none => true) = true := by decide +kernel
  intro k r hr f hf t ht h2
  have hk : k < 9 := mm_cl_lt hr
  have h1 := List.all_eq_true.mp h k (List.mem_range.mpr hk)
  simp only [hr] at h1
  have h3 := List.all_eq_true.mp h1 f (List.mem_range.mpr hf)
  simp only [ht, h2] at h3
  simp at h3
  exact ⟨h3.1.1, h3.1.2, h3.2⟩
theorem zm_isr_ok {ty : FieldType} (h : zm_isr ty = true) (a : Nat) : narrow ty (.ref a) = .ref a ∧ fits ty (.ref a) = true := by
  cases ty <;> first | (cases h; done) | exact ⟨rfl, rfl⟩
theorem zm_df_ok {b : Nat} : ∀ c, c < 9 → ∀ j, j < (mm_fs c).length → defaultValue (mm_tyo c j) = vp_V ((zm_df c).map (zr b)) j := by
  intro c hc j hj
  have e : (zm_df c).map (zr b) = (mm_fs c).map (fun t => if t.1 = 2 then Value.null else Value.int 0) := by
    unfold zm_df
    rw [List.map_map]
    refine List.map_congr_left (fun t _ => ?_)
    show zr b (if t.1 = 2 then none else some (.inl 0)) = _
    split <;> rfl
  rw [e]
  clear e
  match c, hc with
  | 0, _ => rcases (show j = 0 ∨ j = 1 ∨ j = 2 ∨ j = 3 ∨ j = 4 by simp [mm_fs] at hj; omega) with rfl | rfl | rfl | rfl | rfl <;> rfl
  | 1, _ => rcases (show j = 0 ∨ j = 1 ∨ j = 2 ∨ j = 3 ∨ j = 4 by simp [mm_fs] at hj; omega) with rfl | rfl | rfl | rfl | rfl <;> rfl
  | 2, _ => rcases (show j = 0 ∨ j = 1 ∨ j = 2 by simp [mm_fs] at hj; omega) with rfl | rfl | rfl <;> rfl
  | 3, _ => rcases (show j = 0 ∨ j = 1 ∨ j = 2 by simp [mm_fs] at hj; omega) with rfl | rfl | rfl <;> rfl
  | 4, _ => rcases (show j = 0 ∨ j = 1 ∨ j = 2 ∨ j = 3 ∨ j = 4 ∨ j = 5 by simp [mm_fs] at hj; omega) with rfl | rfl | rfl | rfl | rfl | rfl <;> rfl
  | 5, _ => rcases (show j = 0 ∨ j = 1 ∨ j = 2 ∨ j = 3 ∨ j = 4 ∨ j = 5 ∨ j = 6 ∨ j = 7 ∨ j = 8 ∨ j = 9 by simp [mm_fs] at hj; omega) with rfl | rfl | rfl | rfl | rfl | rfl | rfl | rfl | rfl | rfl <;> rfl
  | 6, _ => rcases (show j = 0 ∨ j = 1 ∨ j = 2 ∨ j = 3 ∨ j = 4 ∨ j = 5 ∨ j = 6 ∨ j = 7 ∨ j = 8 by simp [mm_fs] at hj; omega) with rfl | rfl | rfl | rfl | rfl | rfl | rfl | rfl | rfl <;> rfl
  | 7, _ => rcases (show j = 0 ∨ j = 1 ∨ j = 2 ∨ j = 3 ∨ j = 4 ∨ j = 5 ∨ j = 6 ∨ j = 7 by simp [mm_fs] at hj; omega) with rfl | rfl | rfl | rfl | rfl | rfl | rfl | rfl <;> rfl
  | 8, _ => rcases (show j = 0 ∨ j = 1 ∨ j = 2 ∨ j = 3 ∨ j = 4 ∨ j = 5 ∨ j = 6 ∨ j = 7 ∨ j = 8 ∨ j = 9 ∨ j = 10 ∨ j = 11 ∨ j = 12 ∨ j = 13 ∨ j = 14 ∨ j = 15 ∨ j = 16 by simp [mm_fs] at hj; omega) with rfl | rfl | rfl | rfl | rfl | rfl | rfl | rfl | rfl | rfl | rfl | rfl | rfl | rfl | rfl | rfl | rfl <;> rfl
theorem arrV_cg {c : ClassId} {N : Nat} {f g : Nat → Value} (h : ∀ j, j < N → f j = g j) : arrV c N f = arrV c N g := by
  unfold arrV
  congr 1
  apply Array.ext
  · simp
  · intro i h1 h2
    simp
    exact h i (by simpa using h1)
/-- arrays of arrays: the word -/
def zm_ao (U : State) : Prop := va_AO RX6 U ∧ va_AO RX2 U ∧ (Cond.arrayOver (.array .int)).before #[] U = true
theorem zm_aoa {u U : State} (hvm : u.vm.Alike U.vm) (h : (Cond.arrayOver (.array .int)).before #[] u = true) : (Cond.arrayOver (.array .int)).before #[] U = true := by
  obtain ⟨comp, c, k, h1, h2, h3, h4, h5⟩ := arrayOverA_spec h
  obtain ⟨k', hk', he⟩ := hvm.2.2 _ _ h3
  have hi : (U.vm.classes.findIdx? fun (x : Class) => match x.kind with | .array component _ => component == comp | _ => false) = some c := by
    have hbare : U.vm.bare = u.vm.bare := by first | exact hvm.bare_eq | exact hvm.bare_eq.symm
    have e := va_idx_bare U.vm comp
    rw [hbare] at e
    exact e.symm.trans ((va_idx_bare u.vm comp).trans h2)
  have hkind : k'.kind = .array comp (.array .int) := by rw [he]; exact h4
  have f1 : U.vm.findClass (FieldType.array .int).toString = some comp := by rw [hvm.findClass]; exact h1
  have f2 : U.vm.findClass ("[" ++ (FieldType.array .int).toString) = some c := by rw [hvm.findClass]; exact h5
  unfold Cond.before Cond.holds
  simp only [Cond.value]
  rw [f1, Option.bind_some]
  refine (congrArg (fun o : Option Nat => (o.bind (fun c => (U.vm.classes[c]?).map fun (k : Class) => match k.kind with | .array _ ty => decide (ty = FieldType.array .int) && decide (U.vm.findClass ("[" ++ (FieldType.array .int).toString) = some c) | _ => false) == some true)) hi).trans ?_
  simp [hk', hkind, f2]
theorem zm_ao.moved {u U : State} (hvm : u.vm.Alike U.vm) (h : zm_ao u) : zm_ao U := ⟨h.1.moved hvm, h.2.1.moved hvm, zm_aoa hvm h.2.2⟩
