abbrev mI : Type := Jvm.ClassFile.Instr
def mm_gf (o idx pc : Nat) (ls st : List mV) (μ : mM) : mS := match st with
  | .inr (.inl (k, i)) :: st => match mm_ft o idx with
    | some (ci, f, _) => if k = ci then match (mm_fs ci)[f]? with
      | some (t, k', off) => if t = 2 then mm_nx pc ls (.inr (.inl (k', i + off)) :: st) μ else mm_nx pc ls (.inl (μ ci i f) :: st) μ
      | none => none
      else none
    | none => none
  | _ => none
def mm_pf (o idx pc : Nat) (ls st : List mV) (μ : mM) : mS := match st with
  | .inl v :: .inr (.inl (k, i)) :: st => match mm_ft o idx with
    | some (ci, f, _) => if k = ci then match (mm_fs ci)[f]? with
      | some (t, _, _) => if t = 0 ∨ (t = 1 ∧ (v = 0 ∨ v = 1)) then mm_nx pc ls st (mm_up μ ci i f v) else none
      | none => none
      else none
    | none => none
  | _ => none
def mm_al (tg pc : Nat) (ls st : List mV) (μ : mM) : mS := match st with
  | .inl j :: .inr (.inl (k, i)) :: st => match mm_as k with
    | some (t, n, _, _) => if t = tg then if j < 0 ∨ n ≤ j.toNatClampNeg then none else mm_nx pc ls (.inl (μ k i j.toNatClampNeg) :: st) μ else none
    | none => none
  | _ => none
def mm_sl (tg pc : Nat) (ls st : List mV) (μ : mM) : mS := match st with
  | .inl v :: .inl j :: .inr (.inl (k, i)) :: st => match mm_as k with
    | some (t, n, _, _) => if t = tg then if j < 0 ∨ n ≤ j.toNatClampNeg then none else mm_nx pc ls st (mm_up μ k i j.toNatClampNeg (if tg = 0 then v else vp_nar .boolean v)) else none
    | none => none
  | _ => none
def mm_aa (pc : Nat) (ls st : List mV) (μ : mM) : mS := match st with
  | .inl j :: .inr (.inl (k, _)) :: st => match mm_as k with
    | some (t, n, k', off) => if t = 2 then if j < 0 ∨ n ≤ j.toNatClampNeg then none else mm_nx pc ls (.inr (.inl (k', j.toNatClampNeg + off)) :: st) μ else none
    | none => none
  | _ => none
def mm_cv (E : mE) (o idx pc : Nat) (ls st : List mV) (μ : mM) : mS := match mm_mt o idx with
  | some (0, id, cl, _) => match st.drop (mm_qn id).2.2.2.1 with
    | .inr (.inl (k, i)) :: rest => if k = cl ∧ mm_ct rest ≤ 8 then match E id (.inr (.inl (k, i)) :: (st.take (mm_qn id).2.2.2.1).reverse) μ with
      | some (r, μ') => mm_nx pc ls (if (mm_qn id).2.1 = 0 then rest else .inl r :: rest) μ'
      | none => none
      else none
    | _ => none
  | _ => none
def mm_ac (pc : Nat) (ls st : List mV) (μ : mM) : mS := match st with
  | .inl n :: .inl dp :: .inr (.inl (k1, i1)) :: .inl sp :: .inr (.inl (k0, i0)) :: st => match mm_as k0, mm_as k1 with
    | some (t0, n0, _, _), some (t1, n1, _, _) => if t0 = 0 ∧ t1 = 0 then
        if n < 0 ∨ sp < 0 ∨ dp < 0 ∨ n0 < sp.toNatClampNeg + n.toNatClampNeg ∨ n1 < dp.toNatClampNeg + n.toNatClampNeg ∨ 8 < mm_ct st then none
        else mm_nx pc ls st (mm_row μ k1 i1 (va_cpy (μ k0 i0) (μ k1 i1) sp.toNatClampNeg dp.toNatClampNeg n.toNatClampNeg))
      else none
    | _, _ => none
  | _ => none
def mm_cs (E : mE) (o idx pc : Nat) (ls st : List mV) (μ : mM) : mS := match mm_mt o idx with
  | some (t, id, _) => if t = 3 then mm_ac pc ls st μ else if t = 1 ∨ t = 2 then
      if (mm_qn id).2.2.2.1 ≤ st.length ∧ mm_ct (st.drop (mm_qn id).2.2.2.1) ≤ 8 then match E id (st.take (mm_qn id).2.2.2.1).reverse μ with
        | some (r, μ') => mm_nx pc ls (if (mm_qn id).2.1 = 0 then st.drop (mm_qn id).2.2.2.1 else .inl r :: st.drop (mm_qn id).2.2.2.1) μ'
        | none => none
      else none
    else none
  | _ => none
def mm_ir (rt : Nat) (st : List mV) (μ : mM) : mS := match st with
  | [.inl v] => if rt = 1 ∨ ((rt = 2 ∨ rt = 3) ∧ (v = 0 ∨ v = 1)) then some (.inr (v, μ)) else none
  | _ => none
def mm_vr (rt : Nat) (st : List mV) (μ : mM) : mS := match st with
  | [] => if rt = 0 then some (.inr (0, μ)) else none
  | _ => none
def mm_li (o idx pc : Nat) (ls st : List mV) (μ : mM) : mS := match mm_kt o idx with
  | some (v, _) => mm_nx pc ls (.inl v :: st) μ
  | none => none
def mm_ll2 (o idx pc : Nat) (ls st : List mV) (μ : mM) : mS := match mm_lt o idx with
  | some (v, _) => mm_nx pc ls (.inr (.inr v) :: st) μ
  | none => none
def mm_ln (len n : Nat) (x : mS) : mS := if len = n then x else none
/-- one instruction -/
def mm_st (E : mE) (o rt pc : Nat) (ls st : List mV) (μ : mM) (i : mI) (len : Nat) : mS := match i with
  | .iconst n => mm_ln len 1 (mm_ps (pc + 1) ls (.inl (Int32.ofInt n)) st μ)
  | .bipush n => mm_ln len 2 (mm_ps (pc + 2) ls (.inl (Int8.ofInt n).toInt32) st μ)
  | .sipush n => mm_ln len 3 (mm_ps (pc + 3) ls (.inl (Int16.ofInt n).toInt32) st μ)
  | .lconst n => mm_ln len 1 (mm_ps (pc + 1) ls (.inr (.inr (Int64.ofNat (n : Nat)))) st μ)
  | .ldc n => mm_ln len 2 (mm_li o n (pc + 2) ls st μ)
  | .ldc_w n => mm_ln len 3 (mm_li o n (pc + 3) ls st μ)
  | .ldc2_w n => mm_ln len 3 (mm_ll2 o n (pc + 3) ls st μ)
  | .iload_n n => mm_ln len 1 (mm_ild (pc + 1) n ls st μ)
  | .iload n => mm_ln len 2 (mm_ild (pc + 2) n ls st μ)
  | .lload_n n => mm_ln len 1 (mm_lld (pc + 1) n ls st μ)
  | .lload n => mm_ln len 2 (mm_lld (pc + 2) n ls st μ)
  | .aload_n n => mm_ln len 1 (mm_ald (pc + 1) n ls st μ)
  | .istore_n n => mm_ln len 1 (mm_ist rt (pc + 1) n ls st μ)
  | .istore n => mm_ln len 2 (mm_ist rt (pc + 2) n ls st μ)
  | .iinc k n => mm_ln len 3 (mm_inc rt (pc + 3) k n ls st μ)
  | .iadd => mm_ln len 1 (mm_b2 (fun a b => some (a + b)) (pc + 1) ls st μ)
  | .isub => mm_ln len 1 (mm_b2 (fun a b => some (a - b)) (pc + 1) ls st μ)
  | .imul => mm_ln len 1 (mm_b2 (fun a b => some (a * b)) (pc + 1) ls st μ)
  | .ixor => mm_ln len 1 (mm_b2 (fun a b => some (a ^^^ b)) (pc + 1) ls st μ)
  | .idiv => mm_ln len 1 (mm_b2 (fun a b => if b = 0 then none else some (a / b)) (pc + 1) ls st μ)
  | .irem => mm_ln len 1 (mm_b2 (fun a b => if b = 0 then none else some (a - a / b * b)) (pc + 1) ls st μ)
  | .ladd => mm_ln len 1 (mm_l2 (fun a b => some (.inr (.inr (a + b)))) (pc + 1) ls st μ)
  | .lmul => mm_ln len 1 (mm_l2 (fun a b => some (.inr (.inr (a * b)))) (pc + 1) ls st μ)
  | .lrem => mm_ln len 1 (mm_l2 (fun a b => if b = 0 then none else some (.inr (.inr (a - a / b * b)))) (pc + 1) ls st μ)
  | .lcmp => mm_ln len 1 (mm_l2 (fun a b => some (.inl (lg_cmp a b))) (pc + 1) ls st μ)
  | .i2l => mm_ln len 1 (mm_i2l (pc + 1) ls st μ)
  | .l2i => mm_ln len 1 (mm_l2i (pc + 1) ls st μ)
  | .dup => mm_ln len 1 (mm_dup (pc + 1) ls st μ)
  | .pop => mm_ln len 1 (mm_pop (pc + 1) ls st μ)
  | .dup_x1 => mm_ln len 1 (mm_dx1 (pc + 1) ls st μ)
  | .dup2 => mm_ln len 1 (mm_dp2 (pc + 1) ls st μ)
  | .ifCond cd off => mm_ln len 3 (mm_if cd pc off ls st μ)
  | .if_icmp cd off => mm_ln len 3 (mm_ic cd pc off ls st μ)
  | .goto off => mm_ln len 3 (mm_jp pc off ls st μ)
  | .tableswitch d lo hi offs => mm_sw pc d lo hi offs ls st μ
  | .getfield n => mm_ln len 3 (mm_gf o n (pc + 3) ls st μ)
  | .putfield n => mm_ln len 3 (mm_pf o n (pc + 3) ls st μ)
  | .iaload => mm_ln len 1 (mm_al 0 (pc + 1) ls st μ)
  | .baload => mm_ln len 1 (mm_al 1 (pc + 1) ls st μ)
  | .iastore => mm_ln len 1 (mm_sl 0 (pc + 1) ls st μ)
  | .bastore => mm_ln len 1 (mm_sl 1 (pc + 1) ls st μ)
  | .aaload => mm_ln len 1 (mm_aa (pc + 1) ls st μ)
  | .invokevirtual n => mm_ln len 3 (mm_cv E o n (pc + 3) ls st μ)
  | .invokestatic n => mm_ln len 3 (mm_cs E o n (pc + 3) ls st μ)
  | .ireturn => mm_ln len 1 (mm_ir rt st μ)
  | .return_ => mm_ln len 1 (mm_vr rt st μ)
  | _ => none
def mm_sp (E : mE) (o rt : Nat) (cc : ByteArray) (c : mC) : mS := match decode cc c.1 with
  | .ok (i, len) => mm_st E o rt c.1 c.2.1 c.2.2.1 c.2.2.2 i len
  | .error _ => none
def mm_it (E : mE) (o rt : Nat) (cc : ByteArray) : Nat → mC → Option mR
  | 0, _ => none
  | n + 1, c => match mm_sp E o rt cc c with
    | none => none
    | some (.inl c') => mm_it E o rt cc n c'
    | some (.inr r) => some r
theorem mm_it_mono {E : mE} {o rt : Nat} {cc : ByteArray} : ∀ (n : Nat) (c : mC) (r : mR), mm_it E o rt cc n c = some r → mm_it E o rt cc (n + 1) c = some r
  | 0, _, _, h => by simp [mm_it] at h
  | n + 1, c, r, h => by
    rw [mm_it] at h ⊢
    cases hs : mm_sp E o rt cc c with
    | none => rw [hs] at h; exact h
    | some q =>
      rw [hs] at h
      cases q with
      | inl c' => exact mm_it_mono n c' r h
      | inr r' => exact h
theorem mm_it_le {E : mE} {o rt : Nat} {cc : ByteArray} {n m : Nat} {c : mC} {r : mR} (hnm : n ≤ m) (h : mm_it E o rt cc n c = some r) : mm_it E o rt cc m c = some r := by
  induction hnm with
  | refl => exact h
  | step _ ih => exact mm_it_mono _ _ _ ih
/-- what a run comes to: none where it gets stuck or doesn't end -/
noncomputable def mm_run (E : mE) (o rt : Nat) (cc : ByteArray) (c : mC) : Option mR :=
  @dite (Option mR) (∃ r : mR, ∃ n, mm_it E o rt cc n c = some r) (Classical.propDecidable _) (fun h => some (Classical.choose h)) (fun _ => none)
theorem mm_run_it {E : mE} {o rt : Nat} {cc : ByteArray} {c : mC} {r : mR} : mm_run E o rt cc c = some r ↔ ∃ n, mm_it E o rt cc n c = some r := by
  unfold mm_run
  constructor
  · intro h
    split at h
    · rename_i hx
      cases h
      exact Classical.choose_spec hx
    · cases h
  · rintro ⟨n, hn⟩
    have hx : ∃ r : mR, ∃ n, mm_it E o rt cc n c = some r := ⟨r, n, hn⟩
    rw [dif_pos hx]
    obtain ⟨m, hm⟩ := Classical.choose_spec hx
    have h1 := mm_it_le (Nat.le_max_left n m) hn
    have h2 := mm_it_le (Nat.le_max_right n m) hm
    rw [h1] at h2
    exact h2.symm
theorem mm_run_eq {E : mE} {o rt : Nat} {cc : ByteArray} (c : mC) : mm_run E o rt cc c = match mm_sp E o rt cc c with
    | none => none
    | some (.inl c') => mm_run E o rt cc c'
    | some (.inr r) => some r := by
  cases hs : mm_sp E o rt cc c with
  | none =>
    cases h : mm_run E o rt cc c with
    | none => rfl
    | some r =>
      obtain ⟨n, hn⟩ := mm_run_it.mp h
      cases n with
      | zero => simp [mm_it] at hn
      | succ n => rw [mm_it, hs] at hn; exact hn.symm
  | some q =>
    cases q with
    | inr r => exact mm_run_it.mpr ⟨1, by rw [mm_it, hs]⟩
    | inl c' =>
      show _ = mm_run E o rt cc c'
      cases h : mm_run E o rt cc c' with
      | some r =>
        obtain ⟨n, hn⟩ := mm_run_it.mp h
        exact mm_run_it.mpr ⟨n + 1, by rw [mm_it, hs]; exact hn⟩
      | none =>
        cases h2 : mm_run E o rt cc c with
        | none => rfl
        | some r =>
          obtain ⟨n, hn⟩ := mm_run_it.mp h2
          cases n with
          | zero => simp [mm_it] at hn
          | succ n =>
            rw [mm_it, hs] at hn
            have := mm_run_it.mpr ⟨n, hn⟩
            rw [h] at this
            exact this.symm
section R
variable {E : mE} {o rt : Nat} {cc : ByteArray} {pc len : Nat} {ls st : List mV} {μ : mM} {i : mI}
theorem mm_rs {c' : mC} (hd : decode cc pc = .ok (i, len)) (hs : mm_st E o rt pc ls st μ i len = some (.inl c')) : mm_run E o rt cc (pc, ls, st, μ) = mm_run E o rt cc c' := by
  rw [mm_run_eq]
  have h : mm_sp E o rt cc (pc, ls, st, μ) = some (.inl c') := by
    unfold mm_sp
    simp only [hd]
    exact hs
  rw [h]
theorem mm_rd {r : mR} (hd : decode cc pc = .ok (i, len)) (hs : mm_st E o rt pc ls st μ i len = some (.inr r)) : mm_run E o rt cc (pc, ls, st, μ) = some r := by
  rw [mm_run_eq]
  have h : mm_sp E o rt cc (pc, ls, st, μ) = some (.inr r) := by
    unfold mm_sp
    simp only [hd]
    exact hs
  rw [h]
theorem mm_rn0 (hd : decode cc pc = .ok (i, len)) (hs : mm_st E o rt pc ls st μ i len = none) : mm_run E o rt cc (pc, ls, st, μ) = none := by
  rw [mm_run_eq]
  have h : mm_sp E o rt cc (pc, ls, st, μ) = none := by
    unfold mm_sp
    simp only [hd]
    exact hs
  rw [h]
theorem R_iconst {n : Int} (v : Int32) (hd : decode cc pc = .ok (.iconst n, 1)) (hv : Int32.ofInt n = v) : mm_run E o rt cc (pc, ls, st, μ) = mm_run E o rt cc (pc + 1, ls, vi v :: st, μ) := by subst hv; exact mm_rs hd rfl
theorem R_bipush {n : Int} (v : Int32) (hd : decode cc pc = .ok (.bipush n, 2)) (hv : (Int8.ofInt n).toInt32 = v) : mm_run E o rt cc (pc, ls, st, μ) = mm_run E o rt cc (pc + 2, ls, vi v :: st, μ) := by subst hv; exact mm_rs hd rfl
theorem R_sipush {n : Int} (v : Int32) (hd : decode cc pc = .ok (.sipush n, 3)) (hv : (Int16.ofInt n).toInt32 = v) : mm_run E o rt cc (pc, ls, st, μ) = mm_run E o rt cc (pc + 3, ls, vi v :: st, μ) := by subst hv; exact mm_rs hd rfl
theorem R_lconst {n : Fin 2} (v : Int64) (hd : decode cc pc = .ok (.lconst n, 1)) (hv : Int64.ofNat (n : Nat) = v) : mm_run E o rt cc (pc, ls, st, μ) = mm_run E o rt cc (pc + 1, ls, vl v :: st, μ) := by subst hv; exact mm_rs hd rfl
theorem R_ldc {n : Nat} {v : Int32} {x : Nat} (hd : decode cc pc = .ok (.ldc n, 2)) (hk : mm_kt o n = some (v, x)) : mm_run E o rt cc (pc, ls, st, μ) = mm_run E o rt cc (pc + 2, ls, vi v :: st, μ) := mm_rs hd (by simp [mm_st, mm_ln, mm_li, hk, mm_nx])
theorem R_ldc_w {n : Nat} {v : Int32} {x : Nat} (hd : decode cc pc = .ok (.ldc_w n, 3)) (hk : mm_kt o n = some (v, x)) : mm_run E o rt cc (pc, ls, st, μ) = mm_run E o rt cc (pc + 3, ls, vi v :: st, μ) := mm_rs hd (by simp [mm_st, mm_ln, mm_li, hk, mm_nx])
theorem R_ldc2_w {n : Nat} {v : Int64} {x : Nat} (hd : decode cc pc = .ok (.ldc2_w n, 3)) (hk : mm_lt o n = some (v, x)) : mm_run E o rt cc (pc, ls, st, μ) = mm_run E o rt cc (pc + 3, ls, vl v :: st, μ) := mm_rs hd (by simp [mm_st, mm_ln, mm_ll2, hk, mm_nx])
theorem R_iload_n {n : Fin 4} {x : Int32} (hd : decode cc pc = .ok (.iload_n n, 1)) (hl : ls[(n : Nat)]? = some (vi x)) : mm_run E o rt cc (pc, ls, st, μ) = mm_run E o rt cc (pc + 1, ls, vi x :: st, μ) := mm_rs hd (by simp [mm_st, mm_ln, mm_ild, hl, mm_nx])
theorem R_iload {n : Nat} {x : Int32} (hd : decode cc pc = .ok (.iload n, 2)) (hl : ls[n]? = some (vi x)) : mm_run E o rt cc (pc, ls, st, μ) = mm_run E o rt cc (pc + 2, ls, vi x :: st, μ) := mm_rs hd (by simp [mm_st, mm_ln, mm_ild, hl, mm_nx])
theorem R_lload_n {n : Fin 4} {x : Int64} (hd : decode cc pc = .ok (.lload_n n, 1)) (hl : ls[(n : Nat)]? = some (vl x)) : mm_run E o rt cc (pc, ls, st, μ) = mm_run E o rt cc (pc + 1, ls, vl x :: st, μ) := mm_rs hd (by simp [mm_st, mm_ln, mm_lld, hl, mm_nx])
theorem R_lload {n : Nat} {x : Int64} (hd : decode cc pc = .ok (.lload n, 2)) (hl : ls[n]? = some (vl x)) : mm_run E o rt cc (pc, ls, st, μ) = mm_run E o rt cc (pc + 2, ls, vl x :: st, μ) := mm_rs hd (by simp [mm_st, mm_ln, mm_lld, hl, mm_nx])
theorem R_aload_n {n : Fin 4} {k j : Nat} (hd : decode cc pc = .ok (.aload_n n, 1)) (hl : ls[(n : Nat)]? = some (vr k j)) (hk : k ≠ 99) : mm_run E o rt cc (pc, ls, st, μ) = mm_run E o rt cc (pc + 1, ls, vr k j :: st, μ) := mm_rs hd (by simp [mm_st, mm_ln, mm_ald, hl, mm_nx, hk])
theorem R_istore_n {n : Fin 4} {x : Int32} {ls' : List mV} (hd : decode cc pc = .ok (.istore_n n, 1)) (hn : (n : Nat) < ls.length) (h3 : rt ≠ 3) (hs : ls.set n (vi x) = ls') : mm_run E o rt cc (pc, ls, vi x :: st, μ) = mm_run E o rt cc (pc + 1, ls', st, μ) := by subst hs; exact mm_rs hd (by simp [mm_st, mm_ln, mm_ist, hn, h3, mm_nx])
theorem R_istore {n : Nat} {x : Int32} {ls' : List mV} (hd : decode cc pc = .ok (.istore n, 2)) (hn : n < ls.length) (h3 : rt ≠ 3) (hs : ls.set n (vi x) = ls') : mm_run E o rt cc (pc, ls, vi x :: st, μ) = mm_run E o rt cc (pc + 2, ls', st, μ) := by subst hs; exact mm_rs hd (by simp [mm_st, mm_ln, mm_ist, hn, h3, mm_nx])
theorem R_iinc {k : Nat} {n : Int} {x : Int32} (v : Int32) {ls' : List mV} (hd : decode cc pc = .ok (.iinc k n, 3)) (hl : ls[k]? = some (vi x)) (hv : Int32.ofInt n = v) (h3 : rt ≠ 3) (hs : ls.set k (vi (x + v)) = ls') : mm_run E o rt cc (pc, ls, st, μ) = mm_run E o rt cc (pc + 3, ls', st, μ) := by subst hs; subst hv; exact mm_rs hd (by simp [mm_st, mm_ln, mm_inc, hl, h3, mm_nx])
theorem R_iadd {a b : Int32} (hd : decode cc pc = .ok (.iadd, 1)) : mm_run E o rt cc (pc, ls, vi b :: vi a :: st, μ) = mm_run E o rt cc (pc + 1, ls, vi (a + b) :: st, μ) := mm_rs hd rfl
theorem R_isub {a b : Int32} (hd : decode cc pc = .ok (.isub, 1)) : mm_run E o rt cc (pc, ls, vi b :: vi a :: st, μ) = mm_run E o rt cc (pc + 1, ls, vi (a - b) :: st, μ) := mm_rs hd rfl
theorem R_imul {a b : Int32} (hd : decode cc pc = .ok (.imul, 1)) : mm_run E o rt cc (pc, ls, vi b :: vi a :: st, μ) = mm_run E o rt cc (pc + 1, ls, vi (a * b) :: st, μ) := mm_rs hd rfl
theorem R_ixor {a b : Int32} (hd : decode cc pc = .ok (.ixor, 1)) : mm_run E o rt cc (pc, ls, vi b :: vi a :: st, μ) = mm_run E o rt cc (pc + 1, ls, vi (a ^^^ b) :: st, μ) := mm_rs hd rfl
theorem R_idiv {a b : Int32} (hd : decode cc pc = .ok (.idiv, 1)) : mm_run E o rt cc (pc, ls, vi b :: vi a :: st, μ) = if b = 0 then none else mm_run E o rt cc (pc + 1, ls, vi (a / b) :: st, μ) := by
  by_cases h : b = 0
  · rw [if_pos h]; exact mm_rn0 hd (by simp [mm_st, mm_ln, mm_b2, h])
  · rw [if_neg h]; exact mm_rs hd (by simp [mm_st, mm_ln, mm_b2, h, mm_nx])
theorem R_irem {a b : Int32} (hd : decode cc pc = .ok (.irem, 1)) : mm_run E o rt cc (pc, ls, vi b :: vi a :: st, μ) = if b = 0 then none else mm_run E o rt cc (pc + 1, ls, vi (a - a / b * b) :: st, μ) := by
  by_cases h : b = 0
  · rw [if_pos h]; exact mm_rn0 hd (by simp [mm_st, mm_ln, mm_b2, h])
  · rw [if_neg h]; exact mm_rs hd (by simp [mm_st, mm_ln, mm_b2, h, mm_nx])
theorem R_ladd {a b : Int64} (hd : decode cc pc = .ok (.ladd, 1)) : mm_run E o rt cc (pc, ls, vl b :: vl a :: st, μ) = mm_run E o rt cc (pc + 1, ls, vl (a + b) :: st, μ) := mm_rs hd rfl
theorem R_lmul {a b : Int64} (hd : decode cc pc = .ok (.lmul, 1)) : mm_run E o rt cc (pc, ls, vl b :: vl a :: st, μ) = mm_run E o rt cc (pc + 1, ls, vl (a * b) :: st, μ) := mm_rs hd rfl
theorem R_lrem {a b : Int64} (hd : decode cc pc = .ok (.lrem, 1)) : mm_run E o rt cc (pc, ls, vl b :: vl a :: st, μ) = if b = 0 then none else mm_run E o rt cc (pc + 1, ls, vl (a - a / b * b) :: st, μ) := by
  by_cases h : b = 0
  · rw [if_pos h]; exact mm_rn0 hd (by simp [mm_st, mm_ln, mm_l2, h])
  · rw [if_neg h]; exact mm_rs hd (by simp [mm_st, mm_ln, mm_l2, h, mm_nx])
theorem R_lcmp {a b : Int64} (hd : decode cc pc = .ok (.lcmp, 1)) : mm_run E o rt cc (pc, ls, vl b :: vl a :: st, μ) = mm_run E o rt cc (pc + 1, ls, vi (lg_cmp a b) :: st, μ) := mm_rs hd rfl
theorem R_i2l {a : Int32} (hd : decode cc pc = .ok (.i2l, 1)) : mm_run E o rt cc (pc, ls, vi a :: st, μ) = mm_run E o rt cc (pc + 1, ls, vl a.toInt64 :: st, μ) := mm_rs hd rfl
theorem R_l2i {a : Int64} (hd : decode cc pc = .ok (.l2i, 1)) : mm_run E o rt cc (pc, ls, vl a :: st, μ) = mm_run E o rt cc (pc + 1, ls, vi a.toInt32 :: st, μ) := mm_rs hd rfl
theorem R_dup {v : mV} (hd : decode cc pc = .ok (.dup, 1)) (hc : mm_cat v = 1) : mm_run E o rt cc (pc, ls, v :: st, μ) = mm_run E o rt cc (pc + 1, ls, v :: v :: st, μ) := mm_rs hd (by simp [mm_st, mm_ln, mm_dup, hc, mm_nx])
theorem R_pop {v : mV} (hd : decode cc pc = .ok (.pop, 1)) (hc : mm_cat v = 1) : mm_run E o rt cc (pc, ls, v :: st, μ) = mm_run E o rt cc (pc + 1, ls, st, μ) := mm_rs hd (by simp [mm_st, mm_ln, mm_pop, hc, mm_nx])
theorem R_dup_x1 {a b : mV} (hd : decode cc pc = .ok (.dup_x1, 1)) (ha : mm_cat a = 1) (hb : mm_cat b = 1) : mm_run E o rt cc (pc, ls, a :: b :: st, μ) = mm_run E o rt cc (pc + 1, ls, a :: b :: a :: st, μ) := mm_rs hd (by simp [mm_st, mm_ln, mm_dx1, ha, hb, mm_nx])
theorem R_dup2 {a b : mV} (hd : decode cc pc = .ok (.dup2, 1)) (ha : mm_cat a = 1) (hb : mm_cat b = 1) : mm_run E o rt cc (pc, ls, a :: b :: st, μ) = mm_run E o rt cc (pc + 1, ls, a :: b :: a :: b :: st, μ) := mm_rs hd (by simp [mm_st, mm_ln, mm_dp2, ha, hb, mm_nx])
theorem mm_jp_to {off : Int} {tgt : Nat} (ht : (pc : Int) + off = (tgt : Int)) : mm_jp pc off ls st μ = some (.inl (tgt, ls, st, μ)) := by
  unfold mm_jp
  rw [ht, if_pos (by omega)]
  rfl
theorem R_goto {off : Int} (tgt : Nat) (hd : decode cc pc = .ok (.goto off, 3)) (ht : (pc : Int) + off = (tgt : Int)) : mm_run E o rt cc (pc, ls, st, μ) = mm_run E o rt cc (tgt, ls, st, μ) := mm_rs hd (by simp only [mm_st, mm_ln, if_true]; exact mm_jp_to ht)
theorem mm_br_t {off : Int} {tgt : Nat} (ht : (pc : Int) + off = (tgt : Int)) : mm_br true pc off ls st μ = some (.inl (tgt, ls, st, μ)) := by
  unfold mm_br
  rw [ht, if_pos (by omega)]
  rfl
theorem mm_br_f {off : Int} {tgt : Nat} (ht : (pc : Int) + off = (tgt : Int)) : mm_br false pc off ls st μ = some (.inl (pc + 3, ls, st, μ)) := by
  unfold mm_br
  rw [ht, if_pos (by omega)]
  rfl
theorem R_icmp {cd : Jvm.ClassFile.Cond} {off : Int} {x y : Int32} (tgt : Nat) (hd : decode cc pc = .ok (.if_icmp cd off, 3)) (ht : (pc : Int) + off = (tgt : Int)) : mm_run E o rt cc (pc, ls, vi y :: vi x :: st, μ) = if mm_hi cd x y = true then mm_run E o rt cc (tgt, ls, st, μ) else mm_run E o rt cc (pc + 3, ls, st, μ) := by
  cases h : mm_hi cd x y with
  | true => rw [if_pos rfl]; exact mm_rs hd (by simp only [mm_st, mm_ln, if_true, mm_ic, h]; exact mm_br_t ht)
  | false => rw [if_neg (by simp)]; exact mm_rs hd (by simp only [mm_st, mm_ln, if_true, mm_ic, h]; exact mm_br_f ht)
theorem R_ifc {cd : Jvm.ClassFile.Cond} {off : Int} {x : Int32} (tgt : Nat) (hd : decode cc pc = .ok (.ifCond cd off, 3)) (ht : (pc : Int) + off = (tgt : Int)) : mm_run E o rt cc (pc, ls, vi x :: st, μ) = if mm_hi cd x 0 = true then mm_run E o rt cc (tgt, ls, st, μ) else mm_run E o rt cc (pc + 3, ls, st, μ) := by
  cases h : mm_hi cd x 0 with
  | true => rw [if_pos rfl]; exact mm_rs hd (by simp only [mm_st, mm_ln, if_true, mm_if, h]; exact mm_br_t ht)
  | false => rw [if_neg (by simp)]; exact mm_rs hd (by simp only [mm_st, mm_ln, if_true, mm_if, h]; exact mm_br_f ht)
/-- a branch, told by what its condition says -/
theorem mm_cnd {α : Type} {b : Bool} {P : Prop} [Decidable P] {x y x' y' : α} (hb : b = decide P) (hx : P → x = x') (hy : ¬ P → y = y') : (if b = true then x else y) = if P then x' else y' := by
  subst hb
  by_cases h : P
  · rw [if_pos h, if_pos (decide_eq_true h)]; exact hx h
  · rw [if_neg h, if_neg (by simpa using h)]; exact hy h
theorem R_switch {d lo hi : Int} {offs : Array Int} {x : Int32} (hd : decode cc pc = .ok (.tableswitch d lo hi offs, len)) {c' : mC} (h : mm_sw pc d lo hi offs ls (vi x :: st) μ = some (.inl c')) : mm_run E o rt cc (pc, ls, vi x :: st, μ) = mm_run E o rt cc c' := mm_rs hd h
theorem R_gi {n k f a b t i j : Nat} (hd : decode cc pc = .ok (.getfield n, 3)) (hf : mm_ft o n = some (k, f, j)) (ht : (mm_fs k)[f]? = some (t, a, b)) (h2 : t ≠ 2) : mm_run E o rt cc (pc, ls, vr k i :: st, μ) = mm_run E o rt cc (pc + 3, ls, vi (μ k i f) :: st, μ) := mm_rs hd (by simp [mm_st, mm_ln, mm_gf, hf, ht, h2, mm_nx])
theorem R_gr {n k f a b i j : Nat} (hd : decode cc pc = .ok (.getfield n, 3)) (hf : mm_ft o n = some (k, f, j)) (ht : (mm_fs k)[f]? = some (2, a, b)) : mm_run E o rt cc (pc, ls, vr k i :: st, μ) = mm_run E o rt cc (pc + 3, ls, vr a (i + b) :: st, μ) := mm_rs hd (by simp [mm_st, mm_ln, mm_gf, hf, ht, mm_nx])
theorem R_pi {n k f i j : Nat} {v : Int32} {q : Nat × Nat} (hd : decode cc pc = .ok (.putfield n, 3)) (hf : mm_ft o n = some (k, f, j)) (ht : (mm_fs k)[f]? = some (0, q)) : mm_run E o rt cc (pc, ls, vi v :: vr k i :: st, μ) = mm_run E o rt cc (pc + 3, ls, st, mm_up μ k i f v) := mm_rs hd (by simp [mm_st, mm_ln, mm_pf, hf, ht, mm_nx])
theorem R_pz {n k f i j : Nat} {v : Int32} {q : Nat × Nat} (hd : decode cc pc = .ok (.putfield n, 3)) (hf : mm_ft o n = some (k, f, j)) (ht : (mm_fs k)[f]? = some (1, q)) (hv : v = 0 ∨ v = 1) : mm_run E o rt cc (pc, ls, vi v :: vr k i :: st, μ) = mm_run E o rt cc (pc + 3, ls, st, mm_up μ k i f v) := mm_rs hd (by simp [mm_st, mm_ln, mm_pf, hf, ht, mm_nx, hv])
/-- an index that is looked at -/
def ck {α : Type} (n : Nat) (j : Int32) (x : Option α) : Option α := if j < 0 ∨ n ≤ j.toNatClampNeg then none else x
theorem ck_congr {α : Type} {n : Nat} {j : Int32} {x y : Option α} (h : x = y) : ck n j x = ck n j y := by rw [h]
theorem R_al {tg n a b k i : Nat} {j : Int32} (h : mm_st E o rt pc ls (vi j :: vr k i :: st) μ = fun i' len' => mm_st E o rt pc ls (vi j :: vr k i :: st) μ i' len') (hd : decode cc pc = .ok (if tg = 0 then .iaload else .baload, 1)) (ha : mm_as k = some (tg, n, a, b)) (ht : tg = 0 ∨ tg = 1) : mm_run E o rt cc (pc, ls, vi j :: vr k i :: st, μ) = ck n j (mm_run E o rt cc (pc + 1, ls, vi (μ k i j.toNatClampNeg) :: st, μ)) := by
  unfold ck
  by_cases hj : j < 0 ∨ n ≤ j.toNatClampNeg
  · rw [if_pos hj]
    refine mm_rn0 hd ?_
    rcases ht with rfl | rfl <;> simp [mm_st, mm_ln, mm_al, ha, hj]
  · rw [if_neg hj]
    refine mm_rs hd ?_
    rcases ht with rfl | rfl <;> simp [mm_st, mm_ln, mm_al, ha, hj, mm_nx]
theorem R_iaload {n k i a b : Nat} {j : Int32} (hd : decode cc pc = .ok (.iaload, 1)) (ha : mm_as k = some (0, n, a, b)) : mm_run E o rt cc (pc, ls, vi j :: vr k i :: st, μ) = ck n j (mm_run E o rt cc (pc + 1, ls, vi (μ k i j.toNatClampNeg) :: st, μ)) := R_al (tg := 0) rfl hd ha (Or.inl rfl)
theorem R_baload {n k i a b : Nat} {j : Int32} (hd : decode cc pc = .ok (.baload, 1)) (ha : mm_as k = some (1, n, a, b)) : mm_run E o rt cc (pc, ls, vi j :: vr k i :: st, μ) = ck n j (mm_run E o rt cc (pc + 1, ls, vi (μ k i j.toNatClampNeg) :: st, μ)) := R_al (tg := 1) rfl hd ha (Or.inr rfl)
theorem R_iastore {n k i a b : Nat} {j v : Int32} (hd : decode cc pc = .ok (.iastore, 1)) (ha : mm_as k = some (0, n, a, b)) : mm_run E o rt cc (pc, ls, vi v :: vi j :: vr k i :: st, μ) = ck n j (mm_run E o rt cc (pc + 1, ls, st, mm_up μ k i j.toNatClampNeg v)) := by
  unfold ck
  by_cases hj : j < 0 ∨ n ≤ j.toNatClampNeg
  · rw [if_pos hj]
    exact mm_rn0 hd (by simp [mm_st, mm_ln, mm_sl, ha, hj])
  · rw [if_neg hj]
    exact mm_rs hd (by simp [mm_st, mm_ln, mm_sl, ha, hj, mm_nx])
theorem R_bastore {n k i a b : Nat} {j v : Int32} (hd : decode cc pc = .ok (.bastore, 1)) (ha : mm_as k = some (1, n, a, b)) : mm_run E o rt cc (pc, ls, vi v :: vi j :: vr k i :: st, μ) = ck n j (mm_run E o rt cc (pc + 1, ls, st, mm_up μ k i j.toNatClampNeg (vp_nar .boolean v))) := by
  unfold ck
  by_cases hj : j < 0 ∨ n ≤ j.toNatClampNeg
  · rw [if_pos hj]
    exact mm_rn0 hd (by simp [mm_st, mm_ln, mm_sl, ha, hj])
  · rw [if_neg hj]
    exact mm_rs hd (by simp [mm_st, mm_ln, mm_sl, ha, hj, mm_nx])
theorem R_aaload {n k i a b : Nat} {j : Int32} (hd : decode cc pc = .ok (.aaload, 1)) (ha : mm_as k = some (2, n, a, b)) : mm_run E o rt cc (pc, ls, vi j :: vr k i :: st, μ) = ck n j (mm_run E o rt cc (pc + 1, ls, vr a (j.toNatClampNeg + b) :: st, μ)) := by
  unfold ck
  by_cases hj : j < 0 ∨ n ≤ j.toNatClampNeg
  · rw [if_pos hj]
    exact mm_rn0 hd (by simp [mm_st, mm_ln, mm_aa, ha, hj])
  · rw [if_neg hj]
    exact mm_rs hd (by simp [mm_st, mm_ln, mm_aa, ha, hj, mm_nx])
theorem R_cv {n id cl k i np r : Nat} {q : Nat × Nat × Nat} {f : List mV → mM → Option mR} {as rest : List mV} (hd : decode cc pc = .ok (.invokevirtual n, 3)) (hm : mm_mt o n = some (0, id, cl, q)) (hn : (mm_qn id).2.2.2.1 = np) (hr : (mm_qn id).2.1 = r) (hE : E id = f) (hk : k = cl) (hst : st.drop np = vr k i :: rest) (ha : (st.take np).reverse = as) (hc : mm_ct rest ≤ 8) :
    mm_run E o rt cc (pc, ls, st, μ) = (f (vr k i :: as) μ).bind (fun x => mm_run E o rt cc (pc + 3, ls, (if r = 0 then rest else vi x.1 :: rest), x.2)) := by
  subst hn; subst hr; subst hE; subst ha; subst hk
  cases h : E id (vr k i :: (st.take (mm_qn id).2.2.2.1).reverse) μ with
  | none => exact mm_rn0 hd (by simp [mm_st, mm_ln, mm_cv, hm, hst, hc, h])
  | some x => exact mm_rs hd (by simp [mm_st, mm_ln, mm_cv, hm, hst, hc, h, mm_nx])
theorem R_cs {n id np r t : Nat} {q : Nat × Nat × Nat × Nat} {f : List mV → mM → Option mR} {as rest : List mV} (hd : decode cc pc = .ok (.invokestatic n, 3)) (hm : mm_mt o n = some (t, id, q)) (ht : t = 1 ∨ t = 2) (hn : (mm_qn id).2.2.2.1 = np) (hr : (mm_qn id).2.1 = r) (hE : E id = f) (hl : np ≤ st.length) (hst : st.drop np = rest) (ha : (st.take np).reverse = as) (hc : mm_ct rest ≤ 8) :
    mm_run E o rt cc (pc, ls, st, μ) = (f as μ).bind (fun x => mm_run E o rt cc (pc + 3, ls, (if r = 0 then rest else vi x.1 :: rest), x.2)) := by
  subst hn; subst hr; subst hE; subst ha; subst hst
  have h3 : ¬ t = 3 := by rcases ht with rfl | rfl <;> decide
  cases h : E id (st.take (mm_qn id).2.2.2.1).reverse μ with
  | none => exact mm_rn0 hd (by simp [mm_st, mm_ln, mm_cs, hm, ht, h3, hl, hc, h])
  | some x => exact mm_rs hd (by simp [mm_st, mm_ln, mm_cs, hm, ht, h3, hl, hc, h, mm_nx])
theorem R_ac {n id n0 n1 k0 i0 k1 i1 : Nat} {a0 a1 : Nat × Nat} {q : Nat × Nat × Nat × Nat} {l dp sp : Int32} (hd : decode cc pc = .ok (.invokestatic n, 3)) (hm : mm_mt o n = some (3, id, q)) (h0 : mm_as k0 = some (0, n0, a0)) (h1 : mm_as k1 = some (0, n1, a1)) (hc : mm_ct st ≤ 8) :
    mm_run E o rt cc (pc, ls, vi l :: vi dp :: vr k1 i1 :: vi sp :: vr k0 i0 :: st, μ) = if l < 0 ∨ sp < 0 ∨ dp < 0 ∨ n0 < sp.toNatClampNeg + l.toNatClampNeg ∨ n1 < dp.toNatClampNeg + l.toNatClampNeg then none else mm_run E o rt cc (pc + 3, ls, st, mm_row μ k1 i1 (va_cpy (μ k0 i0) (μ k1 i1) sp.toNatClampNeg dp.toNatClampNeg l.toNatClampNeg)) := by
  have hc' : ¬ 8 < mm_ct st := by omega
  by_cases h : l < 0 ∨ sp < 0 ∨ dp < 0 ∨ n0 < sp.toNatClampNeg + l.toNatClampNeg ∨ n1 < dp.toNatClampNeg + l.toNatClampNeg
  · rw [if_pos h]
    refine mm_rn0 hd ?_
    simp only [mm_st, mm_ln, mm_cs, hm, mm_ac, h0, h1, if_true, and_self]
    rw [if_pos (by rcases h with h | h | h | h | h <;> simp [h])]
  · rw [if_neg h]
    refine mm_rs hd ?_
    simp only [mm_st, mm_ln, mm_cs, hm, mm_ac, h0, h1, if_true, and_self]
    rw [if_neg (by simp only [not_or] at h ⊢; exact ⟨h.1, h.2.1, h.2.2.1, h.2.2.2.1, h.2.2.2.2, hc'⟩)]
    rfl
theorem R_ireturn {v : Int32} (hd : decode cc pc = .ok (.ireturn, 1)) (hr : rt = 1) : mm_run E o rt cc (pc, ls, [vi v], μ) = some (v, μ) := mm_rd hd (by simp [mm_st, mm_ln, mm_ir, hr])
theorem R_zreturn {v : Int32} (hd : decode cc pc = .ok (.ireturn, 1)) (hr : rt = 2 ∨ rt = 3) (hv : v = 0 ∨ v = 1) : mm_run E o rt cc (pc, ls, [vi v], μ) = some (v, μ) := mm_rd hd (by simp [mm_st, mm_ln, mm_ir, hr, hv])
theorem R_zreturn' {v : Int32} (hd : decode cc pc = .ok (.ireturn, 1)) (hr : rt = 2 ∨ rt = 3) : mm_run E o rt cc (pc, ls, [vi v], μ) = if v = 0 ∨ v = 1 then some (v, μ) else none := by
  by_cases hv : v = 0 ∨ v = 1
  · rw [if_pos hv]; exact R_zreturn hd hr hv
  · rw [if_neg hv]
    have h1 : ¬ rt = 1 := by rcases hr with rfl | rfl <;> decide
    exact mm_rn0 hd (by simp [mm_st, mm_ln, mm_ir, hr, hv, h1])
theorem R_return (hd : decode cc pc = .ok (.return_, 1)) (hr : rt = 0) : mm_run E o rt cc (pc, ls, [], μ) = some (0, μ) := mm_rd hd (by simp [mm_st, mm_ln, mm_vr, hr])
theorem mm_bind {α β : Type} {x : Option α} {f g : α → Option β} (h : ∀ a, f a = g a) : x.bind f = x.bind g := by
  cases x with
  | none => rfl
  | some a => exact h a
end R
/-- a method as a function: its locals at the entry -/
def mm_xp : List mV → List mV
  | [] => []
  | .inr (.inr x) :: l => .inr (.inr x) :: vu :: mm_xp l
  | v :: l => v :: mm_xp l
def mm_en (nL : Nat) (as : List mV) : List mV := mm_xp as ++ List.replicate (nL - (mm_xp as).length) vu
def mm_c1s : List mV → Bool
  | [] => true
  | v :: l => (mm_cat v == 1) && mm_c1s l
noncomputable def mm_fn (E : mE) (o rt nL : Nat) (cc : ByteArray) (as : List mV) (μ : mM) : Option mR :=
  if (mm_xp as).length ≤ nL ∧ (rt = 3 ∨ mm_c1s as = true) then mm_run E o rt cc (0, mm_en nL as, [], μ) else none
