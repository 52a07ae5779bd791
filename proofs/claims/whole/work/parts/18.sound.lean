section ONE
variable {p : Program} {l : Launch} {e : Env} {R : Room} {s : State} {m : MethodId} {args : Array Value} {below : List Frame} {meth : Method} {c : Code} {cc : ByteArray} {nL o rt : Nat} {ad : Nat → Nat → Nat} {D : va_G} {cy : Nat → ClassId} {z : Nat} {Q : State → Prop} {pc : Nat} {ls st : List mV} {μ : mM} {x : mC ⊕ mR} {E : mE}
theorem o_ild {i d : Nat} (hrow : ∀ (H : Heap) (locs : List Loc) (A : Array Slot) (v : Int32) (rest : List Value), A[i]? = some (.val (.int v)) → W p l e R s m args below meth c H locs 0 0 Q (F0 m d A (.int v :: rest)) → W p l e R s m args below meth c H locs 0 0 Q (F0 m pc A rest)) (h : mm_ild d i ls st μ = some x) (hx : mm_T p l e R s m args below meth c ad D cy z rt nL Q x) : mm_V p l e R s m args below meth c ad D cy z rt nL Q (pc, ls, st, μ) := by
  obtain ⟨v, hv, rfl⟩ := mm_ild_inv h
  intro H locs A hP hS hL hok
  have h1 := (hL.2.2.2.2 i _ hv).resolve_left (fun ⟨j, hj⟩ => by cases hj)
  exact hrow H locs A v _ h1.2 (hx H locs A hP hS hL (mm_oki trivial hok))
theorem o_lld {i d : Nat} (hrow : ∀ (H : Heap) (locs : List Loc) (A : Array Slot) (v : Int64) (rest : List Value), A[i]? = some (.val (.long v)) → W p l e R s m args below meth c H locs 0 0 Q (F0 m d A (.long v :: rest)) → W p l e R s m args below meth c H locs 0 0 Q (F0 m pc A rest)) (h : mm_lld d i ls st μ = some x) (hx : mm_T p l e R s m args below meth c ad D cy z rt nL Q x) : mm_V p l e R s m args below meth c ad D cy z rt nL Q (pc, ls, st, μ) := by
  obtain ⟨v, hv, rfl⟩ := mm_lld_inv h
  intro H locs A hP hS hL hok
  have h1 := (hL.2.2.2.2 i _ hv).resolve_left (fun ⟨j, hj⟩ => by cases hj)
  exact hrow H locs A v _ h1.2 (hx H locs A hP hS hL (mm_oki trivial hok))
theorem o_ald {i d : Nat} (hrow : ∀ (H : Heap) (locs : List Loc) (A : Array Slot) (v : Nat) (rest : List Value), A[i]? = some (.val (.ref v)) → W p l e R s m args below meth c H locs 0 0 Q (F0 m d A (.ref v :: rest)) → W p l e R s m args below meth c H locs 0 0 Q (F0 m pc A rest)) (h : mm_ald d i ls st μ = some x) (hx : mm_T p l e R s m args below meth c ad D cy z rt nL Q x) : mm_V p l e R s m args below meth c ad D cy z rt nL Q (pc, ls, st, μ) := by
  obtain ⟨k, j, hv, hk, rfl⟩ := mm_ald_inv h
  intro H locs A hP hS hL hok
  have h1 := (hL.2.2.2.2 i _ hv).resolve_left (fun ⟨j, hj⟩ => by cases hj; exact hk rfl)
  exact hrow H locs A _ _ h1.2 (hx H locs A hP hS hL (mm_oki h1.1 hok))
theorem o_push {v : mV} {d : Nat} (hrow : ∀ (H : Heap) (locs : List Loc) (A : Array Slot) (rest : List Value), W p l e R s m args below meth c H locs 0 0 Q (F0 m d A (mm_tv ad v :: rest)) → W p l e R s m args below meth c H locs 0 0 Q (F0 m pc A rest)) (hv : mm_ok v) (h : mm_nx d ls (v :: st) μ = some x) (hx : mm_T p l e R s m args below meth c ad D cy z rt nL Q x) : mm_V p l e R s m args below meth c ad D cy z rt nL Q (pc, ls, st, μ) := by
  cases h
  intro H locs A hP hS hL hok
  exact hrow H locs A _ (hx H locs A hP hS hL (mm_oki hv hok))
theorem o_b2 {f : Int32 → Int32 → Option Int32} {d : Nat} (hrow : ∀ (H : Heap) (locs : List Loc) (A : Array Slot) (a b v : Int32) (rest : List Value), f a b = some v → W p l e R s m args below meth c H locs 0 0 Q (F0 m d A (.int v :: rest)) → W p l e R s m args below meth c H locs 0 0 Q (F0 m pc A (.int b :: .int a :: rest))) (h : mm_b2 f d ls st μ = some x) (hx : mm_T p l e R s m args below meth c ad D cy z rt nL Q x) : mm_V p l e R s m args below meth c ad D cy z rt nL Q (pc, ls, st, μ) := by
  obtain ⟨a, b, v, st', rfl, hf, rfl⟩ := mm_b2_inv h
  intro H locs A hP hS hL hok
  exact hrow H locs A a b v _ hf (hx H locs A hP hS hL (mm_oki trivial (mm_okc (mm_okc hok).2).2))
theorem o_l2 {f : Int64 → Int64 → Option mV} {d : Nat} (hrow : ∀ (H : Heap) (locs : List Loc) (A : Array Slot) (a b : Int64) (v : mV) (rest : List Value), f a b = some v → mm_ok v ∧ (W p l e R s m args below meth c H locs 0 0 Q (F0 m d A (mm_tv ad v :: rest)) → W p l e R s m args below meth c H locs 0 0 Q (F0 m pc A (.long b :: .long a :: rest)))) (h : mm_l2 f d ls st μ = some x) (hx : mm_T p l e R s m args below meth c ad D cy z rt nL Q x) : mm_V p l e R s m args below meth c ad D cy z rt nL Q (pc, ls, st, μ) := by
  obtain ⟨a, b, v, st', rfl, hf, rfl⟩ := mm_l2_inv h
  intro H locs A hP hS hL hok
  exact (hrow H locs A a b v _ hf).2 (hx H locs A hP hS hL (mm_oki (hrow H locs A a b v [] hf).1 (mm_okc (mm_okc hok).2).2))
theorem o_ist {i d : Nat} (G : mm_G p R s m args meth c cc nL o rt ad D cy z) (hrow : ∀ (H : Heap) (locs : List Loc) (A : Array Slot) (v : Int32) (lv : List (Nat × Value)) (rest : List Value), lv_has A nL lv → i < nL → (∀ A' : Array Slot, lv_has A' nL ((i, Value.int v) :: lv.filter (fun q => !(q.1 == i) && !(q.1 + 1 == i && q.2.category == 2))) → W p l e R s m args below meth c H locs 0 0 Q (F0 m d A' rest)) → W p l e R s m args below meth c H locs 0 0 Q (F0 m pc A (Value.int v :: rest))) (h : mm_ist rt d i ls st μ = some x) (hx : mm_T p l e R s m args below meth c ad D cy z rt nL Q x) : mm_V p l e R s m args below meth c ad D cy z rt nL Q (pc, ls, st, μ) := by
  obtain ⟨v, st', rfl, hi, h3, rfl⟩ := mm_ist_inv h
  intro H locs A hP hS hL hok
  exact hrow H locs A v (mm_lv ad ls) _ (mm_L_has hL) (by rw [← hL.2.2.1]; exact hi) (fun A' hA' => hx H locs A' hP hS (mm_L_set hL hi h3 hA') (mm_okc hok).2)
theorem o_br {b : Bool} {off : Int} {st' : List mV} {top : List Value} (htop : st.map (mm_tv ad) = top ++ st'.map (mm_tv ad)) (hrow : ∀ (H : Heap) (locs : List Loc) (A : Array Slot) (rest : List Value) (tgt : Nat), (pc : Int) + off = (tgt : Int) → (b = true → W p l e R s m args below meth c H locs 0 0 Q (F0 m tgt A rest)) → (b = false → W p l e R s m args below meth c H locs 0 0 Q (F0 m (pc + 3) A rest)) → W p l e R s m args below meth c H locs 0 0 Q (F0 m pc A (top ++ rest))) (hsub : ∀ v ∈ st', v ∈ st) (h : mm_br b pc off ls st' μ = some x) (hx : mm_T p l e R s m args below meth c ad D cy z rt nL Q x) : mm_V p l e R s m args below meth c ad D cy z rt nL Q (pc, ls, st, μ) := by
  intro H locs A hP hS hL hok
  show W p l e R s m args below meth c H locs 0 0 Q (F0 m pc A (st.map (mm_tv ad)))
  rw [htop]
  obtain ⟨tgt, ht, hc⟩ := mm_br_inv h
  rcases hc with ⟨hb, rfl⟩ | ⟨hb, rfl⟩
  · exact hrow H locs A _ tgt ht (fun _ => hx H locs A hP hS hL (fun v hv => hok v (hsub v hv))) (fun h0 => by rw [hb] at h0; cases h0)
  · exact hrow H locs A _ tgt ht (fun h0 => by rw [hb] at h0; cases h0) (fun _ => hx H locs A hP hS hL (fun v hv => hok v (hsub v hv)))
/-- a step of the small machine is a step of the machine -/
theorem mm_one (G : mm_G p R s m args meth c cc nL o rt ad D cy z) (hE : mm_EOK l R ad D cy z E) {i : mI} {len : Nat} (hd : decode cc pc = .ok (i, len)) (h : mm_st E o rt pc ls st μ i len = some x) (hx : mm_T p l e R s m args below meth c ad D cy z rt nL Q x) : mm_V p l e R s m args below meth c ad D cy z rt nL Q (pc, ls, st, μ) := by
  have hts := G.2.2.2.2.1
  have hown := G.2.2.2.1
  cases i with
  | iconst n =>
    have h2 := mm_ln_inv (show mm_ln len 1 (mm_ps (pc + 1) ls (.inl (Int32.ofInt n)) st μ) = some x from h)
    clear h
    obtain ⟨rfl, h⟩ := h2
    exact o_push (v := .inl (Int32.ofInt n)) (d := pc + 1) (fun H locs A rest k => lv_iconst G.1 G.2.1 hd rfl k) trivial h hx
  | bipush n =>
    have h2 := mm_ln_inv (show mm_ln len 2 (mm_ps (pc + 2) ls (.inl (Int8.ofInt n).toInt32) st μ) = some x from h)
    clear h
    obtain ⟨rfl, h⟩ := h2
    exact o_push (v := .inl (Int8.ofInt n).toInt32) (d := pc + 2) (fun H locs A rest k => lv_bipush G.1 G.2.1 hd rfl k) trivial h hx
  | sipush n =>
    have h2 := mm_ln_inv (show mm_ln len 3 (mm_ps (pc + 3) ls (.inl (Int16.ofInt n).toInt32) st μ) = some x from h)
    clear h
    obtain ⟨rfl, h⟩ := h2
    exact o_push (v := .inl (Int16.ofInt n).toInt32) (d := pc + 3) (fun H locs A rest k => lv_sipush G.1 G.2.1 hd rfl k) trivial h hx
  | lconst n =>
    have h2 := mm_ln_inv (show mm_ln len 1 (mm_ps (pc + 1) ls (.inr (.inr (Int64.ofNat (n : Nat)))) st μ) = some x from h)
    clear h
    obtain ⟨rfl, h⟩ := h2
    exact o_push (v := .inr (.inr (Int64.ofNat (n : Nat)))) (d := pc + 1) (fun H locs A rest k => lv_lconst G.1 G.2.1 hd rfl k) trivial h hx
  | ldc n =>
    have h2 := mm_ln_inv (show mm_ln len 2 (mm_li o n (pc + 2) ls st μ) = some x from h)
    clear h
    obtain ⟨rfl, h⟩ := h2
    unfold mm_li at h
    split at h
    · rename_i v _ hv
      exact o_push (v := .inl v) (d := pc + 2) (fun H locs A rest k => lv_ldc G.1 G.2.1 hown (hts _ (mm_kt_ok hv)) hd k) trivial h hx
    · cases h
  | ldc_w n =>
    have h2 := mm_ln_inv (show mm_ln len 3 (mm_li o n (pc + 3) ls st μ) = some x from h)
    clear h
    obtain ⟨rfl, h⟩ := h2
    unfold mm_li at h
    split at h
    · rename_i v _ hv
      exact o_push (v := .inl v) (d := pc + 3) (fun H locs A rest k => lv_ldcw G.1 G.2.1 hown (hts _ (mm_kt_ok hv)) hd k) trivial h hx
    · cases h
  | ldc2_w n =>
    have h2 := mm_ln_inv (show mm_ln len 3 (mm_ll2 o n (pc + 3) ls st μ) = some x from h)
    clear h
    obtain ⟨rfl, h⟩ := h2
    unfold mm_ll2 at h
    split at h
    · rename_i v _ hv
      exact o_push (v := .inr (.inr v)) (d := pc + 3) (fun H locs A rest k => lv_ldc2 G.1 G.2.1 hown (hts _ (mm_lt_ok hv)) hd k) trivial h hx
    · cases h
  | iload_n n =>
    have h2 := mm_ln_inv (show mm_ln len 1 (mm_ild (pc + 1) n ls st μ) = some x from h)
    clear h
    obtain ⟨rfl, h⟩ := h2
    exact o_ild (fun H locs A v rest hv k => lv_iload_n G.1 G.2.1 hd rfl hv k) h hx
  | iload n =>
    have h2 := mm_ln_inv (show mm_ln len 2 (mm_ild (pc + 2) n ls st μ) = some x from h)
    clear h
    obtain ⟨rfl, h⟩ := h2
    exact o_ild (fun H locs A v rest hv k => lv_iload G.1 G.2.1 hd hv k) h hx
  | lload_n n =>
    have h2 := mm_ln_inv (show mm_ln len 1 (mm_lld (pc + 1) n ls st μ) = some x from h)
    clear h
    obtain ⟨rfl, h⟩ := h2
    exact o_lld (fun H locs A v rest hv k => lv_lload_n G.1 G.2.1 hd rfl hv k) h hx
  | lload n =>
    have h2 := mm_ln_inv (show mm_ln len 2 (mm_lld (pc + 2) n ls st μ) = some x from h)
    clear h
    obtain ⟨rfl, h⟩ := h2
    exact o_lld (fun H locs A v rest hv k => lv_lload G.1 G.2.1 hd hv k) h hx
  | aload_n n =>
    have h2 := mm_ln_inv (show mm_ln len 1 (mm_ald (pc + 1) n ls st μ) = some x from h)
    clear h
    obtain ⟨rfl, h⟩ := h2
    exact o_ald (fun H locs A v rest hv k => lv_aload_n G.1 G.2.1 hd rfl hv k) h hx
  | istore_n n =>
    have h2 := mm_ln_inv (show mm_ln len 1 (mm_ist rt (pc + 1) n ls st μ) = some x from h)
    clear h
    obtain ⟨rfl, h⟩ := h2
    exact o_ist G (fun H locs A v lv rest hl hn k => lv_istore_n G.1 G.2.1 hd rfl hl hn rfl k) h hx
  | istore n =>
    have h2 := mm_ln_inv (show mm_ln len 2 (mm_ist rt (pc + 2) n ls st μ) = some x from h)
    clear h
    obtain ⟨rfl, h⟩ := h2
    exact o_ist G (fun H locs A v lv rest hl hn k => lv_istore G.1 G.2.1 hd hl hn rfl k) h hx
  | iinc k n =>
    have h2 := mm_ln_inv (show mm_ln len 3 (mm_inc rt (pc + 3) k n ls st μ) = some x from h)
    clear h
    obtain ⟨rfl, h⟩ := h2
    obtain ⟨v, hv, h3, rfl⟩ := mm_inc_inv h
    intro H locs A hP hS hL hok
    have hi : k < ls.length := (List.getElem?_eq_some_iff.mp hv).1
    obtain ⟨a, ha⟩ := List.getElem?_of_mem (mm_lv_some (ad := ad) hv (fun ⟨j, hj⟩ => by cases hj))
    exact lv_iinc G.1 G.2.1 hd (mm_L_has hL) ha rfl (by rw [← hL.2.2.1]; exact hi) rfl (fun A' hA' => hx H locs A' hP hS (mm_L_set hL hi h3 hA') hok)
  | iadd =>
    have h2 := mm_ln_inv (show mm_ln len 1 (mm_b2 (fun a b => some (a + b)) (pc + 1) ls st μ) = some x from h)
    clear h
    obtain ⟨rfl, h⟩ := h2
    exact o_b2 (fun H locs A a b v rest hf k => by cases hf; exact lv_iadd G.1 G.2.1 hd k) h hx
  | isub =>
    have h2 := mm_ln_inv (show mm_ln len 1 (mm_b2 (fun a b => some (a - b)) (pc + 1) ls st μ) = some x from h)
    clear h
    obtain ⟨rfl, h⟩ := h2
    exact o_b2 (fun H locs A a b v rest hf k => by cases hf; exact lv_isub G.1 G.2.1 hd k) h hx
  | imul =>
    have h2 := mm_ln_inv (show mm_ln len 1 (mm_b2 (fun a b => some (a * b)) (pc + 1) ls st μ) = some x from h)
    clear h
    obtain ⟨rfl, h⟩ := h2
    exact o_b2 (fun H locs A a b v rest hf k => by cases hf; exact lv_imul G.1 G.2.1 hd k) h hx
  | ixor =>
    have h2 := mm_ln_inv (show mm_ln len 1 (mm_b2 (fun a b => some (a ^^^ b)) (pc + 1) ls st μ) = some x from h)
    clear h
    obtain ⟨rfl, h⟩ := h2
    exact o_b2 (fun H locs A a b v rest hf k => by cases hf; exact lv_ixor G.1 G.2.1 hd k) h hx
  | idiv =>
    have h2 := mm_ln_inv (show mm_ln len 1 (mm_b2 (fun a b => if b = 0 then none else some (a / b)) (pc + 1) ls st μ) = some x from h)
    clear h
    obtain ⟨rfl, h⟩ := h2
    exact o_b2 (fun H locs A a b v rest hf k => by
      by_cases hb : b = 0
      · simp [hb] at hf
      · simp [hb] at hf; subst hf; exact lv_idiv G.1 G.2.1 hd hb k) h hx
  | irem =>
    have h2 := mm_ln_inv (show mm_ln len 1 (mm_b2 (fun a b => if b = 0 then none else some (a - a / b * b)) (pc + 1) ls st μ) = some x from h)
    clear h
    obtain ⟨rfl, h⟩ := h2
    exact o_b2 (fun H locs A a b v rest hf k => by
      by_cases hb : b = 0
      · simp [hb] at hf
      · rw [if_neg hb] at hf; cases hf; exact lv_irem G.1 G.2.1 hd hb k) h hx
  | ladd =>
    have h2 := mm_ln_inv (show mm_ln len 1 (mm_l2 (fun a b => some (.inr (.inr (a + b)))) (pc + 1) ls st μ) = some x from h)
    clear h
    obtain ⟨rfl, h⟩ := h2
    exact o_l2 (fun H locs A a b v rest hf => by cases hf; exact ⟨trivial, fun k => lv_ladd G.1 G.2.1 hd k⟩) h hx
  | lmul =>
    have h2 := mm_ln_inv (show mm_ln len 1 (mm_l2 (fun a b => some (.inr (.inr (a * b)))) (pc + 1) ls st μ) = some x from h)
    clear h
    obtain ⟨rfl, h⟩ := h2
    exact o_l2 (fun H locs A a b v rest hf => by cases hf; exact ⟨trivial, fun k => lv_lmul G.1 G.2.1 hd k⟩) h hx
  | lrem =>
    have h2 := mm_ln_inv (show mm_ln len 1 (mm_l2 (fun a b => if b = 0 then none else some (.inr (.inr (a - a / b * b)))) (pc + 1) ls st μ) = some x from h)
    clear h
    obtain ⟨rfl, h⟩ := h2
    exact o_l2 (fun H locs A a b v rest hf => by
      by_cases hb : b = 0
      · simp [hb] at hf
      · rw [if_neg hb] at hf; cases hf; exact ⟨trivial, fun k => lv_lrem G.1 G.2.1 hd hb k⟩) h hx
  | lcmp =>
    have h2 := mm_ln_inv (show mm_ln len 1 (mm_l2 (fun a b => some (.inl (lg_cmp a b))) (pc + 1) ls st μ) = some x from h)
    clear h
    obtain ⟨rfl, h⟩ := h2
    exact o_l2 (fun H locs A a b v rest hf => by cases hf; exact ⟨trivial, fun k => W.lcmp G.1 G.2.1 hd k⟩) h hx
  | i2l =>
    have h2 := mm_ln_inv (show mm_ln len 1 (mm_i2l (pc + 1) ls st μ) = some x from h)
    clear h
    obtain ⟨rfl, h⟩ := h2
    unfold mm_i2l at h
    split at h
    · cases h
      intro H locs A hP hS hL hok
      exact lv_i2l G.1 G.2.1 hd rfl (hx H locs A hP hS hL (mm_oki trivial (mm_okc hok).2))
    · cases h
  | l2i =>
    have h2 := mm_ln_inv (show mm_ln len 1 (mm_l2i (pc + 1) ls st μ) = some x from h)
    clear h
    obtain ⟨rfl, h⟩ := h2
    unfold mm_l2i at h
    split at h
    · cases h
      intro H locs A hP hS hL hok
      exact lv_l2i G.1 G.2.1 hd rfl (hx H locs A hP hS hL (mm_oki trivial (mm_okc hok).2))
    · cases h
  | dup =>
    have h2 := mm_ln_inv (show mm_ln len 1 (mm_dup (pc + 1) ls st μ) = some x from h)
    clear h
    obtain ⟨rfl, h⟩ := h2
    unfold mm_dup at h
    split at h
    · split at h
      · rename_i hc
        cases h
        intro H locs A hP hS hL hok
        exact lv_dup G.1 G.2.1 hd (by rw [mm_tv_cat]; exact hc) (hx H locs A hP hS hL (mm_oki (mm_okc hok).1 hok))
      · cases h
    · cases h
  | pop =>
    have h2 := mm_ln_inv (show mm_ln len 1 (mm_pop (pc + 1) ls st μ) = some x from h)
    clear h
    obtain ⟨rfl, h⟩ := h2
    unfold mm_pop at h
    split at h
    · split at h
      · rename_i hc
        cases h
        intro H locs A hP hS hL hok
        exact lv_pop G.1 G.2.1 hd (by rw [mm_tv_cat]; exact hc) (hx H locs A hP hS hL (mm_okc hok).2)
      · cases h
    · cases h
  | dup_x1 =>
    have h2 := mm_ln_inv (show mm_ln len 1 (mm_dx1 (pc + 1) ls st μ) = some x from h)
    clear h
    obtain ⟨rfl, h⟩ := h2
    unfold mm_dx1 at h
    split at h
    · split at h
      · rename_i hc
        cases h
        intro H locs A hP hS hL hok
        exact lv_dup_x1 G.1 G.2.1 hd (by rw [mm_tv_cat]; exact hc.1) (by rw [mm_tv_cat]; exact hc.2) (hx H locs A hP hS hL (mm_oki (mm_okc hok).1 (mm_oki (mm_okc (mm_okc hok).2).1 (mm_oki (mm_okc hok).1 (mm_okc (mm_okc hok).2).2))))
      · cases h
    · cases h
  | dup2 =>
    have h2 := mm_ln_inv (show mm_ln len 1 (mm_dp2 (pc + 1) ls st μ) = some x from h)
    clear h
    obtain ⟨rfl, h⟩ := h2
    unfold mm_dp2 at h
    split at h
    · split at h
      · rename_i hc
        cases h
        intro H locs A hP hS hL hok
        exact lv_dup2_11 G.1 G.2.1 hd (by rw [mm_tv_cat]; exact hc.1) (by rw [mm_tv_cat]; exact hc.2) (hx H locs A hP hS hL (mm_oki (mm_okc hok).1 (mm_oki (mm_okc (mm_okc hok).2).1 hok)))
      · cases h
    · cases h
  | ifCond cd off =>
    have h2 := mm_ln_inv (show mm_ln len 3 (mm_if cd pc off ls st μ) = some x from h)
    clear h
    obtain ⟨rfl, h⟩ := h2
    unfold mm_if at h
    split at h
    · rename_i v st'
      refine o_br (top := [.int v]) rfl (fun H locs A rest => ?_) (fun w hw => List.mem_cons_of_mem _ hw) h hx
      cases cd with
      | eq => exact fun tgt ht kt kf => lv_if_eq G.1 G.2.1 hd ht (fun q => kt (decide_eq_true q)) (fun q => kf (decide_eq_false q))
      | ne => exact fun tgt ht kt kf => lv_if_ne G.1 G.2.1 hd ht (fun q => kt (decide_eq_true q)) (fun q => kf (decide_eq_false (fun h => h q)))
      | lt => exact fun tgt ht kt kf => lv_if_lt G.1 G.2.1 hd ht (fun q => kt (decide_eq_true q)) (fun q => kf (decide_eq_false q))
      | ge => exact fun tgt ht kt kf => lv_if_ge G.1 G.2.1 hd ht (fun q => kt (decide_eq_true q)) (fun q => kf (decide_eq_false q))
      | gt => exact fun tgt ht kt kf => lv_if_gt G.1 G.2.1 hd ht (fun q => kt (decide_eq_true q)) (fun q => kf (decide_eq_false q))
      | le => exact fun tgt ht kt kf => lv_if_le G.1 G.2.1 hd ht (fun q => kt (decide_eq_true q)) (fun q => kf (decide_eq_false q))
    · cases h
  | if_icmp cd off =>
    have h2 := mm_ln_inv (show mm_ln len 3 (mm_ic cd pc off ls st μ) = some x from h)
    clear h
    obtain ⟨rfl, h⟩ := h2
    unfold mm_ic at h
    split at h
    · rename_i w v st'
      refine o_br (top := [.int w, .int v]) rfl (fun H locs A rest => ?_) (fun w hw => List.mem_cons_of_mem _ (List.mem_cons_of_mem _ hw)) h hx
      cases cd with
      | eq => exact fun tgt ht kt kf => lv_icmp_eq G.1 G.2.1 hd ht (fun q => kt (decide_eq_true q)) (fun q => kf (decide_eq_false q))
      | ne => exact fun tgt ht kt kf => lv_icmp_ne G.1 G.2.1 hd ht (fun q => kt (decide_eq_true q)) (fun q => kf (decide_eq_false (fun h => h q)))
      | lt => exact fun tgt ht kt kf => lv_icmp_lt G.1 G.2.1 hd ht (fun q => kt (decide_eq_true q)) (fun q => kf (decide_eq_false q))
      | ge => exact fun tgt ht kt kf => lv_icmp_ge G.1 G.2.1 hd ht (fun q => kt (decide_eq_true q)) (fun q => kf (decide_eq_false q))
      | gt => exact fun tgt ht kt kf => lv_icmp_gt G.1 G.2.1 hd ht (fun q => kt (decide_eq_true q)) (fun q => kf (decide_eq_false q))
      | le => exact fun tgt ht kt kf => lv_icmp_le G.1 G.2.1 hd ht (fun q => kt (decide_eq_true q)) (fun q => kf (decide_eq_false q))
    · cases h
  | goto off =>
    have h2 := mm_ln_inv (show mm_ln len 3 (mm_jp pc off ls st μ) = some x from h)
    clear h
    obtain ⟨rfl, h⟩ := h2
    obtain ⟨tgt, ht, rfl⟩ := mm_jp_inv h
    intro H locs A hP hS hL hok
    exact lv_goto G.1 G.2.1 hd ht (hx H locs A hP hS hL hok)
  | tableswitch d lo hi offs =>
    have h : mm_sw pc d lo hi offs ls st μ = some x := h
    unfold mm_sw at h
    split at h
    · split at h
      · rename_i hc
        obtain ⟨tgt, ht, rfl⟩ := mm_jp_inv h
        intro H locs A hP hS hL hok
        exact lv_tableOut G.1 G.2.1 hd hc ht (hx H locs A hP hS hL (mm_okc hok).2)
      · rename_i hc
        split at h
        · rename_i off hoff
          obtain ⟨tgt, ht, rfl⟩ := mm_jp_inv h
          intro H locs A hP hS hL hok
          exact lv_tableIn G.1 G.2.1 hd (fun q => hc (Or.inl q)) (fun q => hc (Or.inr q)) hoff ht (hx H locs A hP hS hL (mm_okc hok).2)
        · cases h
    · cases h
  | getfield n =>
    have h2 := mm_ln_inv (show mm_ln len 3 (mm_gf o n (pc + 3) ls st μ) = some x from h)
    clear h
    obtain ⟨rfl, h⟩ := h2
    exact o_getfield G hd h hx
  | putfield n =>
    have h2 := mm_ln_inv (show mm_ln len 3 (mm_pf o n (pc + 3) ls st μ) = some x from h)
    clear h
    obtain ⟨rfl, h⟩ := h2
    exact o_putfield G hd h hx
  | iaload =>
    have h2 := mm_ln_inv (show mm_ln len 1 (mm_al 0 (pc + 1) ls st μ) = some x from h)
    clear h
    obtain ⟨rfl, h⟩ := h2
    exact o_iaload G hd h hx
  | baload =>
    have h2 := mm_ln_inv (show mm_ln len 1 (mm_al 1 (pc + 1) ls st μ) = some x from h)
    clear h
    obtain ⟨rfl, h⟩ := h2
    exact o_baload G hd h hx
  | iastore =>
    have h2 := mm_ln_inv (show mm_ln len 1 (mm_sl 0 (pc + 1) ls st μ) = some x from h)
    clear h
    obtain ⟨rfl, h⟩ := h2
    exact o_iastore G hd h hx
  | bastore =>
    have h2 := mm_ln_inv (show mm_ln len 1 (mm_sl 1 (pc + 1) ls st μ) = some x from h)
    clear h
    obtain ⟨rfl, h⟩ := h2
    exact o_bastore G hd h hx
  | aaload =>
    have h2 := mm_ln_inv (show mm_ln len 1 (mm_aa (pc + 1) ls st μ) = some x from h)
    clear h
    obtain ⟨rfl, h⟩ := h2
    exact o_aaload G hd h hx
  | invokevirtual n =>
    have h2 := mm_ln_inv (show mm_ln len 3 (mm_cv E o n (pc + 3) ls st μ) = some x from h)
    clear h
    obtain ⟨rfl, h⟩ := h2
    exact o_invokevirtual G hE hd h hx
  | invokestatic n =>
    have h2 := mm_ln_inv (show mm_ln len 3 (mm_cs E o n (pc + 3) ls st μ) = some x from h)
    clear h
    obtain ⟨rfl, h⟩ := h2
    exact o_invokestatic G hE hd h hx
  | ireturn =>
    have h2 := mm_ln_inv (show mm_ln len 1 (mm_ir rt st μ) = some x from h)
    clear h
    obtain ⟨rfl, h⟩ := h2
    unfold mm_ir at h
    split at h
    · rename_i v
      split at h
      · rename_i hr
        cases h
        have hx : Q = MQ below (mm_Q ad D cy z rt v μ) args s 0 0 (fun q => z ≤ q) := hx
        subst hx
        have h0 : ¬ rt = 0 := by omega
        intro H locs A hP hS hL hok
        have hq : ∀ t : State, t.heap = H → s.WarmedH t.vm → mm_Q ad D cy z rt v μ args s (.returned (some (.int v))) t := by
          intro t ht _
          unfold mm_Q
          rw [if_neg h0]
          exact ⟨⟨v, (), rfl, rfl, by show va_P D vwCl (mm_wl ad cy μ) t.heap; rw [ht]; exact hP⟩, hS.F ht⟩
        have hret := G.2.2.2.2.2.2.2.2.2.2.1
        rcases hr with h1 | ⟨h23, hv⟩
        · subst h1
          exact W.iret (v := v) G.1 G.2.1 hret hq hS.2.2 hd G.2.2.2.2.2.2.2.2.2.2.2
        · have hret2 : meth.sig.returnType = some .boolean := by
            rcases h23 with rfl | rfl <;> exact hret
          exact W.zret (v := v) G.1 G.2.1 hret2 (by rcases hv with rfl | rfl <;> decide) hq hS.2.2 hd G.2.2.2.2.2.2.2.2.2.2.2
      · cases h
    · cases h
  | return_ =>
    have h2 := mm_ln_inv (show mm_ln len 1 (mm_vr rt st μ) = some x from h)
    clear h
    obtain ⟨rfl, h⟩ := h2
    unfold mm_vr at h
    split at h
    · split at h
      · rename_i hr
        cases h
        have hx : Q = MQ below (mm_Q ad D cy z rt 0 μ) args s 0 0 (fun q => z ≤ q) := hx
        subst hx
        subst hr
        intro H locs A hP hS hL hok
        have hq : ∀ t : State, t.heap = H → s.WarmedH t.vm → mm_Q ad D cy z 0 0 μ args s (.returned none) t := by
          intro t ht _
          unfold mm_Q
          rw [if_pos rfl]
          exact ⟨⟨(), rfl, trivial, by show va_P D vwCl (mm_wl ad cy μ) t.heap; rw [ht]; exact hP⟩, hS.F ht⟩
        exact W.vret G.1 G.2.1 G.2.2.2.2.2.2.2.2.2.2.1 hq hS.2.2 hd G.2.2.2.2.2.2.2.2.2.2.2
      · cases h
    · cases h
  | _ => exact nomatch (show (none : mS) = some x from h)
theorem mm_sound (G : mm_G p R s m args meth c cc nL o rt ad D cy z) (hE : mm_EOK l R ad D cy z E) {r : Int32} {μ' : mM} : ∀ (n : Nat) (x : mC), mm_it E o rt cc n x = some (r, μ') → mm_V p l e R s m args below meth c ad D cy z rt nL (MQ below (mm_Q ad D cy z rt r μ') args s 0 0 (fun q => z ≤ q)) x
  | 0, _, h => by simp [mm_it] at h
  | n + 1, (pc, ls, st, μ), h => by
    rw [mm_it] at h
    cases hs : mm_sp E o rt cc (pc, ls, st, μ) with
    | none => rw [hs] at h; cases h
    | some q =>
      rw [hs] at h
      unfold mm_sp at hs
      cases hd : decode cc pc with
      | error _ => simp only [hd] at hs; cases hs
      | ok il =>
        obtain ⟨i, len⟩ := il
        simp only [hd] at hs
        refine mm_one G hE hd hs ?_
        cases q with
        | inl c' => exact mm_sound G hE n c' h
        | inr q => cases h; rfl
end ONE
theorem mm_ofW {l : Launch} {y : MethodName} {ws ws' : List Cond} {rm : Room} {Pc : Array Value → State → Prop} {Qc : Array Value → State → Outcome → State → Prop} {mc ms : Nat} {free : Addr → Prop} {cc : ByteArray} {maxL : Nat} {ret : Option FieldType}
    (hy : plainFor y = true) (hw : ws = Cond.code y cc maxL ret :: ws')
    (body : ∀ p e s m args below meth c s₁, BodyLoose p l y (headSpec ws rm) cc maxL ret e s m args below meth c s₁ → c.maxLocals = maxL → Pc args s →
      W p l e (headSpec ws rm).room s m args below meth c s.heap [] 0 0 (MQ below Qc args s mc ms free) (entryFrame m args maxL)) : Met l y ws rm Pc Qc mc ms free := by
  refine MetFree.of_bodySF (code := cc) (maxLocals := maxL) (ret := ret) hy ?_ ?_
  · intro args s m h hn
    obtain ⟨meth, c, h1, h2, h3, h4, h5, h6, -, -⟩ := Cond.code_spec hn (atoms_spec (ws := ws) h _ (by rw [hw]; exact List.mem_cons_self))
    exact ⟨meth, c, h1, h2, h3, h4, h5, h6⟩
  · intro p e s m args below meth c s₁ B hml hP _
    have hh0 : s₁.heap = s.heap := by rw [B.state]; rfl
    obtain ⟨t, a1, o, b1, b2, b3⟩ := body p e s m args below meth c s₁ B hml hP s₁ hh0 (Stand.of_body B)
    exact ⟨t, o, a1, b1, b2, ⟨b3.1, b3.2⟩⟩
theorem mm_xp_len (ad : Nat → Nat → Nat) : ∀ as : List mV, (lg_sl (as.map (mm_tv ad))).length = (mm_xp as).length
  | [] => rfl
  | .inl x :: as => by
    have h := mm_xp_len ad as
    simp only [lg_sl, List.map_cons, List.flatMap_cons, List.length_append] at h ⊢
    rw [h]
    simp [mm_xp, mm_tv, Value.category]
    omega
  | .inr (.inl x) :: as => by
    have h := mm_xp_len ad as
    simp only [lg_sl, List.map_cons, List.flatMap_cons, List.length_append] at h ⊢
    rw [h]
    simp [mm_xp, mm_tv, Value.category]
    omega
  | .inr (.inr x) :: as => by
    have h := mm_xp_len ad as
    simp only [lg_sl, List.map_cons, List.flatMap_cons, List.length_append] at h ⊢
    rw [h]
    simp [mm_xp, mm_tv, Value.category]
    omega
theorem mm_xp_at (ad : Nat → Nat → Nat) : ∀ (as : List mV) (k i : Nat) (v : mV), (mm_xp as)[i]? = some v → (∃ j, v = .inr (.inl (99, j))) ∨ (v ∈ as ∧ (k + i, mm_tv ad v) ∈ lv_args k (as.map (mm_tv ad)))
  | [], _, i, v, h => by simp [mm_xp] at h
  | .inl x :: as, k, i, v, h => by
    cases i with
    | zero => cases h; exact Or.inr ⟨List.mem_cons_self, List.mem_cons_self⟩
    | succ i =>
      rcases mm_xp_at ad as (k + 1) i v h with h1 | ⟨h1, h2⟩
      · exact Or.inl h1
      · exact Or.inr ⟨List.mem_cons_of_mem _ h1, List.mem_cons_of_mem _ (by rw [show k + (i + 1) = k + 1 + i by omega]; exact h2)⟩
  | .inr (.inl x) :: as, k, i, v, h => by
    cases i with
    | zero => cases h; exact Or.inr ⟨List.mem_cons_self, List.mem_cons_self⟩
    | succ i =>
      rcases mm_xp_at ad as (k + 1) i v h with h1 | ⟨h1, h2⟩
      · exact Or.inl h1
      · exact Or.inr ⟨List.mem_cons_of_mem _ h1, List.mem_cons_of_mem _ (by rw [show k + (i + 1) = k + 1 + i by omega]; exact h2)⟩
  | .inr (.inr x) :: as, k, i, v, h => by
    match i, h with
    | 0, h => cases h; exact Or.inr ⟨List.mem_cons_self, List.mem_cons_self⟩
    | 1, h => cases h; exact Or.inl ⟨0, rfl⟩
    | i + 2, h =>
      rcases mm_xp_at ad as (k + 2) i v h with h1 | ⟨h1, h2⟩
      · exact Or.inl h1
      · exact Or.inr ⟨List.mem_cons_of_mem _ h1, List.mem_cons_of_mem _ (by rw [show k + (i + 2) = k + 2 + i by omega]; exact h2)⟩
theorem mm_xp_c1 : ∀ as : List mV, mm_c1s as = true → ∀ v ∈ mm_xp as, mm_cat v = 1
  | [], _, v, h => by simp [mm_xp] at h
  | w :: as, hc, v, h => by
    simp only [mm_c1s, Bool.and_eq_true, beq_iff_eq] at hc
    have e : mm_xp (w :: as) = w :: mm_xp as := by
      rcases w with x | x | x
      · rfl
      · rfl
      · simp [mm_cat] at hc
    rw [e] at h
    rcases List.mem_cons.mp h with rfl | h
    · exact hc.1
    · exact mm_xp_c1 as hc.2 v h
theorem mm_en_L {ad : Nat → Nat → Nat} {rt nL : Nat} {as : List mV} (hl : (mm_xp as).length ≤ nL) (hc : rt = 3 ∨ mm_c1s as = true) (hok : ∀ v ∈ as, mm_ok v) :
    mm_L ad rt nL ((lg_sl (as.map (mm_tv ad)) ++ List.replicate (nL - (lg_sl (as.map (mm_tv ad))).length) Slot.unset).toArray) (mm_en nL as) := by
  have hh := lv_entry (as.map (mm_tv ad)) (n := nL) (by rw [mm_xp_len]; exact hl)
  refine ⟨hh.1, hh.2.1, by simp [mm_en]; omega, fun h3 v hv => ?_, fun i v hv => ?_⟩
  · rcases List.mem_append.mp hv with h | h
    · exact mm_xp_c1 as (hc.resolve_left h3) v h
    · rw [(List.mem_replicate.mp h).2]; rfl
  · unfold mm_en at hv
    by_cases hi : i < (mm_xp as).length
    · rw [List.getElem?_append_left hi] at hv
      rcases mm_xp_at ad as 0 i v hv with h1 | ⟨h1, h2⟩
      · exact Or.inl h1
      · rw [Nat.zero_add] at h2
        exact Or.inr ⟨hok v h1, hh.2.2 _ h2⟩
    · rw [List.getElem?_append_right (by omega)] at hv
      have := List.mem_of_getElem? hv
      rw [(List.mem_replicate.mp this).2]
      exact Or.inl ⟨0, rfl⟩
/-- a method's function is its method -/
theorem mm_fn_ok (l : Launch) (id o : Nat) (E : mE) (hid : id < 143) (hrn : mm_rn o = (mm_yn id).cls) (hh : 1 ≤ (mm_qn id).2.2.1)
    (hE : ∀ (k : Nat) (as : List mV) (μ : mM) (q : mR), E k as μ = some q → mm_OK l k (E k) ∧ (mm_qn k).2.2.1 + 1 ≤ (mm_qn id).2.2.1 ∧ 8 + ((mm_qn k).1 + 11) + 40 * (mm_qn k).2.2.1 ≤ 40 * (mm_qn id).2.2.1 ∧ k < 143) :
    mm_OK l id (mm_fn E o (mm_qn id).2.1 (mm_qn id).1 (mm_cn id)) := by
  intro ad D cy z as μ r μ' hf hok had
  unfold mm_fn at hf
  split at hf
  · rename_i hc
    obtain ⟨n, hn⟩ := mm_run_it.mp hf
    refine mm_ofW (cc := mm_cn id) (maxL := (mm_qn id).1) (ret := mm_rf (mm_qn id).2.1) (mm_code_in id hid).2.2.2.2.2 rfl ?_
    intro p e s m args below meth c s₁ B hml hv
    obtain ⟨rfl, hK, hN, hP⟩ := hv
    have hts := atoms_spec (ws := mm_wd id) B.pre
    have hown : s.vm.findClass (mm_rn o) = some m.cls := by rw [hrn]; exact findClass_of_methodNamed B.named
    have G : mm_G p (mm_rm id) s m ((as.map (mm_tv ad)).toArray) meth c (mm_cn id) (mm_qn id).1 o (mm_qn id).2.1 ad D cy z :=
      ⟨B.exec, B.bytes, hml, hown, fun w hw => hts w (List.mem_cons_of_mem _ hw), hK, hN, had, hh, by show 40 ≤ 40 * _; omega, B.returns, B.notSynchronized⟩
    have hE2 : mm_EOK l (mm_rm id) ad D cy z E := by
      intro k as2 μ2 r2 μ2' hk hok2
      obtain ⟨h1, h2, h3, h4⟩ := hE k as2 μ2 _ hk
      exact ⟨h1 ad D cy z as2 μ2 r2 μ2' hk hok2 had, h2, h3, h4⟩
    rw [lg_entry_eq]
    exact mm_sound G hE2 n _ hn s.heap [] _ hP va_S.rf (mm_en_L hc.1 hc.2 hok) (fun v hv => by cases hv)
  · cases hf
