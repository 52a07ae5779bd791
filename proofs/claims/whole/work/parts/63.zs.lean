/-! the second small machine is sound -/
def zB (b : Nat) (D : va_G) (cy : Nat → ClassId) (cs : List zD) : State → Prop := fun U => va_K D vwCl (mm_ty cy) U ∧ (∀ w ∈ mm_nw, va_Nw w U) ∧ zm_ao U ∧ va_P D vwCl (zW b cy cs) U.heap ∧ U.heap.size = b + cs.length
def zQ (b : Nat) (D : va_G) (cy : Nat → ClassId) (cs : List zD) : Array Value → State → Outcome → State → Prop := va_Qv (fun _ : Unit => True) (fun _ t => va_P D vwCl (zW b cy cs) t.heap ∧ t.heap.size = b + cs.length) (fun q => b ≤ q)
def zm_wd (c : Nat) : List Cond := .code (zm_y c) (zm_c c) (zm_q c).2.2.2 none :: mm_gt
def zm_rm (c : Nat) : Room := { frames := (zm_q c).1, cells := (zm_q c).2.1, slots := (zm_q c).2.2.1, locals := 40 * (zm_q c).1 }
def zm_met (l : Launch) (b : Nat) (D : va_G) (cy : Nat → ClassId) (c this : Nat) (cs cs' : List zD) : Prop := Met l (zm_y c) (zm_wd c) (zm_rm c) (va_Pc [.ref (b + this)] (zB b D cy cs)) (zQ b D cy cs') (zm_q c).2.1 (zm_q c).2.2.1 (fun q => b ≤ q)
def zm_OK (l : Launch) (c : Nat) (f : Nat → List zD → Option (List zD)) : Prop := ∀ (b : Nat) (D : va_G) (cy : Nat → ClassId) (this : Nat) (cs cs' : List zD), f this cs = some cs' → zm_met l b D cy c this cs cs'
theorem zB_blind (av : List Value) {b : Nat} {D : va_G} {cy : Nat → ClassId} {cs : List zD} : FrameBlind (va_Pc av (zB b D cy cs)) := by
  intro a U g mk q
  obtain ⟨q0, qK, qN, qO, qP, qz⟩ := q
  exact ⟨q0, va_K.moved (u := U) (U := U.calling g mk a) (Vm.Alike.refl U.vm) qK, mm_nw_same (u := U) (U := U.calling g mk a) rfl qN, zm_ao.moved (u := U) (U := U.calling g mk a) (Vm.Alike.refl U.vm) qO, qP, qz⟩
theorem zm_good {c : Nat} (hc : c < 9) : GoodIn mm_gt (zm_wd c) := by
  have h : ∀ w ∈ zm_wd c, w ∈ mm_gt := by
    intro w hw
    rcases List.mem_cons.mp hw with rfl | h
    · exact (zm_cl_ok c hc).2.1
    · exact h
  exact fun w hw => ⟨h w hw, good_of_word (List.mem_filter.mp (h w hw)).2⟩
theorem zv_cat (b : Nat) (st : List zX) : ((st.map (zv b)).map fun v => v.category).sum = st.length := by
  induction st with
  | nil => rfl
  | cons v st ih =>
    have hv : (zv b v).category = 1 := by cases v <;> rfl
    simp only [List.map_cons, List.sum_cons, List.length_cons, ih, hv]
    omega
section ZS
variable {p : Program} {l : Launch} {e : Env} {R : Room} {s : State} {m : MethodId} {args : Array Value} {below : List Frame} {meth : Method} {c : Code} {H : Heap} {locs : List Loc} {Q : State → Prop} {cc : ByteArray} {pc : Nat} {ls : Array Slot} {D : va_G} {b : Nat} {cy : Nat → ClassId} {cs cs' : List zD} {k n nL : Nat} {own : String}
/-- a call of a constructor -/
theorem zr_call {index c' a : Nat} {rest : List Value} (hexec : p.tables.exec = Jvm.exec) (hb : c.code = cc) (hml : c.maxLocals = nL) (hlsz : ls.size = nL) (hts : ∀ w ∈ mm_gt, w.before args s = true) (hown : s.vm.findClass own = some m.cls) (hK : va_K D vwCl (mm_ty cy) s) (hN : ∀ w ∈ mm_nw, va_Nw w s) (hao : zm_ao s) (hP : va_P D vwCl (zW b cy cs) H) (hS : va_S (fun q => b ≤ q) s.heap H locs) (hz : b + cs.length = s.heap.size + k) (hb0 : b ≤ s.heap.size) (hc : c' < 9) (hM : zm_met l b D cy c' a cs cs') (hfr : (zm_q c').1 + 1 ≤ R.frames) (hlo : 8 + ((zm_q c').2.2.2 + 11) + 40 * (zm_q c').1 ≤ R.locals)
    (hlink : (Cond.methodLink own index (zm_y c')).before args s = true ∨ va_Nw (.methodLinkNest own index (zm_y c') RX7) s) (hrest : (rest.map fun v => v.category).sum ≤ 8) (hcells : k + (zm_q c').2.1 ≤ R.cells) (hslots : n + (zm_q c').2.2.1 ≤ R.slots) (hdg : decode cc pc = .ok (.invokespecial index, 3))
    (kk : ∀ (H1 : Heap) (locs1 : List Loc), va_P D vwCl (zW b cy cs') H1 → va_S (fun q => b ≤ q) s.heap H1 locs1 → H1.size = b + cs'.length → W p l e R s m args below meth c H1 locs1 (k + (zm_q c').2.1) (n + (zm_q c').2.2.1) Q (F0 m (pc + 3) ls rest)) : W p l e R s m args below meth c H locs k n Q (F0 m pc ls (.ref (b + a) :: rest)) := by
  refine zr_size (fun hle => ?_)
  have hsz := zr_sz hP hS hz hb0 hle
  obtain ⟨w1, w2, w3, hcls, hnm, hy1, hy2, hpar, -⟩ := zm_cl_ok c' hc
  have hini : (Cond.initialized (zm_y c').cls).before args s = true := by rw [hcls]; exact hts _ w1
  have hpre : PreS s H (va_Pc [.ref (b + a)] (zB b D cy cs)) (.ref (b + a) :: []) := ⟨zB_blind _, fun U hU hW => ⟨rfl, va_K.moved hW.alike hK, mm_nw_warm hW hN, zm_ao.moved hW.alike hao, by rw [hU]; exact hP, by rw [hU]; exact hsz⟩⟩
  have hrun : va_Run p l e R s m args below meth c H locs k n (zm_q c').2.1 (zm_q c').2.2.1 (F0 m pc ls (.ref (b + a) :: rest)) rest (zQ b D cy cs' (Value.ref (b + a) :: []).toArray) (fun q => b ≤ q) := by
    rcases hlink with hlink | hlink
    · exact va_runI (As := []) (nL := nL) ⟨hexec, hb, hml, hown, hts⟩ hM (cwI 0 hts (zm_good hc) rfl rfl rfl hini hlink (hts _ w3) hnm ⟨hy1, hy2, hpar⟩ ⟨hfr, hlo⟩) hpre rfl rfl hlsz rfl (lv_room hrest) hdg ⟨hcells, hslots⟩
    · exact va_runIN (As := []) (nL := nL) (Ts := mm_gt) ⟨hexec, hb, hml, hown, hts⟩ hM ⟨va_cnB 0 hts (zm_good hc) rfl rfl rfl hlink hini ⟨hy1, hy2, hpar⟩ ⟨hfr, hlo⟩, hnm, hts _ w3⟩ hpre rfl rfl hlsz rfl (lv_room hrest) hdg ⟨hcells, hslots⟩
  refine va_callv hrun hS (fun q _ h => h) (fun q h => h) (fun u t H1 locs1 ht hvm hw hB hz1 hk1 hS1 => ?_)
  obtain ⟨hB1, hB2⟩ := hB
  rw [ht] at hB1 hB2
  exact kk H1 locs1 hB1 hS1 hB2
def zL (b this nL : Nat) (i : Option Int32) (ls : Array Slot) : Prop := lv_has ls nL ((0, .ref (b + this)) :: (match i with
  | some x => [(1, .int x)]
  | none => []))
def zm_V (p : Program) (l : Launch) (e : Env) (R : Room) (s : State) (m : MethodId) (args : Array Value) (below : List Frame) (meth : Method) (c : Code) (b : Nat) (D : va_G) (cy : Nat → ClassId) (this nL : Nat) (Q : State → Prop) (x : zC) : Prop :=
  ∀ (H : Heap) (locs : List Loc) (ls : Array Slot), va_P D vwCl (zW b cy x.2.2.2.1) H → va_S (fun q => b ≤ q) s.heap H locs → zL b this nL x.2.1 ls → b + x.2.2.2.1.length = s.heap.size + x.2.2.2.2.1 → W p l e R s m args below meth c H locs x.2.2.2.2.1 x.2.2.2.2.2 Q (F0 m x.1 ls (x.2.2.1.map (zv b)))
def zm_T (p : Program) (l : Launch) (e : Env) (R : Room) (s : State) (m : MethodId) (args : Array Value) (below : List Frame) (meth : Method) (c : Code) (b : Nat) (D : va_G) (cy : Nat → ClassId) (this nL mc ms : Nat) (Q : State → Prop) : zC ⊕ zF → Prop
  | .inl c' => zm_V p l e R s m args below meth c b D cy this nL Q c'
  | .inr r => Q = MQ below (zQ b D cy r.1) args s mc ms (fun q => b ≤ q)
/-- what stays through a constructor -/
def zm_G (p : Program) (R : Room) (s : State) (m : MethodId) (args : Array Value) (meth : Method) (c : Code) (o nL b : Nat) (D : va_G) (cy : Nat → ClassId) (mc ms : Nat) : Prop :=
  p.tables.exec = Jvm.exec ∧ c.code = zm_c o ∧ c.maxLocals = nL ∧ s.vm.findClass (mm_rn o) = some m.cls ∧ (∀ w ∈ mm_gt, w.before args s = true) ∧ va_K D vwCl (mm_ty cy) s ∧ (∀ w ∈ mm_nw, va_Nw w s) ∧ zm_ao s ∧ b ≤ s.heap.size ∧ 1 ≤ R.frames ∧ 40 ≤ R.locals ∧ R.cells = mc ∧ R.slots = ms ∧ meth.sig.returnType = none ∧ meth.locks = false ∧ meth.name = "<init>" ∧ o < 9
def zm_EOK (l : Launch) (R : Room) (b : Nat) (D : va_G) (cy : Nat → ClassId) (E : zE) : Prop := ∀ (c this : Nat) (cs cs' : List zD), E c this cs = some cs' → zm_met l b D cy c this cs cs' ∧ (zm_q c).1 + 1 ≤ R.frames ∧ 8 + ((zm_q c).2.2.2 + 11) + 40 * (zm_q c).1 ≤ R.locals
variable {o this mc ms : Nat} {i : Option Int32} {st : List zX} {E : zE} {x : zC ⊕ zF}
theorem z_push {v : zX} {d : Nat} (hrow : ∀ (H : Heap) (locs : List Loc) (ls : Array Slot) (rest : List Value), zL b this nL i ls → W p l e R s m args below meth c H locs k n Q (F0 m d ls (zv b v :: rest)) → W p l e R s m args below meth c H locs k n Q (F0 m pc ls rest)) (h : zm_nx d i (v :: st) cs k n = some x) (hx : zm_T p l e R s m args below meth c b D cy this nL mc ms Q x) : zm_V p l e R s m args below meth c b D cy this nL Q (pc, i, st, cs, k, n) := by
  cases h
  intro H locs ls hP hS hL hz
  exact hrow H locs ls _ hL (hx H locs ls hP hS hL hz)
theorem zL_set {x : Int32} {ls' : Array Slot} (h' : lv_has ls' nL ((1, Value.int x) :: ((0, Value.ref (b + this)) :: (match i with
  | some x => [(1, Value.int x)]
  | none => [])).filter (fun q => !(q.1 == 1) && !(q.1 + 1 == 1 && q.2.category == 2)))) : zL b this nL (some x) ls' := by
  have e : ((1, Value.int x) :: ((0, Value.ref (b + this)) :: (match i with
    | some x => [(1, Value.int x)]
    | none => [])).filter (fun q => !(q.1 == 1) && !(q.1 + 1 == 1 && q.2.category == 2))) = [(1, Value.int x), (0, Value.ref (b + this))] := by
    cases i <;> rfl
  rw [e] at h'
  exact lv_sub h' [1, 0] rfl
/-- a step of the second small machine is a step of the machine -/
theorem zm_one (G : zm_G p R s m args meth c o nL b D cy mc ms) (hE : zm_EOK l R b D cy E) {q : mI} {len : Nat} (hd : decode (zm_c o) pc = .ok (q, len)) (h : zm_st E o this nL mc ms pc i st cs k n q len = some x) (hx : zm_T p l e R s m args below meth c b D cy this nL mc ms Q x) : zm_V p l e R s m args below meth c b D cy this nL Q (pc, i, st, cs, k, n) := by
  obtain ⟨hexec, hb, hml, hown, hts, hK, hN, hao, hb0, hfr, hlo, hRc, hRs, hret, hlocks, hname, ho⟩ := G
  cases q with
  | aload_n j =>
    replace h : (if len = 1 ∧ (j : Nat) = 0 then zm_nx (pc + 1) i (.inr this :: st) cs k n else none) = some x := h
    split at h
    · rename_i hc
      obtain ⟨rfl, hj⟩ := hc
      exact z_push (fun H locs ls rest hL kk => lv_aload_n hexec hb hd hj (lv_at hL 0 rfl) kk) h hx
    · cases h
  | iload_n j =>
    replace h : (if len = 1 ∧ (j : Nat) = 1 then (match i with
      | some x => zm_nx (pc + 1) i (.inl x :: st) cs k n
      | none => none) else none) = some x := h
    split at h
    · rename_i hc
      obtain ⟨rfl, hj⟩ := hc
      cases i with
      | none => cases h
      | some y => exact z_push (v := .inl y) (fun H locs ls rest hL kk => lv_iload_n hexec hb hd hj (lv_at hL 1 rfl) kk) h hx
    · cases h
  | istore_n j =>
    replace h : (if len = 1 ∧ (j : Nat) = 1 ∧ 1 < nL then (match st with
      | .inl x :: st => zm_nx (pc + 1) (some x) st cs k n
      | _ => none) else none) = some x := h
    split at h
    · rename_i hc
      obtain ⟨rfl, hj, hn⟩ := hc
      split at h
      · cases h
        intro H locs ls hP hS hL hz
        exact lv_istore_n hexec hb hd hj hL hn rfl (fun ls' hl' => hx H locs ls' hP hS (zL_set hl') hz)
      · cases h
    · cases h
  | iconst v =>
    replace h : (if len = 1 then zm_nx (pc + 1) i (.inl (Int32.ofInt v) :: st) cs k n else none) = some x := h
    split at h
    · rename_i hc
      subst hc
      exact z_push (v := .inl (Int32.ofInt v)) (fun H locs ls rest hL kk => lv_iconst hexec hb hd rfl kk) h hx
    · cases h
  | bipush v =>
    replace h : (if len = 2 then zm_nx (pc + 2) i (.inl (Int8.ofInt v).toInt32 :: st) cs k n else none) = some x := h
    split at h
    · rename_i hc
      subst hc
      exact z_push (v := .inl (Int8.ofInt v).toInt32) (fun H locs ls rest hL kk => lv_bipush hexec hb hd rfl kk) h hx
    · cases h
  | sipush v =>
    replace h : (if len = 3 then zm_nx (pc + 3) i (.inl (Int16.ofInt v).toInt32 :: st) cs k n else none) = some x := h
    split at h
    · rename_i hc
      subst hc
      exact z_push (v := .inl (Int16.ofInt v).toInt32) (fun H locs ls rest hL kk => lv_sipush hexec hb hd rfl kk) h hx
    · cases h
  | dup =>
    replace h : (if len = 1 then (match st with
      | v :: st => zm_nx (pc + 1) i (v :: v :: st) cs k n
      | _ => none) else none) = some x := h
    split at h
    · rename_i hc
      subst hc
      split at h
      · rename_i v st'
        cases h
        intro H locs ls hP hS hL hz
        exact lv_dup hexec hb hd (by cases v <;> rfl) (hx H locs ls hP hS hL hz)
      · cases h
    · cases h
  | new y =>
    replace h : (if len = 3 then zm_new o y mc ms pc i st cs k n else none) = some x := h
    split at h
    · rename_i hc
      subst hc
      unfold zm_new at h
      split at h
      · rename_i ci w v hnt
        split at h
        · rename_i hcc
          cases h
          obtain ⟨hci, w1, w2⟩ := zm_nt_ok hnt
          intro H locs ls hP hS hL hz
          refine zr_new hexec hb hts hown hci (hts _ w1) w2 hK hP hS hz hb0 (by rw [hRc]; exact hcc.1) (by rw [hRs]; exact hcc.2) hd (fun H1 hP1 hS1 => ?_)
          exact hx H1 locs ls hP1 hS1 hL (by replace hz : b + cs.length = s.heap.size + k := hz; simp only [List.length_append, List.length_cons, List.length_nil]; omega)
        · cases h
      · cases h
    · cases h
  | newarray ty =>
    have key : ∀ tg, ((tg = 9 ∧ ty = .int) ∨ (tg = 10 ∧ ty = .boolean)) → (if len = 2 then zm_na tg mc ms pc i st cs k n else none) = some x → zm_V p l e R s m args below meth c b D cy this nL Q (pc, i, st, cs, k, n) := by
      intro tg htg hh
      split at hh
      · rename_i hc
        subst hc
        unfold zm_na at hh
        split at hh
        · rename_i y st'
          split at hh
          · rename_i hcc
            cases hh
            intro H locs ls hP hS hL hz
            refine zr_na htg hexec hb hts hK hP hS hz hb0 hcc.1 hcc.2.1 (by rw [hRc]; exact hcc.2.2.1) (by rw [hRs]; exact hcc.2.2.2) hd (fun H1 hP1 hS1 => ?_)
            exact hx H1 locs ls hP1 hS1 hL (by replace hz : b + cs.length = s.heap.size + k := hz; simp only [List.length_append, List.length_cons, List.length_nil]; omega)
          · cases hh
        · cases hh
      · cases hh
    cases ty with
    | int => exact key 9 (Or.inl ⟨rfl, rfl⟩) h
    | boolean => exact key 10 (Or.inr ⟨rfl, rfl⟩) h
    | _ => exact nomatch (show (none : zS) = some x from h)
  | anewarray y =>
    replace h : (if len = 3 then zm_an o y mc ms pc i st cs k n else none) = some x := h
    split at h
    · rename_i hc
      subst hc
      unfold zm_an at h
      split at h
      · rename_i z st' tg w hat
        split at h
        · rename_i hcc
          cases h
          obtain ⟨ht, w1⟩ := zm_at_ok hat
          intro H locs ls hP hS hL hz
          refine zr_an ht hexec hb hown (hts _ w1) hao hK hP hS hz hb0 hcc.1 hcc.2.1 (by rw [hRc]; exact hcc.2.2.1) (by rw [hRs]; exact hcc.2.2.2) hd (fun H1 hP1 hS1 => ?_)
          exact hx H1 locs ls hP1 hS1 hL (by replace hz : b + cs.length = s.heap.size + k := hz; simp only [List.length_append, List.length_cons, List.length_nil]; omega)
        · cases h
      · cases h
    · cases h
  | multianewarray y d =>
    replace h : (if len = 4 ∧ d = 2 then zm_mn o y mc ms pc i st cs k n else none) = some x := h
    split at h
    · rename_i hc
      obtain ⟨rfl, hd2⟩ := hc
      have hd2 : d = 2 := hd2
      subst hd2
      unfold zm_mn at h
      split at h
      · split at h
        · rename_i hcc
          cases h
          obtain ⟨rfl, rfl, h1, h2, h3, h4, h5, h6⟩ := hcc
          intro H locs ls hP hS hL hz
          refine zr_mn hexec hb hts hown (hts _ zm_obj.2.2.2.2) hao hK hP hS hz hb0 h1 h2 h3 h4 (by rw [hRc]; exact h5) (by rw [hRs]; exact h6) hd (fun H1 hP1 hS1 => ?_)
          exact hx H1 locs ls hP1 hS1 hL (by replace hz : b + cs.length = s.heap.size + k := hz; simp only [List.length_append, List.length_cons, List.length_replicate]; omega)
        · cases h
      · cases h
    · cases h
  | invokespecial y =>
    replace h : (if len = 3 then zm_is E o y mc ms pc i st cs k n else none) = some x := h
    split at h
    · rename_i hc
      subst hc
      unfold zm_is at h
      split at h
      · rename_i a st' t c' w hit
        split at h
        · rename_i hl8
          have hio := zm_it_ok hit
          simp only [zm_io, Bool.and_eq_true, decide_eq_true_eq] at hio
          obtain ⟨hc9, hio⟩ := hio
          have hcat : ((st'.map (zv b)).map fun v => v.category).sum ≤ 8 := by rw [zv_cat]; exact hl8
          split at h
          · rename_i ht0
            rw [if_pos ht0] at hio
            cases h
            intro H locs ls hP hS hL hz
            have hroom := lv_room (m := m) (pc := pc) (ls := ls) (rest := Value.ref (b + a) :: st'.map (zv b)) hcat
            exact W.objInit hexec hb hown (hts _ (mm_w1_in hio)) (hts _ zm_obj.1) (hts _ zm_obj.2.1) rfl (by rw [hml]; exact hL.1) rfl hd hfr (by
              show 2 * (F0 m pc ls (Value.ref (b + a) :: st'.map (zv b))).monitorRoom + ((st'.map (zv b)).map fun v => v.category).sum + 12 ≤ R.locals
              omega) (hx H locs ls hP hS hL hz)
          · rename_i ht0
            rw [if_neg ht0] at hio
            split at h
            · rename_i hcc
              split at h
              · rename_i cs' hcall
                split at h
                · rename_i hlen
                  cases h
                  obtain ⟨hM, hf1, hf2⟩ := hE c' a cs cs' hcall
                  intro H locs ls hP hS hL hz
                  refine zr_call hexec hb hml hL.1 hts hown hK hN hao hP hS hz hb0 hc9 hM hf1 hf2 ?_ hcat (by rw [hRc]; exact hcc.1) (by rw [hRs]; exact hcc.2) hd (fun H1 locs1 hP1 hS1 hz1 => ?_)
                  · by_cases ht1 : t = 1
                    · rw [if_pos ht1] at hio
                      exact Or.inl (hts _ (mm_w1_in hio))
                    · rw [if_neg ht1, decide_eq_true_eq] at hio
                      exact Or.inr (hN _ (List.mem_filter.mpr ⟨List.mem_of_getElem? hio, rfl⟩))
                  · exact hx H1 locs1 ls hP1 hS1 hL (by show b + cs'.length = s.heap.size + (k + _); have hz : b + cs.length = s.heap.size + k := hz; omega)
                · cases h
              · cases h
            · cases h
        · cases h
      · cases h
    · cases h
  | putfield y =>
    replace h : (if len = 3 then zm_pf o y pc i st cs k n else none) = some x := h
    split at h
    · rename_i hc
      subst hc
      unfold zm_pf at h
      split at h
      · rename_i v a st'
        split at h
        · rename_i c' f j c'' len' vs hft ha
          split at h
          · rename_i hcc
            obtain ⟨rfl, rfl, ho9⟩ := hcc
            split at h
            · rename_i t r ht
              split at h
              · rename_i hc2
                cases h
                intro H locs ls hP hS hL hz
                exact zr_putr hexec hb hts hown hK hP hS hname ho9 hft ha ht hc2.1 hc2.2 hd (fun H1 locs1 hP1 hS1 => hx H1 locs1 ls hP1 hS1 hL (by rw [List.length_set]; exact hz))
              · cases h
            · rename_i t y' ht
              split at h
              · rename_i hc2
                cases h
                obtain ⟨h2, rfl, hfl⟩ := hc2
                intro H locs ls hP hS hL hz
                exact zr_puti hexec hb hts hown hK hP hS ho9 hft ha ht h2 hfl hd (fun H1 locs1 hP1 hS1 => hx H1 locs1 ls hP1 hS1 hL (by rw [List.length_set]; exact hz))
              · cases h
            · cases h
          · cases h
        · cases h
      · cases h
    · cases h
  | getfield y =>
    replace h : (if len = 3 then zm_gf o y pc i st cs k n else none) = some x := h
    split at h
    · rename_i hc
      subst hc
      unfold zm_gf at h
      split at h
      · rename_i a st'
        split at h
        · rename_i c' f j c'' len' vs hft ha
          split at h
          · rename_i hcc
            obtain ⟨rfl, hc9⟩ := hcc
            split at h
            · rename_i r hv
              cases h
              intro H locs ls hP hS hL hz
              exact zr_get hexec hb hts hown hK hP hc9 hft ha hv hd (hx H locs ls hP hS hL hz)
            · cases h
          · cases h
        · cases h
      · cases h
    · cases h
  | aastore =>
    replace h : (if len = 1 then zm_as pc i st cs k n else none) = some x := h
    split at h
    · rename_i hc
      subst hc
      unfold zm_as at h
      split at h
      · rename_i v j a st'
        split at h
        · rename_i t len' vs c' len'' vs' ha hv
          split at h
          · rename_i hcc
            cases h
            intro H locs ls hP hS hL hz
            exact zr_as hexec hb hK hP hS ha hv hcc.1 hcc.2.1 hcc.2.2.1 hcc.2.2.2 hd (fun H1 locs1 hP1 hS1 => hx H1 locs1 ls hP1 hS1 hL (by rw [List.length_set]; exact hz))
          · cases h
        · cases h
      · cases h
    · cases h
  | iinc y d =>
    replace h : (if len = 3 ∧ y = 1 ∧ 1 < nL then (match i with
      | some y => zm_nx (pc + 3) (some (y + Int32.ofInt d)) st cs k n
      | none => none) else none) = some x := h
    split at h
    · rename_i hc
      obtain ⟨rfl, rfl, hn⟩ := hc
      cases i with
      | none => cases h
      | some z =>
        cases h
        intro H locs ls hP hS hL hz
        exact lv_iinc hexec hb hd hL (k := 1) rfl rfl hn rfl (fun ls' hl' => hx H locs ls' hP hS (zL_set (i := some z) hl') hz)
    · cases h
  | if_icmp cd off =>
    cases cd with
    | ge =>
      replace h : (if len = 3 ∧ 0 ≤ (pc : Int) + off then (match st with
        | .inl y :: .inl x :: st => if y ≤ x then zm_nx ((pc : Int) + off).toNat i st cs k n else zm_nx (pc + 3) i st cs k n
        | _ => none) else none) = some x := h
      split at h
      · rename_i hc
        obtain ⟨rfl, hof⟩ := hc
        split at h
        · rename_i y z st'
          intro H locs ls hP hS hL hz
          refine lv_icmp_ge (tgt := ((pc : Int) + off).toNat) hexec hb hd (by omega) (fun hcc => ?_) (fun hcc => ?_)
          · rw [if_pos hcc] at h
            cases h
            exact hx H locs ls hP hS hL hz
          · rw [if_neg hcc] at h
            cases h
            exact hx H locs ls hP hS hL hz
        · cases h
      · cases h
    | _ => exact nomatch (show (none : zS) = some x from h)
  | goto off =>
    replace h : (if len = 3 ∧ 0 ≤ (pc : Int) + off then zm_nx ((pc : Int) + off).toNat i st cs k n else none) = some x := h
    split at h
    · rename_i hc
      obtain ⟨rfl, hof⟩ := hc
      cases h
      intro H locs ls hP hS hL hz
      exact lv_goto (tgt := ((pc : Int) + off).toNat) hexec hb hd (by omega) (hx H locs ls hP hS hL hz)
    · cases h
  | return_ =>
    replace h : (if len = 1 ∧ k ≤ mc ∧ n ≤ ms then (match st with
      | [] => some (.inr (cs, k, n))
      | _ => none) else none) = some x := h
    split at h
    · rename_i hc
      obtain ⟨rfl, hk, hn⟩ := hc
      split at h
      · cases h
        have hx : Q = MQ below (zQ b D cy cs) args s mc ms (fun q => b ≤ q) := hx
        subst hx
        intro H locs ls hP hS hL hz
        refine zr_size (fun hle => ?_)
        have hsz := zr_sz hP hS hz hb0 hle
        have hq : ∀ t : State, t.heap = H → s.WarmedH t.vm → zQ b D cy cs args s (.returned none) t := by
          intro t ht _
          exact ⟨⟨(), rfl, trivial, by rw [ht]; exact hP, by rw [ht]; exact hsz⟩, hS.F ht⟩
        refine W.widen (k := mc) (n := ms) hk hn ?_
        exact W.vret hexec hb hret hq hS.2.2 hd hlocks
      · cases h
    · cases h
  | _ => exact nomatch (show (none : zS) = some x from h)
theorem zm_sound (G : zm_G p R s m args meth c o nL b D cy mc ms) (hE : zm_EOK l R b D cy E) {r : zF} : ∀ (f : Nat) (x : zC), zm_go E o this nL mc ms f x = some r → zm_V p l e R s m args below meth c b D cy this nL (MQ below (zQ b D cy r.1) args s mc ms (fun q => b ≤ q)) x
  | 0, _, h => by cases h
  | f + 1, (pc, i, st, cs, k, n), h => by
    rw [zm_go] at h
    cases hs : zm_sp E o this nL mc ms (pc, i, st, cs, k, n) with
    | none => rw [hs] at h; cases h
    | some q =>
      rw [hs] at h
      unfold zm_sp at hs
      cases hd : zm_tb o pc with
      | none => simp only [hd] at hs; cases hs
      | some il =>
        obtain ⟨ins, len⟩ := il
        simp only [hd] at hs
        refine zm_one G hE (zm_tb_ok o G.2.2.2.2.2.2.2.2.2.2.2.2.2.2.2.2 pc _ hd) hs ?_
        cases q with
        | inl c' => exact zm_sound G hE f c' h
        | inr q => cases h; rfl
end ZS
/-- a constructor's function is the constructor -/
theorem zm_fn_ok (l : Launch) (o : Nat) (ho : o < 9) (E : zE) (hh : 1 ≤ (zm_q o).1) (hnL : 1 ≤ (zm_q o).2.2.2)
    (hE : ∀ (c this : Nat) (cs cs' : List zD), E c this cs = some cs' → zm_OK l c (E c) ∧ (zm_q c).1 + 1 ≤ (zm_q o).1 ∧ 8 + ((zm_q c).2.2.2 + 11) + 40 * (zm_q c).1 ≤ 40 * (zm_q o).1) : zm_OK l o (zm_fn E o) := by
  intro b D cy this cs cs' hf
  unfold zm_fn at hf
  cases hg : zm_go E o this (zm_q o).2.2.2 (zm_q o).2.1 (zm_q o).2.2.1 400 (0, none, [], cs, 0, 0) with
  | none => rw [hg] at hf; cases hf
  | some r =>
    rw [hg] at hf
    cases hf
    obtain ⟨w1, w2, w3, hcls, hnm, hy1, hy2, hpar, hplain⟩ := zm_cl_ok o ho
    refine mm_ofW (cc := zm_c o) (maxL := (zm_q o).2.2.2) (ret := none) hplain rfl ?_
    intro p e s m args below meth c s₁ B hml hv
    obtain ⟨rfl, hK, hN, hao, hP, hsz⟩ := hv
    have hts := atoms_spec (ws := zm_wd o) B.pre
    have hown : s.vm.findClass (mm_rn o) = some m.cls := by rw [← hcls]; exact findClass_of_methodNamed B.named
    have hin : meth.name = "<init>" := (name_of_methodNamed B.named B.method).1.trans hnm
    have G : zm_G p (zm_rm o) s m ([Value.ref (b + this)].toArray) meth c o (zm_q o).2.2.2 b D cy (zm_q o).2.1 (zm_q o).2.2.1 :=
      ⟨B.exec, B.bytes, hml, hown, fun w hw => hts w (List.mem_cons_of_mem _ hw), hK, hN, hao, by omega, hh, by show 40 ≤ 40 * _; omega, rfl, rfl, B.returns, B.notSynchronized, hin, ho⟩
    have hE2 : zm_EOK l (zm_rm o) b D cy E := by
      intro c2 this2 cs2 cs2' hk
      obtain ⟨h1, h2, h3⟩ := hE c2 this2 cs2 cs2' hk
      exact ⟨h1 b D cy this2 cs2 cs2' hk, h2, h3⟩
    rw [lg_entry_eq]
    have hl := lv_entry ([.ref (b + this)]) (n := (zm_q o).2.2.2) (by exact hnL)
    exact zm_sound G hE2 400 _ hg s.heap [] _ hP va_S.rf hl (by show b + cs.length = s.heap.size + 0; omega)
theorem zm_E1_ok (l : Launch) : ∀ c, c = 0 ∨ c = 1 ∨ c = 4 ∨ c = 5 ∨ c = 6 ∨ c = 8 → zm_OK l c (zm_fn zm_E0 c) := by
  intro c hc
  refine zm_fn_ok l c (by omega) zm_E0 ?_ ?_ (fun _ _ _ _ h => by cases h)
  · rcases hc with rfl | rfl | rfl | rfl | rfl | rfl <;> decide
  · rcases hc with rfl | rfl | rfl | rfl | rfl | rfl <;> decide
theorem zm_E1_is {c this : Nat} {cs cs' : List zD} (h : zm_E1 c this cs = some cs') : (c = 0 ∨ c = 1 ∨ c = 4 ∨ c = 5 ∨ c = 6 ∨ c = 8) ∧ zm_E1 c = zm_fn zm_E0 c := by
  unfold zm_E1 at h ⊢
  split at h
  · rename_i hc
    exact ⟨hc, if_pos hc⟩
  · cases h
theorem zm_E2_ok23 (l : Launch) : ∀ c, c = 2 ∨ c = 3 → zm_OK l c (zm_fn zm_E1 c) := by
  intro c hc
  refine zm_fn_ok l c (by omega) zm_E1 ?_ ?_ (fun c2 this cs cs' h => ?_)
  · rcases hc with rfl | rfl <;> decide
  · rcases hc with rfl | rfl <;> decide
  · obtain ⟨h1, h2⟩ := zm_E1_is h
    rw [h2]
    refine ⟨zm_E1_ok l c2 h1, ?_⟩
    rcases hc with rfl | rfl <;> rcases h1 with rfl | rfl | rfl | rfl | rfl | rfl <;> decide
theorem zm_f7_ok (l : Launch) : zm_OK l 7 zm_f7 := by
  refine zm_fn_ok l 7 (by decide) zm_E2 (by decide) (by decide) (fun c2 this cs cs' h => ?_)
  by_cases hc : c2 = 2 ∨ c2 = 3
  · have e : zm_E2 c2 = zm_fn zm_E1 c2 := if_pos hc
    rw [e]
    refine ⟨zm_E2_ok23 l c2 hc, ?_⟩
    rcases hc with rfl | rfl <;> decide
  · have e : zm_E2 c2 = zm_E1 c2 := if_neg hc
    rw [e] at h ⊢
    obtain ⟨h1, h2⟩ := zm_E1_is h
    rw [h2]
    refine ⟨zm_E1_ok l c2 h1, ?_⟩
    rcases h1 with rfl | rfl | rfl | rfl | rfl | rfl <;> decide
theorem zm_f8_ok (l : Launch) : zm_OK l 8 zm_f8 := zm_E1_ok l 8 (by omega)
