section ZN
variable {p : Program} {l : Launch} {e : Env} {R : Room} {s : State} {m : MethodId} {args : Array Value} {below : List Frame} {meth : Method} {c : Code} {locs : List Loc} {cells slots N K : Nat} {cA comp : ClassId} {T F : State} {j : Nat}
/-- an array of N references: the first j point to the cells behind it, the others nowhere -/
def zn_row (cA : ClassId) (N h j : Nat) : Cell := arrV cA N (fun i => va_rf (if i < j then some (h + 1 + i) else none))
theorem zn_row_zero (cA : ClassId) (N h : Nat) : ({ cls := cA, slots := Array.replicate N .null, vm := .none } : Cell) = zn_row cA N h 0 := by
  rw [arrV_new]
  refine congrArg (arrV cA N) (funext fun i => ?_)
  simp [va_rf]
theorem zn_row_succ (cA : ClassId) (N h j : Nat) : (zn_row cA N h j).setSlot j (.ref (h + 1 + j)) = zn_row cA N h (j + 1) := by
  unfold zn_row
  rw [arrV_store]
  refine congrArg (arrV cA N) (funext fun i => ?_)
  by_cases e : i = j
  · subst e
    simp [updV, va_rf]
  · by_cases h : i < j
    · simp [updV, e, h, Nat.lt_succ_of_lt h]
    · simp [updV, e, h, show ¬ i < j + 1 by omega]
/-- the states on the way: the array stands at T's end, j of its rows stand behind it -/
def zn_at (p : Program) (l : Launch) (e : Env) (R : Room) (s : State) (m : MethodId) (args : Array Value) (below : List Frame) (meth : Method) (c : Code) (locs : List Loc) (cells slots N K : Nat) (cA comp : ClassId) (T : State) (j : Nat) (F : State) : Prop :=
  Stand p l e R s m args below meth c F locs (cells + 1 + j) (slots + N + j * K) ∧ F.vm = T.vm ∧ F.slotsUsed = T.slotsUsed + N + j * K ∧ F.heap.size = T.heap.size + 1 + j ∧ (∀ q : Nat, q < T.heap.size → F.heap[q]? = T.heap[q]?) ∧ F.heap[T.heap.size]? = some (zn_row cA N T.heap.size j) ∧ ∀ i : Nat, i < j → F.heap[T.heap.size + 1 + i]? = some (arrV comp K (fun _ => .int 0))
theorem zn_at_zero (X : Stand p l e R s m args below meth c T locs cells slots) : zn_at p l e R s m args below meth c locs cells slots N K cA comp T 0 (T.pushCell (zn_row cA N T.heap.size 0)) := by
  have e1 : (zn_row cA N T.heap.size 0).slots.size = N := arrV_size _ _ _
  have h := X.pushed (zn_row cA N T.heap.size 0)
  rw [e1] at h
  refine ⟨by rw [Nat.zero_mul]; exact h, rfl, by rw [State.slotsUsed_pushCell, e1]; omega, by rw [State.heap_pushCell, Array.size_push], fun q hq => State.heap_pushCell_of_lt _ _ hq, State.heap_pushCell_size _ _, fun i hi => absurd hi (Nat.not_lt_zero i)⟩
theorem zn_at_succ (hg : s.heap.size ≤ T.heap.size) (h : zn_at p l e R s m args below meth c locs cells slots N K cA comp T j F) :
    zn_at p l e R s m args below meth c locs cells slots N K cA comp T (j + 1) ((F.pushCell (arrV comp K (fun _ => .int 0))).setCell T.heap.size (zn_row cA N T.heap.size (j + 1))) := by
  obtain ⟨X, hvm, hsl, hsz, hold, hrow, hin⟩ := h
  have e1 : (arrV comp K (fun _ => .int 0)).slots.size = K := arrV_size _ _ _
  have e2 : slots + N + (j + 1) * K = slots + N + j * K + K := by rw [Nat.succ_mul]; omega
  have hlt : T.heap.size < F.heap.size := by omega
  have hc : (F.pushCell (arrV comp K (fun _ => .int 0))).heap[T.heap.size]? = some (zn_row cA N T.heap.size j) := by
    rw [State.heap_pushCell_of_lt (h := hlt)]
    exact hrow
  have X1 := ((X.pushed (arrV comp K (fun _ => .int 0))).stored hc j (.ref (T.heap.size + 1 + j))).dropFresh (fun x hx => by rw [List.mem_singleton.mp hx]; exact hg)
  rw [zn_row_succ, e1] at X1
  refine ⟨by rw [e2]; exact X1, hvm, ?_, ?_, fun q hq => ?_, State.heap_setCell_self hc, fun i hi => ?_⟩
  · rw [State.slotsUsed_setCell, State.slotsUsed_pushCell, e1, hsl, Nat.succ_mul]
    omega
  · rw [State.heap_setCell, Array.size_setIfInBounds, State.heap_pushCell, Array.size_push, hsz]
    omega
  · rw [State.heap_setCell_other (show T.heap.size ≠ q by omega), State.heap_pushCell_of_lt _ _ (show q < F.heap.size by omega)]
    exact hold q hq
  · rw [State.heap_setCell_other (show T.heap.size ≠ T.heap.size + 1 + i by omega)]
    by_cases e : i = j
    · subst e
      have := State.heap_pushCell_size F (arrV comp K (fun _ => .int 0))
      rw [hsz] at this
      exact this
    · rw [State.heap_pushCell_of_lt _ _ (show T.heap.size + 1 + i < F.heap.size by omega)]
      exact hin i (by omega)
/-- a piece of the machine's own program that ends at F with the answer a, whatever is asked behind it -/
def zn_to (e : Env) {α : Type} (x : Sem α) (S : State) (a : α) (F : State) : Prop := ∀ (E : CtlPost) (Q : α → Pre) (d : Bool) (acts : List Action), (∀ d' acts', Q a d' acts' F) → wp x Q E e d acts S
theorem zn_inner {S : State} {k : Class} {cc : ClassId} {y : Int32} (hk : S.vm.classes[comp]? = some k) (hkind : k.kind = .array cc .int) (hy : ¬ y < 0) (h1 : ¬ y.toNatClampNeg > e.platform.arrayLengthLimit) (h2 : ¬ y.toNatClampNeg * componentBytes .int > e.platform.maxHeapBytes) (h3 : S.heap.size < e.platform.maxCells) (h4 : S.slotsUsed + y.toNatClampNeg ≤ e.platform.maxSlots) :
    zn_to e (multianewarray.make comp [y]) S S.heap.size (S.pushCell (arrV comp y.toNatClampNeg (fun _ => .int 0))) := by
  intro E Q d acts h
  rw [multianewarray.make]
  simp only [wp_bind', W.ite, hy, if_false, wp_pure', W.theClass, hk, hkind, Option.some.injEq, exists_eq_left']
  refine W.newArray_of hk hkind h1 h2 h3 h4 rfl (fun acts' => ?_)
  have := h d acts'
  rw [← arrV_new] at this
  exact this
theorem zn_loop (g : JFrame) {k kA : Class} {cc : ClassId} {y : Int32} {body : Nat → PUnit → Sem (ForInStep PUnit)} (hbody : ∀ i u, body i u = (do let a ← multianewarray.make comp [y]; Jvm.writeLoc T.heap.size i (.ref a); Pure.pure (ForInStep.yield PUnit.unit)))
    (hg : s.heap.size ≤ T.heap.size) (hk : T.vm.classes[comp]? = some k) (hkind : k.kind = .array cc .int) (hkA : T.vm.classes[cA]? = some kA) (hkindA : kA.kind = .array comp (.array .int)) (hy : ¬ y < 0) (h1 : ¬ y.toNatClampNeg > e.platform.arrayLengthLimit) (h2 : ¬ y.toNatClampNeg * componentBytes .int > e.platform.maxHeapBytes) (h3 : T.heap.size + 1 + N ≤ e.platform.maxCells) (h4 : T.slotsUsed + N + N * y.toNatClampNeg ≤ e.platform.maxSlots) :
    ∀ (r j : Nat) (F : State), j + r = N → zn_at p l e R s m args below meth c locs cells slots N y.toNatClampNeg cA comp T j F → ∃ G, zn_at p l e R s m args below meth c locs cells slots N y.toNatClampNeg cA comp T N G ∧ zn_to e (forIn (List.range' j r) PUnit.unit body) (F.setTop g) PUnit.unit (G.setTop g)
  | 0, j, F, hj, hF => by
    have hj : j = N := hj
    subst hj
    refine ⟨F, hF, fun E Q d acts h => ?_⟩
    simp only [List.range'_zero, List.forIn_nil, wp_pure']
    exact h d acts
  | r + 1, j, F, hj, hF => by
    obtain ⟨G, hG, hw⟩ := zn_loop g hbody hg hk hkind hkA hkindA hy h1 h2 h3 h4 r (j + 1) _ (by omega) (zn_at_succ hg hF)
    obtain ⟨X, hvm, hsl, hsz, hold, hrow, hin⟩ := hF
    have hm : j * y.toNatClampNeg + y.toNatClampNeg ≤ N * y.toNatClampNeg := by
      have := Nat.mul_le_mul_right y.toNatClampNeg (show j + 1 ≤ N by omega)
      rw [Nat.succ_mul] at this
      exact this
    refine ⟨G, hG, fun E Q d acts h => ?_⟩
    rw [List.range'_succ, List.forIn_cons, wp_bind', hbody, wp_bind']
    refine zn_inner (S := F.setTop g) (k := k) (by rw [State.vm_setTop, hvm]; exact hk) hkind hy h1 h2 (by rw [State.heap_setTop, hsz]; omega) (by rw [State.slotsUsed_setTop, hsl]; omega) E _ d acts (fun d' acts' => ?_)
    simp only [wp_bind', W.writeLoc, wp_pure']
    refine ⟨zn_row cA N T.heap.size j, ?_, (fun h9 => by cases h9), ?_, ?_, ?_⟩
    · rw [State.pushCell_setTop, State.heap_setTop, State.heap_pushCell_of_lt _ _ (show T.heap.size < F.heap.size by omega)]
      exact hrow
    · rw [show (zn_row cA N T.heap.size j).slots.size = N from arrV_size _ _ _]
      omega
    · show (F.fitsSlot cA .none j _) = true
      simp [State.fitsSlot, State.slotType?, hvm, hkA, hkindA, fits]
    · have e9 : (F.setTop g).heap.size = T.heap.size + 1 + j := hsz
      rw [e9, zn_row_succ]
      exact hw E Q _ _ h
theorem zn_make (g : JFrame) {k kA : Class} {cc : ClassId} {x y : Int32} (X : Stand p l e R s m args below meth c T locs cells slots)
    (hg : s.heap.size ≤ T.heap.size) (hk : T.vm.classes[comp]? = some k) (hkind : k.kind = .array cc .int) (hkA : T.vm.classes[cA]? = some kA) (hkindA : kA.kind = .array comp (.array .int)) (hx : ¬ x < 0) (hy : ¬ y < 0) (h5 : ¬ x.toNatClampNeg > e.platform.arrayLengthLimit) (h6 : ¬ x.toNatClampNeg * componentBytes (.array .int) > e.platform.maxHeapBytes) (h1 : ¬ y.toNatClampNeg > e.platform.arrayLengthLimit) (h2 : ¬ y.toNatClampNeg * componentBytes .int > e.platform.maxHeapBytes) (h3 : T.heap.size + 1 + x.toNatClampNeg ≤ e.platform.maxCells) (h4 : T.slotsUsed + x.toNatClampNeg + x.toNatClampNeg * y.toNatClampNeg ≤ e.platform.maxSlots) :
    ∃ G, zn_at p l e R s m args below meth c locs cells slots x.toNatClampNeg y.toNatClampNeg cA comp T x.toNatClampNeg G ∧ zn_to e (multianewarray.make cA [x, y]) (T.setTop g) T.heap.size (G.setTop g) := by
  obtain ⟨G, hG, hw⟩ := zn_loop (p := p) (l := l) (R := R) (m := m) (args := args) (below := below) (meth := meth) (c := c) (locs := locs) (cells := cells) (slots := slots) (N := x.toNatClampNeg) g (body := fun i _ => (do let a ← multianewarray.make comp [y]; Jvm.writeLoc T.heap.size i (.ref a); Pure.pure (ForInStep.yield PUnit.unit))) (fun _ _ => rfl) hg hk hkind hkA hkindA hy h1 h2 h3 h4 x.toNatClampNeg 0 _ (Nat.zero_add _) (zn_at_zero X)
  refine ⟨G, hG, fun E Q d acts h => ?_⟩
  have hno : [y].find? (· < 0) = none := by simp [hy]
  rw [multianewarray.make]
  simp only [wp_bind', W.ite, hx, if_false, wp_pure', W.theClass, State.vm_setTop, hkA, hkindA, Option.some.injEq, exists_eq_left']
  refine W.newArray_of (k := kA) hkA hkindA h5 h6 (by rw [State.heap_setTop]; omega) (by rw [State.slotsUsed_setTop]; omega) rfl (fun acts' => ?_)
  simp only [hno, ite_self, wp_bind', Std.Legacy.Range.forIn_eq_forIn_range']
  have hr : ([:x.toNatClampNeg] : Std.Legacy.Range).size = x.toNatClampNeg := by simp [Std.Legacy.Range.size]
  rw [hr, zn_row_zero cA x.toNatClampNeg T.heap.size, State.pushCell_setTop, State.heap_setTop]
  refine hw E _ _ _ (fun d' acts'' => ?_)
  simp only [wp_pure']
  exact h d' acts''
/-- new int[x][y]: the step, by a picture of the heap behind it -/
theorem zn_step {H : Heap} {Q : State → Prop} {cc : ByteArray} {pc : Nat} {ls : Array Slot} {rest : List Value} {own : String} {index : Nat} (hexec : p.tables.exec = Jvm.exec) (hb : c.code = cc) (hown : s.vm.findClass own = some m.cls) (hcl : (Cond.classLink own index "[[I").before args s = true) (hov : (Cond.arrayOver (.array .int)).before args s = true) (har : (Cond.arrayClass .int).before args s = true) {x y : Int32} (hx : ¬ x < 0) (hy : ¬ y < 0) (hx1 : x.toNatClampNeg ≤ 1000) (hy1 : y.toNatClampNeg ≤ 1000) (hcells : cells + (1 + x.toNatClampNeg) ≤ R.cells) (hslots : slots + (x.toNatClampNeg + x.toNatClampNeg * y.toNatClampNeg) ≤ R.slots) (hdg : decode cc pc = .ok (.multianewarray index 2, 4))
    (kk : ∀ (H1 : Heap) (cA comp : ClassId), s.vm.findClass "[[I" = some cA → s.vm.findClass "[I" = some comp → H1.size = H.size + 1 + x.toNatClampNeg → (∀ q : Nat, q < H.size → H1[q]? = H[q]?) → H1[H.size]? = some (zn_row cA x.toNatClampNeg H.size x.toNatClampNeg) → (∀ i : Nat, i < x.toNatClampNeg → H1[H.size + 1 + i]? = some (arrV comp y.toNatClampNeg (fun _ => .int 0))) → W p l e R s m args below meth c H1 locs (cells + 1 + x.toNatClampNeg) (slots + x.toNatClampNeg + x.toNatClampNeg * y.toNatClampNeg) Q (F0 m (pc + 4) ls (.ref H.size :: rest))) : W p l e R s m args below meth c H locs cells slots Q (F0 m pc ls (.int y :: .int x :: rest)) := by
  intro T hT X
  subst hT
  have hpl : e.platform.magicAccessors = ({} : Platform).magicAccessors := by rw [X.admits.platform]
  obtain ⟨comp, cA, kA, n1, -, n2, n3, n4⟩ := arrayOverA_spec hov
  obtain ⟨comp', kC, cc', n5, n6, n7⟩ := Cond.arrayClass_spec har
  have es : "[" ++ (FieldType.array .int).toString = "[[I" := by decide +kernel
  have et : (FieldType.array .int).toString = "[I" := by decide +kernel
  have eu : "[" ++ FieldType.int.toString = "[I" := by decide +kernel
  rw [es] at n4
  rw [et] at n1
  rw [eu] at n5
  have e0 : comp' = comp := Option.some.inj (n5.symm.trans n1)
  subst e0
  obtain ⟨c0, hc0, hlk⟩ := Cond.classLink_spec hown hcl e.platform hpl
  have e0 : c0 = cA := Option.some.inj (hc0.symm.trans n4)
  subst e0
  obtain ⟨hgives, hwarm, -⟩ := State.classEntry (e := e) X.warmed hlk
  generalize T.vm.noted m.cls index (.cls c0) = vm₁ at hgives hwarm
  obtain ⟨kA', hkA', heA⟩ := hwarm.alike.2.2 _ _ n2
  obtain ⟨kC', hkC', heC⟩ := hwarm.alike.2.2 _ _ n6
  obtain ⟨r1, r2⟩ := X.roomAbove hcells hslots
  have lim := Launch.admits_arrayLengthLimit X.admits
  have hea := Launch.admits_maxHeapBytes X.admits
  have w1 : componentBytes (.array .int) = 4 := rfl
  have w2 : componentBytes .int = 4 := rfl
  obtain ⟨G, ⟨XG, gvm, gsl, gsz, gold, grow, gin⟩, hw⟩ := zn_make (T := T.setVm vm₁) (F0 m pc ls rest) (X.noted hwarm) X.heapGrown hkC' (by rw [heC]; exact n7) hkA' (by rw [heA]; exact n3) hx hy (by rw [lim]; omega) (by rw [hea, w1]; omega) (by rw [lim]; omega) (by rw [hea, w2]; omega) (by show T.heap.size + _ + _ ≤ _; omega) (by show T.slotsUsed + _ + _ ≤ _; omega)
  obtain ⟨t, a1, b1⟩ := kk G.heap c0 comp' n4 n1 gsz gold grow gin G rfl XG
  refine ⟨t, ?_, b1⟩
  have hdg' : decode c.code (F0 m pc ls (.int y :: .int x :: rest)).pc = .ok (.multianewarray index 2, 4) := by rw [hb]; exact hdg
  jvm_step X.here [hexec, hdg']
  simp only [multianewarray.sem, wp_bind', W.resolveClassAt_links (State.method?_setTop (F0 m pc ls (.int y :: .int x :: rest)) X.here.top) hgives]
  rw [W.popN, if_neg (by decide)]
  refine ⟨F0 m pc ls (.int y :: .int x :: rest), State.topJava?_setTop' (s := T.setVm vm₁) _ X.here.top, [.int x, .int y], rest, rfl, rfl, ?_⟩
  simp only [List.mapM_cons, List.mapM_nil, wp_bind', wp_pure']
  rw [State.setVm_setTop, State.setTop_setTop]
  refine hw _ _ _ _ (fun d' acts' => ?_)
  simp only [wp_bind', W.mark, W.pushRef, State.topJava?_setTop' _ XG.here.top, Option.some.injEq, exists_eq_left', State.setTop_setTop]
  intro acts
  simp [jvm, XG.here.top]
  exact a1
end ZN
