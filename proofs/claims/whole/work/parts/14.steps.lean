theorem mm_tv_cat (ad : Nat → Nat → Nat) (v : mV) : (mm_tv ad v).category = mm_cat v := by
  rcases v with x | x | x <;> rfl
theorem mm_ct_sum (ad : Nat → Nat → Nat) (l : List mV) : ((l.map (mm_tv ad)).map fun v => v.category).sum = mm_ct l := by
  unfold mm_ct
  rw [List.map_map]
  congr 1
  apply List.map_congr_left
  intro v _
  exact mm_tv_cat ad v
def mm_lv (ad : Nat → Nat → Nat) (ls : List mV) : List (Nat × Value) := ls.zipIdx.filterMap (fun q => match q.1 with
  | .inr (.inl (99, _)) => none
  | v => some (q.2, mm_tv ad v))
theorem mm_99 (v : mV) : (∃ j, v = .inr (.inl (99, j))) ∨ ¬ ∃ j, v = .inr (.inl (99, j)) := Classical.em _
theorem mm_lv_some {ad : Nat → Nat → Nat} {ls : List mV} {i : Nat} {v : mV} (h : ls[i]? = some v) (hn : ¬ ∃ j, v = .inr (.inl (99, j))) : (i, mm_tv ad v) ∈ mm_lv ad ls := by
  refine List.mem_filterMap.mpr ⟨(v, i), ?_, ?_⟩
  · rw [List.mem_zipIdx_iff_getElem?]
    exact h
  · split
    · rename_i hj
      exact absurd ⟨_, hj⟩ hn
    · rfl
theorem mm_lv_mem {ad : Nat → Nat → Nat} {ls : List mV} {q : Nat × Value} (h : q ∈ mm_lv ad ls) : ∃ v, ls[q.1]? = some v ∧ q.2 = mm_tv ad v ∧ ¬ ∃ j, v = .inr (.inl (99, j)) := by
  obtain ⟨⟨v, i⟩, h1, h2⟩ := List.mem_filterMap.mp h
  rw [List.mem_zipIdx_iff_getElem?] at h1
  split at h2
  · cases h2
  · rename_i hne
    cases h2
    exact ⟨v, h1, rfl, fun ⟨j, hj⟩ => hne j hj⟩
theorem mm_L_has {ad : Nat → Nat → Nat} {rt nL : Nat} {A : Array Slot} {ls : List mV} (h : mm_L ad rt nL A ls) : lv_has A nL (mm_lv ad ls) := by
  refine ⟨h.1, h.2.1, fun q hq => ?_⟩
  obtain ⟨v, h1, h2, h3⟩ := mm_lv_mem hq
  rcases h.2.2.2.2 q.1 v h1 with h4 | h4
  · exact absurd h4 h3
  · rw [h2]; exact h4.2
/-- an int stored -/
theorem mm_L_set {ad : Nat → Nat → Nat} {rt nL i : Nat} {x : Int32} {A A' : Array Slot} {ls : List mV} (h : mm_L ad rt nL A ls) (hi : i < ls.length) (h3 : rt ≠ 3) (h' : lv_has A' nL ((i, Value.int x) :: (mm_lv ad ls).filter (fun q => !(q.1 == i) && !(q.1 + 1 == i && q.2.category == 2)))) : mm_L ad rt nL A' (ls.set i (.inl x)) := by
  refine ⟨h'.1, h'.2.1, by rw [List.length_set]; exact h.2.2.1, fun _ v hv => ?_, fun j v hv => ?_⟩
  · rcases List.mem_or_eq_of_mem_set hv with h1 | h1
    · exact h.2.2.2.1 h3 v h1
    · rw [h1]; rfl
  · by_cases hj : j = i
    · subst hj
      rw [List.getElem?_set_self hi] at hv
      cases hv
      exact Or.inr ⟨trivial, h'.2.2 (j, .int x) List.mem_cons_self⟩
    · rw [List.getElem?_set_ne (Ne.symm hj)] at hv
      rcases mm_99 v with h1 | h1
      · exact Or.inl h1
      · right
        have hm := mm_lv_some (ad := ad) hv h1
        have hok := (h.2.2.2.2 j v hv).resolve_left h1
        refine ⟨hok.1, h'.2.2 (j, mm_tv ad v) (List.mem_cons_of_mem _ (List.mem_filter.mpr ⟨hm, ?_⟩))⟩
        have hc : (mm_tv ad v).category = 1 := by rw [mm_tv_cat]; exact h.2.2.2.1 h3 v (List.mem_of_getElem? hv)
        simp [hj, hc]
section ST
variable {p : Program} {l : Launch} {e : Env} {R : Room} {s : State} {m : MethodId} {args : Array Value} {below : List Frame} {meth : Method} {c : Code} {cc : ByteArray} {nL o rt : Nat} {ad : Nat → Nat → Nat} {D : va_G} {cy : Nat → ClassId} {z : Nat} {Q : State → Prop} {pc : Nat} {ls st : List mV} {μ : mM}
theorem mm_okc {v : mV} {st : List mV} (h : ∀ w ∈ v :: st, mm_ok w) : mm_ok v ∧ ∀ w ∈ st, mm_ok w := ⟨h v List.mem_cons_self, fun w hw => h w (List.mem_cons_of_mem _ hw)⟩
theorem mm_oki {v : mV} {st : List mV} (h1 : mm_ok v) (h : ∀ w ∈ st, mm_ok w) : ∀ w ∈ v :: st, mm_ok w := fun w hw => by
  rcases List.mem_cons.mp hw with rfl | hw
  · exact h1
  · exact h w hw
/-- a jump within the small machine -/
theorem mm_jp_inv {off : Int} {x : mC ⊕ mR} (h : mm_jp pc off ls st μ = some x) : ∃ tgt : Nat, (pc : Int) + off = (tgt : Int) ∧ x = .inl (tgt, ls, st, μ) := by
  unfold mm_jp at h
  split at h
  · rename_i h0
    cases h
    exact ⟨((pc : Int) + off).toNat, by omega, rfl⟩
  · cases h
theorem mm_sti {n : Nat} (G : mm_G p R s m args meth c cc nL o rt ad D cy z) {d : Nat} {x : Int32} {st' : List mV} (hrow : ∀ (H : Heap) (locs : List Loc) (A : Array Slot) (lv : List (Nat × Value)) (rest : List Value), lv_has A nL lv → n < nL → (∀ A' : Array Slot, lv_has A' nL ((n, Value.int x) :: lv.filter (fun q => !(q.1 == n) && !(q.1 + 1 == n && q.2.category == 2))) → W p l e R s m args below meth c H locs 0 0 Q (F0 m d A' rest)) → W p l e R s m args below meth c H locs 0 0 Q (F0 m pc A (Value.int x :: rest))) (hst : st = .inl x :: st') (hn : n < ls.length) (h3 : rt ≠ 3) (hv : mm_V p l e R s m args below meth c ad D cy z rt nL Q (d, ls.set n (.inl x), st', μ)) : mm_V p l e R s m args below meth c ad D cy z rt nL Q (pc, ls, st, μ) := by
  subst hst
  intro H locs A hP hS hL hok
  refine hrow H locs A (mm_lv ad ls) (st'.map (mm_tv ad)) (mm_L_has hL) (by rw [← hL.2.2.1]; exact hn) (fun A' hA' => ?_)
  exact hv H locs A' hP hS (mm_L_set hL hn h3 hA') (mm_okc hok).2
theorem mm_wrd {own n : Nat} (w : Cond) (G : mm_G p R s m args meth c cc nL o rt ad D cy z) (h : mm_w1 n w = true) : w.before args s = true := G.2.2.2.2.1 w (mm_w1_in h)
end ST
