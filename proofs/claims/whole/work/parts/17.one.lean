section CALL
variable {p : Program} {l : Launch} {e : Env} {R : Room} {s : State} {m : MethodId} {args : Array Value} {below : List Frame} {meth : Method} {c : Code} {cc : ByteArray} {nL o rt : Nat} {ad : Nat → Nat → Nat} {D : va_G} {cy : Nat → ClassId} {z : Nat} {Q : State → Prop} {pc : Nat} {ls st : List mV} {μ : mM} {x : mC ⊕ mR} {E : mE}
def mm_EOK (l : Launch) (R : Room) (ad : Nat → Nat → Nat) (D : va_G) (cy : Nat → ClassId) (z : Nat) (E : mE) : Prop := ∀ (id : Nat) (as : List mV) (μ : mM) (r : Int32) (μ' : mM), E id as μ = some (r, μ') → (∀ v ∈ as, mm_ok v) →
  mm_met l ad D cy z id as μ r μ' ∧ (mm_qn id).2.2.1 + 1 ≤ R.frames ∧ 8 + ((mm_qn id).1 + 11) + 40 * (mm_qn id).2.2.1 ≤ R.locals ∧ id < 143
theorem mm_blind (av : List Value) (μ : mM) : FrameBlind (va_Pc av (mm_B ad D cy μ)) := by
  intro a U g mk q
  obtain ⟨q0, qK, qN, qP⟩ := q
  exact ⟨q0, va_K.moved (u := U) (U := U.calling g mk a) (Vm.Alike.refl U.vm) qK, mm_nw_same (u := U) (U := U.calling g mk a) rfl qN, qP⟩
theorem mm_pcU {H : Heap} {μ : mM} (G : mm_G p R s m args meth c cc nL o rt ad D cy z) (hP : va_P D vwCl (mm_wl ad cy μ) H) (U : State) (hU : U.heap = H) (hW : s.WarmedH U.vm) : mm_B ad D cy μ U :=
  ⟨va_K.moved hW.alike G.2.2.2.2.2.1, mm_nw_warm hW G.2.2.2.2.2.2.1, by rw [hU]; exact hP⟩
/-- the words of a method, by its number -/
theorem mm_code_in : ∀ id, id < 143 → Cond.code (mm_yn id) (mm_cn id) (mm_qn id).1 (mm_rf (mm_qn id).2.1) ∈ mm_gt ∧ Cond.initialized (mm_yn id).cls ∈ mm_gt ∧ (mm_yn id).cls ≠ "java/lang/invoke/MethodHandle" ∧ (mm_yn id).cls ≠ "java/lang/invoke/VarHandle" ∧ (parseMethodDescriptor (mm_yn id).desc).map (fun d => d.parameters.length) = some (mm_qn id).2.2.2.1 ∧ plainFor (mm_yn id) = true := by
  have hi : (List.range 143).all (fun id => mm_w1 (mm_qn id).2.2.2.2.2 (.initialized (mm_yn id).cls) && decide ((mm_yn id).cls ≠ "java/lang/invoke/MethodHandle") && decide ((mm_yn id).cls ≠ "java/lang/invoke/VarHandle") && decide ((parseMethodDescriptor (mm_yn id).desc).map (fun d => d.parameters.length) = some (mm_qn id).2.2.2.1) && plainFor (mm_yn id)) = true := by decide +kernel
  intro id hid
  have h1 := List.all_eq_true.mp hi id (List.mem_range.mpr hid)
  simp only [Bool.and_eq_true, decide_eq_true_eq] at h1
  refine ⟨mm_cw id hid, mm_w1_in h1.1.1.1.1, h1.1.1.1.2, h1.1.1.2, h1.1.2, h1.2⟩
theorem mm_good_wd {id : Nat} (hid : id < 143) : GoodIn mm_gt (mm_wd id) := by
  have h : ∀ w ∈ mm_wd id, w ∈ mm_gt := by
    intro w hw
    rcases List.mem_cons.mp hw with rfl | h
    · exact (mm_code_in id hid).1
    · exact h
  exact fun w hw => ⟨h w hw, good_of_word (List.mem_filter.mp (h w hw)).2⟩
theorem mm_revmap {st : List mV} {n : Nat} : st.map (mm_tv ad) = ((st.take n).reverse.map (mm_tv ad)).reverse ++ (st.drop n).map (mm_tv ad) := by
  rw [List.map_reverse, List.reverse_reverse, ← List.map_append, List.take_append_drop]
/-- behind a call -/
theorem mm_after {id r' : Nat} {r : Int32} {μ' : mM} {rest : List mV} {H : Heap} {locs : List Loc} {A : Array Slot} {st0 : List Value} {a : Array Value} (hrun : va_Run p l e R s m args below meth c H locs 0 0 0 0 (F0 m pc A st0) (rest.map (mm_tv ad)) (mm_Q ad D cy z (mm_qn id).2.1 r μ' a) (fun q => z ≤ q)) (hS : va_S (fun q => z ≤ q) s.heap H locs) (hL : mm_L ad rt nL A ls) (hok : ∀ v ∈ rest, mm_ok v)
    (hx : mm_V p l e R s m args below meth c ad D cy z rt nL Q (pc + 3, ls, (if (mm_qn id).2.1 = 0 then rest else .inl r :: rest), μ')) : W p l e R s m args below meth c H locs 0 0 Q (F0 m pc A st0) := by
  unfold mm_Q at hrun
  by_cases h0 : (mm_qn id).2.1 = 0
  · rw [if_pos h0] at hrun
    rw [if_pos h0] at hx
    refine va_callv hrun hS (fun q _ h => h) (fun q h => h) (fun u t H1 locs1 ht hvm hw hB hz1 hk1 hS1 => ?_)
    rw [ht] at hB
    exact hx H1 locs1 A hB hS1 hL hok
  · rw [if_neg h0] at hrun
    rw [if_neg h0] at hx
    refine va_calli hrun hS (fun q _ h => h) (fun q h => h) (fun x u t H1 locs1 ht hvm hw hB hz1 hk1 hS1 => ?_)
    rw [ht] at hB
    subst hw
    exact hx H1 locs1 A hB hS1 hL (mm_oki trivial hok)
theorem o_invokevirtual {n : Nat} (G : mm_G p R s m args meth c cc nL o rt ad D cy z) (hE : mm_EOK l R ad D cy z E) (hd : decode cc pc = .ok (.invokevirtual n, 3)) (h : mm_cv E o n (pc + 3) ls st μ = some x) (hx : mm_T p l e R s m args below meth c ad D cy z rt nL Q x) : mm_V p l e R s m args below meth c ad D cy z rt nL Q (pc, ls, st, μ) := by
  obtain ⟨id, cl, ⟨qa, qb, qd⟩, i, rest, r, μ', hm, hdr, hc, hcall, rfl⟩ := mm_cv_inv h
  intro H locs A hP hS hL hok
  have hok1 : ∀ v ∈ st.take (mm_qn id).2.2.2.1, mm_ok v := fun v hv => hok v (List.mem_of_mem_take hv)
  have hok2 : ∀ v ∈ .inr (.inl (cl, i)) :: rest, mm_ok v := fun v hv => hok v (List.mem_of_mem_drop (by rw [hdr]; exact hv))
  obtain ⟨hM, hfr, hlo, hid⟩ := hE id _ μ r μ' hcall (mm_oki (mm_okc hok2).1 (fun v hv => hok1 v (List.mem_reverse.mp hv)))
  obtain ⟨hcode, hini, hy1, hy2, hpar, -⟩ := mm_code_in id hid
  have hck := mm_mt_ok hm
  simp only [mm_mchk, Bool.and_eq_true, decide_eq_true_eq] at hck
  obtain ⟨⟨⟨⟨w1, w2⟩, w3⟩, hcls⟩, hcl⟩ := hck
  have hts := G.2.2.2.2.1
  have hq : (cl, i) ∈ mm_all := (mm_okc hok2).1
  obtain ⟨n0, -, hn⟩ := mm_idx hq ad cy
  have he := hn μ
  simp only [mm_ce, if_pos hcl] at he
  have hlen : (st.take (mm_qn id).2.2.2.1).length = (mm_qn id).2.2.2.1 := by
    rw [List.length_take]
    have : 0 < (st.drop (mm_qn id).2.2.2.1).length := by rw [hdr]; simp
    rw [List.length_drop] at this
    omega
  obtain ⟨rc, hrc⟩ : ∃ rc, vwCl[cl]? = some rc := ⟨_, List.getElem?_eq_getElem (show cl < vwCl.length from hcl)⟩
  have hrn : rc.1 = mm_rn cl := by
    match cl, hcl, hrc with
    | 0, _, hrc => cases hrc; rfl
    | 1, _, hrc => cases hrc; rfl
    | 2, _, hrc => cases hrc; rfl
    | 3, _, hrc => cases hrc; rfl
    | 4, _, hrc => cases hrc; rfl
    | 5, _, hrc => cases hrc; rfl
    | 6, _, hrc => cases hrc; rfl
    | 7, _, hrc => cases hrc; rfl
    | 8, _, hrc => cases hrc; rfl
    | k + 9, h, _ => exact absurd h (by omega)
  have hrecv := va_recv G.2.2.2.2.2.1 hP hrc he
  rw [hrn] at hrecv
  have hb : CallB R s args (mm_rn o) n (mm_yn id) (mm_cn id) (mm_qn id).1 (mm_rf (mm_qn id).2.1) (mm_wd id) (mm_rm id) 0 0 (mm_qn id).2.2.2.1 := callB_of _ hts (mm_good_wd hid) rfl rfl rfl (hts _ hini) (hts _ (mm_w1_in w1)) ⟨hy1, hy2, hpar⟩ ⟨hfr, hlo⟩
  refine mm_after (id := id) (r' := 0) (a := (Value.ref (ad cl i) :: ((st.take (mm_qn id).2.2.2.1).reverse.map (mm_tv ad))).toArray) (rest := rest) ?_ hS hL (mm_okc hok2).2 hx
  exact va_runV (C := mm_rn cl) (As := (st.take (mm_qn id).2.2.2.1).reverse.map (mm_tv ad)) (nL := nL) ⟨G.1, G.2.1, G.2.2.1, G.2.2.2.1, hts⟩ hM ⟨hb, hts _ (mm_w1_in w2), hts _ (mm_w1_in w3)⟩ ⟨mm_blind _ _, hrecv, fun U hU hW => ⟨rfl, mm_pcU G hP U hU hW⟩⟩ rfl (by rw [List.length_map, List.length_reverse, hlen]) hL.1 (by
    show st.map (mm_tv ad) = _
    rw [mm_revmap (n := (mm_qn id).2.2.2.1), hdr]
    rfl) (lv_room (by rw [mm_ct_sum]; exact hc)) hd ⟨Nat.zero_le _, Nat.zero_le _⟩
theorem mm_row_wl {k i n n0 t : Nat} {q : Nat × Nat} {f : Nat → Int32} (hn0 : mm_all[n0]? = some (k, i)) (ha : mm_as k = some (t, n, q)) (ht : t ≠ 2) : (mm_wl ad cy μ).set n0 (ad k i, .inl (cy t, n, .inl f)) = mm_wl ad cy (mm_row μ k i f) := by
  have hq : (k, i) ∈ mm_all := List.mem_of_getElem? hn0
  have h5 := mm_set (f := fun q => (ad q.1 q.2, mm_ce ad cy μ q.1 q.2)) (g := fun q => (ad q.1 q.2, mm_ce ad cy (mm_row μ k i f) q.1 q.2)) hn0 (fun y _ hy => by rw [mm_ce_row hy])
  unfold mm_wl
  rw [← h5]
  simp only
  rw [mm_arr hq ha ht]
  have e : mm_row μ k i f k i = f := by simp [mm_row]
  rw [e]
theorem o_invokestatic {n : Nat} (G : mm_G p R s m args meth c cc nL o rt ad D cy z) (hE : mm_EOK l R ad D cy z E) (hd : decode cc pc = .ok (.invokestatic n, 3)) (h : mm_cs E o n (pc + 3) ls st μ = some x) (hx : mm_T p l e R s m args below meth c ad D cy z rt nL Q x) : mm_V p l e R s m args below meth c ad D cy z rt nL Q (pc, ls, st, μ) := by
  have hts := G.2.2.2.2.1
  rcases mm_cs_inv h with ⟨id, ⟨cl, qa, qb, qd⟩, hm, hac⟩ | ⟨t, id, ⟨cl, qa, qb, qd⟩, r, μ', hm, ht, hle, hc, hcall, rfl⟩
  · obtain ⟨k, dp, k1, i1, sp, k0, i0, st', n0, n1, q0, q1, rfl, h0, h1, g1, g2, g3, g4, g5, hc, rfl⟩ := mm_ac_inv hac
    have hck := mm_mt_ok hm
    simp only [mm_mchk, Bool.and_eq_true, decide_eq_true_eq] at hck
    obtain ⟨⟨w1, w2⟩, w3⟩ := hck
    intro H locs A hP hS hL hok
    have hoka := (mm_okc (mm_okc hok).2).2
    have hok0 := (mm_okc (mm_okc hoka).2).2
    have hq1 : (k1, i1) ∈ mm_all := (mm_okc hoka).1
    have hq0 : (k0, i0) ∈ mm_all := (mm_okc hok0).1
    obtain ⟨a0, -, hn0⟩ := mm_idx hq0 ad cy
    obtain ⟨a1, ha1, hn1⟩ := mm_idx hq1 ad cy
    have he0 := hn0 μ
    have he1 := hn1 μ
    rw [mm_arr hq0 h0 (by decide)] at he0
    rw [mm_arr hq1 h1 (by decide)] at he1
    refine va_copyi (rest := st'.map (mm_tv ad)) G.1 G.2.1 (by rw [G.2.2.1]; exact hL.1.symm) G.2.2.2.1 (hts _ (mm_w1_in w1)) (hts _ (mm_w1_in w2)) (hts _ (mm_w1_in w3)) (hts _ mm_sysini) G.2.2.2.2.2.1 hP (mm_D G.2.2.2.2.2.2.2.1) hS a0 a1 0 0 he0 he1 rfl rfl rfl g2 g3 g1 g4 g5 (fun _ _ => rfl) G.2.2.2.2.2.2.2.2.1 (by
      rw [mm_ct_sum]
      have h40 := G.2.2.2.2.2.2.2.2.2.1
      have hnf : nativeFrameWords "java/lang/System" "arraycopy" 5 + 11 ≤ 30 := by decide +kernel
      omega) hd (fun H1 locs1 hP1 _ hS1 => ?_)
    have hP2 : va_P D vwCl ((mm_wl ad cy μ).set a1 (ad k1 i1, .inl (cy 0, n1, .inl (va_cpy (μ k0 i0) (μ k1 i1) sp.toNatClampNeg dp.toNatClampNeg k.toNatClampNeg)))) H1 := hP1
    rw [mm_row_wl ha1 h1 (by decide)] at hP2
    exact hx H1 locs1 A hP2 hS1 hL (mm_okc hok0).2
  · intro H locs A hP hS hL hok
    have hok1 : ∀ v ∈ st.take (mm_qn id).2.2.2.1, mm_ok v := fun v hv => hok v (List.mem_of_mem_take hv)
    have hok2 : ∀ v ∈ st.drop (mm_qn id).2.2.2.1, mm_ok v := fun v hv => hok v (List.mem_of_mem_drop hv)
    obtain ⟨hM, hfr, hlo, hid⟩ := hE id _ μ r μ' hcall (fun v hv => hok1 v (List.mem_reverse.mp hv))
    obtain ⟨hcode, hini, hy1, hy2, hpar, -⟩ := mm_code_in id hid
    have hck := mm_mt_ok hm
    have hlen : (st.take (mm_qn id).2.2.2.1).length = (mm_qn id).2.2.2.1 := by
      rw [List.length_take]
      omega
    refine mm_after (id := id) (r' := 0) (a := ((st.take (mm_qn id).2.2.2.1).reverse.map (mm_tv ad)).toArray) (rest := st.drop (mm_qn id).2.2.2.1) ?_ hS hL hok2 hx
    have hpre : PreS s H (va_Pc ((st.take (mm_qn id).2.2.2.1).reverse.map (mm_tv ad)) (mm_B ad D cy μ)) ((st.take (mm_qn id).2.2.2.1).reverse.map (mm_tv ad)) := ⟨mm_blind _ _, fun U hU hW => ⟨rfl, mm_pcU G hP U hU hW⟩⟩
    rcases ht with rfl | rfl
    · simp only [mm_mchk, Bool.and_eq_true, decide_eq_true_eq] at hck
      obtain ⟨w1, w2⟩ := hck
      have hb : CallB R s args (mm_rn o) n (mm_yn id) (mm_cn id) (mm_qn id).1 (mm_rf (mm_qn id).2.1) (mm_wd id) (mm_rm id) 0 0 (mm_qn id).2.2.2.1 := callB_of _ hts (mm_good_wd hid) rfl rfl rfl (hts _ hini) (hts _ (mm_w1_in w1)) ⟨hy1, hy2, hpar⟩ ⟨hfr, hlo⟩
      exact va_runS (As := (st.take (mm_qn id).2.2.2.1).reverse.map (mm_tv ad)) (nL := nL) ⟨G.1, G.2.1, G.2.2.1, G.2.2.2.1, hts⟩ hM ⟨hb, hts _ (mm_w1_in w2)⟩ hpre rfl (by rw [List.length_map, List.length_reverse, hlen]) hL.1 mm_revmap (lv_room (by rw [mm_ct_sum]; exact hc)) hd ⟨Nat.zero_le _, Nat.zero_le _⟩
    · simp only [mm_mchk, Bool.and_eq_true, decide_eq_true_eq] at hck
      obtain ⟨w1, w2⟩ := hck
      have hnest : va_Nw (.methodLinkNest (mm_rn o) n (mm_yn id) "BoreSpans") s := G.2.2.2.2.2.2.1 _ (List.mem_filter.mpr ⟨List.mem_of_getElem? w1, rfl⟩)
      have hb := va_cnB (R := R) (bytes := mm_cn id) (maxL := (mm_qn id).1) (ret := mm_rf (mm_qn id).2.1) (rm := mm_rm id) (mc := 0) (ms := 0) (mm_qn id).2.2.2.1 hts (mm_good_wd hid) rfl rfl rfl hnest (hts _ hini) ⟨hy1, hy2, hpar⟩ ⟨hfr, hlo⟩
      exact va_runSN (As := (st.take (mm_qn id).2.2.2.1).reverse.map (mm_tv ad)) (nL := nL) (Ts := mm_gt) ⟨G.1, G.2.1, G.2.2.1, G.2.2.2.1, hts⟩ hM ⟨hb, hts _ (mm_w1_in w2), trivial⟩ hpre rfl (by rw [List.length_map, List.length_reverse, hlen]) hL.1 mm_revmap (lv_room (by rw [mm_ct_sum]; exact hc)) hd ⟨Nat.zero_le _, Nat.zero_le _⟩
end CALL
