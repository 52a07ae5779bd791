/-! THE CLAIM OUT OF ONE WALK OF THE LAW'S BODY. Your part is whole_start (and what it stands on); all else here is the same for every law, but numbers. -/
def R_law : String := "BoreSpansLaw"
def lw_P (b : Addr) (xs : List Int32) (args : Array Value) (s : State) : Prop := args = #[.ref b] ∧ s.IntsAt b xs ∧ xs.length ≤ 2048 ∧ (Jvm.Cond.and given_1 narrow_1).before args s = true
def lw_Q (_ : Array Value) (s : State) (o : Outcome) (t : State) : Prop := o = .returned (some (.int 1)) ∧ Framed s o t [] 600000 7302250
def lw_Z (below : List Frame) (a : Array Value) (s : State) : State → Prop := fun t => ∃ o, t.status = .running ∧ Ended t below o ∧ lw_Q a s o t
/-- the law's own end, with 1 on the stack, nothing written that was there before, its room as the claim has it -/
theorem lw_ret {p : Program} {l : Launch} {e : Env} {s : State} {m : MethodId} {below : List Frame} {meth : Method} {c : Code} {b : Nat} (hx : p.tables.exec = Jvm.exec) (hb : c.code = code) (hr : meth.sig.returnType = ret) (hlocks : meth.locks = false) {pc : Nat} {H : Heap} {ls : Array Slot} (hdg : decode code pc = .ok (.ireturn, 1)) : W p l e room_1 s m #[Value.ref b] below meth c H [] 600000 7302250 (lw_Z below #[Value.ref b] s) (F0 m pc ls [.int 1]) := by
  intro T hT X
  obtain ⟨fs, hret, hrun, hended, hW, hframe⟩ := X.leave (v := some (.int 1)) (hlocks := hlocks) (fun h => by rw [hr] at h; cases h)
  have hmeth' : T.vm.method? m = some meth := X.method'
  refine ⟨T.setFrames fs, ?_, .returned (some (.int 1)), hrun, hended, rfl, ⟨_, rfl⟩, hW, hframe⟩
  jvm_step X.here [X.here.top, hx, hb, hdg, hmeth', hr, ret, narrow_b1]
  (try refine ⟨rfl, ?_⟩); (try refine ⟨rfl, ?_⟩)
  first | (intro acts; rw [hret _ acts rfl rfl rfl]) | rw [hret _ _ rfl rfl rfl]
  exact Steps.refl _
/-- what holds at the law's entry: the machine, the code, the tables' words (any of lw_tbl by 'hts w (by decide +kernel)'), the script of L ints xs at the cell b, what the Statement gives of the start (any of its parts by flat_of_before) -/
def lw_At (p : Program) (s : State) (m : MethodId) (meth : Method) (c : Code) (b L : Nat) (xs : Nat → Int32) : Prop :=
  p.tables.exec = Jvm.exec ∧ c.code = code ∧ meth.sig.returnType = ret ∧ c.maxLocals = 4 ∧ s.vm.findClass R_law = some m.cls ∧ (∀ w ∈ lw_tbl, w.before #[Value.ref b] s = true) ∧ va_X b L xs s s.heap ∧ b < s.heap.size ∧ meth.locks = false ∧ (Jvm.Cond.and given_1 narrow_1).before #[Value.ref b] s = true
/-! the law's calls: number in its pool, method, class, words, how many arguments -/
def lw_ml : List (Nat × Nat × Nat × Nat × Nat × Nat × Nat) := [(13, 49, 7, 320, 321, 322, 1), (17, 99, 8, 734, 735, 736, 1), (18, 50, 7, 445, 446, 447, 2), (22, 102, 8, 798, 799, 800, 2), (23, 51, 7, 459, 460, 461, 2), (26, 105, 8, 815, 816, 817, 2), (27, 52, 7, 469, 470, 471, 2), (30, 107, 8, 835, 836, 837, 2), (31, 53, 7, 477, 478, 479, 2), (34, 108, 8, 847, 848, 849, 2), (35, 54, 7, 485, 486, 487, 2), (38, 109, 8, 851, 852, 853, 2), (39, 55, 7, 492, 493, 494, 2), (42, 114, 8, 856, 857, 858, 2), (43, 56, 7, 528, 529, 530, 1), (46, 115, 8, 881, 882, 883, 1), (47, 57, 7, 532, 533, 534, 1), (50, 118, 8, 885, 886, 887, 1), (51, 58, 7, 540, 541, 542, 1), (54, 119, 8, 893, 894, 895, 1), (55, 59, 7, 548, 549, 550, 3), (59, 120, 8, 901, 902, 903, 3), (60, 60, 7, 552, 553, 554, 0), (64, 121, 8, 906, 907, 908, 0), (65, 61, 7, 557, 558, 559, 1), (68, 123, 8, 911, 912, 913, 1), (69, 62, 7, 569, 570, 571, 0), (72, 124, 8, 924, 925, 926, 0), (73, 63, 7, 581, 582, 583, 1), (76, 125, 8, 928, 929, 930, 1), (77, 64, 7, 592, 593, 594, 1), (80, 128, 8, 933, 934, 935, 1), (81, 65, 7, 612, 613, 614, 1), (84, 133, 8, 945, 946, 947, 1), (85, 66, 7, 641, 642, 643, 1), (88, 134, 8, 966, 967, 968, 1), (89, 67, 7, 646, 647, 648, 3), (93, 135, 8, 970, 971, 972, 3), (94, 68, 7, 655, 656, 657, 0), (97, 136, 8, 974, 975, 976, 0), (98, 69, 7, 659, 660, 661, 1), (101, 137, 8, 978, 979, 980, 1), (102, 70, 7, 663, 664, 665, 1), (105, 138, 8, 982, 983, 984, 1), (106, 71, 7, 668, 669, 670, 1), (109, 139, 8, 986, 987, 988, 1)]
def lw_mk (q : Nat × Nat × Nat × Nat × Nat × Nat × Nat) : Bool := mm_w1 q.2.2.2.1 (.methodLink R_law q.1 (mm_yn q.2.1)) && mm_w1 q.2.2.2.2.1 (.instanceMethod (mm_yn q.2.1)) && mm_w1 q.2.2.2.2.2.1 (.selects (mm_rn q.2.2.1) (mm_yn q.2.1) (mm_yn q.2.1)) && decide (q.2.2.1 < 9) && decide ((q.2.2.1, 0) ∈ mm_all) && decide (q.2.1 < 143) && decide ((mm_qn q.2.1).2.2.1 + 1 ≤ 8) && decide (8 + ((mm_qn q.2.1).1 + 11) + 40 * (mm_qn q.2.1).2.2.1 ≤ 292) && decide ((mm_qn q.2.1).2.1 = 1) && decide ((mm_qn q.2.1).2.2.2.1 = q.2.2.2.2.2.2)
set_option maxRecDepth 100000 in
theorem lw_ml_ok : lw_ml.all lw_mk = true := by decide +kernel
/-- what stays through the law -/
def lw_C (p : Program) (s : State) (m : MethodId) (c : Code) (b L : Nat) (xs : Nat → Int32) (ad : Nat → Nat → Nat) (D : va_G) (cy : Nat → ClassId) : Prop :=
  p.tables.exec = Jvm.exec ∧ c.code = code ∧ c.maxLocals = 4 ∧ s.vm.findClass R_law = some m.cls ∧ (∀ w ∈ mm_gt, w.before #[Value.ref b] s = true) ∧ va_K D vwCl (mm_ty cy) s ∧ (∀ w ∈ mm_nw, va_Nw w s) ∧ mm_adr ad s.heap.size ∧ va_X b L xs s s.heap ∧ b < s.heap.size ∧ L ≤ 2048
section LW
variable {p : Program} {l : Launch} {e : Env} {s : State} {m : MethodId} {below : List Frame} {meth : Method} {c : Code} {H : Heap} {locs : List Loc} {Q : State → Prop} {pc : Nat} {ls : Array Slot} {rest : List Value} {D : va_G} {cy : Nat → ClassId} {ad : Nat → Nat → Nat} {b L cells slots : Nat} {xs : Nat → Int32} {μ μ1 : mM}
theorem lr_call {idx id cl w1 w2 w3 : Nat} {f : List mV → mM → Option mR} {as : List Int32} {r : Int32} (C : lw_C p s m c b L xs ad D cy) (hm : (idx, id, cl, w1, w2, w3, as.length) ∈ lw_ml) (hk : mm_OK l id f) (hf : f (vr cl 0 :: as.map vi) μ = some (r, μ1)) (hP : va_P D vwCl (mm_wl ad cy μ) H) (hS : va_S (fun q => s.heap.size ≤ q) s.heap H locs) (hls : ls.size = 4) (hrest : (rest.map fun v => v.category).sum ≤ 8) (hc1 : cells ≤ 600000) (hc2 : slots ≤ 7302250) (hdg : decode code pc = .ok (.invokevirtual idx, 3))
    (kk : ∀ (H1 : Heap) (locs1 : List Loc), va_P D vwCl (mm_wl ad cy μ1) H1 → va_S (fun q => s.heap.size ≤ q) s.heap H1 locs1 → W p l e room_1 s m #[Value.ref b] below meth c H1 locs1 cells slots Q (F0 m (pc + 3) ls (.int r :: rest))) : W p l e room_1 s m #[Value.ref b] below meth c H locs cells slots Q (F0 m pc ls ((as.map Value.int).reverse ++ .ref (ad cl 0) :: rest)) := by
  obtain ⟨hexec, hb, hml, hown, hts, hK, hN, had, hX, hbl, hL⟩ := C
  have hq := List.all_eq_true.mp lw_ml_ok _ hm
  simp only [lw_mk, Bool.and_eq_true, decide_eq_true_eq] at hq
  obtain ⟨⟨⟨⟨⟨⟨⟨⟨⟨a1, a2⟩, a3⟩, hcl⟩, hall⟩, hid⟩, hfr⟩, hlo⟩, hrt⟩, hnp⟩ := hq
  have em : (as.map vi).map (mm_tv ad) = as.map Value.int := by
    rw [List.map_map]
    rfl
  have hM := hk ad D cy s.heap.size _ μ r μ1 hf (fun v hv => by
    rcases List.mem_cons.mp hv with rfl | hv
    · exact hall
    · obtain ⟨x, -, rfl⟩ := List.mem_map.mp hv
      exact trivial) had
  unfold mm_met at hM
  rw [List.map_cons, em] at hM
  obtain ⟨hcode, hini, hy1, hy2, hpar, -⟩ := mm_code_in id hid
  obtain ⟨n0, -, hn⟩ := mm_idx hall ad cy
  have he := hn μ
  simp only [mm_ce, if_pos hcl] at he
  obtain ⟨rc, hrc, hrn⟩ := zm_vw cl hcl
  have hrecv := va_recv hK hP hrc he
  rw [hrn] at hrecv
  have hbB : CallB room_1 s #[Value.ref b] R_law idx (mm_yn id) (mm_cn id) (mm_qn id).1 (mm_rf (mm_qn id).2.1) (mm_wd id) (mm_rm id) 0 0 (mm_qn id).2.2.2.1 := callB_of _ hts (mm_good_wd hid) rfl rfl rfl (hts _ hini) (hts _ (mm_w1_in a1)) ⟨hy1, hy2, hpar⟩ ⟨hfr, hlo⟩
  have hrun : va_Run p l e room_1 s m #[Value.ref b] below meth c H locs cells slots 0 0 (F0 m pc ls ((as.map Value.int).reverse ++ .ref (ad cl 0) :: rest)) rest (mm_Q ad D cy s.heap.size (mm_qn id).2.1 r μ1 (Value.ref (ad cl 0) :: as.map Value.int).toArray) (fun q => s.heap.size ≤ q) :=
    va_runV (C := mm_rn cl) (As := as.map Value.int) (nL := 4) ⟨hexec, hb, hml, hown, hts⟩ hM ⟨hbB, hts _ (mm_w1_in a2), hts _ (mm_w1_in a3)⟩ ⟨mm_blind _ _, hrecv, fun U hU hW => ⟨rfl, va_K.moved hW.alike hK, mm_nw_warm hW hN, by rw [hU]; exact hP⟩⟩ rfl (by rw [List.length_map, hnp]) hls rfl (lv_room hrest) hdg ⟨hc1, hc2⟩
  unfold mm_Q at hrun
  rw [hrt, if_neg (by decide)] at hrun
  refine va_calli hrun hS (fun q _ h => h) (fun q h => h) (fun x u t H1 locs1 ht hvm hw hB hz1 hk1 hS1 => ?_)
  rw [ht] at hB
  subst hw
  exact kk H1 locs1 hB hS1
/-- an argument: script[i + j] -/
theorem lr_arg {j : Int} {jn x3 : Int32} (C : lw_C p s m c b L xs ad D cy) (hl0 : ls[0]? = some (.val (.ref b))) (hl3 : ls[3]? = some (.val (.int x3))) (hS : va_S (fun q => s.heap.size ≤ q) s.heap H locs) (hj : Int32.ofInt j = jn) (hin : vp_in (x3 + jn) L) (d0 : decode code pc = .ok (.aload_n 0, 1)) (d1 : decode code (pc + 1) = .ok (.iload_n 3, 1)) (d2 : decode code (pc + 2) = .ok (.iconst j, 1)) (d3 : decode code (pc + 3) = .ok (.iadd, 1)) (d4 : decode code (pc + 4) = .ok (.iaload, 1))
    (kk : W p l e room_1 s m #[Value.ref b] below meth c H locs cells slots Q (F0 m (pc + 5) ls (.int (xs (x3 + jn).toNatClampNeg) :: rest))) : W p l e room_1 s m #[Value.ref b] below meth c H locs cells slots Q (F0 m pc ls rest) := by
  obtain ⟨hexec, hb, hml, hown, hts, hK, hN, had, hX, hbl, hL⟩ := C
  have hbA : ¬ (fun q : Nat => s.heap.size ≤ q) b := Nat.not_le.mpr hbl
  refine lv_aload_n hexec hb d0 rfl hl0 ?_
  refine lv_iload_n hexec hb d1 rfl hl3 ?_
  refine lv_iconst hexec hb d2 hj ?_
  refine lv_iadd hexec hb d3 ?_
  exact va_sld hexec hb hX hbl hbA hS hin d4 kk
/-- script[i + 3] != 0 -/
theorem lr_bool {v : Int32} (C : lw_C p s m c b L xs ad D cy) (d0 : decode code pc = .ok (.ifCond .eq 7, 3)) (d1 : decode code (pc + 3) = .ok (.iconst 1, 1)) (d2 : decode code (pc + 4) = .ok (.goto 4, 3)) (d3 : decode code (pc + 7) = .ok (.iconst 0, 1))
    (kk : W p l e room_1 s m #[Value.ref b] below meth c H locs cells slots Q (F0 m (pc + 8) ls (.int (if v = 0 then 0 else 1) :: rest))) : W p l e room_1 s m #[Value.ref b] below meth c H locs cells slots Q (F0 m pc ls (.int v :: rest)) := by
  obtain ⟨hexec, hb, -⟩ := C
  refine lv_if_eq (tgt := pc + 7) hexec hb d0 (by omega) (fun h => ?_) (fun h => ?_)
  · rw [if_pos h] at kk
    exact lv_iconst (v := 0) hexec hb d3 (by decide) kk
  · rw [if_neg h] at kk
    refine lv_iconst (v := 1) hexec hb d1 (by decide) ?_
    exact lv_goto (tgt := pc + 8) hexec hb d2 (by omega) kk

end LW
