section ZR
variable {p : Program} {l : Launch} {e : Env} {R : Room} {s : State} {m : MethodId} {args : Array Value} {below : List Frame} {meth : Method} {c : Code} {H : Heap} {locs : List Loc} {Q : State → Prop} {cc : ByteArray} {pc : Nat} {ls : Array Slot} {rest : List Value} {D : va_G} {b : Nat} {cy : Nat → ClassId} {cs : List zD} {k n : Nat} {own : String}
/-- the heap's size is known from the cells that were made -/
theorem zr_size {g : JFrame} {cells slots : Nat} (kk : H.size ≤ s.heap.size + cells → W p l e R s m args below meth c H locs cells slots Q g) : W p l e R s m args below meth c H locs cells slots Q g := fun T hT X => kk (by rw [← hT]; exact X.heapSize) T hT X
theorem zr_sz {A : Nat → Prop} (hP : va_P D vwCl (zW b cy cs) H) (hS : va_S A s.heap H locs) (hz : b + cs.length = s.heap.size + k) (hb0 : b ≤ s.heap.size) (h : H.size ≤ s.heap.size + k) : H.size = b + cs.length := by
  have h1 := hS.1
  cases hc : cs.length with
  | zero => rw [hc] at hz; omega
  | succ j =>
    obtain ⟨d, hd⟩ : ∃ d, cs[j]? = some d := ⟨_, List.getElem?_eq_getElem (by omega)⟩
    have h2 : b + j < H.size := (hP j _ (zW_get hd)).lt
    omega
theorem zr_S {H1 : Heap} (hS : va_S (fun q => b ≤ q) s.heap H locs) (ho : ∀ q, q < H.size → H1[q]? = H[q]?) (hz : H.size ≤ H1.size) : va_S (fun q => b ≤ q) s.heap H1 locs :=
  ⟨Nat.le_trans hS.1 hz, fun q h1 h2 => (ho q (Nat.lt_of_lt_of_le h1 hS.1)).trans (hS.2.1 q h1 h2), hS.2.2⟩
theorem zr_neg {x : Int32} (h : 0 ≤ x.toInt) : ¬ x < 0 := by
  intro h2
  have h3 := Int32.lt_iff_toInt_lt.mp h2
  have e : (0 : Int32).toInt = 0 := by decide
  omega
theorem zr_nat {x : Int32} : x.toNatClampNeg = x.toInt.toNat := rfl
/-- new -/
theorem zr_new {index ci : Nat} (hexec : p.tables.exec = Jvm.exec) (hb : c.code = cc) (hts : ∀ w ∈ mm_gt, w.before args s = true) (hown : s.vm.findClass own = some m.cls) (hci : ci < 9) (hcl : (Cond.classLink own index (mm_rn ci)).before args s = true) (hinst : Cond.instantiable (mm_rn ci) (mm_fs ci).length ∈ mm_gt) (hK : va_K D vwCl (mm_ty cy) s) (hP : va_P D vwCl (zW b cy cs) H) (hS : va_S (fun q => b ≤ q) s.heap H locs) (hz : b + cs.length = s.heap.size + k) (hb0 : b ≤ s.heap.size) (hcells : k + 1 ≤ R.cells) (hslots : n + (mm_fs ci).length ≤ R.slots) (hdg : decode cc pc = .ok (.new index, 3))
    (kk : ∀ H1 : Heap, va_P D vwCl (zW b cy (cs ++ [(ci, 0, zm_df ci)])) H1 → va_S (fun q => b ≤ q) s.heap H1 locs → W p l e R s m args below meth c H1 locs (k + 1) (n + (mm_fs ci).length) Q (F0 m (pc + 3) ls (.ref (b + cs.length) :: rest))) : W p l e R s m args below meth c H locs k n Q (F0 m pc ls rest) := by
  refine zr_size (fun hle => ?_)
  have hsz := zr_sz hP hS hz hb0 hle
  obtain ⟨r, hr, hrn⟩ := zm_vw ci hci
  have hKn := hK.1 ci r hr
  obtain ⟨c1, c2, c3, c4⟩ := mm_cls_ok ci r hr
  refine W.newcK (cC := D.1 ci) (h := b + cs.length) hexec hb hown hcl (hts _ hinst) (hts _ (zm_cl_ok ci hci).1) rfl hdg hcells hslots (by rw [← hrn]; exact hKn.2.1) hsz fun H1 kC hkC e1 z1 o1 => ?_
  refine kk H1 (zP_app hP hsz (fun q hq => o1 q (by omega)) (fun j d hj => ?_)) (zr_S hS (fun q hq => o1 q (by omega)) (by omega))
  have hj0 : j < 1 := (List.getElem?_eq_some_iff.mp hj).1
  have hj0 : j = 0 := by omega
  subst hj0
  cases hj
  have e2 : zR b cy (ci, 0, zm_df ci) = .inr (ci, (zm_df ci).map (zr b)) := if_pos hci
  rw [e2, hsz]
  exact ⟨r, hr, (u_born (mm_tyo ci) hts (mm_ucl ci r hr) hKn hkC e1 c1).to (fun j hj => zm_df_ok ci hci j (by rw [← c3]; exact hj))⟩
/-- newarray -/
theorem zr_na {atype : ArrayType} {tg : Nat} (ht : (tg = 9 ∧ atype = .int) ∨ (tg = 10 ∧ atype = .boolean)) (hexec : p.tables.exec = Jvm.exec) (hb : c.code = cc) (hts : ∀ w ∈ mm_gt, w.before args s = true) (hK : va_K D vwCl (mm_ty cy) s) (hP : va_P D vwCl (zW b cy cs) H) (hS : va_S (fun q => b ≤ q) s.heap H locs) (hz : b + cs.length = s.heap.size + k) (hb0 : b ≤ s.heap.size) {x : Int32} (hx0 : 0 ≤ x.toInt) (hx1 : x.toInt < 100000) (hcells : k + 1 ≤ R.cells) (hslots : n + x.toNatClampNeg ≤ R.slots) (hdg : decode cc pc = .ok (.newarray atype, 2))
    (kk : ∀ H1 : Heap, va_P D vwCl (zW b cy (cs ++ [(tg, x.toNatClampNeg, [])])) H1 → va_S (fun q => b ≤ q) s.heap H1 locs → W p l e R s m args below meth c H1 locs (k + 1) (n + x.toNatClampNeg) Q (F0 m (pc + 2) ls (.ref (b + cs.length) :: rest))) : W p l e R s m args below meth c H locs k n Q (F0 m pc ls (.int x :: rest)) := by
  refine zr_size (fun hle => ?_)
  have hsz := zr_sz hP hS hz hb0 hle
  have hn := zr_neg hx0
  have hxN : x.toNatClampNeg ≤ 100000 := by rw [zr_nat]; omega
  rcases ht with ⟨rfl, rfl⟩ | ⟨rfl, rfl⟩
  · refine va_newaK (atype := .int) (N := x.toNatClampNeg) (h := b + cs.length) hexec hb (hts _ zm_obj.2.2.1) rfl hdg rfl hn rfl (by show x.toNatClampNeg * 4 ≤ _; omega) hcells hslots hsz fun H1 cA e1 z1 o1 hAr hNm => ?_
    have hcA : cA = cy 0 := Option.some.inj (hNm.symm.trans (hK.2 0 _ rfl).2)
    subst hcA
    refine kk H1 (zP_app hP hsz (fun q hq => o1 q (by omega)) (fun j d hj => ?_)) (zr_S hS (fun q hq => o1 q (by omega)) (by omega))
    have hj0 : j < 1 := (List.getElem?_eq_some_iff.mp hj).1
    have hj0 : j = 0 := by omega
    subst hj0
    cases hj
    rw [hsz]
    exact e1
  · refine va_newaK (atype := .boolean) (N := x.toNatClampNeg) (h := b + cs.length) hexec hb (hts _ zm_obj.2.2.2.1) rfl hdg rfl hn rfl (by show x.toNatClampNeg * 1 ≤ _; omega) hcells hslots hsz fun H1 cA e1 z1 o1 hAr hNm => ?_
    have hcA : cA = cy 1 := Option.some.inj (hNm.symm.trans (hK.2 1 _ rfl).2)
    subst hcA
    refine kk H1 (zP_app hP hsz (fun q hq => o1 q (by omega)) (fun j d hj => ?_)) (zr_S hS (fun q hq => o1 q (by omega)) (by omega))
    have hj0 : j < 1 := (List.getElem?_eq_some_iff.mp hj).1
    have hj0 : j = 0 := by omega
    subst hj0
    cases hj
    rw [hsz]
    exact e1
theorem zq_none {N : Nat} (j : Nat) : zq b (List.replicate N none) j = none := by
  unfold zq
  rw [List.getElem?_replicate]
  by_cases h : j < N <;> simp [h]
/-- anewarray -/
theorem zr_an {index t : Nat} (ht : t = 16 ∨ t = 17) (hexec : p.tables.exec = Jvm.exec) (hb : c.code = cc) (hown : s.vm.findClass own = some m.cls) (hcl : (Cond.classLink own index (mm_rn (zm_rc t))).before args s = true) (hao : zm_ao s) (hK : va_K D vwCl (mm_ty cy) s) (hP : va_P D vwCl (zW b cy cs) H) (hS : va_S (fun q => b ≤ q) s.heap H locs) (hz : b + cs.length = s.heap.size + k) (hb0 : b ≤ s.heap.size) {x : Int32} (hx0 : 0 ≤ x.toInt) (hx1 : x.toInt < 100000) (hcells : k + 1 ≤ R.cells) (hslots : n + x.toNatClampNeg ≤ R.slots) (hdg : decode cc pc = .ok (.anewarray index, 3))
    (kk : ∀ H1 : Heap, va_P D vwCl (zW b cy (cs ++ [(t, x.toNatClampNeg, List.replicate x.toNatClampNeg none)])) H1 → va_S (fun q => b ≤ q) s.heap H1 locs → W p l e R s m args below meth c H1 locs (k + 1) (n + x.toNatClampNeg) Q (F0 m (pc + 3) ls (.ref (b + cs.length) :: rest))) : W p l e R s m args below meth c H locs k n Q (F0 m pc ls (.int x :: rest)) := by
  refine zr_size (fun hle => ?_)
  have hsz := zr_sz hP hS hz hb0 hle
  have hn := zr_neg hx0
  have hxN : x.toNatClampNeg ≤ 100000 := by rw [zr_nat]; omega
  have hover : va_AO (mm_rn (zm_rc t)) s := by
    rcases ht with rfl | rfl
    · exact hao.1
    · exact hao.2.1
  refine W.anew hexec hb hown hcl (va_AO.use hover) rfl hdg rfl hn (by omega) hcells hslots fun cA kA comp f1 f2 f3 f4 => ?_
  have hcA : cA = cy t := by
    rcases ht with rfl | rfl
    · obtain ⟨_, _, _, _, _, h4⟩ := (hK.2 2 _ rfl).2
      exact Option.some.inj (f1.symm.trans h4)
    · obtain ⟨_, _, _, _, _, h4⟩ := (hK.2 3 _ rfl).2
      exact Option.some.inj (f1.symm.trans h4)
  subst hcA
  generalize hH1 : H.push ({ cls := cy t, slots := Array.replicate x.toNatClampNeg .null, vm := .none } : Cell) = H1
  have z1 : H1.size = H.size + 1 := by rw [← hH1, Array.size_push]
  have e1 : H1[H.size]? = some (arrV (cy t) x.toNatClampNeg (fun _ => .null)) := by rw [← hH1, Array.getElem?_push_size, ← arrV_new]
  have o1 : ∀ q : Nat, q < H.size → H1[q]? = H[q]? := fun q hq => by rw [← hH1, Array.getElem?_push, if_neg (Nat.ne_of_lt hq)]
  have hk := kk H1 (zP_app hP hsz o1 (fun j d hj => by
    have hj0 : j < 1 := (List.getElem?_eq_some_iff.mp hj).1
    have hj0 : j = 0 := by omega
    subst hj0
    cases hj
    have e2 : zR b cy (t, x.toNatClampNeg, List.replicate x.toNatClampNeg none) = .inl (cy t, x.toNatClampNeg, .inr (.inr (.inr (.inr (zq b (List.replicate x.toNatClampNeg none)))))) := by
      rcases ht with rfl | rfl <;> rfl
    rw [e2]
    show H1[H.size]? = some (vp_cell (cy t) (x.toNatClampNeg, .inr (.inr (.inr (.inr (zq b (List.replicate x.toNatClampNeg none)))))))
    rw [vp_cell_q, e1]
    refine congrArg some (arrV_cg (fun j _ => ?_))
    rw [zq_none]
    rfl)) (zr_S hS o1 (by omega))
  rw [← hsz] at hk
  exact hk
/-- new T[n][m] -/
theorem zr_mn {index : Nat} (hexec : p.tables.exec = Jvm.exec) (hb : c.code = cc) (hts : ∀ w ∈ mm_gt, w.before args s = true) (hown : s.vm.findClass own = some m.cls) (hcl : (Cond.classLink own index "[[I").before args s = true) (hao : zm_ao s) (hK : va_K D vwCl (mm_ty cy) s) (hP : va_P D vwCl (zW b cy cs) H) (hS : va_S (fun q => b ≤ q) s.heap H locs) (hz : b + cs.length = s.heap.size + k) (hb0 : b ≤ s.heap.size) {x y : Int32} (hx0 : 0 ≤ x.toInt) (hx1 : x.toInt < 1000) (hy0 : 0 ≤ y.toInt) (hy1 : y.toInt < 1000) (hcells : k + (1 + x.toNatClampNeg) ≤ R.cells) (hslots : n + (x.toNatClampNeg + x.toNatClampNeg * y.toNatClampNeg) ≤ R.slots) (hdg : decode cc pc = .ok (.multianewarray index 2, 4))
    (kk : ∀ H1 : Heap, va_P D vwCl (zW b cy (cs ++ ((33, x.toNatClampNeg, (List.range x.toNatClampNeg).map (fun j => some (.inr (cs.length + 1 + j)))) :: List.replicate x.toNatClampNeg (9, y.toNatClampNeg, [])))) H1 → va_S (fun q => b ≤ q) s.heap H1 locs → W p l e R s m args below meth c H1 locs (k + 1 + x.toNatClampNeg) (n + x.toNatClampNeg + x.toNatClampNeg * y.toNatClampNeg) Q (F0 m (pc + 4) ls (.ref (b + cs.length) :: rest))) : W p l e R s m args below meth c H locs k n Q (F0 m pc ls (.int y :: .int x :: rest)) := by
  refine zr_size (fun hle => ?_)
  have hsz := zr_sz hP hS hz hb0 hle
  have hxN : x.toNatClampNeg ≤ 1000 := by rw [zr_nat]; omega
  have hyN : y.toNatClampNeg ≤ 1000 := by rw [zr_nat]; omega
  refine zn_step hexec hb hown hcl hao.2.2 (hts _ zm_obj.2.2.1) (zr_neg hx0) (zr_neg hy0) hxN hyN hcells hslots hdg (fun H1 cA comp fA fC z1 hold f2 hrow => ?_)
  have ec : comp = cy 0 := Option.some.inj (fC.symm.trans (hK.2 0 _ rfl).2)
  have eA : cA = cy 33 := Option.some.inj (fA.symm.trans (hK.2 4 _ rfl).2)
  subst ec
  subst eA
  have hP1 : va_P D vwCl (zW b cy (cs ++ ((33, x.toNatClampNeg, (List.range x.toNatClampNeg).map (fun j => some (.inr (cs.length + 1 + j)))) :: List.replicate x.toNatClampNeg (9, y.toNatClampNeg, [])))) H1 := by
    refine zP_app hP hsz hold (fun j d hj => ?_)
    cases j with
    | zero =>
      cases hj
      show H1[H.size]? = some (vp_cell (cy 33) (x.toNatClampNeg, .inr (.inr (.inr (.inr (zq b ((List.range x.toNatClampNeg).map (fun j => some (.inr (cs.length + 1 + j))))))))))
      rw [vp_cell_q, f2]
      refine congrArg some (arrV_cg (fun j hj => ?_))
      have e3 : zq b ((List.range x.toNatClampNeg).map (fun j => some (.inr (cs.length + 1 + j)))) j = some (H.size + 1 + j) := by
        unfold zq
        rw [List.getElem?_map, List.getElem?_range hj]
        show some (b + (cs.length + 1 + j)) = some (H.size + 1 + j)
        rw [hsz]
        exact congrArg some (by omega)
      rw [e3, if_pos hj]
    | succ j =>
      rw [List.getElem?_cons_succ] at hj
      have hjl : j < x.toNatClampNeg := by
        have := (List.getElem?_eq_some_iff.mp hj).1
        rwa [List.length_replicate] at this
      rw [List.getElem?_replicate, if_pos hjl] at hj
      cases hj
      show H1[H.size + (j + 1)]? = some (vp_cell (cy 0) (y.toNatClampNeg, .inl (fun _ => 0)))
      rw [show H.size + (j + 1) = H.size + 1 + j by omega, vp_cell_i]
      exact hrow j hjl
  have hk := kk H1 hP1 (zr_S hS hold (by omega))
  rw [← hsz] at hk
  exact hk
/-- putfield of a reference, in a constructor -/
theorem zr_putr {o index f j a len r : Nat} {vs : List (Option zX)} {t : Nat × Nat × Nat} (hexec : p.tables.exec = Jvm.exec) (hb : c.code = cc) (hts : ∀ w ∈ mm_gt, w.before args s = true) (hown : s.vm.findClass (mm_rn o) = some m.cls) (hK : va_K D vwCl (mm_ty cy) s) (hP : va_P D vwCl (zW b cy cs) H) (hS : va_S (fun q => b ≤ q) s.heap H locs) (hin2 : meth.name = "<init>") (ho : o < 9) (hf : mm_ft o index = some (o, f, j)) (ha : cs[a]? = some (o, len, vs)) (ht : (mm_fs o)[f]? = some t) (h2 : t.1 = 2) (hl : f < vs.length) (hdg : decode cc pc = .ok (.putfield index, 3))
    (kk : ∀ (H1 : Heap) (locs1 : List Loc), va_P D vwCl (zW b cy (cs.set a (o, len, vs.set f (some (.inr r))))) H1 → va_S (fun q => b ≤ q) s.heap H1 locs1 → W p l e R s m args below meth c H1 locs1 k n Q (F0 m (pc + 3) ls rest)) : W p l e R s m args below meth c H locs k n Q (F0 m pc ls (.ref (b + r) :: .ref (b + a) :: rest)) := by
  obtain ⟨rc, hr, hlt, hw⟩ := mm_ft_ok hf
  obtain ⟨c1, c2, c3, c4⟩ := mm_cls_ok o rc hr
  obtain ⟨hfin, hdecl, hisr⟩ := zm_fin o rc hr f hlt t ht h2
  have e1 : ∀ ws : List (Option zX), zR b cy (o, len, ws) = .inr (o, ws.map (zr b)) := fun ws => if_pos ho
  have he := zW_get (b := b) (cy := cy) ha
  rw [e1] at he
  refine va_putF (ty := mm_tyo o f) (C := rc.1) (T := rc.2.1) (N := rc.2.2) hexec hb hts (mm_ucl o rc hr) (mm_tyo o) c1 c2 hown hK hP zW_D hS a he hr f hlt (hts _ hw) (fun _ h9 => h9) hfin hin2 hdecl (c1 f hlt) (zm_isr_ok hisr _).1 (zm_isr_ok hisr _).2 (by rw [List.length_map]; exact hl) hdg (fun H1 locs1 hP1 _ hS1 => ?_)
  rw [zW_set (d := (o, len, vs.set f (some (.inr r)))) (by rw [e1, List.map_set]; rfl) (List.getElem?_eq_some_iff.mp ha).1] at hP1
  exact kk H1 locs1 hP1 hS1
/-- putfield of 0 -/
theorem zr_puti {o index f j a len : Nat} {vs : List (Option zX)} {t : Nat × Nat × Nat} (hexec : p.tables.exec = Jvm.exec) (hb : c.code = cc) (hts : ∀ w ∈ mm_gt, w.before args s = true) (hown : s.vm.findClass (mm_rn o) = some m.cls) (hK : va_K D vwCl (mm_ty cy) s) (hP : va_P D vwCl (zW b cy cs) H) (hS : va_S (fun q => b ≤ q) s.heap H locs) (ho : o < 9) (hf : mm_ft o index = some (o, f, j)) (ha : cs[a]? = some (o, len, vs)) (ht : (mm_fs o)[f]? = some t) (h2 : t.1 ≠ 2) (hl : f < vs.length) (hdg : decode cc pc = .ok (.putfield index, 3))
    (kk : ∀ (H1 : Heap) (locs1 : List Loc), va_P D vwCl (zW b cy (cs.set a (o, len, vs.set f (some (.inl 0))))) H1 → va_S (fun q => b ≤ q) s.heap H1 locs1 → W p l e R s m args below meth c H1 locs1 k n Q (F0 m (pc + 3) ls rest)) : W p l e R s m args below meth c H locs k n Q (F0 m pc ls (.int 0 :: .ref (b + a) :: rest)) := by
  obtain ⟨rc, hr, hlt, hw⟩ := mm_ft_ok hf
  obtain ⟨c1, c2, c3, c4⟩ := mm_cls_ok o rc hr
  obtain ⟨hfin, hty⟩ := c4 f hlt t ht h2
  have e1 : ∀ ws : List (Option zX), zR b cy (o, len, ws) = .inr (o, ws.map (zr b)) := fun ws => if_pos ho
  have he := zW_get (b := b) (cy := cy) ha
  rw [e1] at he
  have hnf : narrow (mm_tyo o f) (.int 0) = .int 0 ∧ fits (mm_tyo o f) (.int 0) = true := by
    rcases hty with ⟨-, h⟩ | ⟨-, h⟩ <;> rw [h] <;> exact ⟨rfl, rfl⟩
  refine va_put (ty := mm_tyo o f) (C := rc.1) (T := rc.2.1) (N := rc.2.2) hexec hb hts (mm_ucl o rc hr) (mm_tyo o) c1 c2 hown hK hP zW_D hS a he hr f hlt (hts _ hw) (fun _ h9 => h9) hfin (c1 f hlt) hnf.1 hnf.2 (by rw [List.length_map]; exact hl) hdg (fun H1 locs1 hP1 _ hS1 => ?_)
  rw [zW_set (d := (o, len, vs.set f (some (.inl 0)))) (by rw [e1, List.map_set]; rfl) (List.getElem?_eq_some_iff.mp ha).1] at hP1
  exact kk H1 locs1 hP1 hS1
/-- getfield of a reference -/
theorem zr_get {o index c' f j a len r : Nat} {vs : List (Option zX)} (hexec : p.tables.exec = Jvm.exec) (hb : c.code = cc) (hts : ∀ w ∈ mm_gt, w.before args s = true) (hown : s.vm.findClass (mm_rn o) = some m.cls) (hK : va_K D vwCl (mm_ty cy) s) (hP : va_P D vwCl (zW b cy cs) H) (hc : c' < 9) (hf : mm_ft o index = some (c', f, j)) (ha : cs[a]? = some (c', len, vs)) (hv : vs[f]? = some (some (.inr r))) (hdg : decode cc pc = .ok (.getfield index, 3))
    (kk : W p l e R s m args below meth c H locs k n Q (F0 m (pc + 3) ls (.ref (b + r) :: rest))) : W p l e R s m args below meth c H locs k n Q (F0 m pc ls (.ref (b + a) :: rest)) := by
  obtain ⟨rc, hr, hlt, hw⟩ := mm_ft_ok hf
  have e1 : ∀ ws : List (Option zX), zR b cy (c', len, ws) = .inr (c', ws.map (zr b)) := fun ws => if_pos hc
  have he := zW_get (b := b) (cy := cy) ha
  rw [e1] at he
  exact va_get (C := rc.1) (T := rc.2.1) (N := rc.2.2) hexec hb hts (mm_ucl c' rc hr) hown hK hP a he hr f hlt (hts _ hw) (fun _ h9 => h9) (v := .ref (b + r)) (by rw [List.getElem?_map, hv]; rfl) hdg kk
theorem zq_set {vs : List (Option zX)} {j r : Nat} (hj : j < vs.length) : va_up (zq b vs) j (some (b + r)) = zq b (vs.set j (some (.inr r))) := by
  funext q
  unfold va_up zq
  by_cases h : q = j
  · subst h
    rw [if_pos rfl, List.getElem?_set_self hj]
  · rw [if_neg h, List.getElem?_set_ne (Ne.symm h)]
/-- aastore -/
theorem zr_as {t c' a v len len' : Nat} {vs vs' : List (Option zX)} {j : Int32} (hexec : p.tables.exec = Jvm.exec) (hb : c.code = cc) (hK : va_K D vwCl (mm_ty cy) s) (hP : va_P D vwCl (zW b cy cs) H) (hS : va_S (fun q => b ≤ q) s.heap H locs) (ha : cs[a]? = some (t, len, vs)) (hv : cs[v]? = some (c', len', vs')) (htc : (t = 16 ∧ c' = 6) ∨ (t = 17 ∧ c' = 2)) (hj0 : 0 ≤ j.toInt) (hj : j.toNatClampNeg < len) (hl : vs.length = len) (hdg : decode cc pc = .ok (.aastore, 1))
    (kk : ∀ (H1 : Heap) (locs1 : List Loc), va_P D vwCl (zW b cy (cs.set a (t, len, vs.set j.toNatClampNeg (some (.inr v))))) H1 → va_S (fun q => b ≤ q) s.heap H1 locs1 → W p l e R s m args below meth c H1 locs1 k n Q (F0 m (pc + 1) ls rest)) : W p l e R s m args below meth c H locs k n Q (F0 m pc ls (.ref (b + v) :: .int j :: .ref (b + a) :: rest)) := by
  have hc : c' < 9 := by rcases htc with ⟨-, rfl⟩ | ⟨-, rfl⟩ <;> decide
  obtain ⟨rc, hr, hrn⟩ := zm_vw c' hc
  have e1 : ∀ ws : List (Option zX), zR b cy (t, len, ws) = .inl (cy t, len, .inr (.inr (.inr (.inr (zq b ws))))) := fun ws => by
    rcases htc with ⟨rfl, -⟩ | ⟨rfl, -⟩ <;> rfl
  have e2 : zR b cy (c', len', vs') = .inr (c', vs'.map (zr b)) := if_pos hc
  have he := zW_get (b := b) (cy := cy) ha
  rw [e1] at he
  have hv2 := zW_get (b := b) (cy := cy) hv
  rw [e2] at hv2
  obtain ⟨t0, ht0⟩ : ∃ t0 : Nat, (mm_ty cy)[t0]? = some (cy t, .object rc.1) := by
    rcases htc with ⟨rfl, rfl⟩ | ⟨rfl, rfl⟩
    · exact ⟨2, by rw [hrn]; rfl⟩
    · exact ⟨3, by rw [hrn]; rfl⟩
  have hin : vp_in j len := fun h => by
    rcases h with h | h
    · exact zr_neg hj0 h
    · omega
  refine va_astq hexec hb hK hP zW_D hS a t0 v c' he ht0 hv2 hr hin hdg (fun H1 locs1 hP1 _ hS1 => ?_)
  rw [zq_set (by rw [hl]; exact hj), zW_set (d := (t, len, vs.set j.toNatClampNeg (some (.inr v)))) (by rw [e1]) (List.getElem?_eq_some_iff.mp ha).1] at hP1
  exact kk H1 locs1 hP1 hS1
end ZR
