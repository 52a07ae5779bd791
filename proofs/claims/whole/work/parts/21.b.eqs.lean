noncomputable def E_X8_ofGrade : mE := fun k => fun _ _ => none
noncomputable def f_X8_ofGrade : List mV → mM → Option mR := mm_fn E_X8_ofGrade 8 1 4 cX8_ofGrade
theorem k_X8_ofGrade (l : Launch) : mm_OK l 106 f_X8_ofGrade := mm_fn_ok l 106 8 E_X8_ofGrade (by decide) rfl (by decide) (by
  intro k as μ q h
  have e : E_X8_ofGrade k = fun _ _ => none := rfl
  rw [e] at h
  cases h)
noncomputable def r_X8_ofGrade_4 (l1 : Int32) (l2 : Int32) (l3 : Int32) (μ : mM) : Option mR := mm_run E_X8_ofGrade 8 1 cX8_ofGrade (4, [vr 8 0, vi l1, vi l2, vi l3], [], μ)
set_option maxRecDepth 100000 in
set_option maxHeartbeats 4000000 in
theorem e_X8_ofGrade (l1 : Int32) (μ : mM) : f_X8_ofGrade [vr 8 0, vi l1] μ = r_X8_ofGrade_4 l1 0 0 μ := by
  refine (show f_X8_ofGrade [vr 8 0, vi l1] μ = mm_run E_X8_ofGrade 8 1 cX8_ofGrade (0, [vr 8 0, vi l1, vu, vu], [], μ) from rfl).trans ?_
  refine (R_iconst 0 dX8_ofGrade_0 iconst_0).trans ?_
  refine (R_istore_n (ls' := [vr 8 0, vi l1, vi 0, vu]) dX8_ofGrade_1 (Nat.le_of_ble_eq_true rfl) (by decide) rfl).trans ?_
  refine (R_iconst 0 dX8_ofGrade_2 iconst_0).trans ?_
  refine (R_istore_n (ls' := [vr 8 0, vi l1, vi 0, vi 0]) dX8_ofGrade_3 (Nat.le_of_ble_eq_true rfl) (by decide) rfl).trans ?_
  exact rfl
set_option maxRecDepth 100000 in
set_option maxHeartbeats 4000000 in
theorem e_X8_ofGrade_4 (l1 : Int32) (l2 : Int32) (l3 : Int32) (μ : mM) : r_X8_ofGrade_4 l1 l2 l3 μ = (ck 5225 8 (if l3 < μ 50 0 (Int32.toNatClampNeg 8) then (ck 5225 (9 + l3) (if μ 50 0 (Int32.toNatClampNeg (9 + l3)) = l1 then r_X8_ofGrade_4 l1 (l2 + 1) (l3 + 1) μ else r_X8_ofGrade_4 l1 (l2 + 0) (l3 + 1) μ)) else some (l2, μ))) := by
  refine (show r_X8_ofGrade_4 l1 l2 l3 μ = mm_run E_X8_ofGrade 8 1 cX8_ofGrade (4, [vr 8 0, vi l1, vi l2, vi l3], [], μ) from rfl).trans ?_
  refine (R_iload_n dX8_ofGrade_4 rfl).trans ?_
  refine (R_aload_n dX8_ofGrade_5 rfl (by decide)).trans ?_
  refine (gr_8_7 dX8_ofGrade_6).trans ?_
  refine (R_bipush 8 dX8_ofGrade_9 bipush_8).trans ?_
  refine (R_iaload dX8_ofGrade_11 as_50).trans (ck_congr ?_)
  refine (R_icmp 42 dX8_ofGrade_12 rfl).trans (c_ge (fun h1 => ?_) (fun h1 => ?_))
  · refine (R_iload_n dX8_ofGrade_15 rfl).trans ?_
    refine (R_aload_n dX8_ofGrade_16 rfl (by decide)).trans ?_
    refine (gr_8_7 dX8_ofGrade_17).trans ?_
    refine (R_bipush 9 dX8_ofGrade_20 bipush_9).trans ?_
    refine (R_iload_n dX8_ofGrade_22 rfl).trans ?_
    refine (R_iadd dX8_ofGrade_23).trans ?_
    refine (R_iaload dX8_ofGrade_24 as_50).trans (ck_congr ?_)
    refine (R_iload_n dX8_ofGrade_25 rfl).trans ?_
    refine (R_icmp 33 dX8_ofGrade_26 rfl).trans (c_ne (fun h2 => ?_) (fun h2 => ?_))
    · refine (R_iconst 1 dX8_ofGrade_29 iconst_1).trans ?_
      refine (R_goto 34 dX8_ofGrade_30 rfl).trans ?_
      refine (R_iadd dX8_ofGrade_34).trans ?_
      refine (R_istore_n (ls' := [vr 8 0, vi l1, vi (l2 + 1), vi l3]) dX8_ofGrade_35 (Nat.le_of_ble_eq_true rfl) (by decide) rfl).trans ?_
      refine (R_iinc (ls' := [vr 8 0, vi l1, vi (l2 + 1), vi (l3 + 1)]) 1 dX8_ofGrade_36 rfl iconst_1 (by decide) rfl).trans ?_
      refine (R_goto 4 dX8_ofGrade_39 rfl).trans ?_
      exact rfl
    · refine (R_iconst 0 dX8_ofGrade_33 iconst_0).trans ?_
      refine (R_iadd dX8_ofGrade_34).trans ?_
      refine (R_istore_n (ls' := [vr 8 0, vi l1, vi (l2 + 0), vi l3]) dX8_ofGrade_35 (Nat.le_of_ble_eq_true rfl) (by decide) rfl).trans ?_
      refine (R_iinc (ls' := [vr 8 0, vi l1, vi (l2 + 0), vi (l3 + 1)]) 1 dX8_ofGrade_36 rfl iconst_1 (by decide) rfl).trans ?_
      refine (R_goto 4 dX8_ofGrade_39 rfl).trans ?_
      exact rfl
  · refine (R_iload_n dX8_ofGrade_42 rfl).trans ?_
    exact R_ireturn dX8_ofGrade_43 rfl
noncomputable def E_X8_draw : mE := fun k => fun _ _ => none
noncomputable def f_X8_draw : List mV → mM → Option mR := mm_fn E_X8_draw 8 1 2 cX8_draw
theorem k_X8_draw (l : Launch) : mm_OK l 122 f_X8_draw := mm_fn_ok l 122 8 E_X8_draw (by decide) rfl (by decide) (by
  intro k as μ q h
  have e : E_X8_draw k = fun _ _ => none := rfl
  rw [e] at h
  cases h)
set_option maxRecDepth 100000 in
set_option maxHeartbeats 4000000 in
theorem e_X8_draw (l1 : Int32) (μ : mM) : f_X8_draw [vr 8 0, vi l1] μ = (wr (mm_up μ 8 0 4 (Int64.toInt32 ((((Int32.toInt64 (μ 8 0 4)) * 1103515245) + 12345) - (((Int32.toInt64 (μ 8 0 4)) * 1103515245) + 12345) / 2147483648 * 2147483648))) (fun m1 => (if l1 = 0 then none else some (((m1 8 0 4) / 65536) - ((m1 8 0 4) / 65536) / l1 * l1, m1)))) := by
  refine (show f_X8_draw [vr 8 0, vi l1] μ = mm_run E_X8_draw 8 1 cX8_draw (0, [vr 8 0, vi l1], [], μ) from rfl).trans ?_
  refine (R_aload_n dX8_draw_0 rfl (by decide)).trans ?_
  refine (R_aload_n dX8_draw_1 rfl (by decide)).trans ?_
  refine (gi_8_44 dX8_draw_2).trans ?_
  refine (R_i2l dX8_draw_5).trans ?_
  refine (R_ldc2_w dX8_draw_6 lt_8_177).trans ?_
  refine (R_lmul dX8_draw_9).trans ?_
  refine (R_ldc2_w dX8_draw_10 lt_8_179).trans ?_
  refine (R_ladd dX8_draw_13).trans ?_
  refine (R_ldc2_w dX8_draw_14 lt_8_181).trans ?_
  refine (R_lrem dX8_draw_17).trans ?_
  refine (if_neg (by decide)).trans ?_
  refine (R_l2i dX8_draw_18).trans ?_
  refine (R_pi dX8_draw_19 ft_8_44 fs_8_4).trans ?_
  refine wr_intro (g := fun m => mm_run E_X8_draw 8 1 cX8_draw (22, [vr 8 0, vi l1], [], m)) (fun m1 => ?_)
  refine (R_aload_n dX8_draw_22 rfl (by decide)).trans ?_
  refine (gi_8_44 dX8_draw_23).trans ?_
  refine (R_ldc dX8_draw_26 kt_8_183).trans ?_
  refine (R_idiv dX8_draw_28).trans ?_
  refine (if_neg (by decide)).trans ?_
  refine (R_iload_n dX8_draw_29 rfl).trans ?_
  refine (R_irem dX8_draw_30).trans (z_congr (fun h2 => ?_))
  exact R_ireturn dX8_draw_31 rfl
noncomputable def E_X8_forget : mE := fun k => fun _ _ => none
noncomputable def f_X8_forget : List mV → mM → Option mR := mm_fn E_X8_forget 8 1 2 cX8_forget
theorem k_X8_forget (l : Launch) : mm_OK l 136 f_X8_forget := mm_fn_ok l 136 8 E_X8_forget (by decide) rfl (by decide) (by
  intro k as μ q h
  have e : E_X8_forget k = fun _ _ => none := rfl
  rw [e] at h
  cases h)
set_option maxRecDepth 100000 in
set_option maxHeartbeats 4000000 in
theorem e_X8_forget (μ : mM) : f_X8_forget [vr 8 0] μ = (wr (mm_up μ 8 0 8 0) (fun m1 => some (μ 8 0 8, m1))) := by
  refine (show f_X8_forget [vr 8 0] μ = mm_run E_X8_forget 8 1 cX8_forget (0, [vr 8 0, vu], [], μ) from rfl).trans ?_
  refine (R_aload_n dX8_forget_0 rfl (by decide)).trans ?_
  refine (gi_8_78 dX8_forget_1).trans ?_
  refine (R_istore_n (ls' := [vr 8 0, vi (μ 8 0 8)]) dX8_forget_4 (Nat.le_of_ble_eq_true rfl) (by decide) rfl).trans ?_
  refine (R_aload_n dX8_forget_5 rfl (by decide)).trans ?_
  refine (R_iconst 0 dX8_forget_6 iconst_0).trans ?_
  refine (R_pi dX8_forget_7 ft_8_78 fs_8_8).trans ?_
  refine wr_intro (g := fun m => mm_run E_X8_forget 8 1 cX8_forget (10, [vr 8 0, vi (μ 8 0 8)], [], m)) (fun m1 => ?_)
  refine (R_iload_n dX8_forget_10 rfl).trans ?_
  exact R_ireturn dX8_forget_11 rfl
noncomputable def E_X8_seed : mE := fun k => fun _ _ => none
noncomputable def f_X8_seed : List mV → mM → Option mR := mm_fn E_X8_seed 8 1 3 cX8_seed
theorem k_X8_seed (l : Launch) : mm_OK l 137 f_X8_seed := mm_fn_ok l 137 8 E_X8_seed (by decide) rfl (by decide) (by
  intro k as μ q h
  have e : E_X8_seed k = fun _ _ => none := rfl
  rw [e] at h
  cases h)
set_option maxRecDepth 100000 in
set_option maxHeartbeats 4000000 in
theorem e_X8_seed (l1 : Int32) (μ : mM) : f_X8_seed [vr 8 0, vi l1] μ = (if l1 < 0 then some ((-1000000002), μ) else (wr (mm_up μ 8 0 4 l1) (fun m2 => some (μ 8 0 4, m2)))) := by
  refine (show f_X8_seed [vr 8 0, vi l1] μ = mm_run E_X8_seed 8 1 cX8_seed (0, [vr 8 0, vi l1, vu], [], μ) from rfl).trans ?_
  refine (R_iload_n dX8_seed_0 rfl).trans ?_
  refine (R_ifc 7 dX8_seed_1 rfl).trans (c_ge (fun h1 => ?_) (fun h1 => ?_))
  · refine (R_ldc dX8_seed_4 kt_8_118).trans ?_
    exact R_ireturn dX8_seed_6 rfl
  · refine (R_aload_n dX8_seed_7 rfl (by decide)).trans ?_
    refine (gi_8_44 dX8_seed_8).trans ?_
    refine (R_istore_n (ls' := [vr 8 0, vi l1, vi (μ 8 0 4)]) dX8_seed_11 (Nat.le_of_ble_eq_true rfl) (by decide) rfl).trans ?_
    refine (R_aload_n dX8_seed_12 rfl (by decide)).trans ?_
    refine (R_iload_n dX8_seed_13 rfl).trans ?_
    refine (R_pi dX8_seed_14 ft_8_44 fs_8_4).trans ?_
    refine wr_intro (g := fun m => mm_run E_X8_seed 8 1 cX8_seed (17, [vr 8 0, vi l1, vi (μ 8 0 4)], [], m)) (fun m2 => ?_)
    refine (R_iload_n dX8_seed_17 rfl).trans ?_
    exact R_ireturn dX8_seed_18 rfl
noncomputable def E_J9_floorMod_7cf53 : mE := fun k => fun _ _ => none
noncomputable def f_J9_floorMod_7cf53 : List mV → mM → Option mR := mm_fn E_J9_floorMod_7cf53 9 1 3 cJ9_floorMod_7cf53
theorem k_J9_floorMod_7cf53 (l : Launch) : mm_OK l 140 f_J9_floorMod_7cf53 := mm_fn_ok l 140 9 E_J9_floorMod_7cf53 (by decide) rfl (by decide) (by
  intro k as μ q h
  have e : E_J9_floorMod_7cf53 k = fun _ _ => none := rfl
  rw [e] at h
  cases h)
set_option maxRecDepth 100000 in
set_option maxHeartbeats 4000000 in
theorem e_J9_floorMod_7cf53 (l0 : Int32) (l1 : Int32) (μ : mM) : f_J9_floorMod_7cf53 [vi l0, vi l1] μ = (if l1 = 0 then none else (if l0 ^^^ l1 < 0 then (if l0 - l0 / l1 * l1 = 0 then some (l0 - l0 / l1 * l1, μ) else some ((l0 - l0 / l1 * l1) + l1, μ)) else some (l0 - l0 / l1 * l1, μ))) := by
  refine (show f_J9_floorMod_7cf53 [vi l0, vi l1] μ = mm_run E_J9_floorMod_7cf53 9 1 cJ9_floorMod_7cf53 (0, [vi l0, vi l1, vu], [], μ) from rfl).trans ?_
  refine (R_iload_n dJ9_floorMod_7cf53_0 rfl).trans ?_
  refine (R_iload_n dJ9_floorMod_7cf53_1 rfl).trans ?_
  refine (R_irem dJ9_floorMod_7cf53_2).trans (z_congr (fun h1 => ?_))
  refine (R_istore_n (ls' := [vi l0, vi l1, vi (l0 - l0 / l1 * l1)]) dJ9_floorMod_7cf53_3 (Nat.le_of_ble_eq_true rfl) (by decide) rfl).trans ?_
  refine (R_iload_n dJ9_floorMod_7cf53_4 rfl).trans ?_
  refine (R_iload_n dJ9_floorMod_7cf53_5 rfl).trans ?_
  refine (R_ixor dJ9_floorMod_7cf53_6).trans ?_
  refine (R_ifc 18 dJ9_floorMod_7cf53_7 rfl).trans (c_ge (fun h2 => ?_) (fun h2 => ?_))
  · refine (R_iload_n dJ9_floorMod_7cf53_10 rfl).trans ?_
    refine (R_ifc 18 dJ9_floorMod_7cf53_11 rfl).trans (c_eq (fun h3 => ?_) (fun h3 => ?_))
    · refine (R_iload_n dJ9_floorMod_7cf53_18 rfl).trans ?_
      exact R_ireturn dJ9_floorMod_7cf53_19 rfl
    · refine (R_iload_n dJ9_floorMod_7cf53_14 rfl).trans ?_
      refine (R_iload_n dJ9_floorMod_7cf53_15 rfl).trans ?_
      refine (R_iadd dJ9_floorMod_7cf53_16).trans ?_
      exact R_ireturn dJ9_floorMod_7cf53_17 rfl
  · refine (R_iload_n dJ9_floorMod_7cf53_18 rfl).trans ?_
    exact R_ireturn dJ9_floorMod_7cf53_19 rfl
noncomputable def E_J9_max_7cf53 : mE := fun k => fun _ _ => none
noncomputable def f_J9_max_7cf53 : List mV → mM → Option mR := mm_fn E_J9_max_7cf53 9 1 2 cJ9_max_7cf53
theorem k_J9_max_7cf53 (l : Launch) : mm_OK l 141 f_J9_max_7cf53 := mm_fn_ok l 141 9 E_J9_max_7cf53 (by decide) rfl (by decide) (by
  intro k as μ q h
  have e : E_J9_max_7cf53 k = fun _ _ => none := rfl
  rw [e] at h
  cases h)
set_option maxRecDepth 100000 in
set_option maxHeartbeats 4000000 in
theorem e_J9_max_7cf53 (l0 : Int32) (l1 : Int32) (μ : mM) : f_J9_max_7cf53 [vi l0, vi l1] μ = (if l0 < l1 then some (l1, μ) else some (l0, μ)) := by
  refine (show f_J9_max_7cf53 [vi l0, vi l1] μ = mm_run E_J9_max_7cf53 9 1 cJ9_max_7cf53 (0, [vi l0, vi l1], [], μ) from rfl).trans ?_
  refine (R_iload_n dJ9_max_7cf53_0 rfl).trans ?_
  refine (R_iload_n dJ9_max_7cf53_1 rfl).trans ?_
  refine (R_icmp 9 dJ9_max_7cf53_2 rfl).trans (c_lt (fun h1 => ?_) (fun h1 => ?_))
  · refine (R_iload_n dJ9_max_7cf53_9 rfl).trans ?_
    exact R_ireturn dJ9_max_7cf53_10 rfl
  · refine (R_iload_n dJ9_max_7cf53_5 rfl).trans ?_
    refine (R_goto 10 dJ9_max_7cf53_6 rfl).trans ?_
    exact R_ireturn dJ9_max_7cf53_10 rfl
noncomputable def E_J9_min_7cf53 : mE := fun k => fun _ _ => none
noncomputable def f_J9_min_7cf53 : List mV → mM → Option mR := mm_fn E_J9_min_7cf53 9 1 2 cJ9_min_7cf53
theorem k_J9_min_7cf53 (l : Launch) : mm_OK l 142 f_J9_min_7cf53 := mm_fn_ok l 142 9 E_J9_min_7cf53 (by decide) rfl (by decide) (by
  intro k as μ q h
  have e : E_J9_min_7cf53 k = fun _ _ => none := rfl
  rw [e] at h
  cases h)
set_option maxRecDepth 100000 in
set_option maxHeartbeats 4000000 in
theorem e_J9_min_7cf53 (l0 : Int32) (l1 : Int32) (μ : mM) : f_J9_min_7cf53 [vi l0, vi l1] μ = (if l1 < l0 then some (l1, μ) else some (l0, μ)) := by
  refine (show f_J9_min_7cf53 [vi l0, vi l1] μ = mm_run E_J9_min_7cf53 9 1 cJ9_min_7cf53 (0, [vi l0, vi l1], [], μ) from rfl).trans ?_
  refine (R_iload_n dJ9_min_7cf53_0 rfl).trans ?_
  refine (R_iload_n dJ9_min_7cf53_1 rfl).trans ?_
  refine (R_icmp 9 dJ9_min_7cf53_2 rfl).trans (c_gt (fun h1 => ?_) (fun h1 => ?_))
  · refine (R_iload_n dJ9_min_7cf53_9 rfl).trans ?_
    exact R_ireturn dJ9_min_7cf53_10 rfl
  · refine (R_iload_n dJ9_min_7cf53_5 rfl).trans ?_
    refine (R_goto 10 dJ9_min_7cf53_6 rfl).trans ?_
    exact R_ireturn dJ9_min_7cf53_10 rfl
noncomputable def E_X0_addBox : mE := fun k => if k = 141 then f_J9_max_7cf53 else fun _ _ => none
theorem E_X0_addBox_141 : E_X0_addBox 141 = f_J9_max_7cf53 := if_pos rfl
noncomputable def f_X0_addBox : List mV → mM → Option mR := mm_fn E_X0_addBox 0 0 6 cX0_addBox
theorem k_X0_addBox (l : Launch) : mm_OK l 4 f_X0_addBox := mm_fn_ok l 4 0 E_X0_addBox (by decide) rfl (by decide) (by
  intro k as μ q h
  by_cases h0 : k = 141
  · subst h0
    exact ⟨by rw [E_X0_addBox_141]; exact k_J9_max_7cf53 l, by decide, by decide, by decide⟩
  have e : E_X0_addBox k = fun _ _ => none := (if_neg h0).trans (rfl)
  rw [e] at h
  cases h)
noncomputable def r_X0_addBox_3 (l1 : Int32) (l2 : Int32) (l3 : Int32) (l4 : Int32) (l5 : Int32) (μ : mM) : Option mR := mm_run E_X0_addBox 0 0 cX0_addBox (3, [vr 0 0, vi l1, vi l2, vi l3, vi l4, vi l5], [], μ)
set_option maxRecDepth 100000 in
set_option maxHeartbeats 4000000 in
theorem e_X0_addBox (l1 : Int32) (l2 : Int32) (l3 : Int32) (l4 : Int32) (μ : mM) : f_X0_addBox [vr 0 0, vi l1, vi l2, vi l3, vi l4] μ = r_X0_addBox_3 l1 l2 l3 l4 1 μ := by
  refine (show f_X0_addBox [vr 0 0, vi l1, vi l2, vi l3, vi l4] μ = mm_run E_X0_addBox 0 0 cX0_addBox (0, [vr 0 0, vi l1, vi l2, vi l3, vi l4, vu], [], μ) from rfl).trans ?_
  refine (R_iconst 1 dX0_addBox_0 iconst_1).trans ?_
  refine (R_istore (ls' := [vr 0 0, vi l1, vi l2, vi l3, vi l4, vi 1]) dX0_addBox_1 (Nat.le_of_ble_eq_true rfl) (by decide) rfl).trans ?_
  exact rfl
set_option maxRecDepth 100000 in
set_option maxHeartbeats 4000000 in
theorem e_X0_addBox_3 (l1 : Int32) (l2 : Int32) (l3 : Int32) (l4 : Int32) (l5 : Int32) (μ : mM) : r_X0_addBox_3 l1 l2 l3 l4 l5 μ = (if l3 < l5 then some (0, μ) else (ck 10 l5 (ck 10 l5 (ck 49 l2 (ck 10 (l5 - 1) (ck 49 l1 (Option.bind (f_J9_max_7cf53 [vi (μ 34 ((Int32.toNatClampNeg l5) + 0) (Int32.toNatClampNeg l2)), vi ((μ 34 ((Int32.toNatClampNeg (l5 - 1)) + 0) (Int32.toNatClampNeg l1)) + l4)] μ) (fun q2 => (ck 49 l2 (wr (mm_up q2.2 34 ((Int32.toNatClampNeg l5) + 0) (Int32.toNatClampNeg l2) q2.1) (fun m3 => r_X0_addBox_3 l1 l2 l3 l4 (l5 + 1) m3))))))))))) := by
  refine (show r_X0_addBox_3 l1 l2 l3 l4 l5 μ = mm_run E_X0_addBox 0 0 cX0_addBox (3, [vr 0 0, vi l1, vi l2, vi l3, vi l4, vi l5], [], μ) from rfl).trans ?_
  refine (R_iload dX0_addBox_3 rfl).trans ?_
  refine (R_iload_n dX0_addBox_5 rfl).trans ?_
  refine (R_icmp 50 dX0_addBox_6 rfl).trans (c_gt (fun h1 => ?_) (fun h1 => ?_))
  · exact R_return dX0_addBox_50 rfl
  · refine (R_aload_n dX0_addBox_9 rfl (by decide)).trans ?_
    refine (gr_0_24 dX0_addBox_10).trans ?_
    refine (R_iload dX0_addBox_13 rfl).trans ?_
    refine (R_aaload dX0_addBox_15 as_33).trans (ck_congr ?_)
    refine (R_iload_n dX0_addBox_16 rfl).trans ?_
    refine (R_aload_n dX0_addBox_17 rfl (by decide)).trans ?_
    refine (gr_0_24 dX0_addBox_18).trans ?_
    refine (R_iload dX0_addBox_21 rfl).trans ?_
    refine (R_aaload dX0_addBox_23 as_33).trans (ck_congr ?_)
    refine (R_iload_n dX0_addBox_24 rfl).trans ?_
    refine (R_iaload dX0_addBox_25 as_34).trans (ck_congr ?_)
    refine (R_aload_n dX0_addBox_26 rfl (by decide)).trans ?_
    refine (gr_0_24 dX0_addBox_27).trans ?_
    refine (R_iload dX0_addBox_30 rfl).trans ?_
    refine (R_iconst 1 dX0_addBox_32 iconst_1).trans ?_
    refine (R_isub dX0_addBox_33).trans ?_
    refine (R_aaload dX0_addBox_34 as_33).trans (ck_congr ?_)
    refine (R_iload_n dX0_addBox_35 rfl).trans ?_
    refine (R_iaload dX0_addBox_36 as_34).trans (ck_congr ?_)
    refine (R_iload dX0_addBox_37 rfl).trans ?_
    refine (R_iadd dX0_addBox_39).trans ?_
    refine (R_cs_i (as := [vi (μ 34 ((Int32.toNatClampNeg l5) + 0) (Int32.toNatClampNeg l2)), vi ((μ 34 ((Int32.toNatClampNeg (l5 - 1)) + 0) (Int32.toNatClampNeg l1)) + l4)]) (rest := [vi l2, vr 34 ((Int32.toNatClampNeg l5) + 0)]) dX0_addBox_40 mt_0_69 (by decide) qp_141 qr_141 (E_X0_addBox_141) (Nat.le_of_ble_eq_true rfl) rfl rfl (Nat.le_of_ble_eq_true rfl)).trans (mm_bind (fun q2 => ?_))
    refine (R_iastore dX0_addBox_43 as_34).trans (ck_congr ?_)
    refine wr_intro (g := fun m => mm_run E_X0_addBox 0 0 cX0_addBox (44, [vr 0 0, vi l1, vi l2, vi l3, vi l4, vi l5], [], m)) (fun m3 => ?_)
    refine (R_iinc (ls' := [vr 0 0, vi l1, vi l2, vi l3, vi l4, vi (l5 + 1)]) 1 dX0_addBox_44 rfl iconst_1 (by decide) rfl).trans ?_
    refine (R_goto 3 dX0_addBox_47 rfl).trans ?_
    exact rfl
noncomputable def E_X1_seekFrom : mE := fun k => if k = 7 then f_X1_firstBoreFrom else if k = 8 then f_X1_weigh else fun _ _ => none
theorem E_X1_seekFrom_7 : E_X1_seekFrom 7 = f_X1_firstBoreFrom := if_pos rfl
theorem E_X1_seekFrom_8 : E_X1_seekFrom 8 = f_X1_weigh := (if_neg (by decide)).trans (if_pos rfl)
noncomputable def f_X1_seekFrom : List mV → mM → Option mR := mm_fn E_X1_seekFrom 1 0 8 cX1_seekFrom
theorem k_X1_seekFrom (l : Launch) : mm_OK l 6 f_X1_seekFrom := mm_fn_ok l 6 1 E_X1_seekFrom (by decide) rfl (by decide) (by
  intro k as μ q h
  by_cases h0 : k = 7
  · subst h0
    exact ⟨by rw [E_X1_seekFrom_7]; exact k_X1_firstBoreFrom l, by decide, by decide, by decide⟩
  by_cases h1 : k = 8
  · subst h1
    exact ⟨by rw [E_X1_seekFrom_8]; exact k_X1_weigh l, by decide, by decide, by decide⟩
  have e : E_X1_seekFrom k = fun _ _ => none := (if_neg h0).trans ((if_neg h1).trans (rfl))
  rw [e] at h
  cases h)
noncomputable def r_X1_seekFrom_17 (l2 : Int32) (l3 : Int32) (l4 : Int32) (l5 : Int32) (l6 : Int32) (x7 : mV) (μ : mM) : Option mR := mm_run E_X1_seekFrom 1 0 cX1_seekFrom (17, [vr 1 0, vr 5 0, vi l2, vi l3, vi l4, vi l5, vi l6, x7], [], μ)
noncomputable def r_X1_seekFrom_35 (l2 : Int32) (l3 : Int32) (l4 : Int32) (l5 : Int32) (l6 : Int32) (l7 : Int32) (μ : mM) : Option mR := mm_run E_X1_seekFrom 1 0 cX1_seekFrom (35, [vr 1 0, vr 5 0, vi l2, vi l3, vi l4, vi l5, vi l6, vi l7], [], μ)
set_option maxRecDepth 100000 in
set_option maxHeartbeats 4000000 in
theorem e_X1_seekFrom (l2 : Int32) (μ : mM) : f_X1_seekFrom [vr 1 0, vr 5 0, vi l2] μ = (Option.bind (f_X1_firstBoreFrom [vr 1 0, vr 5 0, vi l2] μ) (fun q1 => r_X1_seekFrom_17 l2 0 q1.1 q1.1 0 vu q1.2)) := by
  refine (show f_X1_seekFrom [vr 1 0, vr 5 0, vi l2] μ = mm_run E_X1_seekFrom 1 0 cX1_seekFrom (0, [vr 1 0, vr 5 0, vi l2, vu, vu, vu, vu, vu], [], μ) from rfl).trans ?_
  refine (R_iconst 0 dX1_seekFrom_0 iconst_0).trans ?_
  refine (R_istore_n (ls' := [vr 1 0, vr 5 0, vi l2, vi 0, vu, vu, vu, vu]) dX1_seekFrom_1 (Nat.le_of_ble_eq_true rfl) (by decide) rfl).trans ?_
  refine (R_aload_n dX1_seekFrom_2 rfl (by decide)).trans ?_
  refine (R_aload_n dX1_seekFrom_3 rfl (by decide)).trans ?_
  refine (R_iload_n dX1_seekFrom_4 rfl).trans ?_
  refine (R_cv_i (as := [vr 5 0, vi l2]) (rest := []) dX1_seekFrom_5 mt_1_36 qp_7 qr_7 (E_X1_seekFrom_7) rfl rfl rfl (Nat.le_of_ble_eq_true rfl)).trans (mm_bind (fun q1 => ?_))
  refine (R_istore (ls' := [vr 1 0, vr 5 0, vi l2, vi 0, vi q1.1, vu, vu, vu]) dX1_seekFrom_8 (Nat.le_of_ble_eq_true rfl) (by decide) rfl).trans ?_
  refine (R_iload dX1_seekFrom_10 rfl).trans ?_
  refine (R_istore (ls' := [vr 1 0, vr 5 0, vi l2, vi 0, vi q1.1, vi q1.1, vu, vu]) dX1_seekFrom_12 (Nat.le_of_ble_eq_true rfl) (by decide) rfl).trans ?_
  refine (R_iconst 0 dX1_seekFrom_14 iconst_0).trans ?_
  refine (R_istore (ls' := [vr 1 0, vr 5 0, vi l2, vi 0, vi q1.1, vi q1.1, vi 0, vu]) dX1_seekFrom_15 (Nat.le_of_ble_eq_true rfl) (by decide) rfl).trans ?_
  exact rfl
set_option maxRecDepth 100000 in
set_option maxHeartbeats 4000000 in
theorem e_X1_seekFrom_17 (l2 : Int32) (l3 : Int32) (l4 : Int32) (l5 : Int32) (l6 : Int32) (x7 : mV) (μ : mM) : r_X1_seekFrom_17 l2 l3 l4 l5 l6 x7 μ = (if l6 < μ 5 0 8 then (ck 24 l6 (r_X1_seekFrom_35 l2 l3 l4 l5 l6 (μ 23 0 (Int32.toNatClampNeg l6)) μ)) else some (0, μ)) := by
  refine (show r_X1_seekFrom_17 l2 l3 l4 l5 l6 x7 μ = mm_run E_X1_seekFrom 1 0 cX1_seekFrom (17, [vr 1 0, vr 5 0, vi l2, vi l3, vi l4, vi l5, vi l6, x7], [], μ) from rfl).trans ?_
  refine (R_iload dX1_seekFrom_17 rfl).trans ?_
  refine (R_aload_n dX1_seekFrom_19 rfl (by decide)).trans ?_
  refine (gi_1_25 dX1_seekFrom_20).trans ?_
  refine (R_icmp 110 dX1_seekFrom_23 rfl).trans (c_ge (fun h1 => ?_) (fun h1 => ?_))
  · refine (R_aload_n dX1_seekFrom_26 rfl (by decide)).trans ?_
    refine (gr_1_40 dX1_seekFrom_27).trans ?_
    refine (R_iload dX1_seekFrom_30 rfl).trans ?_
    refine (R_iaload dX1_seekFrom_32 as_23).trans (ck_congr ?_)
    refine (R_istore (ls' := [vr 1 0, vr 5 0, vi l2, vi l3, vi l4, vi l5, vi l6, vi (μ 23 0 (Int32.toNatClampNeg l6))]) dX1_seekFrom_33 (Nat.le_of_ble_eq_true rfl) (by decide) rfl).trans ?_
    exact rfl
  · exact R_return dX1_seekFrom_110 rfl
set_option maxRecDepth 100000 in
set_option maxHeartbeats 4000000 in
theorem e_X1_seekFrom_35 (l2 : Int32) (l3 : Int32) (l4 : Int32) (l5 : Int32) (l6 : Int32) (l7 : Int32) (μ : mM) : r_X1_seekFrom_35 l2 l3 l4 l5 l6 l7 μ = (if l5 < μ 5 0 9 then (ck 25 l5 (ck 25 (μ 26 0 (Int32.toNatClampNeg l5)) (ck 24 l7 (if μ 22 0 (Int32.toNatClampNeg l7) < μ 25 0 (Int32.toNatClampNeg (μ 26 0 (Int32.toNatClampNeg l5))) then (ck 24 l7 (if μ 21 0 (Int32.toNatClampNeg l7) < l2 then r_X1_seekFrom_17 l2 l3 l4 l5 (l6 + 1) (vi l7) μ else (ck 24 l7 (Option.bind (f_X1_weigh [vr 1 0, vi l2, vi (μ 22 0 (Int32.toNatClampNeg l7)), vi (l3 + 1), vi (l5 - l4)] μ) (fun q4 => r_X1_seekFrom_17 l2 (l3 + 1) l4 l5 (l6 + 1) (vi l7) q4.2))))) else r_X1_seekFrom_35 l2 l3 l4 (l5 + 1) l6 l7 μ)))) else (ck 24 l7 (if μ 21 0 (Int32.toNatClampNeg l7) < l2 then r_X1_seekFrom_17 l2 l3 l4 l5 (l6 + 1) (vi l7) μ else (ck 24 l7 (Option.bind (f_X1_weigh [vr 1 0, vi l2, vi (μ 22 0 (Int32.toNatClampNeg l7)), vi (l3 + 1), vi (l5 - l4)] μ) (fun q6 => r_X1_seekFrom_17 l2 (l3 + 1) l4 l5 (l6 + 1) (vi l7) q6.2)))))) := by
  refine (show r_X1_seekFrom_35 l2 l3 l4 l5 l6 l7 μ = mm_run E_X1_seekFrom 1 0 cX1_seekFrom (35, [vr 1 0, vr 5 0, vi l2, vi l3, vi l4, vi l5, vi l6, vi l7], [], μ) from rfl).trans ?_
  refine (R_iload dX1_seekFrom_35 rfl).trans ?_
  refine (R_aload_n dX1_seekFrom_37 rfl (by decide)).trans ?_
  refine (gi_1_43 dX1_seekFrom_38).trans ?_
  refine (R_icmp 72 dX1_seekFrom_41 rfl).trans (c_ge (fun h1 => ?_) (fun h1 => ?_))
  · refine (R_aload_n dX1_seekFrom_44 rfl (by decide)).trans ?_
    refine (gr_1_44 dX1_seekFrom_45).trans ?_
    refine (R_aload_n dX1_seekFrom_48 rfl (by decide)).trans ?_
    refine (gr_1_47 dX1_seekFrom_49).trans ?_
    refine (R_iload dX1_seekFrom_52 rfl).trans ?_
    refine (R_iaload dX1_seekFrom_54 as_26).trans (ck_congr ?_)
    refine (R_iaload dX1_seekFrom_55 as_25).trans (ck_congr ?_)
    refine (R_aload_n dX1_seekFrom_56 rfl (by decide)).trans ?_
    refine (gr_1_50 dX1_seekFrom_57).trans ?_
    refine (R_iload dX1_seekFrom_60 rfl).trans ?_
    refine (R_iaload dX1_seekFrom_62 as_22).trans (ck_congr ?_)
    refine (R_icmp 72 dX1_seekFrom_63 rfl).trans (c_gt (fun h2 => ?_) (fun h2 => ?_))
    · refine (R_aload_n dX1_seekFrom_72 rfl (by decide)).trans ?_
      refine (gr_1_28 dX1_seekFrom_73).trans ?_
      refine (R_iload dX1_seekFrom_76 rfl).trans ?_
      refine (R_iaload dX1_seekFrom_78 as_21).trans (ck_congr ?_)
      refine (R_iload_n dX1_seekFrom_79 rfl).trans ?_
      refine (R_icmp 104 dX1_seekFrom_80 rfl).trans (c_lt (fun h3 => ?_) (fun h3 => ?_))
      · refine (R_iinc (ls' := [vr 1 0, vr 5 0, vi l2, vi l3, vi l4, vi l5, vi (l6 + 1), vi l7]) 1 dX1_seekFrom_104 rfl iconst_1 (by decide) rfl).trans ?_
        refine (R_goto 17 dX1_seekFrom_107 rfl).trans ?_
        exact rfl
      · refine (R_iinc (ls' := [vr 1 0, vr 5 0, vi l2, vi (l3 + 1), vi l4, vi l5, vi l6, vi l7]) 1 dX1_seekFrom_83 rfl iconst_1 (by decide) rfl).trans ?_
        refine (R_aload_n dX1_seekFrom_86 rfl (by decide)).trans ?_
        refine (R_iload_n dX1_seekFrom_87 rfl).trans ?_
        refine (R_aload_n dX1_seekFrom_88 rfl (by decide)).trans ?_
        refine (gr_1_50 dX1_seekFrom_89).trans ?_
        refine (R_iload dX1_seekFrom_92 rfl).trans ?_
        refine (R_iaload dX1_seekFrom_94 as_22).trans (ck_congr ?_)
        refine (R_iload_n dX1_seekFrom_95 rfl).trans ?_
        refine (R_iload dX1_seekFrom_96 rfl).trans ?_
        refine (R_iload dX1_seekFrom_98 rfl).trans ?_
        refine (R_isub dX1_seekFrom_100).trans ?_
        refine (R_cv_v (as := [vi l2, vi (μ 22 0 (Int32.toNatClampNeg l7)), vi (l3 + 1), vi (l5 - l4)]) (rest := []) dX1_seekFrom_101 mt_1_53 qp_8 qr_8 (E_X1_seekFrom_8) rfl rfl rfl (Nat.le_of_ble_eq_true rfl)).trans (mm_bind (fun q4 => ?_))
        refine (R_iinc (ls' := [vr 1 0, vr 5 0, vi l2, vi (l3 + 1), vi l4, vi l5, vi (l6 + 1), vi l7]) 1 dX1_seekFrom_104 rfl iconst_1 (by decide) rfl).trans ?_
        refine (R_goto 17 dX1_seekFrom_107 rfl).trans ?_
        exact rfl
    · refine (R_iinc (ls' := [vr 1 0, vr 5 0, vi l2, vi l3, vi l4, vi (l5 + 1), vi l6, vi l7]) 1 dX1_seekFrom_66 rfl iconst_1 (by decide) rfl).trans ?_
      refine (R_goto 35 dX1_seekFrom_69 rfl).trans ?_
      exact rfl
  · refine (R_aload_n dX1_seekFrom_72 rfl (by decide)).trans ?_
    refine (gr_1_28 dX1_seekFrom_73).trans ?_
    refine (R_iload dX1_seekFrom_76 rfl).trans ?_
    refine (R_iaload dX1_seekFrom_78 as_21).trans (ck_congr ?_)
    refine (R_iload_n dX1_seekFrom_79 rfl).trans ?_
    refine (R_icmp 104 dX1_seekFrom_80 rfl).trans (c_lt (fun h5 => ?_) (fun h5 => ?_))
    · refine (R_iinc (ls' := [vr 1 0, vr 5 0, vi l2, vi l3, vi l4, vi l5, vi (l6 + 1), vi l7]) 1 dX1_seekFrom_104 rfl iconst_1 (by decide) rfl).trans ?_
      refine (R_goto 17 dX1_seekFrom_107 rfl).trans ?_
      exact rfl
    · refine (R_iinc (ls' := [vr 1 0, vr 5 0, vi l2, vi (l3 + 1), vi l4, vi l5, vi l6, vi l7]) 1 dX1_seekFrom_83 rfl iconst_1 (by decide) rfl).trans ?_
      refine (R_aload_n dX1_seekFrom_86 rfl (by decide)).trans ?_
      refine (R_iload_n dX1_seekFrom_87 rfl).trans ?_
      refine (R_aload_n dX1_seekFrom_88 rfl (by decide)).trans ?_
      refine (gr_1_50 dX1_seekFrom_89).trans ?_
      refine (R_iload dX1_seekFrom_92 rfl).trans ?_
      refine (R_iaload dX1_seekFrom_94 as_22).trans (ck_congr ?_)
      refine (R_iload_n dX1_seekFrom_95 rfl).trans ?_
      refine (R_iload dX1_seekFrom_96 rfl).trans ?_
      refine (R_iload dX1_seekFrom_98 rfl).trans ?_
      refine (R_isub dX1_seekFrom_100).trans ?_
      refine (R_cv_v (as := [vi l2, vi (μ 22 0 (Int32.toNatClampNeg l7)), vi (l3 + 1), vi (l5 - l4)]) (rest := []) dX1_seekFrom_101 mt_1_53 qp_8 qr_8 (E_X1_seekFrom_8) rfl rfl rfl (Nat.le_of_ble_eq_true rfl)).trans (mm_bind (fun q6 => ?_))
      refine (R_iinc (ls' := [vr 1 0, vr 5 0, vi l2, vi (l3 + 1), vi l4, vi l5, vi (l6 + 1), vi l7]) 1 dX1_seekFrom_104 rfl iconst_1 (by decide) rfl).trans ?_
      refine (R_goto 17 dX1_seekFrom_107 rfl).trans ?_
      exact rfl
noncomputable def E_X3_note : mE := fun k => if k = 34 then f_X6_copyFrom else if k = 142 then f_J9_min_7cf53 else fun _ _ => none
theorem E_X3_note_34 : E_X3_note 34 = f_X6_copyFrom := if_pos rfl
theorem E_X3_note_142 : E_X3_note 142 = f_J9_min_7cf53 := (if_neg (by decide)).trans (if_pos rfl)
noncomputable def f_X3_note : List mV → mM → Option mR := mm_fn E_X3_note 3 0 2 cX3_note
theorem k_X3_note (l : Launch) : mm_OK l 9 f_X3_note := mm_fn_ok l 9 3 E_X3_note (by decide) rfl (by decide) (by
  intro k as μ q h
  by_cases h0 : k = 34
  · subst h0
    exact ⟨by rw [E_X3_note_34]; exact k_X6_copyFrom l, by decide, by decide, by decide⟩
  by_cases h1 : k = 142
  · subst h1
    exact ⟨by rw [E_X3_note_142]; exact k_J9_min_7cf53 l, by decide, by decide, by decide⟩
  have e : E_X3_note k = fun _ _ => none := (if_neg h0).trans ((if_neg h1).trans (rfl))
  rw [e] at h
  cases h)
set_option maxRecDepth 100000 in
set_option maxHeartbeats 4000000 in
theorem e_X3_note (b : Nat) (μ : mM) : f_X3_note [vr 3 0, vr 6 b] μ = (ck 16 (μ 3 0 1) (Option.bind (f_X6_copyFrom [vr 6 ((Int32.toNatClampNeg (μ 3 0 1)) + 1), vr 6 b] μ) (fun q1 => (wr (mm_up q1.2 3 0 1 (((q1.2 3 0 1) + 1) - ((q1.2 3 0 1) + 1) / 16 * 16)) (fun m2 => (Option.bind (f_J9_min_7cf53 [vi ((m2 3 0 2) + 1), vi 16] m2) (fun q3 => (wr (mm_up q3.2 3 0 2 q3.1) (fun m4 => some (0, m4)))))))))) := by
  refine (show f_X3_note [vr 3 0, vr 6 b] μ = mm_run E_X3_note 3 0 cX3_note (0, [vr 3 0, vr 6 b], [], μ) from rfl).trans ?_
  refine (R_aload_n dX3_note_0 rfl (by decide)).trans ?_
  refine (gr_3_11 dX3_note_1).trans ?_
  refine (R_aload_n dX3_note_4 rfl (by decide)).trans ?_
  refine (gi_3_17 dX3_note_5).trans ?_
  refine (R_aaload dX3_note_8 as_16).trans (ck_congr ?_)
  refine (R_aload_n dX3_note_9 rfl (by decide)).trans ?_
  refine (R_cv_v (as := [vr 6 b]) (rest := []) dX3_note_10 mt_3_25 qp_34 qr_34 (E_X3_note_34) rfl rfl rfl (Nat.le_of_ble_eq_true rfl)).trans (mm_bind (fun q1 => ?_))
  refine (R_aload_n dX3_note_13 rfl (by decide)).trans ?_
  refine (R_aload_n dX3_note_14 rfl (by decide)).trans ?_
  refine (gi_3_17 dX3_note_15).trans ?_
  refine (R_iconst 1 dX3_note_18 iconst_1).trans ?_
  refine (R_iadd dX3_note_19).trans ?_
  refine (R_bipush 16 dX3_note_20 bipush_16).trans ?_
  refine (R_irem dX3_note_22).trans ?_
  refine (if_neg (by decide)).trans ?_
  refine (R_pi dX3_note_23 ft_3_17 fs_3_1).trans ?_
  refine wr_intro (g := fun m => mm_run E_X3_note 3 0 cX3_note (26, [vr 3 0, vr 6 b], [], m)) (fun m2 => ?_)
  refine (R_aload_n dX3_note_26 rfl (by decide)).trans ?_
  refine (R_aload_n dX3_note_27 rfl (by decide)).trans ?_
  refine (gi_3_21 dX3_note_28).trans ?_
  refine (R_iconst 1 dX3_note_31 iconst_1).trans ?_
  refine (R_iadd dX3_note_32).trans ?_
  refine (R_bipush 16 dX3_note_33 bipush_16).trans ?_
  refine (R_cs_i (as := [vi ((m2 3 0 2) + 1), vi 16]) (rest := [vr 3 0]) dX3_note_35 mt_3_29 (by decide) qp_142 qr_142 (E_X3_note_142) (Nat.le_of_ble_eq_true rfl) rfl rfl (Nat.le_of_ble_eq_true rfl)).trans (mm_bind (fun q3 => ?_))
  refine (R_pi dX3_note_38 ft_3_21 fs_3_2).trans ?_
  refine wr_intro (g := fun m => mm_run E_X3_note 3 0 cX3_note (41, [vr 3 0, vr 6 b], [], m)) (fun m4 => ?_)
  exact R_return dX3_note_41 rfl
noncomputable def E_X3_giveBack : mE := fun k => if k = 140 then f_J9_floorMod_7cf53 else if k = 34 then f_X6_copyFrom else fun _ _ => none
theorem E_X3_giveBack_140 : E_X3_giveBack 140 = f_J9_floorMod_7cf53 := if_pos rfl
theorem E_X3_giveBack_34 : E_X3_giveBack 34 = f_X6_copyFrom := (if_neg (by decide)).trans (if_pos rfl)
noncomputable def f_X3_giveBack : List mV → mM → Option mR := mm_fn E_X3_giveBack 3 0 3 cX3_giveBack
theorem k_X3_giveBack (l : Launch) : mm_OK l 10 f_X3_giveBack := mm_fn_ok l 10 3 E_X3_giveBack (by decide) rfl (by decide) (by
  intro k as μ q h
  by_cases h0 : k = 140
  · subst h0
    exact ⟨by rw [E_X3_giveBack_140]; exact k_J9_floorMod_7cf53 l, by decide, by decide, by decide⟩
  by_cases h1 : k = 34
  · subst h1
    exact ⟨by rw [E_X3_giveBack_34]; exact k_X6_copyFrom l, by decide, by decide, by decide⟩
  have e : E_X3_giveBack k = fun _ _ => none := (if_neg h0).trans ((if_neg h1).trans (rfl))
  rw [e] at h
  cases h)
set_option maxRecDepth 100000 in
set_option maxHeartbeats 4000000 in
theorem e_X3_giveBack (b : Nat) (l2 : Int32) (μ : mM) : f_X3_giveBack [vr 3 0, vr 6 b, vi l2] μ = (Option.bind (f_J9_floorMod_7cf53 [vi ((μ 3 0 1) - l2), vi 16] μ) (fun q1 => (wr (mm_up q1.2 3 0 1 q1.1) (fun m2 => (wr (mm_up m2 3 0 2 ((m2 3 0 2) - l2)) (fun m3 => (ck 16 (m3 3 0 1) (Option.bind (f_X6_copyFrom [vr 6 b, vr 6 ((Int32.toNatClampNeg (m3 3 0 1)) + 1)] m3) (fun q4 => some (0, q4.2)))))))))) := by
  refine (show f_X3_giveBack [vr 3 0, vr 6 b, vi l2] μ = mm_run E_X3_giveBack 3 0 cX3_giveBack (0, [vr 3 0, vr 6 b, vi l2], [], μ) from rfl).trans ?_
  refine (R_aload_n dX3_giveBack_0 rfl (by decide)).trans ?_
  refine (R_aload_n dX3_giveBack_1 rfl (by decide)).trans ?_
  refine (gi_3_17 dX3_giveBack_2).trans ?_
  refine (R_iload_n dX3_giveBack_5 rfl).trans ?_
  refine (R_isub dX3_giveBack_6).trans ?_
  refine (R_bipush 16 dX3_giveBack_7 bipush_16).trans ?_
  refine (R_cs_i (as := [vi ((μ 3 0 1) - l2), vi 16]) (rest := [vr 3 0]) dX3_giveBack_9 mt_3_35 (by decide) qp_140 qr_140 (E_X3_giveBack_140) (Nat.le_of_ble_eq_true rfl) rfl rfl (Nat.le_of_ble_eq_true rfl)).trans (mm_bind (fun q1 => ?_))
  refine (R_pi dX3_giveBack_12 ft_3_17 fs_3_1).trans ?_
  refine wr_intro (g := fun m => mm_run E_X3_giveBack 3 0 cX3_giveBack (15, [vr 3 0, vr 6 b, vi l2], [], m)) (fun m2 => ?_)
  refine (R_aload_n dX3_giveBack_15 rfl (by decide)).trans ?_
  refine (R_dup dX3_giveBack_16 rfl).trans ?_
  refine (gi_3_21 dX3_giveBack_17).trans ?_
  refine (R_iload_n dX3_giveBack_20 rfl).trans ?_
  refine (R_isub dX3_giveBack_21).trans ?_
  refine (R_pi dX3_giveBack_22 ft_3_21 fs_3_2).trans ?_
  refine wr_intro (g := fun m => mm_run E_X3_giveBack 3 0 cX3_giveBack (25, [vr 3 0, vr 6 b, vi l2], [], m)) (fun m3 => ?_)
  refine (R_aload_n dX3_giveBack_25 rfl (by decide)).trans ?_
  refine (R_aload_n dX3_giveBack_26 rfl (by decide)).trans ?_
  refine (gr_3_11 dX3_giveBack_27).trans ?_
  refine (R_aload_n dX3_giveBack_30 rfl (by decide)).trans ?_
  refine (gi_3_17 dX3_giveBack_31).trans ?_
  refine (R_aaload dX3_giveBack_34 as_16).trans (ck_congr ?_)
  refine (R_cv_v (as := [vr 6 ((Int32.toNatClampNeg (m3 3 0 1)) + 1)]) (rest := []) dX3_giveBack_35 mt_3_25 qp_34 qr_34 (E_X3_giveBack_34) rfl rfl rfl (Nat.le_of_ble_eq_true rfl)).trans (mm_bind (fun q4 => ?_))
  exact R_return dX3_giveBack_38 rfl
noncomputable def E_X4_leaveOnly : mE := fun k => if k = 141 then f_J9_max_7cf53 else if k = 142 then f_J9_min_7cf53 else fun _ _ => none
theorem E_X4_leaveOnly_141 : E_X4_leaveOnly 141 = f_J9_max_7cf53 := if_pos rfl
theorem E_X4_leaveOnly_142 : E_X4_leaveOnly 142 = f_J9_min_7cf53 := (if_neg (by decide)).trans (if_pos rfl)
noncomputable def f_X4_leaveOnly : List mV → mM → Option mR := mm_fn E_X4_leaveOnly 4 0 4 cX4_leaveOnly
theorem k_X4_leaveOnly (l : Launch) : mm_OK l 14 f_X4_leaveOnly := mm_fn_ok l 14 4 E_X4_leaveOnly (by decide) rfl (by decide) (by
  intro k as μ q h
  by_cases h0 : k = 141
  · subst h0
    exact ⟨by rw [E_X4_leaveOnly_141]; exact k_J9_max_7cf53 l, by decide, by decide, by decide⟩
  by_cases h1 : k = 142
  · subst h1
    exact ⟨by rw [E_X4_leaveOnly_142]; exact k_J9_min_7cf53 l, by decide, by decide, by decide⟩
  have e : E_X4_leaveOnly k = fun _ _ => none := (if_neg h0).trans ((if_neg h1).trans (rfl))
  rw [e] at h
  cases h)
noncomputable def r_X4_leaveOnly_2 (l1 : Int32) (l2 : Int32) (l3 : Int32) (μ : mM) : Option mR := mm_run E_X4_leaveOnly 4 0 cX4_leaveOnly (2, [vr 4 0, vi l1, vi l2, vi l3], [], μ)
set_option maxRecDepth 100000 in
set_option maxHeartbeats 4000000 in
theorem e_X4_leaveOnly (l1 : Int32) (l2 : Int32) (μ : mM) : f_X4_leaveOnly [vr 4 0, vi l1, vi l2] μ = r_X4_leaveOnly_2 l1 l2 0 μ := by
  refine (show f_X4_leaveOnly [vr 4 0, vi l1, vi l2] μ = mm_run E_X4_leaveOnly 4 0 cX4_leaveOnly (0, [vr 4 0, vi l1, vi l2, vu], [], μ) from rfl).trans ?_
  refine (R_iconst 0 dX4_leaveOnly_0 iconst_0).trans ?_
  refine (R_istore_n (ls' := [vr 4 0, vi l1, vi l2, vi 0]) dX4_leaveOnly_1 (Nat.le_of_ble_eq_true rfl) (by decide) rfl).trans ?_
  exact rfl
set_option maxRecDepth 100000 in
set_option maxHeartbeats 4000000 in
theorem e_X4_leaveOnly_2 (l1 : Int32) (l2 : Int32) (l3 : Int32) (μ : mM) : r_X4_leaveOnly_2 l1 l2 l3 μ = (if l3 < μ 4 0 5 then (ck 7 l3 (Option.bind (f_J9_max_7cf53 [vi (μ 42 0 (Int32.toNatClampNeg l3)), vi l1] μ) (fun q2 => (ck 7 l3 (wr (mm_up q2.2 42 0 (Int32.toNatClampNeg l3) q2.1) (fun m3 => (ck 7 l3 (Option.bind (f_J9_min_7cf53 [vi (m3 43 0 (Int32.toNatClampNeg l3)), vi l2] m3) (fun q4 => (ck 7 l3 (wr (mm_up q4.2 43 0 (Int32.toNatClampNeg l3) q4.1) (fun m5 => r_X4_leaveOnly_2 l1 l2 (l3 + 1) m5)))))))))))) else some (0, μ)) := by
  refine (show r_X4_leaveOnly_2 l1 l2 l3 μ = mm_run E_X4_leaveOnly 4 0 cX4_leaveOnly (2, [vr 4 0, vi l1, vi l2, vi l3], [], μ) from rfl).trans ?_
  refine (R_iload_n dX4_leaveOnly_2 rfl).trans ?_
  refine (R_aload_n dX4_leaveOnly_3 rfl (by decide)).trans ?_
  refine (gi_4_29 dX4_leaveOnly_4).trans ?_
  refine (R_icmp 48 dX4_leaveOnly_7 rfl).trans (c_ge (fun h1 => ?_) (fun h1 => ?_))
  · refine (R_aload_n dX4_leaveOnly_10 rfl (by decide)).trans ?_
    refine (gr_4_19 dX4_leaveOnly_11).trans ?_
    refine (R_iload_n dX4_leaveOnly_14 rfl).trans ?_
    refine (R_aload_n dX4_leaveOnly_15 rfl (by decide)).trans ?_
    refine (gr_4_19 dX4_leaveOnly_16).trans ?_
    refine (R_iload_n dX4_leaveOnly_19 rfl).trans ?_
    refine (R_iaload dX4_leaveOnly_20 as_42).trans (ck_congr ?_)
    refine (R_iload_n dX4_leaveOnly_21 rfl).trans ?_
    refine (R_cs_i (as := [vi (μ 42 0 (Int32.toNatClampNeg l3)), vi l1]) (rest := [vi l3, vr 42 0]) dX4_leaveOnly_22 mt_4_52 (by decide) qp_141 qr_141 (E_X4_leaveOnly_141) (Nat.le_of_ble_eq_true rfl) rfl rfl (Nat.le_of_ble_eq_true rfl)).trans (mm_bind (fun q2 => ?_))
    refine (R_iastore dX4_leaveOnly_25 as_42).trans (ck_congr ?_)
    refine wr_intro (g := fun m => mm_run E_X4_leaveOnly 4 0 cX4_leaveOnly (26, [vr 4 0, vi l1, vi l2, vi l3], [], m)) (fun m3 => ?_)
    refine (R_aload_n dX4_leaveOnly_26 rfl (by decide)).trans ?_
    refine (gr_4_22 dX4_leaveOnly_27).trans ?_
    refine (R_iload_n dX4_leaveOnly_30 rfl).trans ?_
    refine (R_aload_n dX4_leaveOnly_31 rfl (by decide)).trans ?_
    refine (gr_4_22 dX4_leaveOnly_32).trans ?_
    refine (R_iload_n dX4_leaveOnly_35 rfl).trans ?_
    refine (R_iaload dX4_leaveOnly_36 as_43).trans (ck_congr ?_)
    refine (R_iload_n dX4_leaveOnly_37 rfl).trans ?_
    refine (R_cs_i (as := [vi (m3 43 0 (Int32.toNatClampNeg l3)), vi l2]) (rest := [vi l3, vr 43 0]) dX4_leaveOnly_38 mt_4_58 (by decide) qp_142 qr_142 (E_X4_leaveOnly_142) (Nat.le_of_ble_eq_true rfl) rfl rfl (Nat.le_of_ble_eq_true rfl)).trans (mm_bind (fun q4 => ?_))
    refine (R_iastore dX4_leaveOnly_41 as_43).trans (ck_congr ?_)
    refine wr_intro (g := fun m => mm_run E_X4_leaveOnly 4 0 cX4_leaveOnly (42, [vr 4 0, vi l1, vi l2, vi l3], [], m)) (fun m5 => ?_)
    refine (R_iinc (ls' := [vr 4 0, vi l1, vi l2, vi (l3 + 1)]) 1 dX4_leaveOnly_42 rfl iconst_1 (by decide) rfl).trans ?_
    refine (R_goto 2 dX4_leaveOnly_45 rfl).trans ?_
    exact rfl
  · exact R_return dX4_leaveOnly_48 rfl
noncomputable def E_X4_cutOut : mE := fun k => if k = 13 then f_X4_addRow else fun _ _ => none
theorem E_X4_cutOut_13 : E_X4_cutOut 13 = f_X4_addRow := if_pos rfl
noncomputable def f_X4_cutOut : List mV → mM → Option mR := mm_fn E_X4_cutOut 4 0 6 cX4_cutOut
theorem k_X4_cutOut (l : Launch) : mm_OK l 15 f_X4_cutOut := mm_fn_ok l 15 4 E_X4_cutOut (by decide) rfl (by decide) (by
  intro k as μ q h
  by_cases h0 : k = 13
  · subst h0
    exact ⟨by rw [E_X4_cutOut_13]; exact k_X4_addRow l, by decide, by decide, by decide⟩
  have e : E_X4_cutOut k = fun _ _ => none := (if_neg h0).trans (rfl)
  rw [e] at h
  cases h)
noncomputable def r_X4_cutOut_8 (l1 : Int32) (l2 : Int32) (l3 : Int32) (l4 : Int32) (x5 : mV) (μ : mM) : Option mR := mm_run E_X4_cutOut 4 0 cX4_cutOut (8, [vr 4 0, vi l1, vi l2, vi l3, vi l4, x5], [], μ)
set_option maxRecDepth 100000 in
set_option maxHeartbeats 4000000 in
theorem e_X4_cutOut (l1 : Int32) (l2 : Int32) (μ : mM) : f_X4_cutOut [vr 4 0, vi l1, vi l2] μ = r_X4_cutOut_8 l1 l2 (μ 4 0 5) 0 vu μ := by
  refine (show f_X4_cutOut [vr 4 0, vi l1, vi l2] μ = mm_run E_X4_cutOut 4 0 cX4_cutOut (0, [vr 4 0, vi l1, vi l2, vu, vu, vu], [], μ) from rfl).trans ?_
  refine (R_aload_n dX4_cutOut_0 rfl (by decide)).trans ?_
  refine (gi_4_29 dX4_cutOut_1).trans ?_
  refine (R_istore_n (ls' := [vr 4 0, vi l1, vi l2, vi (μ 4 0 5), vu, vu]) dX4_cutOut_4 (Nat.le_of_ble_eq_true rfl) (by decide) rfl).trans ?_
  refine (R_iconst 0 dX4_cutOut_5 iconst_0).trans ?_
  refine (R_istore (ls' := [vr 4 0, vi l1, vi l2, vi (μ 4 0 5), vi 0, vu]) dX4_cutOut_6 (Nat.le_of_ble_eq_true rfl) (by decide) rfl).trans ?_
  exact rfl
set_option maxRecDepth 100000 in
set_option maxHeartbeats 4000000 in
theorem e_X4_cutOut_8 (l1 : Int32) (l2 : Int32) (l3 : Int32) (l4 : Int32) (x5 : mV) (μ : mM) : r_X4_cutOut_8 l1 l2 l3 l4 x5 μ = (if l4 < l3 then (ck 7 l4 (if l2 < μ 42 0 (Int32.toNatClampNeg l4) then r_X4_cutOut_8 l1 l2 l3 (l4 + 1) x5 μ else (ck 7 l4 (if μ 43 0 (Int32.toNatClampNeg l4) < l1 then r_X4_cutOut_8 l1 l2 l3 (l4 + 1) x5 μ else (ck 7 l4 (ck 7 l4 (wr (mm_up μ 43 0 (Int32.toNatClampNeg l4) (l1 - 1)) (fun m4 => (if l2 < μ 43 0 (Int32.toNatClampNeg l4) then (Option.bind (f_X4_addRow [vr 4 0, vi (l2 + 1), vi (μ 43 0 (Int32.toNatClampNeg l4))] m4) (fun q6 => r_X4_cutOut_8 l1 l2 l3 (l4 + 1) (vi (μ 43 0 (Int32.toNatClampNeg l4))) q6.2)) else r_X4_cutOut_8 l1 l2 l3 (l4 + 1) (vi (μ 43 0 (Int32.toNatClampNeg l4))) m4))))))))) else some (0, μ)) := by
  refine (show r_X4_cutOut_8 l1 l2 l3 l4 x5 μ = mm_run E_X4_cutOut 4 0 cX4_cutOut (8, [vr 4 0, vi l1, vi l2, vi l3, vi l4, x5], [], μ) from rfl).trans ?_
  refine (R_iload dX4_cutOut_8 rfl).trans ?_
  refine (R_iload_n dX4_cutOut_10 rfl).trans ?_
  refine (R_icmp 76 dX4_cutOut_11 rfl).trans (c_ge (fun h1 => ?_) (fun h1 => ?_))
  · refine (R_aload_n dX4_cutOut_14 rfl (by decide)).trans ?_
    refine (gr_4_19 dX4_cutOut_15).trans ?_
    refine (R_iload dX4_cutOut_18 rfl).trans ?_
    refine (R_iaload dX4_cutOut_20 as_42).trans (ck_congr ?_)
    refine (R_iload_n dX4_cutOut_21 rfl).trans ?_
    refine (R_icmp 70 dX4_cutOut_22 rfl).trans (c_gt (fun h2 => ?_) (fun h2 => ?_))
    · refine (R_iinc (ls' := [vr 4 0, vi l1, vi l2, vi l3, vi (l4 + 1), x5]) 1 dX4_cutOut_70 rfl iconst_1 (by decide) rfl).trans ?_
      refine (R_goto 8 dX4_cutOut_73 rfl).trans ?_
      exact rfl
    · refine (R_iload_n dX4_cutOut_25 rfl).trans ?_
      refine (R_aload_n dX4_cutOut_26 rfl (by decide)).trans ?_
      refine (gr_4_22 dX4_cutOut_27).trans ?_
      refine (R_iload dX4_cutOut_30 rfl).trans ?_
      refine (R_iaload dX4_cutOut_32 as_43).trans (ck_congr ?_)
      refine (R_icmp 70 dX4_cutOut_33 rfl).trans (c_gt (fun h3 => ?_) (fun h3 => ?_))
      · refine (R_iinc (ls' := [vr 4 0, vi l1, vi l2, vi l3, vi (l4 + 1), x5]) 1 dX4_cutOut_70 rfl iconst_1 (by decide) rfl).trans ?_
        refine (R_goto 8 dX4_cutOut_73 rfl).trans ?_
        exact rfl
      · refine (R_aload_n dX4_cutOut_36 rfl (by decide)).trans ?_
        refine (gr_4_22 dX4_cutOut_37).trans ?_
        refine (R_iload dX4_cutOut_40 rfl).trans ?_
        refine (R_iaload dX4_cutOut_42 as_43).trans (ck_congr ?_)
        refine (R_istore (ls' := [vr 4 0, vi l1, vi l2, vi l3, vi l4, vi (μ 43 0 (Int32.toNatClampNeg l4))]) dX4_cutOut_43 (Nat.le_of_ble_eq_true rfl) (by decide) rfl).trans ?_
        refine (R_aload_n dX4_cutOut_45 rfl (by decide)).trans ?_
        refine (gr_4_22 dX4_cutOut_46).trans ?_
        refine (R_iload dX4_cutOut_49 rfl).trans ?_
        refine (R_iload_n dX4_cutOut_51 rfl).trans ?_
        refine (R_iconst 1 dX4_cutOut_52 iconst_1).trans ?_
        refine (R_isub dX4_cutOut_53).trans ?_
        refine (R_iastore dX4_cutOut_54 as_43).trans (ck_congr ?_)
        refine wr_intro (g := fun m => mm_run E_X4_cutOut 4 0 cX4_cutOut (55, [vr 4 0, vi l1, vi l2, vi l3, vi l4, vi (μ 43 0 (Int32.toNatClampNeg l4))], [], m)) (fun m4 => ?_)
        refine (R_iload_n dX4_cutOut_55 rfl).trans ?_
        refine (R_iload dX4_cutOut_56 rfl).trans ?_
        refine (R_icmp 70 dX4_cutOut_58 rfl).trans (c_ge (fun h5 => ?_) (fun h5 => ?_))
        · refine (R_aload_n dX4_cutOut_61 rfl (by decide)).trans ?_
          refine (R_iload_n dX4_cutOut_62 rfl).trans ?_
          refine (R_iconst 1 dX4_cutOut_63 iconst_1).trans ?_
          refine (R_iadd dX4_cutOut_64).trans ?_
          refine (R_iload dX4_cutOut_65 rfl).trans ?_
          refine (R_cv_v (as := [vi (l2 + 1), vi (μ 43 0 (Int32.toNatClampNeg l4))]) (rest := []) dX4_cutOut_67 mt_4_33 qp_13 qr_13 (E_X4_cutOut_13) rfl rfl rfl (Nat.le_of_ble_eq_true rfl)).trans (mm_bind (fun q6 => ?_))
          refine (R_iinc (ls' := [vr 4 0, vi l1, vi l2, vi l3, vi (l4 + 1), vi (μ 43 0 (Int32.toNatClampNeg l4))]) 1 dX4_cutOut_70 rfl iconst_1 (by decide) rfl).trans ?_
          refine (R_goto 8 dX4_cutOut_73 rfl).trans ?_
          exact rfl
        · refine (R_iinc (ls' := [vr 4 0, vi l1, vi l2, vi l3, vi (l4 + 1), vi (μ 43 0 (Int32.toNatClampNeg l4))]) 1 dX4_cutOut_70 rfl iconst_1 (by decide) rfl).trans ?_
          refine (R_goto 8 dX4_cutOut_73 rfl).trans ?_
          exact rfl
  · exact R_return dX4_cutOut_76 rfl
noncomputable def E_X4_countWithin : mE := fun k => if k = 142 then f_J9_min_7cf53 else if k = 141 then f_J9_max_7cf53 else fun _ _ => none
theorem E_X4_countWithin_142 : E_X4_countWithin 142 = f_J9_min_7cf53 := if_pos rfl
theorem E_X4_countWithin_141 : E_X4_countWithin 141 = f_J9_max_7cf53 := (if_neg (by decide)).trans (if_pos rfl)
noncomputable def f_X4_countWithin : List mV → mM → Option mR := mm_fn E_X4_countWithin 4 1 5 cX4_countWithin
theorem k_X4_countWithin (l : Launch) : mm_OK l 17 f_X4_countWithin := mm_fn_ok l 17 4 E_X4_countWithin (by decide) rfl (by decide) (by
  intro k as μ q h
  by_cases h0 : k = 142
  · subst h0
    exact ⟨by rw [E_X4_countWithin_142]; exact k_J9_min_7cf53 l, by decide, by decide, by decide⟩
  by_cases h1 : k = 141
  · subst h1
    exact ⟨by rw [E_X4_countWithin_141]; exact k_J9_max_7cf53 l, by decide, by decide, by decide⟩
  have e : E_X4_countWithin k = fun _ _ => none := (if_neg h0).trans ((if_neg h1).trans (rfl))
  rw [e] at h
  cases h)
noncomputable def r_X4_countWithin_5 (l1 : Int32) (l2 : Int32) (l3 : Int32) (l4 : Int32) (μ : mM) : Option mR := mm_run E_X4_countWithin 4 1 cX4_countWithin (5, [vr 4 0, vi l1, vi l2, vi l3, vi l4], [], μ)
set_option maxRecDepth 100000 in
set_option maxHeartbeats 4000000 in
theorem e_X4_countWithin (l1 : Int32) (l2 : Int32) (μ : mM) : f_X4_countWithin [vr 4 0, vi l1, vi l2] μ = r_X4_countWithin_5 l1 l2 0 0 μ := by
  refine (show f_X4_countWithin [vr 4 0, vi l1, vi l2] μ = mm_run E_X4_countWithin 4 1 cX4_countWithin (0, [vr 4 0, vi l1, vi l2, vu, vu], [], μ) from rfl).trans ?_
  refine (R_iconst 0 dX4_countWithin_0 iconst_0).trans ?_
  refine (R_istore_n (ls' := [vr 4 0, vi l1, vi l2, vi 0, vu]) dX4_countWithin_1 (Nat.le_of_ble_eq_true rfl) (by decide) rfl).trans ?_
  refine (R_iconst 0 dX4_countWithin_2 iconst_0).trans ?_
  refine (R_istore (ls' := [vr 4 0, vi l1, vi l2, vi 0, vi 0]) dX4_countWithin_3 (Nat.le_of_ble_eq_true rfl) (by decide) rfl).trans ?_
  exact rfl
set_option maxRecDepth 100000 in
set_option maxHeartbeats 4000000 in
theorem e_X4_countWithin_5 (l1 : Int32) (l2 : Int32) (l3 : Int32) (l4 : Int32) (μ : mM) : r_X4_countWithin_5 l1 l2 l3 l4 μ = (if l4 < μ 4 0 5 then (ck 7 l4 (Option.bind (f_J9_min_7cf53 [vi (μ 43 0 (Int32.toNatClampNeg l4)), vi l2] μ) (fun q2 => (ck 7 l4 (Option.bind (f_J9_max_7cf53 [vi (q2.2 42 0 (Int32.toNatClampNeg l4)), vi l1] q2.2) (fun q3 => (Option.bind (f_J9_max_7cf53 [vi 0, vi ((q2.1 - q3.1) + 1)] q3.2) (fun q4 => r_X4_countWithin_5 l1 l2 (l3 + q4.1) (l4 + 1) q4.2)))))))) else some (l3, μ)) := by
  refine (show r_X4_countWithin_5 l1 l2 l3 l4 μ = mm_run E_X4_countWithin 4 1 cX4_countWithin (5, [vr 4 0, vi l1, vi l2, vi l3, vi l4], [], μ) from rfl).trans ?_
  refine (R_iload dX4_countWithin_5 rfl).trans ?_
  refine (R_aload_n dX4_countWithin_7 rfl (by decide)).trans ?_
  refine (gi_4_29 dX4_countWithin_8).trans ?_
  refine (R_icmp 52 dX4_countWithin_11 rfl).trans (c_ge (fun h1 => ?_) (fun h1 => ?_))
  · refine (R_iload_n dX4_countWithin_14 rfl).trans ?_
    refine (R_iconst 0 dX4_countWithin_15 iconst_0).trans ?_
    refine (R_aload_n dX4_countWithin_16 rfl (by decide)).trans ?_
    refine (gr_4_22 dX4_countWithin_17).trans ?_
    refine (R_iload dX4_countWithin_20 rfl).trans ?_
    refine (R_iaload dX4_countWithin_22 as_43).trans (ck_congr ?_)
    refine (R_iload_n dX4_countWithin_23 rfl).trans ?_
    refine (R_cs_i (as := [vi (μ 43 0 (Int32.toNatClampNeg l4)), vi l2]) (rest := [vi 0, vi l3]) dX4_countWithin_24 mt_4_58 (by decide) qp_142 qr_142 (E_X4_countWithin_142) (Nat.le_of_ble_eq_true rfl) rfl rfl (Nat.le_of_ble_eq_true rfl)).trans (mm_bind (fun q2 => ?_))
    refine (R_aload_n dX4_countWithin_27 rfl (by decide)).trans ?_
    refine (gr_4_19 dX4_countWithin_28).trans ?_
    refine (R_iload dX4_countWithin_31 rfl).trans ?_
    refine (R_iaload dX4_countWithin_33 as_42).trans (ck_congr ?_)
    refine (R_iload_n dX4_countWithin_34 rfl).trans ?_
    refine (R_cs_i (as := [vi (q2.2 42 0 (Int32.toNatClampNeg l4)), vi l1]) (rest := [vi q2.1, vi 0, vi l3]) dX4_countWithin_35 mt_4_52 (by decide) qp_141 qr_141 (E_X4_countWithin_141) (Nat.le_of_ble_eq_true rfl) rfl rfl (Nat.le_of_ble_eq_true rfl)).trans (mm_bind (fun q3 => ?_))
    refine (R_isub dX4_countWithin_38).trans ?_
    refine (R_iconst 1 dX4_countWithin_39 iconst_1).trans ?_
    refine (R_iadd dX4_countWithin_40).trans ?_
    refine (R_cs_i (as := [vi 0, vi ((q2.1 - q3.1) + 1)]) (rest := [vi l3]) dX4_countWithin_41 mt_4_52 (by decide) qp_141 qr_141 (E_X4_countWithin_141) (Nat.le_of_ble_eq_true rfl) rfl rfl (Nat.le_of_ble_eq_true rfl)).trans (mm_bind (fun q4 => ?_))
    refine (R_iadd dX4_countWithin_44).trans ?_
    refine (R_istore_n (ls' := [vr 4 0, vi l1, vi l2, vi (l3 + q4.1), vi l4]) dX4_countWithin_45 (Nat.le_of_ble_eq_true rfl) (by decide) rfl).trans ?_
    refine (R_iinc (ls' := [vr 4 0, vi l1, vi l2, vi (l3 + q4.1), vi (l4 + 1)]) 1 dX4_countWithin_46 rfl iconst_1 (by decide) rfl).trans ?_
    refine (R_goto 5 dX4_countWithin_49 rfl).trans ?_
    exact rfl
  · refine (R_iload_n dX4_countWithin_52 rfl).trans ?_
    exact R_ireturn dX4_countWithin_53 rfl
noncomputable def E_X4_greatestSize : mE := fun k => if k = 141 then f_J9_max_7cf53 else fun _ _ => none
theorem E_X4_greatestSize_141 : E_X4_greatestSize 141 = f_J9_max_7cf53 := if_pos rfl
noncomputable def f_X4_greatestSize : List mV → mM → Option mR := mm_fn E_X4_greatestSize 4 1 3 cX4_greatestSize
theorem k_X4_greatestSize (l : Launch) : mm_OK l 19 f_X4_greatestSize := mm_fn_ok l 19 4 E_X4_greatestSize (by decide) rfl (by decide) (by
  intro k as μ q h
  by_cases h0 : k = 141
  · subst h0
    exact ⟨by rw [E_X4_greatestSize_141]; exact k_J9_max_7cf53 l, by decide, by decide, by decide⟩
  have e : E_X4_greatestSize k = fun _ _ => none := (if_neg h0).trans (rfl)
  rw [e] at h
  cases h)
noncomputable def r_X4_greatestSize_4 (l1 : Int32) (l2 : Int32) (μ : mM) : Option mR := mm_run E_X4_greatestSize 4 1 cX4_greatestSize (4, [vr 4 0, vi l1, vi l2], [], μ)
set_option maxRecDepth 100000 in
set_option maxHeartbeats 4000000 in
theorem e_X4_greatestSize (μ : mM) : f_X4_greatestSize [vr 4 0] μ = r_X4_greatestSize_4 (-1) 0 μ := by
  refine (show f_X4_greatestSize [vr 4 0] μ = mm_run E_X4_greatestSize 4 1 cX4_greatestSize (0, [vr 4 0, vu, vu], [], μ) from rfl).trans ?_
  refine (R_iconst (-1) dX4_greatestSize_0 iconst_m1).trans ?_
  refine (R_istore_n (ls' := [vr 4 0, vi (-1), vu]) dX4_greatestSize_1 (Nat.le_of_ble_eq_true rfl) (by decide) rfl).trans ?_
  refine (R_iconst 0 dX4_greatestSize_2 iconst_0).trans ?_
  refine (R_istore_n (ls' := [vr 4 0, vi (-1), vi 0]) dX4_greatestSize_3 (Nat.le_of_ble_eq_true rfl) (by decide) rfl).trans ?_
  exact rfl
set_option maxRecDepth 100000 in
set_option maxHeartbeats 4000000 in
theorem e_X4_greatestSize_4 (l1 : Int32) (l2 : Int32) (μ : mM) : r_X4_greatestSize_4 l1 l2 μ = (if l2 < μ 4 0 5 then (ck 7 l2 (ck 7 l2 (if μ 43 0 (Int32.toNatClampNeg l2) < μ 42 0 (Int32.toNatClampNeg l2) then r_X4_greatestSize_4 l1 (l2 + 1) μ else (ck 7 l2 (Option.bind (f_J9_max_7cf53 [vi l1, vi (μ 43 0 (Int32.toNatClampNeg l2))] μ) (fun q3 => r_X4_greatestSize_4 q3.1 (l2 + 1) q3.2)))))) else some (l1, μ)) := by
  refine (show r_X4_greatestSize_4 l1 l2 μ = mm_run E_X4_greatestSize 4 1 cX4_greatestSize (4, [vr 4 0, vi l1, vi l2], [], μ) from rfl).trans ?_
  refine (R_iload_n dX4_greatestSize_4 rfl).trans ?_
  refine (R_aload_n dX4_greatestSize_5 rfl (by decide)).trans ?_
  refine (gi_4_29 dX4_greatestSize_6).trans ?_
  refine (R_icmp 44 dX4_greatestSize_9 rfl).trans (c_ge (fun h1 => ?_) (fun h1 => ?_))
  · refine (R_aload_n dX4_greatestSize_12 rfl (by decide)).trans ?_
    refine (gr_4_19 dX4_greatestSize_13).trans ?_
    refine (R_iload_n dX4_greatestSize_16 rfl).trans ?_
    refine (R_iaload dX4_greatestSize_17 as_42).trans (ck_congr ?_)
    refine (R_aload_n dX4_greatestSize_18 rfl (by decide)).trans ?_
    refine (gr_4_22 dX4_greatestSize_19).trans ?_
    refine (R_iload_n dX4_greatestSize_22 rfl).trans ?_
    refine (R_iaload dX4_greatestSize_23 as_43).trans (ck_congr ?_)
    refine (R_icmp 38 dX4_greatestSize_24 rfl).trans (c_gt (fun h2 => ?_) (fun h2 => ?_))
    · refine (R_iinc (ls' := [vr 4 0, vi l1, vi (l2 + 1)]) 1 dX4_greatestSize_38 rfl iconst_1 (by decide) rfl).trans ?_
      refine (R_goto 4 dX4_greatestSize_41 rfl).trans ?_
      exact rfl
    · refine (R_iload_n dX4_greatestSize_27 rfl).trans ?_
      refine (R_aload_n dX4_greatestSize_28 rfl (by decide)).trans ?_
      refine (gr_4_22 dX4_greatestSize_29).trans ?_
      refine (R_iload_n dX4_greatestSize_32 rfl).trans ?_
      refine (R_iaload dX4_greatestSize_33 as_43).trans (ck_congr ?_)
      refine (R_cs_i (as := [vi l1, vi (μ 43 0 (Int32.toNatClampNeg l2))]) (rest := []) dX4_greatestSize_34 mt_4_52 (by decide) qp_141 qr_141 (E_X4_greatestSize_141) (Nat.le_of_ble_eq_true rfl) rfl rfl (Nat.le_of_ble_eq_true rfl)).trans (mm_bind (fun q3 => ?_))
      refine (R_istore_n (ls' := [vr 4 0, vi q3.1, vi l2]) dX4_greatestSize_37 (Nat.le_of_ble_eq_true rfl) (by decide) rfl).trans ?_
      refine (R_iinc (ls' := [vr 4 0, vi q3.1, vi (l2 + 1)]) 1 dX4_greatestSize_38 rfl iconst_1 (by decide) rfl).trans ?_
      refine (R_goto 4 dX4_greatestSize_41 rfl).trans ?_
      exact rfl
  · refine (R_iload_n dX4_greatestSize_44 rfl).trans ?_
    exact R_ireturn dX4_greatestSize_45 rfl
noncomputable def E_X5_addShaft : mE := fun k => if k = 23 then f_X5_closesAfter else fun _ _ => none
theorem E_X5_addShaft_23 : E_X5_addShaft 23 = f_X5_closesAfter := if_pos rfl
noncomputable def f_X5_addShaft : List mV → mM → Option mR := mm_fn E_X5_addShaft 5 0 5 cX5_addShaft
theorem k_X5_addShaft (l : Launch) : mm_OK l 22 f_X5_addShaft := mm_fn_ok l 22 5 E_X5_addShaft (by decide) rfl (by decide) (by
  intro k as μ q h
  by_cases h0 : k = 23
  · subst h0
    exact ⟨by rw [E_X5_addShaft_23]; exact k_X5_closesAfter l, by decide, by decide, by decide⟩
  have e : E_X5_addShaft k = fun _ _ => none := (if_neg h0).trans (rfl)
  rw [e] at h
  cases h)
noncomputable def r_X5_addShaft_46 (x1 : mV) (x2 : mV) (x3 : mV) (l4 : Int32) (μ : mM) : Option mR := mm_run E_X5_addShaft 5 0 cX5_addShaft (46, [vr 5 0, x1, x2, x3, vi l4], [], μ)
set_option maxRecDepth 100000 in
set_option maxHeartbeats 4000000 in
theorem e_X5_addShaft (l1 : Int32) (l2 : Int32) (l3 : Int32) (μ : mM) : f_X5_addShaft [vr 5 0, vi l1, vi l2, vi l3] μ = (if μ 5 0 8 < 24 then (ck 24 (μ 5 0 8) (wr (mm_up μ 20 0 (Int32.toNatClampNeg (μ 5 0 8)) l1) (fun m2 => (ck 24 (m2 5 0 8) (wr (mm_up m2 21 0 (Int32.toNatClampNeg (m2 5 0 8)) l2) (fun m3 => (ck 24 (m3 5 0 8) (wr (mm_up m3 22 0 (Int32.toNatClampNeg (m3 5 0 8)) l3) (fun m4 => r_X5_addShaft_46 (vi l1) (vi l2) (vi l3) (m4 5 0 8) m4))))))))) else some (0, μ)) := by
  refine (show f_X5_addShaft [vr 5 0, vi l1, vi l2, vi l3] μ = mm_run E_X5_addShaft 5 0 cX5_addShaft (0, [vr 5 0, vi l1, vi l2, vi l3, vu], [], μ) from rfl).trans ?_
  refine (R_aload_n dX5_addShaft_0 rfl (by decide)).trans ?_
  refine (gi_5_36 dX5_addShaft_1).trans ?_
  refine (R_bipush 24 dX5_addShaft_4 bipush_24).trans ?_
  refine (R_icmp 10 dX5_addShaft_6 rfl).trans (c_lt (fun h1 => ?_) (fun h1 => ?_))
  · refine (R_aload_n dX5_addShaft_10 rfl (by decide)).trans ?_
    refine (gr_5_9 dX5_addShaft_11).trans ?_
    refine (R_aload_n dX5_addShaft_14 rfl (by decide)).trans ?_
    refine (gi_5_36 dX5_addShaft_15).trans ?_
    refine (R_iload_n dX5_addShaft_18 rfl).trans ?_
    refine (R_iastore dX5_addShaft_19 as_20).trans (ck_congr ?_)
    refine wr_intro (g := fun m => mm_run E_X5_addShaft 5 0 cX5_addShaft (20, [vr 5 0, vi l1, vi l2, vi l3, vu], [], m)) (fun m2 => ?_)
    refine (R_aload_n dX5_addShaft_20 rfl (by decide)).trans ?_
    refine (gr_5_15 dX5_addShaft_21).trans ?_
    refine (R_aload_n dX5_addShaft_24 rfl (by decide)).trans ?_
    refine (gi_5_36 dX5_addShaft_25).trans ?_
    refine (R_iload_n dX5_addShaft_28 rfl).trans ?_
    refine (R_iastore dX5_addShaft_29 as_21).trans (ck_congr ?_)
    refine wr_intro (g := fun m => mm_run E_X5_addShaft 5 0 cX5_addShaft (30, [vr 5 0, vi l1, vi l2, vi l3, vu], [], m)) (fun m3 => ?_)
    refine (R_aload_n dX5_addShaft_30 rfl (by decide)).trans ?_
    refine (gr_5_18 dX5_addShaft_31).trans ?_
    refine (R_aload_n dX5_addShaft_34 rfl (by decide)).trans ?_
    refine (gi_5_36 dX5_addShaft_35).trans ?_
    refine (R_iload_n dX5_addShaft_38 rfl).trans ?_
    refine (R_iastore dX5_addShaft_39 as_22).trans (ck_congr ?_)
    refine wr_intro (g := fun m => mm_run E_X5_addShaft 5 0 cX5_addShaft (40, [vr 5 0, vi l1, vi l2, vi l3, vu], [], m)) (fun m4 => ?_)
    refine (R_aload_n dX5_addShaft_40 rfl (by decide)).trans ?_
    refine (gi_5_36 dX5_addShaft_41).trans ?_
    refine (R_istore (ls' := [vr 5 0, vi l1, vi l2, vi l3, vi (m4 5 0 8)]) dX5_addShaft_44 (Nat.le_of_ble_eq_true rfl) (by decide) rfl).trans ?_
    exact rfl
  · exact R_return dX5_addShaft_9 rfl
set_option maxRecDepth 100000 in
set_option maxHeartbeats 4000000 in
theorem e_X5_addShaft_46 (x1 : mV) (x2 : mV) (x3 : mV) (l4 : Int32) (μ : mM) : r_X5_addShaft_46 x1 x2 x3 l4 μ = (if 0 < l4 then (ck 24 (l4 - 1) (Option.bind (f_X5_closesAfter [vr 5 0, vi (μ 23 0 (Int32.toNatClampNeg (l4 - 1))), vi (μ 5 0 8)] μ) (fun q2 => (if q2.1 = 0 then (ck 24 l4 (wr (mm_up q2.2 23 0 (Int32.toNatClampNeg l4) (q2.2 5 0 8)) (fun m4 => (wr (mm_up m4 5 0 8 ((m4 5 0 8) + 1)) (fun m5 => some (0, m5)))))) else (ck 24 (l4 - 1) (ck 24 l4 (wr (mm_up q2.2 23 0 (Int32.toNatClampNeg l4) (q2.2 23 0 (Int32.toNatClampNeg (l4 - 1)))) (fun m6 => r_X5_addShaft_46 x1 x2 x3 (l4 + (-1)) m6)))))))) else (ck 24 l4 (wr (mm_up μ 23 0 (Int32.toNatClampNeg l4) (μ 5 0 8)) (fun m7 => (wr (mm_up m7 5 0 8 ((m7 5 0 8) + 1)) (fun m8 => some (0, m8))))))) := by
  refine (show r_X5_addShaft_46 x1 x2 x3 l4 μ = mm_run E_X5_addShaft 5 0 cX5_addShaft (46, [vr 5 0, x1, x2, x3, vi l4], [], μ) from rfl).trans ?_
  refine (R_iload dX5_addShaft_46 rfl).trans ?_
  refine (R_ifc 93 dX5_addShaft_48 rfl).trans (c_le (fun h1 => ?_) (fun h1 => ?_))
  · refine (R_aload_n dX5_addShaft_51 rfl (by decide)).trans ?_
    refine (R_aload_n dX5_addShaft_52 rfl (by decide)).trans ?_
    refine (gr_5_21 dX5_addShaft_53).trans ?_
    refine (R_iload dX5_addShaft_56 rfl).trans ?_
    refine (R_iconst 1 dX5_addShaft_58 iconst_1).trans ?_
    refine (R_isub dX5_addShaft_59).trans ?_
    refine (R_iaload dX5_addShaft_60 as_23).trans (ck_congr ?_)
    refine (R_aload_n dX5_addShaft_61 rfl (by decide)).trans ?_
    refine (gi_5_36 dX5_addShaft_62).trans ?_
    refine (R_cv_i (as := [vi (μ 23 0 (Int32.toNatClampNeg (l4 - 1))), vi (μ 5 0 8)]) (rest := []) dX5_addShaft_65 mt_5_71 qp_23 qr_23 (E_X5_addShaft_23) rfl rfl rfl (Nat.le_of_ble_eq_true rfl)).trans (mm_bind (fun q2 => ?_))
    refine (R_ifc 93 dX5_addShaft_68 rfl).trans (c_eq (fun h3 => ?_) (fun h3 => ?_))
    · refine (R_aload_n dX5_addShaft_93 rfl (by decide)).trans ?_
      refine (gr_5_21 dX5_addShaft_94).trans ?_
      refine (R_iload dX5_addShaft_97 rfl).trans ?_
      refine (R_aload_n dX5_addShaft_99 rfl (by decide)).trans ?_
      refine (gi_5_36 dX5_addShaft_100).trans ?_
      refine (R_iastore dX5_addShaft_103 as_23).trans (ck_congr ?_)
      refine wr_intro (g := fun m => mm_run E_X5_addShaft 5 0 cX5_addShaft (104, [vr 5 0, x1, x2, x3, vi l4], [], m)) (fun m4 => ?_)
      refine (R_aload_n dX5_addShaft_104 rfl (by decide)).trans ?_
      refine (R_dup dX5_addShaft_105 rfl).trans ?_
      refine (gi_5_36 dX5_addShaft_106).trans ?_
      refine (R_iconst 1 dX5_addShaft_109 iconst_1).trans ?_
      refine (R_iadd dX5_addShaft_110).trans ?_
      refine (R_pi dX5_addShaft_111 ft_5_36 fs_5_8).trans ?_
      refine wr_intro (g := fun m => mm_run E_X5_addShaft 5 0 cX5_addShaft (114, [vr 5 0, x1, x2, x3, vi l4], [], m)) (fun m5 => ?_)
      exact R_return dX5_addShaft_114 rfl
    · refine (R_aload_n dX5_addShaft_71 rfl (by decide)).trans ?_
      refine (gr_5_21 dX5_addShaft_72).trans ?_
      refine (R_iload dX5_addShaft_75 rfl).trans ?_
      refine (R_aload_n dX5_addShaft_77 rfl (by decide)).trans ?_
      refine (gr_5_21 dX5_addShaft_78).trans ?_
      refine (R_iload dX5_addShaft_81 rfl).trans ?_
      refine (R_iconst 1 dX5_addShaft_83 iconst_1).trans ?_
      refine (R_isub dX5_addShaft_84).trans ?_
      refine (R_iaload dX5_addShaft_85 as_23).trans (ck_congr ?_)
      refine (R_iastore dX5_addShaft_86 as_23).trans (ck_congr ?_)
      refine wr_intro (g := fun m => mm_run E_X5_addShaft 5 0 cX5_addShaft (87, [vr 5 0, x1, x2, x3, vi l4], [], m)) (fun m6 => ?_)
      refine (R_iinc (ls' := [vr 5 0, x1, x2, x3, vi (l4 + (-1))]) (-1) dX5_addShaft_87 rfl iconst_m1 (by decide) rfl).trans ?_
      refine (R_goto 46 dX5_addShaft_90 rfl).trans ?_
      exact rfl
  · refine (R_aload_n dX5_addShaft_93 rfl (by decide)).trans ?_
    refine (gr_5_21 dX5_addShaft_94).trans ?_
    refine (R_iload dX5_addShaft_97 rfl).trans ?_
    refine (R_aload_n dX5_addShaft_99 rfl (by decide)).trans ?_
    refine (gi_5_36 dX5_addShaft_100).trans ?_
    refine (R_iastore dX5_addShaft_103 as_23).trans (ck_congr ?_)
    refine wr_intro (g := fun m => mm_run E_X5_addShaft 5 0 cX5_addShaft (104, [vr 5 0, x1, x2, x3, vi l4], [], m)) (fun m7 => ?_)
    refine (R_aload_n dX5_addShaft_104 rfl (by decide)).trans ?_
    refine (R_dup dX5_addShaft_105 rfl).trans ?_
    refine (gi_5_36 dX5_addShaft_106).trans ?_
    refine (R_iconst 1 dX5_addShaft_109 iconst_1).trans ?_
    refine (R_iadd dX5_addShaft_110).trans ?_
    refine (R_pi dX5_addShaft_111 ft_5_36 fs_5_8).trans ?_
    refine wr_intro (g := fun m => mm_run E_X5_addShaft 5 0 cX5_addShaft (114, [vr 5 0, x1, x2, x3, vi l4], [], m)) (fun m8 => ?_)
    exact R_return dX5_addShaft_114 rfl
noncomputable def E_X5_pair : mE := fun k => if k = 27 then f_X5_firstToClose else fun _ _ => none
theorem E_X5_pair_27 : E_X5_pair 27 = f_X5_firstToClose := if_pos rfl
noncomputable def f_X5_pair : List mV → mM → Option mR := mm_fn E_X5_pair 5 1 6 cX5_pair
theorem k_X5_pair (l : Launch) : mm_OK l 26 f_X5_pair := mm_fn_ok l 26 5 E_X5_pair (by decide) rfl (by decide) (by
  intro k as μ q h
  by_cases h0 : k = 27
  · subst h0
    exact ⟨by rw [E_X5_pair_27]; exact k_X5_firstToClose l, by decide, by decide, by decide⟩
  have e : E_X5_pair k = fun _ _ => none := (if_neg h0).trans (rfl)
  rw [e] at h
  cases h)
noncomputable def r_X5_pair_2 (l1 : Int32) (l2 : Int32) (μ : mM) : Option mR := mm_run E_X5_pair 5 1 cX5_pair (2, [vr 5 0, vi l1, vi l2, vu, vu, vu], [], μ)
noncomputable def r_X5_pair_27 (l1 : Int32) (l2 : Int32) (l3 : Int32) (x4 : mV) (x5 : mV) (μ : mM) : Option mR := mm_run E_X5_pair 5 1 cX5_pair (27, [vr 5 0, vi l1, vi l2, vi l3, x4, x5], [], μ)
set_option maxRecDepth 100000 in
set_option maxHeartbeats 4000000 in
theorem e_X5_pair (l1 : Int32) (μ : mM) : f_X5_pair [vr 5 0, vi l1] μ = r_X5_pair_2 l1 0 μ := by
  refine (show f_X5_pair [vr 5 0, vi l1] μ = mm_run E_X5_pair 5 1 cX5_pair (0, [vr 5 0, vi l1, vu, vu, vu, vu], [], μ) from rfl).trans ?_
  refine (R_iconst 0 dX5_pair_0 iconst_0).trans ?_
  refine (R_istore_n (ls' := [vr 5 0, vi l1, vi 0, vu, vu, vu]) dX5_pair_1 (Nat.le_of_ble_eq_true rfl) (by decide) rfl).trans ?_
  exact rfl
set_option maxRecDepth 100000 in
set_option maxHeartbeats 4000000 in
theorem e_X5_pair_2 (l1 : Int32) (l2 : Int32) (μ : mM) : r_X5_pair_2 l1 l2 μ = (if l2 < μ 5 0 8 then (ck 24 l2 (wr (mm_up μ 24 0 (Int32.toNatClampNeg l2) (-1)) (fun m2 => r_X5_pair_2 l1 (l2 + 1) m2))) else r_X5_pair_27 l1 0 0 vu vu μ) := by
  refine (show r_X5_pair_2 l1 l2 μ = mm_run E_X5_pair 5 1 cX5_pair (2, [vr 5 0, vi l1, vi l2, vu, vu, vu], [], μ) from rfl).trans ?_
  refine (R_iload_n dX5_pair_2 rfl).trans ?_
  refine (R_aload_n dX5_pair_3 rfl (by decide)).trans ?_
  refine (gi_5_36 dX5_pair_4).trans ?_
  refine (R_icmp 23 dX5_pair_7 rfl).trans (c_ge (fun h1 => ?_) (fun h1 => ?_))
  · refine (R_aload_n dX5_pair_10 rfl (by decide)).trans ?_
    refine (gr_5_24 dX5_pair_11).trans ?_
    refine (R_iload_n dX5_pair_14 rfl).trans ?_
    refine (R_iconst (-1) dX5_pair_15 iconst_m1).trans ?_
    refine (R_iastore dX5_pair_16 as_24).trans (ck_congr ?_)
    refine wr_intro (g := fun m => mm_run E_X5_pair 5 1 cX5_pair (17, [vr 5 0, vi l1, vi l2, vu, vu, vu], [], m)) (fun m2 => ?_)
    refine (R_iinc (ls' := [vr 5 0, vi l1, vi (l2 + 1), vu, vu, vu]) 1 dX5_pair_17 rfl iconst_1 (by decide) rfl).trans ?_
    refine (R_goto 2 dX5_pair_20 rfl).trans ?_
    exact rfl
  · refine (R_iconst 0 dX5_pair_23 iconst_0).trans ?_
    refine (R_istore_n (ls' := [vr 5 0, vi l1, vi 0, vu, vu, vu]) dX5_pair_24 (Nat.le_of_ble_eq_true rfl) (by decide) rfl).trans ?_
    refine (R_iconst 0 dX5_pair_25 iconst_0).trans ?_
    refine (R_istore_n (ls' := [vr 5 0, vi l1, vi 0, vi 0, vu, vu]) dX5_pair_26 (Nat.le_of_ble_eq_true rfl) (by decide) rfl).trans ?_
    exact rfl
set_option maxRecDepth 100000 in
set_option maxHeartbeats 4000000 in
theorem e_X5_pair_27 (l1 : Int32) (l2 : Int32) (l3 : Int32) (x4 : mV) (x5 : mV) (μ : mM) : r_X5_pair_27 l1 l2 l3 x4 x5 μ = (if l3 < μ 5 0 9 then (ck 25 l3 (ck 25 (μ 26 0 (Int32.toNatClampNeg l3)) (Option.bind (f_X5_firstToClose [vr 5 0, vi (μ 25 0 (Int32.toNatClampNeg (μ 26 0 (Int32.toNatClampNeg l3)))), vi l1] μ) (fun q2 => (ck 25 (μ 26 0 (Int32.toNatClampNeg l3)) (wr (mm_up q2.2 27 0 (Int32.toNatClampNeg (μ 26 0 (Int32.toNatClampNeg l3))) q2.1) (fun m3 => (if q2.1 = (-1) then r_X5_pair_27 l1 l2 (l3 + 1) (vi (μ 26 0 (Int32.toNatClampNeg l3))) (vi q2.1) m3 else (ck 24 q2.1 (wr (mm_up m3 24 0 (Int32.toNatClampNeg q2.1) (μ 26 0 (Int32.toNatClampNeg l3))) (fun m5 => r_X5_pair_27 l1 (l2 + 1) (l3 + 1) (vi (μ 26 0 (Int32.toNatClampNeg l3))) (vi q2.1) m5))))))))))) else some (l2, μ)) := by
  refine (show r_X5_pair_27 l1 l2 l3 x4 x5 μ = mm_run E_X5_pair 5 1 cX5_pair (27, [vr 5 0, vi l1, vi l2, vi l3, x4, x5], [], μ) from rfl).trans ?_
  refine (R_iload_n dX5_pair_27 rfl).trans ?_
  refine (R_aload_n dX5_pair_28 rfl (by decide)).trans ?_
  refine (gi_5_40 dX5_pair_29).trans ?_
  refine (R_icmp 90 dX5_pair_32 rfl).trans (c_ge (fun h1 => ?_) (fun h1 => ?_))
  · refine (R_aload_n dX5_pair_35 rfl (by decide)).trans ?_
    refine (gr_5_30 dX5_pair_36).trans ?_
    refine (R_iload_n dX5_pair_39 rfl).trans ?_
    refine (R_iaload dX5_pair_40 as_26).trans (ck_congr ?_)
    refine (R_istore (ls' := [vr 5 0, vi l1, vi l2, vi l3, vi (μ 26 0 (Int32.toNatClampNeg l3)), x5]) dX5_pair_41 (Nat.le_of_ble_eq_true rfl) (by decide) rfl).trans ?_
    refine (R_aload_n dX5_pair_43 rfl (by decide)).trans ?_
    refine (R_aload_n dX5_pair_44 rfl (by decide)).trans ?_
    refine (gr_5_27 dX5_pair_45).trans ?_
    refine (R_iload dX5_pair_48 rfl).trans ?_
    refine (R_iaload dX5_pair_50 as_25).trans (ck_congr ?_)
    refine (R_iload_n dX5_pair_51 rfl).trans ?_
    refine (R_cv_i (as := [vi (μ 25 0 (Int32.toNatClampNeg (μ 26 0 (Int32.toNatClampNeg l3)))), vi l1]) (rest := []) dX5_pair_52 mt_5_75 qp_27 qr_27 (E_X5_pair_27) rfl rfl rfl (Nat.le_of_ble_eq_true rfl)).trans (mm_bind (fun q2 => ?_))
    refine (R_istore (ls' := [vr 5 0, vi l1, vi l2, vi l3, vi (μ 26 0 (Int32.toNatClampNeg l3)), vi q2.1]) dX5_pair_55 (Nat.le_of_ble_eq_true rfl) (by decide) rfl).trans ?_
    refine (R_aload_n dX5_pair_57 rfl (by decide)).trans ?_
    refine (gr_5_33 dX5_pair_58).trans ?_
    refine (R_iload dX5_pair_61 rfl).trans ?_
    refine (R_iload dX5_pair_63 rfl).trans ?_
    refine (R_iastore dX5_pair_65 as_27).trans (ck_congr ?_)
    refine wr_intro (g := fun m => mm_run E_X5_pair 5 1 cX5_pair (66, [vr 5 0, vi l1, vi l2, vi l3, vi (μ 26 0 (Int32.toNatClampNeg l3)), vi q2.1], [], m)) (fun m3 => ?_)
    refine (R_iload dX5_pair_66 rfl).trans ?_
    refine (R_iconst (-1) dX5_pair_68 iconst_m1).trans ?_
    refine (R_icmp 84 dX5_pair_69 rfl).trans (c_eq (fun h4 => ?_) (fun h4 => ?_))
    · refine (R_iinc (ls' := [vr 5 0, vi l1, vi l2, vi (l3 + 1), vi (μ 26 0 (Int32.toNatClampNeg l3)), vi q2.1]) 1 dX5_pair_84 rfl iconst_1 (by decide) rfl).trans ?_
      refine (R_goto 27 dX5_pair_87 rfl).trans ?_
      exact rfl
    · refine (R_aload_n dX5_pair_72 rfl (by decide)).trans ?_
      refine (gr_5_24 dX5_pair_73).trans ?_
      refine (R_iload dX5_pair_76 rfl).trans ?_
      refine (R_iload dX5_pair_78 rfl).trans ?_
      refine (R_iastore dX5_pair_80 as_24).trans (ck_congr ?_)
      refine wr_intro (g := fun m => mm_run E_X5_pair 5 1 cX5_pair (81, [vr 5 0, vi l1, vi l2, vi l3, vi (μ 26 0 (Int32.toNatClampNeg l3)), vi q2.1], [], m)) (fun m5 => ?_)
      refine (R_iinc (ls' := [vr 5 0, vi l1, vi (l2 + 1), vi l3, vi (μ 26 0 (Int32.toNatClampNeg l3)), vi q2.1]) 1 dX5_pair_81 rfl iconst_1 (by decide) rfl).trans ?_
      refine (R_iinc (ls' := [vr 5 0, vi l1, vi (l2 + 1), vi (l3 + 1), vi (μ 26 0 (Int32.toNatClampNeg l3)), vi q2.1]) 1 dX5_pair_84 rfl iconst_1 (by decide) rfl).trans ?_
      refine (R_goto 27 dX5_pair_87 rfl).trans ?_
      exact rfl
  · refine (R_iload_n dX5_pair_90 rfl).trans ?_
    exact R_ireturn dX5_pair_91 rfl
noncomputable def E_X5_leastPlay : mE := fun k => if k = 30 then f_X5_playOf else fun _ _ => none
theorem E_X5_leastPlay_30 : E_X5_leastPlay 30 = f_X5_playOf := if_pos rfl
noncomputable def f_X5_leastPlay : List mV → mM → Option mR := mm_fn E_X5_leastPlay 5 1 3 cX5_leastPlay
theorem k_X5_leastPlay (l : Launch) : mm_OK l 28 f_X5_leastPlay := mm_fn_ok l 28 5 E_X5_leastPlay (by decide) rfl (by decide) (by
  intro k as μ q h
  by_cases h0 : k = 30
  · subst h0
    exact ⟨by rw [E_X5_leastPlay_30]; exact k_X5_playOf l, by decide, by decide, by decide⟩
  have e : E_X5_leastPlay k = fun _ _ => none := (if_neg h0).trans (rfl)
  rw [e] at h
  cases h)
noncomputable def r_X5_leastPlay_4 (l1 : Int32) (l2 : Int32) (μ : mM) : Option mR := mm_run E_X5_leastPlay 5 1 cX5_leastPlay (4, [vr 5 0, vi l1, vi l2], [], μ)
set_option maxRecDepth 100000 in
set_option maxHeartbeats 4000000 in
theorem e_X5_leastPlay (μ : mM) : f_X5_leastPlay [vr 5 0] μ = r_X5_leastPlay_4 (-1) 0 μ := by
  refine (show f_X5_leastPlay [vr 5 0] μ = mm_run E_X5_leastPlay 5 1 cX5_leastPlay (0, [vr 5 0, vu, vu], [], μ) from rfl).trans ?_
  refine (R_iconst (-1) dX5_leastPlay_0 iconst_m1).trans ?_
  refine (R_istore_n (ls' := [vr 5 0, vi (-1), vu]) dX5_leastPlay_1 (Nat.le_of_ble_eq_true rfl) (by decide) rfl).trans ?_
  refine (R_iconst 0 dX5_leastPlay_2 iconst_0).trans ?_
  refine (R_istore_n (ls' := [vr 5 0, vi (-1), vi 0]) dX5_leastPlay_3 (Nat.le_of_ble_eq_true rfl) (by decide) rfl).trans ?_
  exact rfl
set_option maxRecDepth 100000 in
set_option maxHeartbeats 4000000 in
theorem e_X5_leastPlay_4 (l1 : Int32) (l2 : Int32) (μ : mM) : r_X5_leastPlay_4 l1 l2 μ = (if l2 < μ 5 0 8 then (ck 24 l2 (if μ 24 0 (Int32.toNatClampNeg l2) = (-1) then r_X5_leastPlay_4 l1 (l2 + 1) μ else (if l1 = (-1) then (Option.bind (f_X5_playOf [vr 5 0, vi l2] μ) (fun q4 => r_X5_leastPlay_4 q4.1 (l2 + 1) q4.2)) else (Option.bind (f_X5_playOf [vr 5 0, vi l2] μ) (fun q5 => (if q5.1 < l1 then (Option.bind (f_X5_playOf [vr 5 0, vi l2] q5.2) (fun q7 => r_X5_leastPlay_4 q7.1 (l2 + 1) q7.2)) else r_X5_leastPlay_4 l1 (l2 + 1) q5.2)))))) else some (l1, μ)) := by
  refine (show r_X5_leastPlay_4 l1 l2 μ = mm_run E_X5_leastPlay 5 1 cX5_leastPlay (4, [vr 5 0, vi l1, vi l2], [], μ) from rfl).trans ?_
  refine (R_iload_n dX5_leastPlay_4 rfl).trans ?_
  refine (R_aload_n dX5_leastPlay_5 rfl (by decide)).trans ?_
  refine (gi_5_36 dX5_leastPlay_6).trans ?_
  refine (R_icmp 48 dX5_leastPlay_9 rfl).trans (c_ge (fun h1 => ?_) (fun h1 => ?_))
  · refine (R_aload_n dX5_leastPlay_12 rfl (by decide)).trans ?_
    refine (gr_5_24 dX5_leastPlay_13).trans ?_
    refine (R_iload_n dX5_leastPlay_16 rfl).trans ?_
    refine (R_iaload dX5_leastPlay_17 as_24).trans (ck_congr ?_)
    refine (R_iconst (-1) dX5_leastPlay_18 iconst_m1).trans ?_
    refine (R_icmp 42 dX5_leastPlay_19 rfl).trans (c_eq (fun h2 => ?_) (fun h2 => ?_))
    · refine (R_iinc (ls' := [vr 5 0, vi l1, vi (l2 + 1)]) 1 dX5_leastPlay_42 rfl iconst_1 (by decide) rfl).trans ?_
      refine (R_goto 4 dX5_leastPlay_45 rfl).trans ?_
      exact rfl
    · refine (R_iload_n dX5_leastPlay_22 rfl).trans ?_
      refine (R_iconst (-1) dX5_leastPlay_23 iconst_m1).trans ?_
      refine (R_icmp 36 dX5_leastPlay_24 rfl).trans (c_eq (fun h3 => ?_) (fun h3 => ?_))
      · refine (R_aload_n dX5_leastPlay_36 rfl (by decide)).trans ?_
        refine (R_iload_n dX5_leastPlay_37 rfl).trans ?_
        refine (R_cv_i (as := [vi l2]) (rest := []) dX5_leastPlay_38 mt_5_79 qp_30 qr_30 (E_X5_leastPlay_30) rfl rfl rfl (Nat.le_of_ble_eq_true rfl)).trans (mm_bind (fun q4 => ?_))
        refine (R_istore_n (ls' := [vr 5 0, vi q4.1, vi l2]) dX5_leastPlay_41 (Nat.le_of_ble_eq_true rfl) (by decide) rfl).trans ?_
        refine (R_iinc (ls' := [vr 5 0, vi q4.1, vi (l2 + 1)]) 1 dX5_leastPlay_42 rfl iconst_1 (by decide) rfl).trans ?_
        refine (R_goto 4 dX5_leastPlay_45 rfl).trans ?_
        exact rfl
      · refine (R_aload_n dX5_leastPlay_27 rfl (by decide)).trans ?_
        refine (R_iload_n dX5_leastPlay_28 rfl).trans ?_
        refine (R_cv_i (as := [vi l2]) (rest := []) dX5_leastPlay_29 mt_5_79 qp_30 qr_30 (E_X5_leastPlay_30) rfl rfl rfl (Nat.le_of_ble_eq_true rfl)).trans (mm_bind (fun q5 => ?_))
        refine (R_iload_n dX5_leastPlay_32 rfl).trans ?_
        refine (R_icmp 42 dX5_leastPlay_33 rfl).trans (c_ge (fun h6 => ?_) (fun h6 => ?_))
        · refine (R_aload_n dX5_leastPlay_36 rfl (by decide)).trans ?_
          refine (R_iload_n dX5_leastPlay_37 rfl).trans ?_
          refine (R_cv_i (as := [vi l2]) (rest := []) dX5_leastPlay_38 mt_5_79 qp_30 qr_30 (E_X5_leastPlay_30) rfl rfl rfl (Nat.le_of_ble_eq_true rfl)).trans (mm_bind (fun q7 => ?_))
          refine (R_istore_n (ls' := [vr 5 0, vi q7.1, vi l2]) dX5_leastPlay_41 (Nat.le_of_ble_eq_true rfl) (by decide) rfl).trans ?_
          refine (R_iinc (ls' := [vr 5 0, vi q7.1, vi (l2 + 1)]) 1 dX5_leastPlay_42 rfl iconst_1 (by decide) rfl).trans ?_
          refine (R_goto 4 dX5_leastPlay_45 rfl).trans ?_
          exact rfl
        · refine (R_iinc (ls' := [vr 5 0, vi l1, vi (l2 + 1)]) 1 dX5_leastPlay_42 rfl iconst_1 (by decide) rfl).trans ?_
          refine (R_goto 4 dX5_leastPlay_45 rfl).trans ?_
          exact rfl
  · refine (R_iload_n dX5_leastPlay_48 rfl).trans ?_
    exact R_ireturn dX5_leastPlay_49 rfl
noncomputable def E_X5_greatestPlay : mE := fun k => if k = 30 then f_X5_playOf else fun _ _ => none
theorem E_X5_greatestPlay_30 : E_X5_greatestPlay 30 = f_X5_playOf := if_pos rfl
noncomputable def f_X5_greatestPlay : List mV → mM → Option mR := mm_fn E_X5_greatestPlay 5 1 3 cX5_greatestPlay
theorem k_X5_greatestPlay (l : Launch) : mm_OK l 29 f_X5_greatestPlay := mm_fn_ok l 29 5 E_X5_greatestPlay (by decide) rfl (by decide) (by
  intro k as μ q h
  by_cases h0 : k = 30
  · subst h0
    exact ⟨by rw [E_X5_greatestPlay_30]; exact k_X5_playOf l, by decide, by decide, by decide⟩
  have e : E_X5_greatestPlay k = fun _ _ => none := (if_neg h0).trans (rfl)
  rw [e] at h
  cases h)
noncomputable def r_X5_greatestPlay_4 (l1 : Int32) (l2 : Int32) (μ : mM) : Option mR := mm_run E_X5_greatestPlay 5 1 cX5_greatestPlay (4, [vr 5 0, vi l1, vi l2], [], μ)
set_option maxRecDepth 100000 in
set_option maxHeartbeats 4000000 in
theorem e_X5_greatestPlay (μ : mM) : f_X5_greatestPlay [vr 5 0] μ = r_X5_greatestPlay_4 (-1) 0 μ := by
  refine (show f_X5_greatestPlay [vr 5 0] μ = mm_run E_X5_greatestPlay 5 1 cX5_greatestPlay (0, [vr 5 0, vu, vu], [], μ) from rfl).trans ?_
  refine (R_iconst (-1) dX5_greatestPlay_0 iconst_m1).trans ?_
  refine (R_istore_n (ls' := [vr 5 0, vi (-1), vu]) dX5_greatestPlay_1 (Nat.le_of_ble_eq_true rfl) (by decide) rfl).trans ?_
  refine (R_iconst 0 dX5_greatestPlay_2 iconst_0).trans ?_
  refine (R_istore_n (ls' := [vr 5 0, vi (-1), vi 0]) dX5_greatestPlay_3 (Nat.le_of_ble_eq_true rfl) (by decide) rfl).trans ?_
  exact rfl
set_option maxRecDepth 100000 in
set_option maxHeartbeats 4000000 in
theorem e_X5_greatestPlay_4 (l1 : Int32) (l2 : Int32) (μ : mM) : r_X5_greatestPlay_4 l1 l2 μ = (if l2 < μ 5 0 8 then (ck 24 l2 (if μ 24 0 (Int32.toNatClampNeg l2) = (-1) then r_X5_greatestPlay_4 l1 (l2 + 1) μ else (Option.bind (f_X5_playOf [vr 5 0, vi l2] μ) (fun q3 => (if l1 < q3.1 then (Option.bind (f_X5_playOf [vr 5 0, vi l2] q3.2) (fun q5 => r_X5_greatestPlay_4 q5.1 (l2 + 1) q5.2)) else r_X5_greatestPlay_4 l1 (l2 + 1) q3.2))))) else some (l1, μ)) := by
  refine (show r_X5_greatestPlay_4 l1 l2 μ = mm_run E_X5_greatestPlay 5 1 cX5_greatestPlay (4, [vr 5 0, vi l1, vi l2], [], μ) from rfl).trans ?_
  refine (R_iload_n dX5_greatestPlay_4 rfl).trans ?_
  refine (R_aload_n dX5_greatestPlay_5 rfl (by decide)).trans ?_
  refine (gi_5_36 dX5_greatestPlay_6).trans ?_
  refine (R_icmp 43 dX5_greatestPlay_9 rfl).trans (c_ge (fun h1 => ?_) (fun h1 => ?_))
  · refine (R_aload_n dX5_greatestPlay_12 rfl (by decide)).trans ?_
    refine (gr_5_24 dX5_greatestPlay_13).trans ?_
    refine (R_iload_n dX5_greatestPlay_16 rfl).trans ?_
    refine (R_iaload dX5_greatestPlay_17 as_24).trans (ck_congr ?_)
    refine (R_iconst (-1) dX5_greatestPlay_18 iconst_m1).trans ?_
    refine (R_icmp 37 dX5_greatestPlay_19 rfl).trans (c_eq (fun h2 => ?_) (fun h2 => ?_))
    · refine (R_iinc (ls' := [vr 5 0, vi l1, vi (l2 + 1)]) 1 dX5_greatestPlay_37 rfl iconst_1 (by decide) rfl).trans ?_
      refine (R_goto 4 dX5_greatestPlay_40 rfl).trans ?_
      exact rfl
    · refine (R_aload_n dX5_greatestPlay_22 rfl (by decide)).trans ?_
      refine (R_iload_n dX5_greatestPlay_23 rfl).trans ?_
      refine (R_cv_i (as := [vi l2]) (rest := []) dX5_greatestPlay_24 mt_5_79 qp_30 qr_30 (E_X5_greatestPlay_30) rfl rfl rfl (Nat.le_of_ble_eq_true rfl)).trans (mm_bind (fun q3 => ?_))
      refine (R_iload_n dX5_greatestPlay_27 rfl).trans ?_
      refine (R_icmp 37 dX5_greatestPlay_28 rfl).trans (c_le (fun h4 => ?_) (fun h4 => ?_))
      · refine (R_aload_n dX5_greatestPlay_31 rfl (by decide)).trans ?_
        refine (R_iload_n dX5_greatestPlay_32 rfl).trans ?_
        refine (R_cv_i (as := [vi l2]) (rest := []) dX5_greatestPlay_33 mt_5_79 qp_30 qr_30 (E_X5_greatestPlay_30) rfl rfl rfl (Nat.le_of_ble_eq_true rfl)).trans (mm_bind (fun q5 => ?_))
        refine (R_istore_n (ls' := [vr 5 0, vi q5.1, vi l2]) dX5_greatestPlay_36 (Nat.le_of_ble_eq_true rfl) (by decide) rfl).trans ?_
        refine (R_iinc (ls' := [vr 5 0, vi q5.1, vi (l2 + 1)]) 1 dX5_greatestPlay_37 rfl iconst_1 (by decide) rfl).trans ?_
        refine (R_goto 4 dX5_greatestPlay_40 rfl).trans ?_
        exact rfl
      · refine (R_iinc (ls' := [vr 5 0, vi l1, vi (l2 + 1)]) 1 dX5_greatestPlay_37 rfl iconst_1 (by decide) rfl).trans ?_
        refine (R_goto 4 dX5_greatestPlay_40 rfl).trans ?_
        exact rfl
  · refine (R_iload_n dX5_greatestPlay_43 rfl).trans ?_
    exact R_ireturn dX5_greatestPlay_44 rfl
noncomputable def E_X6_hasRoom : mE := fun k => if k = 77 then f_X7_gradeOf else if k = 36 then f_X6_sortOf else fun _ _ => none
theorem E_X6_hasRoom_77 : E_X6_hasRoom 77 = f_X7_gradeOf := if_pos rfl
theorem E_X6_hasRoom_36 : E_X6_hasRoom 36 = f_X6_sortOf := (if_neg (by decide)).trans (if_pos rfl)
noncomputable def f_X6_hasRoom : List mV → mM → Option mR := mm_fn E_X6_hasRoom 6 2 3 cX6_hasRoom
theorem k_X6_hasRoom (l : Launch) : mm_OK l 37 f_X6_hasRoom := mm_fn_ok l 37 6 E_X6_hasRoom (by decide) rfl (by decide) (by
  intro k as μ q h
  by_cases h0 : k = 77
  · subst h0
    exact ⟨by rw [E_X6_hasRoom_77]; exact k_X7_gradeOf l, by decide, by decide, by decide⟩
  by_cases h1 : k = 36
  · subst h1
    exact ⟨by rw [E_X6_hasRoom_36]; exact k_X6_sortOf l, by decide, by decide, by decide⟩
  have e : E_X6_hasRoom k = fun _ _ => none := (if_neg h0).trans ((if_neg h1).trans (rfl))
  rw [e] at h
  cases h)
set_option maxRecDepth 100000 in
set_option maxHeartbeats 4000000 in
theorem e_X6_hasRoom (a : Nat) (l1 : Int32) (μ : mM) : f_X6_hasRoom [vr 6 a, vi l1] μ = (Option.bind (f_X7_gradeOf [vi l1] μ) (fun q1 => (if q1.1 = 4 then (if q1.2 6 a 7 < 24 then (if q1.2 6 a 8 < 48 then some (1, q1.2) else (Option.bind (f_X6_sortOf [vr 6 a, vi l1] q1.2) (fun q5 => (if q5.1 = (-1) then some (0, q5.2) else some (1, q5.2))))) else some (0, q1.2)) else (if q1.2 6 a 6 < 24 then (if q1.2 6 a 8 < 48 then some (1, q1.2) else (Option.bind (f_X6_sortOf [vr 6 a, vi l1] q1.2) (fun q9 => (if q9.1 = (-1) then some (0, q9.2) else some (1, q9.2))))) else some (0, q1.2))))) := by
  refine (show f_X6_hasRoom [vr 6 a, vi l1] μ = mm_run E_X6_hasRoom 6 2 cX6_hasRoom (0, [vr 6 a, vi l1, vu], [], μ) from rfl).trans ?_
  refine (R_iload_n dX6_hasRoom_0 rfl).trans ?_
  refine (R_cs_i (as := [vi l1]) (rest := []) dX6_hasRoom_1 mt_6_46 (by decide) qp_77 qr_77 (E_X6_hasRoom_77) (Nat.le_of_ble_eq_true rfl) rfl rfl (Nat.le_of_ble_eq_true rfl)).trans (mm_bind (fun q1 => ?_))
  refine (R_iconst 4 dX6_hasRoom_4 iconst_4).trans ?_
  refine (R_icmp 15 dX6_hasRoom_5 rfl).trans (c_ne (fun h2 => ?_) (fun h2 => ?_))
  · refine (R_aload_n dX6_hasRoom_8 rfl (by decide)).trans ?_
    refine (gi_6_34 dX6_hasRoom_9).trans ?_
    refine (R_goto 19 dX6_hasRoom_12 rfl).trans ?_
    refine (R_istore_n (ls' := [vr 6 a, vi l1, vi (q1.2 6 a 7)]) dX6_hasRoom_19 (Nat.le_of_ble_eq_true rfl) (by decide) rfl).trans ?_
    refine (R_iload_n dX6_hasRoom_20 rfl).trans ?_
    refine (R_bipush 24 dX6_hasRoom_21 bipush_24).trans ?_
    refine (R_icmp 48 dX6_hasRoom_23 rfl).trans (c_ge (fun h3 => ?_) (fun h3 => ?_))
    · refine (R_aload_n dX6_hasRoom_26 rfl (by decide)).trans ?_
      refine (gi_6_37 dX6_hasRoom_27).trans ?_
      refine (R_bipush 48 dX6_hasRoom_30 bipush_48).trans ?_
      refine (R_icmp 44 dX6_hasRoom_32 rfl).trans (c_lt (fun h4 => ?_) (fun h4 => ?_))
      · refine (R_iconst 1 dX6_hasRoom_44 iconst_1).trans ?_
        refine (R_goto 49 dX6_hasRoom_45 rfl).trans ?_
        exact R_zreturn dX6_hasRoom_49 (by decide) (by decide)
      · refine (R_aload_n dX6_hasRoom_35 rfl (by decide)).trans ?_
        refine (R_iload_n dX6_hasRoom_36 rfl).trans ?_
        refine (R_cv_i (as := [vi l1]) (rest := []) dX6_hasRoom_37 mt_6_50 qp_36 qr_36 (E_X6_hasRoom_36) rfl rfl rfl (Nat.le_of_ble_eq_true rfl)).trans (mm_bind (fun q5 => ?_))
        refine (R_iconst (-1) dX6_hasRoom_40 iconst_m1).trans ?_
        refine (R_icmp 48 dX6_hasRoom_41 rfl).trans (c_eq (fun h6 => ?_) (fun h6 => ?_))
        · refine (R_iconst 0 dX6_hasRoom_48 iconst_0).trans ?_
          exact R_zreturn dX6_hasRoom_49 (by decide) (by decide)
        · refine (R_iconst 1 dX6_hasRoom_44 iconst_1).trans ?_
          refine (R_goto 49 dX6_hasRoom_45 rfl).trans ?_
          exact R_zreturn dX6_hasRoom_49 (by decide) (by decide)
    · refine (R_iconst 0 dX6_hasRoom_48 iconst_0).trans ?_
      exact R_zreturn dX6_hasRoom_49 (by decide) (by decide)
  · refine (R_aload_n dX6_hasRoom_15 rfl (by decide)).trans ?_
    refine (gi_6_30 dX6_hasRoom_16).trans ?_
    refine (R_istore_n (ls' := [vr 6 a, vi l1, vi (q1.2 6 a 6)]) dX6_hasRoom_19 (Nat.le_of_ble_eq_true rfl) (by decide) rfl).trans ?_
    refine (R_iload_n dX6_hasRoom_20 rfl).trans ?_
    refine (R_bipush 24 dX6_hasRoom_21 bipush_24).trans ?_
    refine (R_icmp 48 dX6_hasRoom_23 rfl).trans (c_ge (fun h7 => ?_) (fun h7 => ?_))
    · refine (R_aload_n dX6_hasRoom_26 rfl (by decide)).trans ?_
      refine (gi_6_37 dX6_hasRoom_27).trans ?_
      refine (R_bipush 48 dX6_hasRoom_30 bipush_48).trans ?_
      refine (R_icmp 44 dX6_hasRoom_32 rfl).trans (c_lt (fun h8 => ?_) (fun h8 => ?_))
      · refine (R_iconst 1 dX6_hasRoom_44 iconst_1).trans ?_
        refine (R_goto 49 dX6_hasRoom_45 rfl).trans ?_
        exact R_zreturn dX6_hasRoom_49 (by decide) (by decide)
      · refine (R_aload_n dX6_hasRoom_35 rfl (by decide)).trans ?_
        refine (R_iload_n dX6_hasRoom_36 rfl).trans ?_
        refine (R_cv_i (as := [vi l1]) (rest := []) dX6_hasRoom_37 mt_6_50 qp_36 qr_36 (E_X6_hasRoom_36) rfl rfl rfl (Nat.le_of_ble_eq_true rfl)).trans (mm_bind (fun q9 => ?_))
        refine (R_iconst (-1) dX6_hasRoom_40 iconst_m1).trans ?_
        refine (R_icmp 48 dX6_hasRoom_41 rfl).trans (c_eq (fun h10 => ?_) (fun h10 => ?_))
        · refine (R_iconst 0 dX6_hasRoom_48 iconst_0).trans ?_
          exact R_zreturn dX6_hasRoom_49 (by decide) (by decide)
        · refine (R_iconst 1 dX6_hasRoom_44 iconst_1).trans ?_
          refine (R_goto 49 dX6_hasRoom_45 rfl).trans ?_
          exact R_zreturn dX6_hasRoom_49 (by decide) (by decide)
    · refine (R_iconst 0 dX6_hasRoom_48 iconst_0).trans ?_
      exact R_zreturn dX6_hasRoom_49 (by decide) (by decide)
noncomputable def E_X6_countInSort : mE := fun k => if k = 36 then f_X6_sortOf else fun _ _ => none
theorem E_X6_countInSort_36 : E_X6_countInSort 36 = f_X6_sortOf := if_pos rfl
noncomputable def f_X6_countInSort : List mV → mM → Option mR := mm_fn E_X6_countInSort 6 0 3 cX6_countInSort
theorem k_X6_countInSort (l : Launch) : mm_OK l 39 f_X6_countInSort := mm_fn_ok l 39 6 E_X6_countInSort (by decide) rfl (by decide) (by
  intro k as μ q h
  by_cases h0 : k = 36
  · subst h0
    exact ⟨by rw [E_X6_countInSort_36]; exact k_X6_sortOf l, by decide, by decide, by decide⟩
  have e : E_X6_countInSort k = fun _ _ => none := (if_neg h0).trans (rfl)
  rw [e] at h
  cases h)
set_option maxRecDepth 100000 in
set_option maxHeartbeats 4000000 in
theorem e_X6_countInSort (a : Nat) (l1 : Int32) (μ : mM) : f_X6_countInSort [vr 6 a, vi l1] μ = (Option.bind (f_X6_sortOf [vr 6 a, vi l1] μ) (fun q1 => (if q1.1 = (-1) then (if q1.2 6 a 8 < 48 then (ck 48 (q1.2 6 a 8) (wr (mm_up q1.2 14 a (Int32.toNatClampNeg (q1.2 6 a 8)) l1) (fun m4 => (ck 48 (m4 6 a 8) (wr (mm_up m4 15 a (Int32.toNatClampNeg (m4 6 a 8)) 1) (fun m5 => (wr (mm_up m5 6 a 8 ((m5 6 a 8) + 1)) (fun m6 => some (0, m6))))))))) else some (0, q1.2)) else (ck 48 q1.1 (ck 48 q1.1 (wr (mm_up q1.2 15 a (Int32.toNatClampNeg q1.1) ((q1.2 15 a (Int32.toNatClampNeg q1.1)) + 1)) (fun m7 => some (0, m7)))))))) := by
  refine (show f_X6_countInSort [vr 6 a, vi l1] μ = mm_run E_X6_countInSort 6 0 cX6_countInSort (0, [vr 6 a, vi l1, vu], [], μ) from rfl).trans ?_
  refine (R_aload_n dX6_countInSort_0 rfl (by decide)).trans ?_
  refine (R_iload_n dX6_countInSort_1 rfl).trans ?_
  refine (R_cv_i (as := [vi l1]) (rest := []) dX6_countInSort_2 mt_6_50 qp_36 qr_36 (E_X6_countInSort_36) rfl rfl rfl (Nat.le_of_ble_eq_true rfl)).trans (mm_bind (fun q1 => ?_))
  refine (R_istore_n (ls' := [vr 6 a, vi l1, vi q1.1]) dX6_countInSort_5 (Nat.le_of_ble_eq_true rfl) (by decide) rfl).trans ?_
  refine (R_iload_n dX6_countInSort_6 rfl).trans ?_
  refine (R_iconst (-1) dX6_countInSort_7 iconst_m1).trans ?_
  refine (R_icmp 24 dX6_countInSort_8 rfl).trans (c_eq (fun h2 => ?_) (fun h2 => ?_))
  · refine (R_aload_n dX6_countInSort_24 rfl (by decide)).trans ?_
    refine (gi_6_37 dX6_countInSort_25).trans ?_
    refine (R_bipush 48 dX6_countInSort_28 bipush_48).trans ?_
    refine (R_icmp 63 dX6_countInSort_30 rfl).trans (c_ge (fun h3 => ?_) (fun h3 => ?_))
    · refine (R_aload_n dX6_countInSort_33 rfl (by decide)).trans ?_
      refine (gr_6_24 dX6_countInSort_34).trans ?_
      refine (R_aload_n dX6_countInSort_37 rfl (by decide)).trans ?_
      refine (gi_6_37 dX6_countInSort_38).trans ?_
      refine (R_iload_n dX6_countInSort_41 rfl).trans ?_
      refine (R_iastore dX6_countInSort_42 as_14).trans (ck_congr ?_)
      refine wr_intro (g := fun m => mm_run E_X6_countInSort 6 0 cX6_countInSort (43, [vr 6 a, vi l1, vi q1.1], [], m)) (fun m4 => ?_)
      refine (R_aload_n dX6_countInSort_43 rfl (by decide)).trans ?_
      refine (gr_6_27 dX6_countInSort_44).trans ?_
      refine (R_aload_n dX6_countInSort_47 rfl (by decide)).trans ?_
      refine (gi_6_37 dX6_countInSort_48).trans ?_
      refine (R_iconst 1 dX6_countInSort_51 iconst_1).trans ?_
      refine (R_iastore dX6_countInSort_52 as_15).trans (ck_congr ?_)
      refine wr_intro (g := fun m => mm_run E_X6_countInSort 6 0 cX6_countInSort (53, [vr 6 a, vi l1, vi q1.1], [], m)) (fun m5 => ?_)
      refine (R_aload_n dX6_countInSort_53 rfl (by decide)).trans ?_
      refine (R_dup dX6_countInSort_54 rfl).trans ?_
      refine (gi_6_37 dX6_countInSort_55).trans ?_
      refine (R_iconst 1 dX6_countInSort_58 iconst_1).trans ?_
      refine (R_iadd dX6_countInSort_59).trans ?_
      refine (R_pi dX6_countInSort_60 ft_6_37 fs_6_8).trans ?_
      refine wr_intro (g := fun m => mm_run E_X6_countInSort 6 0 cX6_countInSort (63, [vr 6 a, vi l1, vi q1.1], [], m)) (fun m6 => ?_)
      exact R_return dX6_countInSort_63 rfl
    · exact R_return dX6_countInSort_63 rfl
  · refine (R_aload_n dX6_countInSort_11 rfl (by decide)).trans ?_
    refine (gr_6_27 dX6_countInSort_12).trans ?_
    refine (R_iload_n dX6_countInSort_15 rfl).trans ?_
    refine (R_dup2 dX6_countInSort_16 rfl rfl).trans ?_
    refine (R_iaload dX6_countInSort_17 as_15).trans (ck_congr ?_)
    refine (R_iconst 1 dX6_countInSort_18 iconst_1).trans ?_
    refine (R_iadd dX6_countInSort_19).trans ?_
    refine (R_iastore dX6_countInSort_20 as_15).trans (ck_congr ?_)
    refine wr_intro (g := fun m => mm_run E_X6_countInSort 6 0 cX6_countInSort (21, [vr 6 a, vi l1, vi q1.1], [], m)) (fun m7 => ?_)
    refine (R_goto 63 dX6_countInSort_21 rfl).trans ?_
    exact R_return dX6_countInSort_63 rfl
