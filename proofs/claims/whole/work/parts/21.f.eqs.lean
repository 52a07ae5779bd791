noncomputable def E_X8_comes : mE := fun k => if k = 112 then f_X8_comesSort else fun _ _ => none
theorem E_X8_comes_112 : E_X8_comes 112 = f_X8_comesSort := if_pos rfl
noncomputable def f_X8_comes : List mV → mM → Option mR := mm_fn E_X8_comes 8 0 3 cX8_comes
theorem k_X8_comes (l : Launch) : mm_OK l 113 f_X8_comes := mm_fn_ok l 113 8 E_X8_comes (by decide) rfl (by decide) (by
  intro k as μ q h
  by_cases h0 : k = 112
  · subst h0
    exact ⟨by rw [E_X8_comes_112]; exact k_X8_comesSort l, by decide, by decide, by decide⟩
  have e : E_X8_comes k = fun _ _ => none := (if_neg h0).trans (rfl)
  rw [e] at h
  cases h)
set_option maxRecDepth 100000 in
set_option maxHeartbeats 4000000 in
theorem e_X8_comes (l1 : Int32) (l2 : Int32) (μ : mM) : f_X8_comes [vr 8 0, vi l1, vi l2] μ = (if l1 = 4 then (ck 5225 57 (ck 5225 (58 + (μ 50 0 (Int32.toNatClampNeg 57))) (wr (mm_up μ 50 0 (Int32.toNatClampNeg (58 + (μ 50 0 (Int32.toNatClampNeg 57)))) l2) (fun m2 => (ck 5225 57 (ck 5225 57 (wr (mm_up m2 50 0 (Int32.toNatClampNeg 57) ((m2 50 0 (Int32.toNatClampNeg 57)) + 1)) (fun m3 => (Option.bind (f_X8_comesSort [vr 8 0, vi l1, vi l2] m3) (fun q4 => some (0, q4.2))))))))))) else (ck 5225 8 (ck 5225 (9 + (μ 50 0 (Int32.toNatClampNeg 8))) (wr (mm_up μ 50 0 (Int32.toNatClampNeg (9 + (μ 50 0 (Int32.toNatClampNeg 8)))) l1) (fun m5 => (ck 5225 8 (ck 5225 (33 + (m5 50 0 (Int32.toNatClampNeg 8))) (wr (mm_up m5 50 0 (Int32.toNatClampNeg (33 + (m5 50 0 (Int32.toNatClampNeg 8)))) l2) (fun m6 => (ck 5225 8 (ck 5225 8 (wr (mm_up m6 50 0 (Int32.toNatClampNeg 8) ((m6 50 0 (Int32.toNatClampNeg 8)) + 1)) (fun m7 => (Option.bind (f_X8_comesSort [vr 8 0, vi l1, vi l2] m7) (fun q8 => some (0, q8.2)))))))))))))))) := by
  refine (show f_X8_comes [vr 8 0, vi l1, vi l2] μ = mm_run E_X8_comes 8 0 cX8_comes (0, [vr 8 0, vi l1, vi l2], [], μ) from rfl).trans ?_
  refine (R_iload_n dX8_comes_0 rfl).trans ?_
  refine (R_iconst 4 dX8_comes_1 iconst_4).trans ?_
  refine (R_icmp 35 dX8_comes_2 rfl).trans (c_ne (fun h1 => ?_) (fun h1 => ?_))
  · refine (R_aload_n dX8_comes_5 rfl (by decide)).trans ?_
    refine (gr_8_7 dX8_comes_6).trans ?_
    refine (R_bipush 58 dX8_comes_9 bipush_58).trans ?_
    refine (R_aload_n dX8_comes_11 rfl (by decide)).trans ?_
    refine (gr_8_7 dX8_comes_12).trans ?_
    refine (R_bipush 57 dX8_comes_15 bipush_57).trans ?_
    refine (R_iaload dX8_comes_17 as_50).trans (ck_congr ?_)
    refine (R_iadd dX8_comes_18).trans ?_
    refine (R_iload_n dX8_comes_19 rfl).trans ?_
    refine (R_iastore dX8_comes_20 as_50).trans (ck_congr ?_)
    refine wr_intro (g := fun m => mm_run E_X8_comes 8 0 cX8_comes (21, [vr 8 0, vi l1, vi l2], [], m)) (fun m2 => ?_)
    refine (R_aload_n dX8_comes_21 rfl (by decide)).trans ?_
    refine (gr_8_7 dX8_comes_22).trans ?_
    refine (R_bipush 57 dX8_comes_25 bipush_57).trans ?_
    refine (R_dup2 dX8_comes_27 rfl rfl).trans ?_
    refine (R_iaload dX8_comes_28 as_50).trans (ck_congr ?_)
    refine (R_iconst 1 dX8_comes_29 iconst_1).trans ?_
    refine (R_iadd dX8_comes_30).trans ?_
    refine (R_iastore dX8_comes_31 as_50).trans (ck_congr ?_)
    refine wr_intro (g := fun m => mm_run E_X8_comes 8 0 cX8_comes (32, [vr 8 0, vi l1, vi l2], [], m)) (fun m3 => ?_)
    refine (R_goto 78 dX8_comes_32 rfl).trans ?_
    refine (R_aload_n dX8_comes_78 rfl (by decide)).trans ?_
    refine (R_iload_n dX8_comes_79 rfl).trans ?_
    refine (R_iload_n dX8_comes_80 rfl).trans ?_
    refine (R_cv_v (as := [vi l1, vi l2]) (rest := []) dX8_comes_81 mt_8_154 qp_112 qr_112 (E_X8_comes_112) rfl rfl rfl (Nat.le_of_ble_eq_true rfl)).trans (mm_bind (fun q4 => ?_))
    exact R_return dX8_comes_84 rfl
  · refine (R_aload_n dX8_comes_35 rfl (by decide)).trans ?_
    refine (gr_8_7 dX8_comes_36).trans ?_
    refine (R_bipush 9 dX8_comes_39 bipush_9).trans ?_
    refine (R_aload_n dX8_comes_41 rfl (by decide)).trans ?_
    refine (gr_8_7 dX8_comes_42).trans ?_
    refine (R_bipush 8 dX8_comes_45 bipush_8).trans ?_
    refine (R_iaload dX8_comes_47 as_50).trans (ck_congr ?_)
    refine (R_iadd dX8_comes_48).trans ?_
    refine (R_iload_n dX8_comes_49 rfl).trans ?_
    refine (R_iastore dX8_comes_50 as_50).trans (ck_congr ?_)
    refine wr_intro (g := fun m => mm_run E_X8_comes 8 0 cX8_comes (51, [vr 8 0, vi l1, vi l2], [], m)) (fun m5 => ?_)
    refine (R_aload_n dX8_comes_51 rfl (by decide)).trans ?_
    refine (gr_8_7 dX8_comes_52).trans ?_
    refine (R_bipush 33 dX8_comes_55 bipush_33).trans ?_
    refine (R_aload_n dX8_comes_57 rfl (by decide)).trans ?_
    refine (gr_8_7 dX8_comes_58).trans ?_
    refine (R_bipush 8 dX8_comes_61 bipush_8).trans ?_
    refine (R_iaload dX8_comes_63 as_50).trans (ck_congr ?_)
    refine (R_iadd dX8_comes_64).trans ?_
    refine (R_iload_n dX8_comes_65 rfl).trans ?_
    refine (R_iastore dX8_comes_66 as_50).trans (ck_congr ?_)
    refine wr_intro (g := fun m => mm_run E_X8_comes 8 0 cX8_comes (67, [vr 8 0, vi l1, vi l2], [], m)) (fun m6 => ?_)
    refine (R_aload_n dX8_comes_67 rfl (by decide)).trans ?_
    refine (gr_8_7 dX8_comes_68).trans ?_
    refine (R_bipush 8 dX8_comes_71 bipush_8).trans ?_
    refine (R_dup2 dX8_comes_73 rfl rfl).trans ?_
    refine (R_iaload dX8_comes_74 as_50).trans (ck_congr ?_)
    refine (R_iconst 1 dX8_comes_75 iconst_1).trans ?_
    refine (R_iadd dX8_comes_76).trans ?_
    refine (R_iastore dX8_comes_77 as_50).trans (ck_congr ?_)
    refine wr_intro (g := fun m => mm_run E_X8_comes 8 0 cX8_comes (78, [vr 8 0, vi l1, vi l2], [], m)) (fun m7 => ?_)
    refine (R_aload_n dX8_comes_78 rfl (by decide)).trans ?_
    refine (R_iload_n dX8_comes_79 rfl).trans ?_
    refine (R_iload_n dX8_comes_80 rfl).trans ?_
    refine (R_cv_v (as := [vi l1, vi l2]) (rest := []) dX8_comes_81 mt_8_154 qp_112 qr_112 (E_X8_comes_112) rfl rfl rfl (Nat.le_of_ble_eq_true rfl)).trans (mm_bind (fun q8 => ?_))
    exact R_return dX8_comes_84 rfl
noncomputable def E_X8_takeShaft : mE := fun k => if k = 83 then f_X8_isShaft else if k = 110 then f_X8_remember else if k = 116 then f_X8_shaftGoes else fun _ _ => none
theorem E_X8_takeShaft_83 : E_X8_takeShaft 83 = f_X8_isShaft := if_pos rfl
theorem E_X8_takeShaft_110 : E_X8_takeShaft 110 = f_X8_remember := (if_neg (by decide)).trans (if_pos rfl)
theorem E_X8_takeShaft_116 : E_X8_takeShaft 116 = f_X8_shaftGoes := (if_neg (by decide)).trans ((if_neg (by decide)).trans (if_pos rfl))
noncomputable def f_X8_takeShaft : List mV → mM → Option mR := mm_fn E_X8_takeShaft 8 1 3 cX8_takeShaft
theorem k_X8_takeShaft (l : Launch) : mm_OK l 118 f_X8_takeShaft := mm_fn_ok l 118 8 E_X8_takeShaft (by decide) rfl (by decide) (by
  intro k as μ q h
  by_cases h0 : k = 83
  · subst h0
    exact ⟨by rw [E_X8_takeShaft_83]; exact k_X8_isShaft l, by decide, by decide, by decide⟩
  by_cases h1 : k = 110
  · subst h1
    exact ⟨by rw [E_X8_takeShaft_110]; exact k_X8_remember l, by decide, by decide, by decide⟩
  by_cases h2 : k = 116
  · subst h2
    exact ⟨by rw [E_X8_takeShaft_116]; exact k_X8_shaftGoes l, by decide, by decide, by decide⟩
  have e : E_X8_takeShaft k = fun _ _ => none := (if_neg h0).trans ((if_neg h1).trans ((if_neg h2).trans (rfl)))
  rw [e] at h
  cases h)
set_option maxRecDepth 100000 in
set_option maxHeartbeats 4000000 in
theorem e_X8_takeShaft (l1 : Int32) (μ : mM) : f_X8_takeShaft [vr 8 0, vi l1] μ = (Option.bind (f_X8_isShaft [vr 8 0, vi l1] μ) (fun q1 => (if q1.1 = 0 then some ((-1000000001), q1.2) else (Option.bind (f_X8_remember [vr 8 0] q1.2) (fun q3 => (ck 5225 (33 + l1) (Option.bind (f_X8_shaftGoes [vr 8 0, vi l1] q3.2) (fun q4 => some (q3.2 50 0 (Int32.toNatClampNeg (33 + l1)), q4.2))))))))) := by
  refine (show f_X8_takeShaft [vr 8 0, vi l1] μ = mm_run E_X8_takeShaft 8 1 cX8_takeShaft (0, [vr 8 0, vi l1, vu], [], μ) from rfl).trans ?_
  refine (R_aload_n dX8_takeShaft_0 rfl (by decide)).trans ?_
  refine (R_iload_n dX8_takeShaft_1 rfl).trans ?_
  refine (R_cv_i (as := [vi l1]) (rest := []) dX8_takeShaft_2 mt_8_122 qp_83 qr_83 (E_X8_takeShaft_83) rfl rfl rfl (Nat.le_of_ble_eq_true rfl)).trans (mm_bind (fun q1 => ?_))
  refine (R_ifc 11 dX8_takeShaft_5 rfl).trans (c_ne (fun h2 => ?_) (fun h2 => ?_))
  · refine (R_ldc dX8_takeShaft_8 kt_8_128).trans ?_
    exact R_ireturn dX8_takeShaft_10 rfl
  · refine (R_aload_n dX8_takeShaft_11 rfl (by decide)).trans ?_
    refine (R_cv_v (as := []) (rest := []) dX8_takeShaft_12 mt_8_161 qp_110 qr_110 (E_X8_takeShaft_110) rfl rfl rfl (Nat.le_of_ble_eq_true rfl)).trans (mm_bind (fun q3 => ?_))
    refine (R_aload_n dX8_takeShaft_15 rfl (by decide)).trans ?_
    refine (gr_8_7 dX8_takeShaft_16).trans ?_
    refine (R_bipush 33 dX8_takeShaft_19 bipush_33).trans ?_
    refine (R_iload_n dX8_takeShaft_21 rfl).trans ?_
    refine (R_iadd dX8_takeShaft_22).trans ?_
    refine (R_iaload dX8_takeShaft_23 as_50).trans (ck_congr ?_)
    refine (R_istore_n (ls' := [vr 8 0, vi l1, vi (q3.2 50 0 (Int32.toNatClampNeg (33 + l1)))]) dX8_takeShaft_24 (Nat.le_of_ble_eq_true rfl) (by decide) rfl).trans ?_
    refine (R_aload_n dX8_takeShaft_25 rfl (by decide)).trans ?_
    refine (R_iload_n dX8_takeShaft_26 rfl).trans ?_
    refine (R_cv_v (as := [vi l1]) (rest := []) dX8_takeShaft_27 mt_8_167 qp_116 qr_116 (E_X8_takeShaft_116) rfl rfl rfl (Nat.le_of_ble_eq_true rfl)).trans (mm_bind (fun q4 => ?_))
    refine (R_iload_n dX8_takeShaft_30 rfl).trans ?_
    exact R_ireturn dX8_takeShaft_31 rfl
noncomputable def E_X8_takeBore : mE := fun k => if k = 84 then f_X8_isBore else if k = 110 then f_X8_remember else if k = 117 then f_X8_boreGoes else fun _ _ => none
theorem E_X8_takeBore_84 : E_X8_takeBore 84 = f_X8_isBore := if_pos rfl
theorem E_X8_takeBore_110 : E_X8_takeBore 110 = f_X8_remember := (if_neg (by decide)).trans (if_pos rfl)
theorem E_X8_takeBore_117 : E_X8_takeBore 117 = f_X8_boreGoes := (if_neg (by decide)).trans ((if_neg (by decide)).trans (if_pos rfl))
noncomputable def f_X8_takeBore : List mV → mM → Option mR := mm_fn E_X8_takeBore 8 1 3 cX8_takeBore
theorem k_X8_takeBore (l : Launch) : mm_OK l 119 f_X8_takeBore := mm_fn_ok l 119 8 E_X8_takeBore (by decide) rfl (by decide) (by
  intro k as μ q h
  by_cases h0 : k = 84
  · subst h0
    exact ⟨by rw [E_X8_takeBore_84]; exact k_X8_isBore l, by decide, by decide, by decide⟩
  by_cases h1 : k = 110
  · subst h1
    exact ⟨by rw [E_X8_takeBore_110]; exact k_X8_remember l, by decide, by decide, by decide⟩
  by_cases h2 : k = 117
  · subst h2
    exact ⟨by rw [E_X8_takeBore_117]; exact k_X8_boreGoes l, by decide, by decide, by decide⟩
  have e : E_X8_takeBore k = fun _ _ => none := (if_neg h0).trans ((if_neg h1).trans ((if_neg h2).trans (rfl)))
  rw [e] at h
  cases h)
set_option maxRecDepth 100000 in
set_option maxHeartbeats 4000000 in
theorem e_X8_takeBore (l1 : Int32) (μ : mM) : f_X8_takeBore [vr 8 0, vi l1] μ = (Option.bind (f_X8_isBore [vr 8 0, vi l1] μ) (fun q1 => (if q1.1 = 0 then some ((-1000000001), q1.2) else (Option.bind (f_X8_remember [vr 8 0] q1.2) (fun q3 => (ck 5225 (58 + l1) (Option.bind (f_X8_boreGoes [vr 8 0, vi l1] q3.2) (fun q4 => some (q3.2 50 0 (Int32.toNatClampNeg (58 + l1)), q4.2))))))))) := by
  refine (show f_X8_takeBore [vr 8 0, vi l1] μ = mm_run E_X8_takeBore 8 1 cX8_takeBore (0, [vr 8 0, vi l1, vu], [], μ) from rfl).trans ?_
  refine (R_aload_n dX8_takeBore_0 rfl (by decide)).trans ?_
  refine (R_iload_n dX8_takeBore_1 rfl).trans ?_
  refine (R_cv_i (as := [vi l1]) (rest := []) dX8_takeBore_2 mt_8_136 qp_84 qr_84 (E_X8_takeBore_84) rfl rfl rfl (Nat.le_of_ble_eq_true rfl)).trans (mm_bind (fun q1 => ?_))
  refine (R_ifc 11 dX8_takeBore_5 rfl).trans (c_ne (fun h2 => ?_) (fun h2 => ?_))
  · refine (R_ldc dX8_takeBore_8 kt_8_128).trans ?_
    exact R_ireturn dX8_takeBore_10 rfl
  · refine (R_aload_n dX8_takeBore_11 rfl (by decide)).trans ?_
    refine (R_cv_v (as := []) (rest := []) dX8_takeBore_12 mt_8_161 qp_110 qr_110 (E_X8_takeBore_110) rfl rfl rfl (Nat.le_of_ble_eq_true rfl)).trans (mm_bind (fun q3 => ?_))
    refine (R_aload_n dX8_takeBore_15 rfl (by decide)).trans ?_
    refine (gr_8_7 dX8_takeBore_16).trans ?_
    refine (R_bipush 58 dX8_takeBore_19 bipush_58).trans ?_
    refine (R_iload_n dX8_takeBore_21 rfl).trans ?_
    refine (R_iadd dX8_takeBore_22).trans ?_
    refine (R_iaload dX8_takeBore_23 as_50).trans (ck_congr ?_)
    refine (R_istore_n (ls' := [vr 8 0, vi l1, vi (q3.2 50 0 (Int32.toNatClampNeg (58 + l1)))]) dX8_takeBore_24 (Nat.le_of_ble_eq_true rfl) (by decide) rfl).trans ?_
    refine (R_aload_n dX8_takeBore_25 rfl (by decide)).trans ?_
    refine (R_iload_n dX8_takeBore_26 rfl).trans ?_
    refine (R_cv_v (as := [vi l1]) (rest := []) dX8_takeBore_27 mt_8_171 qp_117 qr_117 (E_X8_takeBore_117) rfl rfl rfl (Nat.le_of_ble_eq_true rfl)).trans (mm_bind (fun q4 => ?_))
    refine (R_iload_n dX8_takeBore_30 rfl).trans ?_
    exact R_ireturn dX8_takeBore_31 rfl
noncomputable def E_X8_clear : mE := fun k => if k = 110 then f_X8_remember else fun _ _ => none
theorem E_X8_clear_110 : E_X8_clear 110 = f_X8_remember := if_pos rfl
noncomputable def f_X8_clear : List mV → mM → Option mR := mm_fn E_X8_clear 8 1 2 cX8_clear
theorem k_X8_clear (l : Launch) : mm_OK l 124 f_X8_clear := mm_fn_ok l 124 8 E_X8_clear (by decide) rfl (by decide) (by
  intro k as μ q h
  by_cases h0 : k = 110
  · subst h0
    exact ⟨by rw [E_X8_clear_110]; exact k_X8_remember l, by decide, by decide, by decide⟩
  have e : E_X8_clear k = fun _ _ => none := (if_neg h0).trans (rfl)
  rw [e] at h
  cases h)
set_option maxRecDepth 100000 in
set_option maxHeartbeats 4000000 in
theorem e_X8_clear (μ : mM) : f_X8_clear [vr 8 0] μ = (Option.bind (f_X8_remember [vr 8 0] μ) (fun q1 => (ck 5225 8 (ck 5225 57 (ck 5225 8 (wr (mm_up q1.2 50 0 (Int32.toNatClampNeg 8) 0) (fun m2 => (ck 5225 57 (wr (mm_up m2 50 0 (Int32.toNatClampNeg 57) 0) (fun m3 => (ck 5225 82 (wr (mm_up m3 50 0 (Int32.toNatClampNeg 82) 0) (fun m4 => some ((q1.2 50 0 (Int32.toNatClampNeg 8)) + (q1.2 50 0 (Int32.toNatClampNeg 57)), m4)))))))))))))) := by
  refine (show f_X8_clear [vr 8 0] μ = mm_run E_X8_clear 8 1 cX8_clear (0, [vr 8 0, vu], [], μ) from rfl).trans ?_
  refine (R_aload_n dX8_clear_0 rfl (by decide)).trans ?_
  refine (R_cv_v (as := []) (rest := []) dX8_clear_1 mt_8_161 qp_110 qr_110 (E_X8_clear_110) rfl rfl rfl (Nat.le_of_ble_eq_true rfl)).trans (mm_bind (fun q1 => ?_))
  refine (R_aload_n dX8_clear_4 rfl (by decide)).trans ?_
  refine (gr_8_7 dX8_clear_5).trans ?_
  refine (R_bipush 8 dX8_clear_8 bipush_8).trans ?_
  refine (R_iaload dX8_clear_10 as_50).trans (ck_congr ?_)
  refine (R_aload_n dX8_clear_11 rfl (by decide)).trans ?_
  refine (gr_8_7 dX8_clear_12).trans ?_
  refine (R_bipush 57 dX8_clear_15 bipush_57).trans ?_
  refine (R_iaload dX8_clear_17 as_50).trans (ck_congr ?_)
  refine (R_iadd dX8_clear_18).trans ?_
  refine (R_istore_n (ls' := [vr 8 0, vi ((q1.2 50 0 (Int32.toNatClampNeg 8)) + (q1.2 50 0 (Int32.toNatClampNeg 57)))]) dX8_clear_19 (Nat.le_of_ble_eq_true rfl) (by decide) rfl).trans ?_
  refine (R_aload_n dX8_clear_20 rfl (by decide)).trans ?_
  refine (gr_8_7 dX8_clear_21).trans ?_
  refine (R_bipush 8 dX8_clear_24 bipush_8).trans ?_
  refine (R_iconst 0 dX8_clear_26 iconst_0).trans ?_
  refine (R_iastore dX8_clear_27 as_50).trans (ck_congr ?_)
  refine wr_intro (g := fun m => mm_run E_X8_clear 8 1 cX8_clear (28, [vr 8 0, vi ((q1.2 50 0 (Int32.toNatClampNeg 8)) + (q1.2 50 0 (Int32.toNatClampNeg 57)))], [], m)) (fun m2 => ?_)
  refine (R_aload_n dX8_clear_28 rfl (by decide)).trans ?_
  refine (gr_8_7 dX8_clear_29).trans ?_
  refine (R_bipush 57 dX8_clear_32 bipush_57).trans ?_
  refine (R_iconst 0 dX8_clear_34 iconst_0).trans ?_
  refine (R_iastore dX8_clear_35 as_50).trans (ck_congr ?_)
  refine wr_intro (g := fun m => mm_run E_X8_clear 8 1 cX8_clear (36, [vr 8 0, vi ((q1.2 50 0 (Int32.toNatClampNeg 8)) + (q1.2 50 0 (Int32.toNatClampNeg 57)))], [], m)) (fun m3 => ?_)
  refine (R_aload_n dX8_clear_36 rfl (by decide)).trans ?_
  refine (gr_8_7 dX8_clear_37).trans ?_
  refine (R_bipush 82 dX8_clear_40 bipush_82).trans ?_
  refine (R_iconst 0 dX8_clear_42 iconst_0).trans ?_
  refine (R_iastore dX8_clear_43 as_50).trans (ck_congr ?_)
  refine wr_intro (g := fun m => mm_run E_X8_clear 8 1 cX8_clear (44, [vr 8 0, vi ((q1.2 50 0 (Int32.toNatClampNeg 8)) + (q1.2 50 0 (Int32.toNatClampNeg 57)))], [], m)) (fun m4 => ?_)
  refine (R_iload_n dX8_clear_44 rfl).trans ?_
  exact R_ireturn dX8_clear_45 rfl
noncomputable def E_X8_crowd : mE := fun k => if k = 79 then f_X8_in else if k = 85 then f_X8_begin else if k = 86 then f_X8_end else if k = 126 then f_X8_shaftsWithin else if k = 127 then f_X8_boresWithin else fun _ _ => none
theorem E_X8_crowd_79 : E_X8_crowd 79 = f_X8_in := if_pos rfl
theorem E_X8_crowd_85 : E_X8_crowd 85 = f_X8_begin := (if_neg (by decide)).trans (if_pos rfl)
theorem E_X8_crowd_86 : E_X8_crowd 86 = f_X8_end := (if_neg (by decide)).trans ((if_neg (by decide)).trans (if_pos rfl))
theorem E_X8_crowd_126 : E_X8_crowd 126 = f_X8_shaftsWithin := (if_neg (by decide)).trans ((if_neg (by decide)).trans ((if_neg (by decide)).trans (if_pos rfl)))
theorem E_X8_crowd_127 : E_X8_crowd 127 = f_X8_boresWithin := (if_neg (by decide)).trans ((if_neg (by decide)).trans ((if_neg (by decide)).trans ((if_neg (by decide)).trans (if_pos rfl))))
noncomputable def f_X8_crowd : List mV → mM → Option mR := mm_fn E_X8_crowd 8 1 11 cX8_crowd
theorem k_X8_crowd (l : Launch) : mm_OK l 128 f_X8_crowd := mm_fn_ok l 128 8 E_X8_crowd (by decide) rfl (by decide) (by
  intro k as μ q h
  by_cases h0 : k = 79
  · subst h0
    exact ⟨by rw [E_X8_crowd_79]; exact k_X8_in l, by decide, by decide, by decide⟩
  by_cases h1 : k = 85
  · subst h1
    exact ⟨by rw [E_X8_crowd_85]; exact k_X8_begin l, by decide, by decide, by decide⟩
  by_cases h2 : k = 86
  · subst h2
    exact ⟨by rw [E_X8_crowd_86]; exact k_X8_end l, by decide, by decide, by decide⟩
  by_cases h3 : k = 126
  · subst h3
    exact ⟨by rw [E_X8_crowd_126]; exact k_X8_shaftsWithin l, by decide, by decide, by decide⟩
  by_cases h4 : k = 127
  · subst h4
    exact ⟨by rw [E_X8_crowd_127]; exact k_X8_boresWithin l, by decide, by decide, by decide⟩
  have e : E_X8_crowd k = fun _ _ => none := (if_neg h0).trans ((if_neg h1).trans ((if_neg h2).trans ((if_neg h3).trans ((if_neg h4).trans (rfl)))))
  rw [e] at h
  cases h)
noncomputable def r_X8_crowd_25 (l1 : Int32) (l2 : Int32) (l3 : Int32) (l4 : Int32) (l5 : Int32) (x6 : mV) (x7 : mV) (x8 : mV) (x9 : mV) (x10 : mV) (μ : mM) : Option mR := mm_run E_X8_crowd 8 1 cX8_crowd (25, [vr 8 0, vi l1, vi l2, vi l3, vi l4, vi l5, x6, x7, x8, x9, x10], [], μ)
noncomputable def r_X8_crowd_40 (l1 : Int32) (l2 : Int32) (l3 : Int32) (l4 : Int32) (l5 : Int32) (l6 : Int32) (x7 : mV) (x8 : mV) (x9 : mV) (x10 : mV) (μ : mM) : Option mR := mm_run E_X8_crowd 8 1 cX8_crowd (40, [vr 8 0, vi l1, vi l2, vi l3, vi l4, vi l5, vi l6, x7, x8, x9, x10], [], μ)
set_option maxRecDepth 100000 in
set_option maxHeartbeats 4000000 in
theorem e_X8_crowd (l1 : Int32) (μ : mM) : f_X8_crowd [vr 8 0, vi l1] μ = (Option.bind (f_X8_in [vl (Int32.toInt64 l1), vl 0, vl 3] μ) (fun q1 => (if q1.1 = 0 then some ((-1000000002), q1.2) else r_X8_crowd_25 l1 0 (-1) (-1) 0 vu vu vu vu vu q1.2))) := by
  refine (show f_X8_crowd [vr 8 0, vi l1] μ = mm_run E_X8_crowd 8 1 cX8_crowd (0, [vr 8 0, vi l1, vu, vu, vu, vu, vu, vu, vu, vu, vu], [], μ) from rfl).trans ?_
  refine (R_iload_n dX8_crowd_0 rfl).trans ?_
  refine (R_i2l dX8_crowd_1).trans ?_
  refine (R_lconst 0 dX8_crowd_2 lconst_0).trans ?_
  refine (R_ldc2_w dX8_crowd_3 lt_8_48).trans ?_
  refine (R_cs_i (as := [vl (Int32.toInt64 l1), vl 0, vl 3]) (rest := []) dX8_crowd_6 mt_8_50 (by decide) qp_79 qr_79 (E_X8_crowd_79) (Nat.le_of_ble_eq_true rfl) rfl rfl (Nat.le_of_ble_eq_true rfl)).trans (mm_bind (fun q1 => ?_))
  refine (R_ifc 15 dX8_crowd_9 rfl).trans (c_ne (fun h2 => ?_) (fun h2 => ?_))
  · refine (R_ldc dX8_crowd_12 kt_8_118).trans ?_
    exact R_ireturn dX8_crowd_14 rfl
  · refine (R_iconst 0 dX8_crowd_15 iconst_0).trans ?_
    refine (R_istore_n (ls' := [vr 8 0, vi l1, vi 0, vu, vu, vu, vu, vu, vu, vu, vu]) dX8_crowd_16 (Nat.le_of_ble_eq_true rfl) (by decide) rfl).trans ?_
    refine (R_iconst (-1) dX8_crowd_17 iconst_m1).trans ?_
    refine (R_istore_n (ls' := [vr 8 0, vi l1, vi 0, vi (-1), vu, vu, vu, vu, vu, vu, vu]) dX8_crowd_18 (Nat.le_of_ble_eq_true rfl) (by decide) rfl).trans ?_
    refine (R_iconst (-1) dX8_crowd_19 iconst_m1).trans ?_
    refine (R_istore (ls' := [vr 8 0, vi l1, vi 0, vi (-1), vi (-1), vu, vu, vu, vu, vu, vu]) dX8_crowd_20 (Nat.le_of_ble_eq_true rfl) (by decide) rfl).trans ?_
    refine (R_iconst 0 dX8_crowd_22 iconst_0).trans ?_
    refine (R_istore (ls' := [vr 8 0, vi l1, vi 0, vi (-1), vi (-1), vi 0, vu, vu, vu, vu, vu]) dX8_crowd_23 (Nat.le_of_ble_eq_true rfl) (by decide) rfl).trans ?_
    exact rfl
set_option maxRecDepth 100000 in
set_option maxHeartbeats 4000000 in
theorem e_X8_crowd_25 (l1 : Int32) (l2 : Int32) (l3 : Int32) (l4 : Int32) (l5 : Int32) (x6 : mV) (x7 : mV) (x8 : mV) (x9 : mV) (x10 : mV) (μ : mM) : r_X8_crowd_25 l1 l2 l3 l4 l5 x6 x7 x8 x9 x10 μ = (ck 5225 8 (if l5 < μ 50 0 (Int32.toNatClampNeg 8) then r_X8_crowd_40 l1 l2 l3 l4 l5 0 x7 x8 x9 x10 μ else (if l2 = 0 then some ((-1), μ) else (if l1 = 0 then some (l3, μ) else (if l1 = 1 then some (l4, μ) else (if l1 = 2 then (Option.bind (f_X8_shaftsWithin [vr 8 0, vi l3, vi l4] μ) (fun q6 => some (q6.1, q6.2))) else (Option.bind (f_X8_boresWithin [vr 8 0, vi l3, vi l4] μ) (fun q7 => some (q7.1, q7.2))))))))) := by
  refine (show r_X8_crowd_25 l1 l2 l3 l4 l5 x6 x7 x8 x9 x10 μ = mm_run E_X8_crowd 8 1 cX8_crowd (25, [vr 8 0, vi l1, vi l2, vi l3, vi l4, vi l5, x6, x7, x8, x9, x10], [], μ) from rfl).trans ?_
  refine (R_iload dX8_crowd_25 rfl).trans ?_
  refine (R_aload_n dX8_crowd_27 rfl (by decide)).trans ?_
  refine (gr_8_7 dX8_crowd_28).trans ?_
  refine (R_bipush 8 dX8_crowd_31 bipush_8).trans ?_
  refine (R_iaload dX8_crowd_33 as_50).trans (ck_congr ?_)
  refine (R_icmp 180 dX8_crowd_34 rfl).trans (c_ge (fun h1 => ?_) (fun h1 => ?_))
  · refine (R_iconst 0 dX8_crowd_37 iconst_0).trans ?_
    refine (R_istore (ls' := [vr 8 0, vi l1, vi l2, vi l3, vi l4, vi l5, vi 0, x7, x8, x9, x10]) dX8_crowd_38 (Nat.le_of_ble_eq_true rfl) (by decide) rfl).trans ?_
    exact rfl
  · refine (R_iload_n dX8_crowd_180 rfl).trans ?_
    refine (R_ifc 186 dX8_crowd_181 rfl).trans (c_ne (fun h2 => ?_) (fun h2 => ?_))
    · refine (R_iconst (-1) dX8_crowd_184 iconst_m1).trans ?_
      exact R_ireturn dX8_crowd_185 rfl
    · refine (R_iload_n dX8_crowd_186 rfl).trans ?_
      refine (R_ifc 194 dX8_crowd_187 rfl).trans (c_ne (fun h3 => ?_) (fun h3 => ?_))
      · refine (R_iload_n dX8_crowd_190 rfl).trans ?_
        refine (R_goto 226 dX8_crowd_191 rfl).trans ?_
        exact R_ireturn dX8_crowd_226 rfl
      · refine (R_iload_n dX8_crowd_194 rfl).trans ?_
        refine (R_iconst 1 dX8_crowd_195 iconst_1).trans ?_
        refine (R_icmp 204 dX8_crowd_196 rfl).trans (c_ne (fun h4 => ?_) (fun h4 => ?_))
        · refine (R_iload dX8_crowd_199 rfl).trans ?_
          refine (R_goto 226 dX8_crowd_201 rfl).trans ?_
          exact R_ireturn dX8_crowd_226 rfl
        · refine (R_iload_n dX8_crowd_204 rfl).trans ?_
          refine (R_iconst 2 dX8_crowd_205 iconst_2).trans ?_
          refine (R_icmp 219 dX8_crowd_206 rfl).trans (c_ne (fun h5 => ?_) (fun h5 => ?_))
          · refine (R_aload_n dX8_crowd_209 rfl (by decide)).trans ?_
            refine (R_iload_n dX8_crowd_210 rfl).trans ?_
            refine (R_iload dX8_crowd_211 rfl).trans ?_
            refine (R_cv_i (as := [vi l3, vi l4]) (rest := []) dX8_crowd_213 mt_8_191 qp_126 qr_126 (E_X8_crowd_126) rfl rfl rfl (Nat.le_of_ble_eq_true rfl)).trans (mm_bind (fun q6 => ?_))
            refine (R_goto 226 dX8_crowd_216 rfl).trans ?_
            exact R_ireturn dX8_crowd_226 rfl
          · refine (R_aload_n dX8_crowd_219 rfl (by decide)).trans ?_
            refine (R_iload_n dX8_crowd_220 rfl).trans ?_
            refine (R_iload dX8_crowd_221 rfl).trans ?_
            refine (R_cv_i (as := [vi l3, vi l4]) (rest := []) dX8_crowd_223 mt_8_194 qp_127 qr_127 (E_X8_crowd_127) rfl rfl rfl (Nat.le_of_ble_eq_true rfl)).trans (mm_bind (fun q7 => ?_))
            exact R_ireturn dX8_crowd_226 rfl
set_option maxRecDepth 100000 in
set_option maxHeartbeats 4000000 in
theorem e_X8_crowd_40 (l1 : Int32) (l2 : Int32) (l3 : Int32) (l4 : Int32) (l5 : Int32) (l6 : Int32) (x7 : mV) (x8 : mV) (x9 : mV) (x10 : mV) (μ : mM) : r_X8_crowd_40 l1 l2 l3 l4 l5 l6 x7 x8 x9 x10 μ = (ck 5225 8 (if l6 < μ 50 0 (Int32.toNatClampNeg 8) then (Option.bind (f_X8_begin [vr 8 0, vi l5] μ) (fun q2 => (Option.bind (f_X8_end [vr 8 0, vi l6] q2.2) (fun q3 => (Option.bind (f_X8_shaftsWithin [vr 8 0, vi q2.1, vi q3.1] q3.2) (fun q4 => (Option.bind (f_X8_boresWithin [vr 8 0, vi q2.1, vi q3.1] q4.2) (fun q5 => (if l2 < q4.1 - q5.1 then r_X8_crowd_40 l1 (q4.1 - q5.1) q2.1 q3.1 l5 (l6 + 1) (vi q2.1) (vi q3.1) (vi (q4.1 - q5.1)) (vi 1) q5.2 else (if q4.1 - q5.1 = l2 then (if 0 < q4.1 - q5.1 then (if q2.1 < l3 then r_X8_crowd_40 l1 (q4.1 - q5.1) q2.1 q3.1 l5 (l6 + 1) (vi q2.1) (vi q3.1) (vi (q4.1 - q5.1)) (vi 1) q5.2 else (if q2.1 = l3 then (if q3.1 < l4 then r_X8_crowd_40 l1 (q4.1 - q5.1) q2.1 q3.1 l5 (l6 + 1) (vi q2.1) (vi q3.1) (vi (q4.1 - q5.1)) (vi 1) q5.2 else r_X8_crowd_40 l1 l2 l3 l4 l5 (l6 + 1) (vi q2.1) (vi q3.1) (vi (q4.1 - q5.1)) (vi 0) q5.2) else r_X8_crowd_40 l1 l2 l3 l4 l5 (l6 + 1) (vi q2.1) (vi q3.1) (vi (q4.1 - q5.1)) (vi 0) q5.2)) else r_X8_crowd_40 l1 l2 l3 l4 l5 (l6 + 1) (vi q2.1) (vi q3.1) (vi (q4.1 - q5.1)) (vi 0) q5.2) else r_X8_crowd_40 l1 l2 l3 l4 l5 (l6 + 1) (vi q2.1) (vi q3.1) (vi (q4.1 - q5.1)) (vi 0) q5.2)))))))))) else r_X8_crowd_25 l1 l2 l3 l4 (l5 + 1) (vi l6) x7 x8 x9 x10 μ)) := by
  refine (show r_X8_crowd_40 l1 l2 l3 l4 l5 l6 x7 x8 x9 x10 μ = mm_run E_X8_crowd 8 1 cX8_crowd (40, [vr 8 0, vi l1, vi l2, vi l3, vi l4, vi l5, vi l6, x7, x8, x9, x10], [], μ) from rfl).trans ?_
  refine (R_iload dX8_crowd_40 rfl).trans ?_
  refine (R_aload_n dX8_crowd_42 rfl (by decide)).trans ?_
  refine (gr_8_7 dX8_crowd_43).trans ?_
  refine (R_bipush 8 dX8_crowd_46 bipush_8).trans ?_
  refine (R_iaload dX8_crowd_48 as_50).trans (ck_congr ?_)
  refine (R_icmp 174 dX8_crowd_49 rfl).trans (c_ge (fun h1 => ?_) (fun h1 => ?_))
  · refine (R_aload_n dX8_crowd_52 rfl (by decide)).trans ?_
    refine (R_iload dX8_crowd_53 rfl).trans ?_
    refine (R_cv_i (as := [vi l5]) (rest := []) dX8_crowd_55 mt_8_56 qp_85 qr_85 (E_X8_crowd_85) rfl rfl rfl (Nat.le_of_ble_eq_true rfl)).trans (mm_bind (fun q2 => ?_))
    refine (R_istore (ls' := [vr 8 0, vi l1, vi l2, vi l3, vi l4, vi l5, vi l6, vi q2.1, x8, x9, x10]) dX8_crowd_58 (Nat.le_of_ble_eq_true rfl) (by decide) rfl).trans ?_
    refine (R_aload_n dX8_crowd_60 rfl (by decide)).trans ?_
    refine (R_iload dX8_crowd_61 rfl).trans ?_
    refine (R_cv_i (as := [vi l6]) (rest := []) dX8_crowd_63 mt_8_60 qp_86 qr_86 (E_X8_crowd_86) rfl rfl rfl (Nat.le_of_ble_eq_true rfl)).trans (mm_bind (fun q3 => ?_))
    refine (R_istore (ls' := [vr 8 0, vi l1, vi l2, vi l3, vi l4, vi l5, vi l6, vi q2.1, vi q3.1, x9, x10]) dX8_crowd_66 (Nat.le_of_ble_eq_true rfl) (by decide) rfl).trans ?_
    refine (R_aload_n dX8_crowd_68 rfl (by decide)).trans ?_
    refine (R_iload dX8_crowd_69 rfl).trans ?_
    refine (R_iload dX8_crowd_71 rfl).trans ?_
    refine (R_cv_i (as := [vi q2.1, vi q3.1]) (rest := []) dX8_crowd_73 mt_8_191 qp_126 qr_126 (E_X8_crowd_126) rfl rfl rfl (Nat.le_of_ble_eq_true rfl)).trans (mm_bind (fun q4 => ?_))
    refine (R_aload_n dX8_crowd_76 rfl (by decide)).trans ?_
    refine (R_iload dX8_crowd_77 rfl).trans ?_
    refine (R_iload dX8_crowd_79 rfl).trans ?_
    refine (R_cv_i (as := [vi q2.1, vi q3.1]) (rest := [vi q4.1]) dX8_crowd_81 mt_8_194 qp_127 qr_127 (E_X8_crowd_127) rfl rfl rfl (Nat.le_of_ble_eq_true rfl)).trans (mm_bind (fun q5 => ?_))
    refine (R_isub dX8_crowd_84).trans ?_
    refine (R_istore (ls' := [vr 8 0, vi l1, vi l2, vi l3, vi l4, vi l5, vi l6, vi q2.1, vi q3.1, vi (q4.1 - q5.1), x10]) dX8_crowd_85 (Nat.le_of_ble_eq_true rfl) (by decide) rfl).trans ?_
    refine (R_iload dX8_crowd_87 rfl).trans ?_
    refine (R_iload_n dX8_crowd_89 rfl).trans ?_
    refine (R_icmp 123 dX8_crowd_90 rfl).trans (c_gt (fun h6 => ?_) (fun h6 => ?_))
    · refine (R_iconst 1 dX8_crowd_123 iconst_1).trans ?_
      refine (R_goto 128 dX8_crowd_124 rfl).trans ?_
      refine (R_istore (ls' := [vr 8 0, vi l1, vi l2, vi l3, vi l4, vi l5, vi l6, vi q2.1, vi q3.1, vi (q4.1 - q5.1), vi 1]) dX8_crowd_128 (Nat.le_of_ble_eq_true rfl) (by decide) rfl).trans ?_
      refine (R_iload dX8_crowd_130 rfl).trans ?_
      refine (R_ifc 140 dX8_crowd_132 rfl).trans ((p_eq_f (by decide)).trans ?_)
      refine (R_iload dX8_crowd_135 rfl).trans ?_
      refine (R_goto 141 dX8_crowd_137 rfl).trans ?_
      refine (R_istore_n (ls' := [vr 8 0, vi l1, vi (q4.1 - q5.1), vi l3, vi l4, vi l5, vi l6, vi q2.1, vi q3.1, vi (q4.1 - q5.1), vi 1]) dX8_crowd_141 (Nat.le_of_ble_eq_true rfl) (by decide) rfl).trans ?_
      refine (R_iload dX8_crowd_142 rfl).trans ?_
      refine (R_ifc 152 dX8_crowd_144 rfl).trans ((p_eq_f (by decide)).trans ?_)
      refine (R_iload dX8_crowd_147 rfl).trans ?_
      refine (R_goto 153 dX8_crowd_149 rfl).trans ?_
      refine (R_istore_n (ls' := [vr 8 0, vi l1, vi (q4.1 - q5.1), vi q2.1, vi l4, vi l5, vi l6, vi q2.1, vi q3.1, vi (q4.1 - q5.1), vi 1]) dX8_crowd_153 (Nat.le_of_ble_eq_true rfl) (by decide) rfl).trans ?_
      refine (R_iload dX8_crowd_154 rfl).trans ?_
      refine (R_ifc 164 dX8_crowd_156 rfl).trans ((p_eq_f (by decide)).trans ?_)
      refine (R_iload dX8_crowd_159 rfl).trans ?_
      refine (R_goto 166 dX8_crowd_161 rfl).trans ?_
      refine (R_istore (ls' := [vr 8 0, vi l1, vi (q4.1 - q5.1), vi q2.1, vi q3.1, vi l5, vi l6, vi q2.1, vi q3.1, vi (q4.1 - q5.1), vi 1]) dX8_crowd_166 (Nat.le_of_ble_eq_true rfl) (by decide) rfl).trans ?_
      refine (R_iinc (ls' := [vr 8 0, vi l1, vi (q4.1 - q5.1), vi q2.1, vi q3.1, vi l5, vi (l6 + 1), vi q2.1, vi q3.1, vi (q4.1 - q5.1), vi 1]) 1 dX8_crowd_168 rfl iconst_1 (by decide) rfl).trans ?_
      refine (R_goto 40 dX8_crowd_171 rfl).trans ?_
      exact rfl
    · refine (R_iload dX8_crowd_93 rfl).trans ?_
      refine (R_iload_n dX8_crowd_95 rfl).trans ?_
      refine (R_icmp 127 dX8_crowd_96 rfl).trans (c_ne (fun h7 => ?_) (fun h7 => ?_))
      · refine (R_iload dX8_crowd_99 rfl).trans ?_
        refine (R_ifc 127 dX8_crowd_101 rfl).trans (c_le (fun h8 => ?_) (fun h8 => ?_))
        · refine (R_iload dX8_crowd_104 rfl).trans ?_
          refine (R_iload_n dX8_crowd_106 rfl).trans ?_
          refine (R_icmp 123 dX8_crowd_107 rfl).trans (c_lt (fun h9 => ?_) (fun h9 => ?_))
          · refine (R_iconst 1 dX8_crowd_123 iconst_1).trans ?_
            refine (R_goto 128 dX8_crowd_124 rfl).trans ?_
            refine (R_istore (ls' := [vr 8 0, vi l1, vi l2, vi l3, vi l4, vi l5, vi l6, vi q2.1, vi q3.1, vi (q4.1 - q5.1), vi 1]) dX8_crowd_128 (Nat.le_of_ble_eq_true rfl) (by decide) rfl).trans ?_
            refine (R_iload dX8_crowd_130 rfl).trans ?_
            refine (R_ifc 140 dX8_crowd_132 rfl).trans ((p_eq_f (by decide)).trans ?_)
            refine (R_iload dX8_crowd_135 rfl).trans ?_
            refine (R_goto 141 dX8_crowd_137 rfl).trans ?_
            refine (R_istore_n (ls' := [vr 8 0, vi l1, vi (q4.1 - q5.1), vi l3, vi l4, vi l5, vi l6, vi q2.1, vi q3.1, vi (q4.1 - q5.1), vi 1]) dX8_crowd_141 (Nat.le_of_ble_eq_true rfl) (by decide) rfl).trans ?_
            refine (R_iload dX8_crowd_142 rfl).trans ?_
            refine (R_ifc 152 dX8_crowd_144 rfl).trans ((p_eq_f (by decide)).trans ?_)
            refine (R_iload dX8_crowd_147 rfl).trans ?_
            refine (R_goto 153 dX8_crowd_149 rfl).trans ?_
            refine (R_istore_n (ls' := [vr 8 0, vi l1, vi (q4.1 - q5.1), vi q2.1, vi l4, vi l5, vi l6, vi q2.1, vi q3.1, vi (q4.1 - q5.1), vi 1]) dX8_crowd_153 (Nat.le_of_ble_eq_true rfl) (by decide) rfl).trans ?_
            refine (R_iload dX8_crowd_154 rfl).trans ?_
            refine (R_ifc 164 dX8_crowd_156 rfl).trans ((p_eq_f (by decide)).trans ?_)
            refine (R_iload dX8_crowd_159 rfl).trans ?_
            refine (R_goto 166 dX8_crowd_161 rfl).trans ?_
            refine (R_istore (ls' := [vr 8 0, vi l1, vi (q4.1 - q5.1), vi q2.1, vi q3.1, vi l5, vi l6, vi q2.1, vi q3.1, vi (q4.1 - q5.1), vi 1]) dX8_crowd_166 (Nat.le_of_ble_eq_true rfl) (by decide) rfl).trans ?_
            refine (R_iinc (ls' := [vr 8 0, vi l1, vi (q4.1 - q5.1), vi q2.1, vi q3.1, vi l5, vi (l6 + 1), vi q2.1, vi q3.1, vi (q4.1 - q5.1), vi 1]) 1 dX8_crowd_168 rfl iconst_1 (by decide) rfl).trans ?_
            refine (R_goto 40 dX8_crowd_171 rfl).trans ?_
            exact rfl
          · refine (R_iload dX8_crowd_110 rfl).trans ?_
            refine (R_iload_n dX8_crowd_112 rfl).trans ?_
            refine (R_icmp 127 dX8_crowd_113 rfl).trans (c_ne (fun h10 => ?_) (fun h10 => ?_))
            · refine (R_iload dX8_crowd_116 rfl).trans ?_
              refine (R_iload dX8_crowd_118 rfl).trans ?_
              refine (R_icmp 127 dX8_crowd_120 rfl).trans (c_ge (fun h11 => ?_) (fun h11 => ?_))
              · refine (R_iconst 1 dX8_crowd_123 iconst_1).trans ?_
                refine (R_goto 128 dX8_crowd_124 rfl).trans ?_
                refine (R_istore (ls' := [vr 8 0, vi l1, vi l2, vi l3, vi l4, vi l5, vi l6, vi q2.1, vi q3.1, vi (q4.1 - q5.1), vi 1]) dX8_crowd_128 (Nat.le_of_ble_eq_true rfl) (by decide) rfl).trans ?_
                refine (R_iload dX8_crowd_130 rfl).trans ?_
                refine (R_ifc 140 dX8_crowd_132 rfl).trans ((p_eq_f (by decide)).trans ?_)
                refine (R_iload dX8_crowd_135 rfl).trans ?_
                refine (R_goto 141 dX8_crowd_137 rfl).trans ?_
                refine (R_istore_n (ls' := [vr 8 0, vi l1, vi (q4.1 - q5.1), vi l3, vi l4, vi l5, vi l6, vi q2.1, vi q3.1, vi (q4.1 - q5.1), vi 1]) dX8_crowd_141 (Nat.le_of_ble_eq_true rfl) (by decide) rfl).trans ?_
                refine (R_iload dX8_crowd_142 rfl).trans ?_
                refine (R_ifc 152 dX8_crowd_144 rfl).trans ((p_eq_f (by decide)).trans ?_)
                refine (R_iload dX8_crowd_147 rfl).trans ?_
                refine (R_goto 153 dX8_crowd_149 rfl).trans ?_
                refine (R_istore_n (ls' := [vr 8 0, vi l1, vi (q4.1 - q5.1), vi q2.1, vi l4, vi l5, vi l6, vi q2.1, vi q3.1, vi (q4.1 - q5.1), vi 1]) dX8_crowd_153 (Nat.le_of_ble_eq_true rfl) (by decide) rfl).trans ?_
                refine (R_iload dX8_crowd_154 rfl).trans ?_
                refine (R_ifc 164 dX8_crowd_156 rfl).trans ((p_eq_f (by decide)).trans ?_)
                refine (R_iload dX8_crowd_159 rfl).trans ?_
                refine (R_goto 166 dX8_crowd_161 rfl).trans ?_
                refine (R_istore (ls' := [vr 8 0, vi l1, vi (q4.1 - q5.1), vi q2.1, vi q3.1, vi l5, vi l6, vi q2.1, vi q3.1, vi (q4.1 - q5.1), vi 1]) dX8_crowd_166 (Nat.le_of_ble_eq_true rfl) (by decide) rfl).trans ?_
                refine (R_iinc (ls' := [vr 8 0, vi l1, vi (q4.1 - q5.1), vi q2.1, vi q3.1, vi l5, vi (l6 + 1), vi q2.1, vi q3.1, vi (q4.1 - q5.1), vi 1]) 1 dX8_crowd_168 rfl iconst_1 (by decide) rfl).trans ?_
                refine (R_goto 40 dX8_crowd_171 rfl).trans ?_
                exact rfl
              · refine (R_iconst 0 dX8_crowd_127 iconst_0).trans ?_
                refine (R_istore (ls' := [vr 8 0, vi l1, vi l2, vi l3, vi l4, vi l5, vi l6, vi q2.1, vi q3.1, vi (q4.1 - q5.1), vi 0]) dX8_crowd_128 (Nat.le_of_ble_eq_true rfl) (by decide) rfl).trans ?_
                refine (R_iload dX8_crowd_130 rfl).trans ?_
                refine (R_ifc 140 dX8_crowd_132 rfl).trans ((p_eq_t (by decide)).trans ?_)
                refine (R_iload_n dX8_crowd_140 rfl).trans ?_
                refine (R_istore_n (ls' := [vr 8 0, vi l1, vi l2, vi l3, vi l4, vi l5, vi l6, vi q2.1, vi q3.1, vi (q4.1 - q5.1), vi 0]) dX8_crowd_141 (Nat.le_of_ble_eq_true rfl) (by decide) rfl).trans ?_
                refine (R_iload dX8_crowd_142 rfl).trans ?_
                refine (R_ifc 152 dX8_crowd_144 rfl).trans ((p_eq_t (by decide)).trans ?_)
                refine (R_iload_n dX8_crowd_152 rfl).trans ?_
                refine (R_istore_n (ls' := [vr 8 0, vi l1, vi l2, vi l3, vi l4, vi l5, vi l6, vi q2.1, vi q3.1, vi (q4.1 - q5.1), vi 0]) dX8_crowd_153 (Nat.le_of_ble_eq_true rfl) (by decide) rfl).trans ?_
                refine (R_iload dX8_crowd_154 rfl).trans ?_
                refine (R_ifc 164 dX8_crowd_156 rfl).trans ((p_eq_t (by decide)).trans ?_)
                refine (R_iload dX8_crowd_164 rfl).trans ?_
                refine (R_istore (ls' := [vr 8 0, vi l1, vi l2, vi l3, vi l4, vi l5, vi l6, vi q2.1, vi q3.1, vi (q4.1 - q5.1), vi 0]) dX8_crowd_166 (Nat.le_of_ble_eq_true rfl) (by decide) rfl).trans ?_
                refine (R_iinc (ls' := [vr 8 0, vi l1, vi l2, vi l3, vi l4, vi l5, vi (l6 + 1), vi q2.1, vi q3.1, vi (q4.1 - q5.1), vi 0]) 1 dX8_crowd_168 rfl iconst_1 (by decide) rfl).trans ?_
                refine (R_goto 40 dX8_crowd_171 rfl).trans ?_
                exact rfl
            · refine (R_iconst 0 dX8_crowd_127 iconst_0).trans ?_
              refine (R_istore (ls' := [vr 8 0, vi l1, vi l2, vi l3, vi l4, vi l5, vi l6, vi q2.1, vi q3.1, vi (q4.1 - q5.1), vi 0]) dX8_crowd_128 (Nat.le_of_ble_eq_true rfl) (by decide) rfl).trans ?_
              refine (R_iload dX8_crowd_130 rfl).trans ?_
              refine (R_ifc 140 dX8_crowd_132 rfl).trans ((p_eq_t (by decide)).trans ?_)
              refine (R_iload_n dX8_crowd_140 rfl).trans ?_
              refine (R_istore_n (ls' := [vr 8 0, vi l1, vi l2, vi l3, vi l4, vi l5, vi l6, vi q2.1, vi q3.1, vi (q4.1 - q5.1), vi 0]) dX8_crowd_141 (Nat.le_of_ble_eq_true rfl) (by decide) rfl).trans ?_
              refine (R_iload dX8_crowd_142 rfl).trans ?_
              refine (R_ifc 152 dX8_crowd_144 rfl).trans ((p_eq_t (by decide)).trans ?_)
              refine (R_iload_n dX8_crowd_152 rfl).trans ?_
              refine (R_istore_n (ls' := [vr 8 0, vi l1, vi l2, vi l3, vi l4, vi l5, vi l6, vi q2.1, vi q3.1, vi (q4.1 - q5.1), vi 0]) dX8_crowd_153 (Nat.le_of_ble_eq_true rfl) (by decide) rfl).trans ?_
              refine (R_iload dX8_crowd_154 rfl).trans ?_
              refine (R_ifc 164 dX8_crowd_156 rfl).trans ((p_eq_t (by decide)).trans ?_)
              refine (R_iload dX8_crowd_164 rfl).trans ?_
              refine (R_istore (ls' := [vr 8 0, vi l1, vi l2, vi l3, vi l4, vi l5, vi l6, vi q2.1, vi q3.1, vi (q4.1 - q5.1), vi 0]) dX8_crowd_166 (Nat.le_of_ble_eq_true rfl) (by decide) rfl).trans ?_
              refine (R_iinc (ls' := [vr 8 0, vi l1, vi l2, vi l3, vi l4, vi l5, vi (l6 + 1), vi q2.1, vi q3.1, vi (q4.1 - q5.1), vi 0]) 1 dX8_crowd_168 rfl iconst_1 (by decide) rfl).trans ?_
              refine (R_goto 40 dX8_crowd_171 rfl).trans ?_
              exact rfl
        · refine (R_iconst 0 dX8_crowd_127 iconst_0).trans ?_
          refine (R_istore (ls' := [vr 8 0, vi l1, vi l2, vi l3, vi l4, vi l5, vi l6, vi q2.1, vi q3.1, vi (q4.1 - q5.1), vi 0]) dX8_crowd_128 (Nat.le_of_ble_eq_true rfl) (by decide) rfl).trans ?_
          refine (R_iload dX8_crowd_130 rfl).trans ?_
          refine (R_ifc 140 dX8_crowd_132 rfl).trans ((p_eq_t (by decide)).trans ?_)
          refine (R_iload_n dX8_crowd_140 rfl).trans ?_
          refine (R_istore_n (ls' := [vr 8 0, vi l1, vi l2, vi l3, vi l4, vi l5, vi l6, vi q2.1, vi q3.1, vi (q4.1 - q5.1), vi 0]) dX8_crowd_141 (Nat.le_of_ble_eq_true rfl) (by decide) rfl).trans ?_
          refine (R_iload dX8_crowd_142 rfl).trans ?_
          refine (R_ifc 152 dX8_crowd_144 rfl).trans ((p_eq_t (by decide)).trans ?_)
          refine (R_iload_n dX8_crowd_152 rfl).trans ?_
          refine (R_istore_n (ls' := [vr 8 0, vi l1, vi l2, vi l3, vi l4, vi l5, vi l6, vi q2.1, vi q3.1, vi (q4.1 - q5.1), vi 0]) dX8_crowd_153 (Nat.le_of_ble_eq_true rfl) (by decide) rfl).trans ?_
          refine (R_iload dX8_crowd_154 rfl).trans ?_
          refine (R_ifc 164 dX8_crowd_156 rfl).trans ((p_eq_t (by decide)).trans ?_)
          refine (R_iload dX8_crowd_164 rfl).trans ?_
          refine (R_istore (ls' := [vr 8 0, vi l1, vi l2, vi l3, vi l4, vi l5, vi l6, vi q2.1, vi q3.1, vi (q4.1 - q5.1), vi 0]) dX8_crowd_166 (Nat.le_of_ble_eq_true rfl) (by decide) rfl).trans ?_
          refine (R_iinc (ls' := [vr 8 0, vi l1, vi l2, vi l3, vi l4, vi l5, vi (l6 + 1), vi q2.1, vi q3.1, vi (q4.1 - q5.1), vi 0]) 1 dX8_crowd_168 rfl iconst_1 (by decide) rfl).trans ?_
          refine (R_goto 40 dX8_crowd_171 rfl).trans ?_
          exact rfl
      · refine (R_iconst 0 dX8_crowd_127 iconst_0).trans ?_
        refine (R_istore (ls' := [vr 8 0, vi l1, vi l2, vi l3, vi l4, vi l5, vi l6, vi q2.1, vi q3.1, vi (q4.1 - q5.1), vi 0]) dX8_crowd_128 (Nat.le_of_ble_eq_true rfl) (by decide) rfl).trans ?_
        refine (R_iload dX8_crowd_130 rfl).trans ?_
        refine (R_ifc 140 dX8_crowd_132 rfl).trans ((p_eq_t (by decide)).trans ?_)
        refine (R_iload_n dX8_crowd_140 rfl).trans ?_
        refine (R_istore_n (ls' := [vr 8 0, vi l1, vi l2, vi l3, vi l4, vi l5, vi l6, vi q2.1, vi q3.1, vi (q4.1 - q5.1), vi 0]) dX8_crowd_141 (Nat.le_of_ble_eq_true rfl) (by decide) rfl).trans ?_
        refine (R_iload dX8_crowd_142 rfl).trans ?_
        refine (R_ifc 152 dX8_crowd_144 rfl).trans ((p_eq_t (by decide)).trans ?_)
        refine (R_iload_n dX8_crowd_152 rfl).trans ?_
        refine (R_istore_n (ls' := [vr 8 0, vi l1, vi l2, vi l3, vi l4, vi l5, vi l6, vi q2.1, vi q3.1, vi (q4.1 - q5.1), vi 0]) dX8_crowd_153 (Nat.le_of_ble_eq_true rfl) (by decide) rfl).trans ?_
        refine (R_iload dX8_crowd_154 rfl).trans ?_
        refine (R_ifc 164 dX8_crowd_156 rfl).trans ((p_eq_t (by decide)).trans ?_)
        refine (R_iload dX8_crowd_164 rfl).trans ?_
        refine (R_istore (ls' := [vr 8 0, vi l1, vi l2, vi l3, vi l4, vi l5, vi l6, vi q2.1, vi q3.1, vi (q4.1 - q5.1), vi 0]) dX8_crowd_166 (Nat.le_of_ble_eq_true rfl) (by decide) rfl).trans ?_
        refine (R_iinc (ls' := [vr 8 0, vi l1, vi l2, vi l3, vi l4, vi l5, vi (l6 + 1), vi q2.1, vi q3.1, vi (q4.1 - q5.1), vi 0]) 1 dX8_crowd_168 rfl iconst_1 (by decide) rfl).trans ?_
        refine (R_goto 40 dX8_crowd_171 rfl).trans ?_
        exact rfl
  · refine (R_iinc (ls' := [vr 8 0, vi l1, vi l2, vi l3, vi l4, vi (l5 + 1), vi l6, x7, x8, x9, x10]) 1 dX8_crowd_174 rfl iconst_1 (by decide) rfl).trans ?_
    refine (R_goto 25 dX8_crowd_177 rfl).trans ?_
    exact rfl
noncomputable def E_X8_isAhead : mE := fun k => if k = 129 then f_X8_keyOf else fun _ _ => none
theorem E_X8_isAhead_129 : E_X8_isAhead 129 = f_X8_keyOf := if_pos rfl
noncomputable def f_X8_isAhead : List mV → mM → Option mR := mm_fn E_X8_isAhead 8 2 3 cX8_isAhead
theorem k_X8_isAhead (l : Launch) : mm_OK l 130 f_X8_isAhead := mm_fn_ok l 130 8 E_X8_isAhead (by decide) rfl (by decide) (by
  intro k as μ q h
  by_cases h0 : k = 129
  · subst h0
    exact ⟨by rw [E_X8_isAhead_129]; exact k_X8_keyOf l, by decide, by decide, by decide⟩
  have e : E_X8_isAhead k = fun _ _ => none := (if_neg h0).trans (rfl)
  rw [e] at h
  cases h)
set_option maxRecDepth 100000 in
set_option maxHeartbeats 4000000 in
theorem e_X8_isAhead (l1 : Int32) (l2 : Int32) (μ : mM) : f_X8_isAhead [vr 8 0, vi l1, vi l2] μ = (Option.bind (f_X8_keyOf [vr 8 0, vi l1] μ) (fun q1 => (Option.bind (f_X8_keyOf [vr 8 0, vi l2] q1.2) (fun q2 => (if q1.1 < q2.1 then some (1, q2.2) else (Option.bind (f_X8_keyOf [vr 8 0, vi l1] q2.2) (fun q4 => (Option.bind (f_X8_keyOf [vr 8 0, vi l2] q4.2) (fun q5 => (if q4.1 = q5.1 then (if l1 < l2 then some (1, q5.2) else some (0, q5.2)) else some (0, q5.2))))))))))) := by
  refine (show f_X8_isAhead [vr 8 0, vi l1, vi l2] μ = mm_run E_X8_isAhead 8 2 cX8_isAhead (0, [vr 8 0, vi l1, vi l2], [], μ) from rfl).trans ?_
  refine (R_aload_n dX8_isAhead_0 rfl (by decide)).trans ?_
  refine (R_iload_n dX8_isAhead_1 rfl).trans ?_
  refine (R_cv_i (as := [vi l1]) (rest := []) dX8_isAhead_2 mt_8_197 qp_129 qr_129 (E_X8_isAhead_129) rfl rfl rfl (Nat.le_of_ble_eq_true rfl)).trans (mm_bind (fun q1 => ?_))
  refine (R_aload_n dX8_isAhead_5 rfl (by decide)).trans ?_
  refine (R_iload_n dX8_isAhead_6 rfl).trans ?_
  refine (R_cv_i (as := [vi l2]) (rest := [vi q1.1]) dX8_isAhead_7 mt_8_197 qp_129 qr_129 (E_X8_isAhead_129) rfl rfl rfl (Nat.le_of_ble_eq_true rfl)).trans (mm_bind (fun q2 => ?_))
  refine (R_icmp 31 dX8_isAhead_10 rfl).trans (c_lt (fun h3 => ?_) (fun h3 => ?_))
  · refine (R_iconst 1 dX8_isAhead_31 iconst_1).trans ?_
    refine (R_goto 36 dX8_isAhead_32 rfl).trans ?_
    exact R_zreturn dX8_isAhead_36 (by decide) (by decide)
  · refine (R_aload_n dX8_isAhead_13 rfl (by decide)).trans ?_
    refine (R_iload_n dX8_isAhead_14 rfl).trans ?_
    refine (R_cv_i (as := [vi l1]) (rest := []) dX8_isAhead_15 mt_8_197 qp_129 qr_129 (E_X8_isAhead_129) rfl rfl rfl (Nat.le_of_ble_eq_true rfl)).trans (mm_bind (fun q4 => ?_))
    refine (R_aload_n dX8_isAhead_18 rfl (by decide)).trans ?_
    refine (R_iload_n dX8_isAhead_19 rfl).trans ?_
    refine (R_cv_i (as := [vi l2]) (rest := [vi q4.1]) dX8_isAhead_20 mt_8_197 qp_129 qr_129 (E_X8_isAhead_129) rfl rfl rfl (Nat.le_of_ble_eq_true rfl)).trans (mm_bind (fun q5 => ?_))
    refine (R_icmp 35 dX8_isAhead_23 rfl).trans (c_ne (fun h6 => ?_) (fun h6 => ?_))
    · refine (R_iload_n dX8_isAhead_26 rfl).trans ?_
      refine (R_iload_n dX8_isAhead_27 rfl).trans ?_
      refine (R_icmp 35 dX8_isAhead_28 rfl).trans (c_ge (fun h7 => ?_) (fun h7 => ?_))
      · refine (R_iconst 1 dX8_isAhead_31 iconst_1).trans ?_
        refine (R_goto 36 dX8_isAhead_32 rfl).trans ?_
        exact R_zreturn dX8_isAhead_36 (by decide) (by decide)
      · refine (R_iconst 0 dX8_isAhead_35 iconst_0).trans ?_
        exact R_zreturn dX8_isAhead_36 (by decide) (by decide)
    · refine (R_iconst 0 dX8_isAhead_35 iconst_0).trans ?_
      exact R_zreturn dX8_isAhead_36 (by decide) (by decide)
noncomputable def E_X8_goesWith : mE := fun k => if k = 87 then f_X8_fits else fun _ _ => none
theorem E_X8_goesWith_87 : E_X8_goesWith 87 = f_X8_fits := if_pos rfl
noncomputable def f_X8_goesWith : List mV → mM → Option mR := mm_fn E_X8_goesWith 8 2 8 cX8_goesWith
theorem k_X8_goesWith (l : Launch) : mm_OK l 132 f_X8_goesWith := mm_fn_ok l 132 8 E_X8_goesWith (by decide) rfl (by decide) (by
  intro k as μ q h
  by_cases h0 : k = 87
  · subst h0
    exact ⟨by rw [E_X8_goesWith_87]; exact k_X8_fits l, by decide, by decide, by decide⟩
  have e : E_X8_goesWith k = fun _ _ => none := (if_neg h0).trans (rfl)
  rw [e] at h
  cases h)
noncomputable def r_X8_goesWith_6 (l1 : Int32) (x2 : mV) (l3 : Int32) (l4 : Int32) (l5 : Int32) (x6 : mV) (x7 : mV) (μ : mM) : Option mR := mm_run E_X8_goesWith 8 2 cX8_goesWith (6, [vr 8 0, vi l1, x2, vi l3, vi l4, vi l5, x6, x7], [], μ)
set_option maxRecDepth 100000 in
set_option maxHeartbeats 4000000 in
theorem e_X8_goesWith (l1 : Int32) (l2 : Int32) (l3 : Int32) (μ : mM) : f_X8_goesWith [vr 8 0, vi l1, vi l2, vi l3] μ = r_X8_goesWith_6 l1 (vi l2) l3 1 l2 vu vu μ := by
  refine (show f_X8_goesWith [vr 8 0, vi l1, vi l2, vi l3] μ = mm_run E_X8_goesWith 8 2 cX8_goesWith (0, [vr 8 0, vi l1, vi l2, vi l3, vu, vu, vu, vu], [], μ) from rfl).trans ?_
  refine (R_iconst 1 dX8_goesWith_0 iconst_1).trans ?_
  refine (R_istore (ls' := [vr 8 0, vi l1, vi l2, vi l3, vi 1, vu, vu, vu]) dX8_goesWith_1 (Nat.le_of_ble_eq_true rfl) (by decide) rfl).trans ?_
  refine (R_iload_n dX8_goesWith_3 rfl).trans ?_
  refine (R_istore (ls' := [vr 8 0, vi l1, vi l2, vi l3, vi 1, vi l2, vu, vu]) dX8_goesWith_4 (Nat.le_of_ble_eq_true rfl) (by decide) rfl).trans ?_
  exact rfl
set_option maxRecDepth 100000 in
set_option maxHeartbeats 4000000 in
theorem e_X8_goesWith_6 (l1 : Int32) (x2 : mV) (l3 : Int32) (l4 : Int32) (l5 : Int32) (x6 : mV) (x7 : mV) (μ : mM) : r_X8_goesWith_6 l1 x2 l3 l4 l5 x6 x7 μ = (if l5 < l3 then (if l4 = 0 then (if l4 = 0 ∨ l4 = 1 then some (l4, μ) else none) else (ck 48 l5 (if l1 < 24 then (if μ 59 0 (Int32.toNatClampNeg l5) < 24 then r_X8_goesWith_6 l1 x2 l3 1 (l5 + 1) (vi (μ 59 0 (Int32.toNatClampNeg l5))) (vi 0) μ else (ck 5225 ((58 + (μ 59 0 (Int32.toNatClampNeg l5))) - 24) (Option.bind (f_X8_fits [vr 8 0, vi l1, vi (μ 50 0 (Int32.toNatClampNeg ((58 + (μ 59 0 (Int32.toNatClampNeg l5))) - 24)))] μ) (fun q5 => (if q5.1 = 0 then r_X8_goesWith_6 l1 x2 l3 0 (l5 + 1) (vi (μ 59 0 (Int32.toNatClampNeg l5))) (vi 1) q5.2 else r_X8_goesWith_6 l1 x2 l3 1 (l5 + 1) (vi (μ 59 0 (Int32.toNatClampNeg l5))) (vi 1) q5.2))))) else (if μ 59 0 (Int32.toNatClampNeg l5) < 24 then (ck 5225 ((58 + l1) - 24) (Option.bind (f_X8_fits [vr 8 0, vi (μ 59 0 (Int32.toNatClampNeg l5)), vi (μ 50 0 (Int32.toNatClampNeg ((58 + l1) - 24)))] μ) (fun q8 => (if q8.1 = 0 then r_X8_goesWith_6 l1 x2 l3 0 (l5 + 1) (vi (μ 59 0 (Int32.toNatClampNeg l5))) (vi 1) q8.2 else r_X8_goesWith_6 l1 x2 l3 1 (l5 + 1) (vi (μ 59 0 (Int32.toNatClampNeg l5))) (vi 1) q8.2)))) else r_X8_goesWith_6 l1 x2 l3 1 (l5 + 1) (vi (μ 59 0 (Int32.toNatClampNeg l5))) (vi 0) μ)))) else (if l4 = 0 ∨ l4 = 1 then some (l4, μ) else none)) := by
  refine (show r_X8_goesWith_6 l1 x2 l3 l4 l5 x6 x7 μ = mm_run E_X8_goesWith 8 2 cX8_goesWith (6, [vr 8 0, vi l1, x2, vi l3, vi l4, vi l5, x6, x7], [], μ) from rfl).trans ?_
  refine (R_iload dX8_goesWith_6 rfl).trans ?_
  refine (R_iload_n dX8_goesWith_8 rfl).trans ?_
  refine (R_icmp 128 dX8_goesWith_9 rfl).trans (c_ge (fun h1 => ?_) (fun h1 => ?_))
  · refine (R_iload dX8_goesWith_12 rfl).trans ?_
    refine (R_ifc 128 dX8_goesWith_14 rfl).trans (c_eq (fun h2 => ?_) (fun h2 => ?_))
    · refine (R_iload dX8_goesWith_128 rfl).trans ?_
      exact R_zreturn' dX8_goesWith_130 (by decide)
    · refine (R_aload_n dX8_goesWith_17 rfl (by decide)).trans ?_
      refine (gr_8_38 dX8_goesWith_18).trans ?_
      refine (R_iload dX8_goesWith_21 rfl).trans ?_
      refine (R_iaload dX8_goesWith_23 as_59).trans (ck_congr ?_)
      refine (R_istore (ls' := [vr 8 0, vi l1, x2, vi l3, vi l4, vi l5, vi (μ 59 0 (Int32.toNatClampNeg l5)), x7]) dX8_goesWith_24 (Nat.le_of_ble_eq_true rfl) (by decide) rfl).trans ?_
      refine (R_iload_n dX8_goesWith_26 rfl).trans ?_
      refine (R_bipush 24 dX8_goesWith_27 bipush_24).trans ?_
      refine (R_icmp 36 dX8_goesWith_29 rfl).trans (c_ge (fun h3 => ?_) (fun h3 => ?_))
      · refine (R_iconst 1 dX8_goesWith_32 iconst_1).trans ?_
        refine (R_goto 37 dX8_goesWith_33 rfl).trans ?_
        refine (R_iload dX8_goesWith_37 rfl).trans ?_
        refine (R_bipush 24 dX8_goesWith_39 bipush_24).trans ?_
        refine (R_icmp 48 dX8_goesWith_41 rfl).trans (c_ge (fun h4 => ?_) (fun h4 => ?_))
        · refine (R_iconst 1 dX8_goesWith_44 iconst_1).trans ?_
          refine (R_goto 49 dX8_goesWith_45 rfl).trans ?_
          refine (R_icmp 56 dX8_goesWith_49 rfl).trans ((p_eq_t (by decide)).trans ?_)
          refine (R_iconst 0 dX8_goesWith_56 iconst_0).trans ?_
          refine (R_istore (ls' := [vr 8 0, vi l1, x2, vi l3, vi l4, vi l5, vi (μ 59 0 (Int32.toNatClampNeg l5)), vi 0]) dX8_goesWith_57 (Nat.le_of_ble_eq_true rfl) (by decide) rfl).trans ?_
          refine (R_iload dX8_goesWith_59 rfl).trans ?_
          refine (R_ifc 115 dX8_goesWith_61 rfl).trans ((p_eq_t (by decide)).trans ?_)
          refine (R_iconst 1 dX8_goesWith_115 iconst_1).trans ?_
          refine (R_goto 120 dX8_goesWith_116 rfl).trans ?_
          refine (R_istore (ls' := [vr 8 0, vi l1, x2, vi l3, vi 1, vi l5, vi (μ 59 0 (Int32.toNatClampNeg l5)), vi 0]) dX8_goesWith_120 (Nat.le_of_ble_eq_true rfl) (by decide) rfl).trans ?_
          refine (R_iinc (ls' := [vr 8 0, vi l1, x2, vi l3, vi 1, vi (l5 + 1), vi (μ 59 0 (Int32.toNatClampNeg l5)), vi 0]) 1 dX8_goesWith_122 rfl iconst_1 (by decide) rfl).trans ?_
          refine (R_goto 6 dX8_goesWith_125 rfl).trans ?_
          exact rfl
        · refine (R_iconst 0 dX8_goesWith_48 iconst_0).trans ?_
          refine (R_icmp 56 dX8_goesWith_49 rfl).trans ((p_eq_f (by decide)).trans ?_)
          refine (R_iconst 1 dX8_goesWith_52 iconst_1).trans ?_
          refine (R_goto 57 dX8_goesWith_53 rfl).trans ?_
          refine (R_istore (ls' := [vr 8 0, vi l1, x2, vi l3, vi l4, vi l5, vi (μ 59 0 (Int32.toNatClampNeg l5)), vi 1]) dX8_goesWith_57 (Nat.le_of_ble_eq_true rfl) (by decide) rfl).trans ?_
          refine (R_iload dX8_goesWith_59 rfl).trans ?_
          refine (R_ifc 115 dX8_goesWith_61 rfl).trans ((p_eq_f (by decide)).trans ?_)
          refine (R_iload_n dX8_goesWith_64 rfl).trans ?_
          refine (R_bipush 24 dX8_goesWith_65 bipush_24).trans ?_
          refine (R_icmp 94 dX8_goesWith_67 rfl).trans ((p_ge_t h3).trans ?_)
          refine (R_aload_n dX8_goesWith_70 rfl (by decide)).trans ?_
          refine (R_iload_n dX8_goesWith_71 rfl).trans ?_
          refine (R_aload_n dX8_goesWith_72 rfl (by decide)).trans ?_
          refine (gr_8_7 dX8_goesWith_73).trans ?_
          refine (R_bipush 58 dX8_goesWith_76 bipush_58).trans ?_
          refine (R_iload dX8_goesWith_78 rfl).trans ?_
          refine (R_iadd dX8_goesWith_80).trans ?_
          refine (R_bipush 24 dX8_goesWith_81 bipush_24).trans ?_
          refine (R_isub dX8_goesWith_83).trans ?_
          refine (R_iaload dX8_goesWith_84 as_50).trans (ck_congr ?_)
          refine (R_cv_i (as := [vi l1, vi (μ 50 0 (Int32.toNatClampNeg ((58 + (μ 59 0 (Int32.toNatClampNeg l5))) - 24)))]) (rest := []) dX8_goesWith_85 mt_8_129 qp_87 qr_87 (E_X8_goesWith_87) rfl rfl rfl (Nat.le_of_ble_eq_true rfl)).trans (mm_bind (fun q5 => ?_))
          refine (R_ifc 119 dX8_goesWith_88 rfl).trans (c_eq (fun h6 => ?_) (fun h6 => ?_))
          · refine (R_iconst 0 dX8_goesWith_119 iconst_0).trans ?_
            refine (R_istore (ls' := [vr 8 0, vi l1, x2, vi l3, vi 0, vi l5, vi (μ 59 0 (Int32.toNatClampNeg l5)), vi 1]) dX8_goesWith_120 (Nat.le_of_ble_eq_true rfl) (by decide) rfl).trans ?_
            refine (R_iinc (ls' := [vr 8 0, vi l1, x2, vi l3, vi 0, vi (l5 + 1), vi (μ 59 0 (Int32.toNatClampNeg l5)), vi 1]) 1 dX8_goesWith_122 rfl iconst_1 (by decide) rfl).trans ?_
            refine (R_goto 6 dX8_goesWith_125 rfl).trans ?_
            exact rfl
          · refine (R_goto 115 dX8_goesWith_91 rfl).trans ?_
            refine (R_iconst 1 dX8_goesWith_115 iconst_1).trans ?_
            refine (R_goto 120 dX8_goesWith_116 rfl).trans ?_
            refine (R_istore (ls' := [vr 8 0, vi l1, x2, vi l3, vi 1, vi l5, vi (μ 59 0 (Int32.toNatClampNeg l5)), vi 1]) dX8_goesWith_120 (Nat.le_of_ble_eq_true rfl) (by decide) rfl).trans ?_
            refine (R_iinc (ls' := [vr 8 0, vi l1, x2, vi l3, vi 1, vi (l5 + 1), vi (μ 59 0 (Int32.toNatClampNeg l5)), vi 1]) 1 dX8_goesWith_122 rfl iconst_1 (by decide) rfl).trans ?_
            refine (R_goto 6 dX8_goesWith_125 rfl).trans ?_
            exact rfl
      · refine (R_iconst 0 dX8_goesWith_36 iconst_0).trans ?_
        refine (R_iload dX8_goesWith_37 rfl).trans ?_
        refine (R_bipush 24 dX8_goesWith_39 bipush_24).trans ?_
        refine (R_icmp 48 dX8_goesWith_41 rfl).trans (c_ge (fun h7 => ?_) (fun h7 => ?_))
        · refine (R_iconst 1 dX8_goesWith_44 iconst_1).trans ?_
          refine (R_goto 49 dX8_goesWith_45 rfl).trans ?_
          refine (R_icmp 56 dX8_goesWith_49 rfl).trans ((p_eq_f (by decide)).trans ?_)
          refine (R_iconst 1 dX8_goesWith_52 iconst_1).trans ?_
          refine (R_goto 57 dX8_goesWith_53 rfl).trans ?_
          refine (R_istore (ls' := [vr 8 0, vi l1, x2, vi l3, vi l4, vi l5, vi (μ 59 0 (Int32.toNatClampNeg l5)), vi 1]) dX8_goesWith_57 (Nat.le_of_ble_eq_true rfl) (by decide) rfl).trans ?_
          refine (R_iload dX8_goesWith_59 rfl).trans ?_
          refine (R_ifc 115 dX8_goesWith_61 rfl).trans ((p_eq_f (by decide)).trans ?_)
          refine (R_iload_n dX8_goesWith_64 rfl).trans ?_
          refine (R_bipush 24 dX8_goesWith_65 bipush_24).trans ?_
          refine (R_icmp 94 dX8_goesWith_67 rfl).trans ((p_ge_f h3).trans ?_)
          refine (R_aload_n dX8_goesWith_94 rfl (by decide)).trans ?_
          refine (R_iload dX8_goesWith_95 rfl).trans ?_
          refine (R_aload_n dX8_goesWith_97 rfl (by decide)).trans ?_
          refine (gr_8_7 dX8_goesWith_98).trans ?_
          refine (R_bipush 58 dX8_goesWith_101 bipush_58).trans ?_
          refine (R_iload_n dX8_goesWith_103 rfl).trans ?_
          refine (R_iadd dX8_goesWith_104).trans ?_
          refine (R_bipush 24 dX8_goesWith_105 bipush_24).trans ?_
          refine (R_isub dX8_goesWith_107).trans ?_
          refine (R_iaload dX8_goesWith_108 as_50).trans (ck_congr ?_)
          refine (R_cv_i (as := [vi (μ 59 0 (Int32.toNatClampNeg l5)), vi (μ 50 0 (Int32.toNatClampNeg ((58 + l1) - 24)))]) (rest := []) dX8_goesWith_109 mt_8_129 qp_87 qr_87 (E_X8_goesWith_87) rfl rfl rfl (Nat.le_of_ble_eq_true rfl)).trans (mm_bind (fun q8 => ?_))
          refine (R_ifc 119 dX8_goesWith_112 rfl).trans (c_eq (fun h9 => ?_) (fun h9 => ?_))
          · refine (R_iconst 0 dX8_goesWith_119 iconst_0).trans ?_
            refine (R_istore (ls' := [vr 8 0, vi l1, x2, vi l3, vi 0, vi l5, vi (μ 59 0 (Int32.toNatClampNeg l5)), vi 1]) dX8_goesWith_120 (Nat.le_of_ble_eq_true rfl) (by decide) rfl).trans ?_
            refine (R_iinc (ls' := [vr 8 0, vi l1, x2, vi l3, vi 0, vi (l5 + 1), vi (μ 59 0 (Int32.toNatClampNeg l5)), vi 1]) 1 dX8_goesWith_122 rfl iconst_1 (by decide) rfl).trans ?_
            refine (R_goto 6 dX8_goesWith_125 rfl).trans ?_
            exact rfl
          · refine (R_iconst 1 dX8_goesWith_115 iconst_1).trans ?_
            refine (R_goto 120 dX8_goesWith_116 rfl).trans ?_
            refine (R_istore (ls' := [vr 8 0, vi l1, x2, vi l3, vi 1, vi l5, vi (μ 59 0 (Int32.toNatClampNeg l5)), vi 1]) dX8_goesWith_120 (Nat.le_of_ble_eq_true rfl) (by decide) rfl).trans ?_
            refine (R_iinc (ls' := [vr 8 0, vi l1, x2, vi l3, vi 1, vi (l5 + 1), vi (μ 59 0 (Int32.toNatClampNeg l5)), vi 1]) 1 dX8_goesWith_122 rfl iconst_1 (by decide) rfl).trans ?_
            refine (R_goto 6 dX8_goesWith_125 rfl).trans ?_
            exact rfl
        · refine (R_iconst 0 dX8_goesWith_48 iconst_0).trans ?_
          refine (R_icmp 56 dX8_goesWith_49 rfl).trans ((p_eq_t (by decide)).trans ?_)
          refine (R_iconst 0 dX8_goesWith_56 iconst_0).trans ?_
          refine (R_istore (ls' := [vr 8 0, vi l1, x2, vi l3, vi l4, vi l5, vi (μ 59 0 (Int32.toNatClampNeg l5)), vi 0]) dX8_goesWith_57 (Nat.le_of_ble_eq_true rfl) (by decide) rfl).trans ?_
          refine (R_iload dX8_goesWith_59 rfl).trans ?_
          refine (R_ifc 115 dX8_goesWith_61 rfl).trans ((p_eq_t (by decide)).trans ?_)
          refine (R_iconst 1 dX8_goesWith_115 iconst_1).trans ?_
          refine (R_goto 120 dX8_goesWith_116 rfl).trans ?_
          refine (R_istore (ls' := [vr 8 0, vi l1, x2, vi l3, vi 1, vi l5, vi (μ 59 0 (Int32.toNatClampNeg l5)), vi 0]) dX8_goesWith_120 (Nat.le_of_ble_eq_true rfl) (by decide) rfl).trans ?_
          refine (R_iinc (ls' := [vr 8 0, vi l1, x2, vi l3, vi 1, vi (l5 + 1), vi (μ 59 0 (Int32.toNatClampNeg l5)), vi 0]) 1 dX8_goesWith_122 rfl iconst_1 (by decide) rfl).trans ?_
          refine (R_goto 6 dX8_goesWith_125 rfl).trans ?_
          exact rfl
  · refine (R_iload dX8_goesWith_128 rfl).trans ?_
    exact R_zreturn' dX8_goesWith_130 (by decide)
noncomputable def E_X8_see : mE := fun k => if k = 81 then f_X8_isGrade else if k = 82 then f_X8_isSize else fun _ _ => none
theorem E_X8_see_81 : E_X8_see 81 = f_X8_isGrade := if_pos rfl
theorem E_X8_see_82 : E_X8_see 82 = f_X8_isSize := (if_neg (by decide)).trans (if_pos rfl)
noncomputable def f_X8_see : List mV → mM → Option mR := mm_fn E_X8_see 8 1 4 cX8_see
theorem k_X8_see (l : Launch) : mm_OK l 135 f_X8_see := mm_fn_ok l 135 8 E_X8_see (by decide) rfl (by decide) (by
  intro k as μ q h
  by_cases h0 : k = 81
  · subst h0
    exact ⟨by rw [E_X8_see_81]; exact k_X8_isGrade l, by decide, by decide, by decide⟩
  by_cases h1 : k = 82
  · subst h1
    exact ⟨by rw [E_X8_see_82]; exact k_X8_isSize l, by decide, by decide, by decide⟩
  have e : E_X8_see k = fun _ _ => none := (if_neg h0).trans ((if_neg h1).trans (rfl))
  rw [e] at h
  cases h)
set_option maxRecDepth 100000 in
set_option maxHeartbeats 4000000 in
theorem e_X8_see (l1 : Int32) (l2 : Int32) (l3 : Int32) (μ : mM) : f_X8_see [vr 8 0, vi l1, vi l2, vi l3] μ = (Option.bind (f_X8_isGrade [vi l1] μ) (fun q1 => (if q1.1 = 0 then some ((-1000000001), q1.2) else (Option.bind (f_X8_isSize [vi l2] q1.2) (fun q3 => (if q3.1 = 0 then some ((-1000000002), q3.2) else (if q3.2 8 0 8 = 6 then some ((-1000000004), q3.2) else (ck 6 (q3.2 8 0 8) (wr (mm_up q3.2 56 0 (Int32.toNatClampNeg (q3.2 8 0 8)) l1) (fun m6 => (ck 6 (m6 8 0 8) (wr (mm_up m6 57 0 (Int32.toNatClampNeg (m6 8 0 8)) l2) (fun m7 => (ck 6 (m7 8 0 8) (wr (mm_up m7 58 0 (Int32.toNatClampNeg (m7 8 0 8)) (vp_nar .boolean l3)) (fun m8 => (wr (mm_up m8 8 0 8 ((m8 8 0 8) + 1)) (fun m9 => some (m9 8 0 8, m9))))))))))))))))))) := by
  refine (show f_X8_see [vr 8 0, vi l1, vi l2, vi l3] μ = mm_run E_X8_see 8 1 cX8_see (0, [vr 8 0, vi l1, vi l2, vi l3], [], μ) from rfl).trans ?_
  refine (R_iload_n dX8_see_0 rfl).trans ?_
  refine (R_cs_i (as := [vi l1]) (rest := []) dX8_see_1 mt_8_142 (by decide) qp_81 qr_81 (E_X8_see_81) (Nat.le_of_ble_eq_true rfl) rfl rfl (Nat.le_of_ble_eq_true rfl)).trans (mm_bind (fun q1 => ?_))
  refine (R_ifc 10 dX8_see_4 rfl).trans (c_ne (fun h2 => ?_) (fun h2 => ?_))
  · refine (R_ldc dX8_see_7 kt_8_128).trans ?_
    exact R_ireturn dX8_see_9 rfl
  · refine (R_iload_n dX8_see_10 rfl).trans ?_
    refine (R_cs_i (as := [vi l2]) (rest := []) dX8_see_11 mt_8_74 (by decide) qp_82 qr_82 (E_X8_see_82) (Nat.le_of_ble_eq_true rfl) rfl rfl (Nat.le_of_ble_eq_true rfl)).trans (mm_bind (fun q3 => ?_))
    refine (R_ifc 20 dX8_see_14 rfl).trans (c_ne (fun h4 => ?_) (fun h4 => ?_))
    · refine (R_ldc dX8_see_17 kt_8_118).trans ?_
      exact R_ireturn dX8_see_19 rfl
    · refine (R_aload_n dX8_see_20 rfl (by decide)).trans ?_
      refine (gi_8_78 dX8_see_21).trans ?_
      refine (R_bipush 6 dX8_see_24 bipush_6).trans ?_
      refine (R_icmp 32 dX8_see_26 rfl).trans (c_ne (fun h5 => ?_) (fun h5 => ?_))
      · refine (R_ldc dX8_see_29 kt_8_160).trans ?_
        exact R_ireturn dX8_see_31 rfl
      · refine (R_aload_n dX8_see_32 rfl (by decide)).trans ?_
        refine (gr_8_29 dX8_see_33).trans ?_
        refine (R_aload_n dX8_see_36 rfl (by decide)).trans ?_
        refine (gi_8_78 dX8_see_37).trans ?_
        refine (R_iload_n dX8_see_40 rfl).trans ?_
        refine (R_iastore dX8_see_41 as_56).trans (ck_congr ?_)
        refine wr_intro (g := fun m => mm_run E_X8_see 8 1 cX8_see (42, [vr 8 0, vi l1, vi l2, vi l3], [], m)) (fun m6 => ?_)
        refine (R_aload_n dX8_see_42 rfl (by decide)).trans ?_
        refine (gr_8_32 dX8_see_43).trans ?_
        refine (R_aload_n dX8_see_46 rfl (by decide)).trans ?_
        refine (gi_8_78 dX8_see_47).trans ?_
        refine (R_iload_n dX8_see_50 rfl).trans ?_
        refine (R_iastore dX8_see_51 as_57).trans (ck_congr ?_)
        refine wr_intro (g := fun m => mm_run E_X8_see 8 1 cX8_see (52, [vr 8 0, vi l1, vi l2, vi l3], [], m)) (fun m7 => ?_)
        refine (R_aload_n dX8_see_52 rfl (by decide)).trans ?_
        refine (gr_8_35 dX8_see_53).trans ?_
        refine (R_aload_n dX8_see_56 rfl (by decide)).trans ?_
        refine (gi_8_78 dX8_see_57).trans ?_
        refine (R_iload_n dX8_see_60 rfl).trans ?_
        refine (R_bastore dX8_see_61 as_58).trans (ck_congr ?_)
        refine wr_intro (g := fun m => mm_run E_X8_see 8 1 cX8_see (62, [vr 8 0, vi l1, vi l2, vi l3], [], m)) (fun m8 => ?_)
        refine (R_aload_n dX8_see_62 rfl (by decide)).trans ?_
        refine (R_dup dX8_see_63 rfl).trans ?_
        refine (gi_8_78 dX8_see_64).trans ?_
        refine (R_iconst 1 dX8_see_67 iconst_1).trans ?_
        refine (R_iadd dX8_see_68).trans ?_
        refine (R_pi dX8_see_69 ft_8_78 fs_8_8).trans ?_
        refine wr_intro (g := fun m => mm_run E_X8_see 8 1 cX8_see (72, [vr 8 0, vi l1, vi l2, vi l3], [], m)) (fun m9 => ?_)
        refine (R_aload_n dX8_see_72 rfl (by decide)).trans ?_
        refine (gi_8_78 dX8_see_73).trans ?_
        exact R_ireturn dX8_see_76 rfl
noncomputable def E_X8_goBack : mE := fun k => if k = 79 then f_X8_in else if k = 80 then f_X8_copy else if k = 112 then f_X8_comesSort else fun _ _ => none
theorem E_X8_goBack_79 : E_X8_goBack 79 = f_X8_in := if_pos rfl
theorem E_X8_goBack_80 : E_X8_goBack 80 = f_X8_copy := (if_neg (by decide)).trans (if_pos rfl)
theorem E_X8_goBack_112 : E_X8_goBack 112 = f_X8_comesSort := (if_neg (by decide)).trans ((if_neg (by decide)).trans (if_pos rfl))
noncomputable def f_X8_goBack : List mV → mM → Option mR := mm_fn E_X8_goBack 8 1 3 cX8_goBack
theorem k_X8_goBack (l : Launch) : mm_OK l 139 f_X8_goBack := mm_fn_ok l 139 8 E_X8_goBack (by decide) rfl (by decide) (by
  intro k as μ q h
  by_cases h0 : k = 79
  · subst h0
    exact ⟨by rw [E_X8_goBack_79]; exact k_X8_in l, by decide, by decide, by decide⟩
  by_cases h1 : k = 80
  · subst h1
    exact ⟨by rw [E_X8_goBack_80]; exact k_X8_copy l, by decide, by decide, by decide⟩
  by_cases h2 : k = 112
  · subst h2
    exact ⟨by rw [E_X8_goBack_112]; exact k_X8_comesSort l, by decide, by decide, by decide⟩
  have e : E_X8_goBack k = fun _ _ => none := (if_neg h0).trans ((if_neg h1).trans ((if_neg h2).trans (rfl)))
  rw [e] at h
  cases h)
noncomputable def r_X8_goBack_64 (x1 : mV) (l2 : Int32) (μ : mM) : Option mR := mm_run E_X8_goBack 8 1 cX8_goBack (64, [vr 8 0, x1, vi l2], [], μ)
noncomputable def r_X8_goBack_105 (x1 : mV) (l2 : Int32) (μ : mM) : Option mR := mm_run E_X8_goBack 8 1 cX8_goBack (105, [vr 8 0, x1, vi l2], [], μ)
set_option maxRecDepth 100000 in
set_option maxHeartbeats 4000000 in
theorem e_X8_goBack (l1 : Int32) (μ : mM) : f_X8_goBack [vr 8 0, vi l1] μ = (Option.bind (f_X8_in [vl (Int32.toInt64 l1), vl 0, vl 1] μ) (fun q1 => (if q1.1 = 0 then some ((-1000000001), q1.2) else (ck 2 l1 (if q1.2 51 0 (Int32.toNatClampNeg l1) = 0 then some ((-1000000003), q1.2) else (Option.bind (f_X8_copy [vr 8 0, vi (275 + (275 * l1)), vi 0] q1.2) (fun q4 => (ck 2 l1 (wr (mm_up q4.2 8 0 4 (q4.2 52 0 (Int32.toNatClampNeg l1))) (fun m5 => (wr (mm_up m5 8 0 3 0) (fun m6 => (ck 5225 82 (wr (mm_up m6 50 0 (Int32.toNatClampNeg 82) 0) (fun m7 => r_X8_goBack_64 (vi l1) 0 m7))))))))))))))) := by
  refine (show f_X8_goBack [vr 8 0, vi l1] μ = mm_run E_X8_goBack 8 1 cX8_goBack (0, [vr 8 0, vi l1, vu], [], μ) from rfl).trans ?_
  refine (R_iload_n dX8_goBack_0 rfl).trans ?_
  refine (R_i2l dX8_goBack_1).trans ?_
  refine (R_lconst 0 dX8_goBack_2 lconst_0).trans ?_
  refine (R_lconst 1 dX8_goBack_3 lconst_1).trans ?_
  refine (R_cs_i (as := [vl (Int32.toInt64 l1), vl 0, vl 1]) (rest := []) dX8_goBack_4 mt_8_50 (by decide) qp_79 qr_79 (E_X8_goBack_79) (Nat.le_of_ble_eq_true rfl) rfl rfl (Nat.le_of_ble_eq_true rfl)).trans (mm_bind (fun q1 => ?_))
  refine (R_ifc 13 dX8_goBack_7 rfl).trans (c_ne (fun h2 => ?_) (fun h2 => ?_))
  · refine (R_ldc dX8_goBack_10 kt_8_128).trans ?_
    exact R_ireturn dX8_goBack_12 rfl
  · refine (R_aload_n dX8_goBack_13 rfl (by decide)).trans ?_
    refine (gr_8_13 dX8_goBack_14).trans ?_
    refine (R_iload_n dX8_goBack_17 rfl).trans ?_
    refine (R_baload dX8_goBack_18 as_51).trans (ck_congr ?_)
    refine (R_ifc 25 dX8_goBack_19 rfl).trans (c_ne (fun h3 => ?_) (fun h3 => ?_))
    · refine (R_ldc dX8_goBack_22 kt_8_176).trans ?_
      exact R_ireturn dX8_goBack_24 rfl
    · refine (R_aload_n dX8_goBack_25 rfl (by decide)).trans ?_
      refine (R_sipush 275 dX8_goBack_26 sipush_275).trans ?_
      refine (R_sipush 275 dX8_goBack_29 sipush_275).trans ?_
      refine (R_iload_n dX8_goBack_32 rfl).trans ?_
      refine (R_imul dX8_goBack_33).trans ?_
      refine (R_iadd dX8_goBack_34).trans ?_
      refine (R_iconst 0 dX8_goBack_35 iconst_0).trans ?_
      refine (R_cv_v (as := [vi (275 + (275 * l1)), vi 0]) (rest := []) dX8_goBack_36 mt_8_150 qp_80 qr_80 (E_X8_goBack_80) rfl rfl rfl (Nat.le_of_ble_eq_true rfl)).trans (mm_bind (fun q4 => ?_))
      refine (R_aload_n dX8_goBack_39 rfl (by decide)).trans ?_
      refine (R_aload_n dX8_goBack_40 rfl (by decide)).trans ?_
      refine (gr_8_17 dX8_goBack_41).trans ?_
      refine (R_iload_n dX8_goBack_44 rfl).trans ?_
      refine (R_iaload dX8_goBack_45 as_52).trans (ck_congr ?_)
      refine (R_pi dX8_goBack_46 ft_8_44 fs_8_4).trans ?_
      refine wr_intro (g := fun m => mm_run E_X8_goBack 8 1 cX8_goBack (49, [vr 8 0, vi l1, vu], [], m)) (fun m5 => ?_)
      refine (R_aload_n dX8_goBack_49 rfl (by decide)).trans ?_
      refine (R_iconst 0 dX8_goBack_50 iconst_0).trans ?_
      refine (R_pi dX8_goBack_51 ft_8_115 fs_8_3).trans ?_
      refine wr_intro (g := fun m => mm_run E_X8_goBack 8 1 cX8_goBack (54, [vr 8 0, vi l1, vu], [], m)) (fun m6 => ?_)
      refine (R_aload_n dX8_goBack_54 rfl (by decide)).trans ?_
      refine (gr_8_7 dX8_goBack_55).trans ?_
      refine (R_bipush 82 dX8_goBack_58 bipush_82).trans ?_
      refine (R_iconst 0 dX8_goBack_60 iconst_0).trans ?_
      refine (R_iastore dX8_goBack_61 as_50).trans (ck_congr ?_)
      refine wr_intro (g := fun m => mm_run E_X8_goBack 8 1 cX8_goBack (62, [vr 8 0, vi l1, vu], [], m)) (fun m7 => ?_)
      refine (R_iconst 0 dX8_goBack_62 iconst_0).trans ?_
      refine (R_istore_n (ls' := [vr 8 0, vi l1, vi 0]) dX8_goBack_63 (Nat.le_of_ble_eq_true rfl) (by decide) rfl).trans ?_
      exact rfl
set_option maxRecDepth 100000 in
set_option maxHeartbeats 4000000 in
theorem e_X8_goBack_64 (x1 : mV) (l2 : Int32) (μ : mM) : r_X8_goBack_64 x1 l2 μ = (ck 5225 8 (if l2 < μ 50 0 (Int32.toNatClampNeg 8) then (ck 5225 (9 + l2) (ck 5225 (33 + l2) (Option.bind (f_X8_comesSort [vr 8 0, vi (μ 50 0 (Int32.toNatClampNeg (9 + l2))), vi (μ 50 0 (Int32.toNatClampNeg (33 + l2)))] μ) (fun q2 => r_X8_goBack_64 x1 (l2 + 1) q2.2)))) else r_X8_goBack_105 x1 0 μ)) := by
  refine (show r_X8_goBack_64 x1 l2 μ = mm_run E_X8_goBack 8 1 cX8_goBack (64, [vr 8 0, x1, vi l2], [], μ) from rfl).trans ?_
  refine (R_iload_n dX8_goBack_64 rfl).trans ?_
  refine (R_aload_n dX8_goBack_65 rfl (by decide)).trans ?_
  refine (gr_8_7 dX8_goBack_66).trans ?_
  refine (R_bipush 8 dX8_goBack_69 bipush_8).trans ?_
  refine (R_iaload dX8_goBack_71 as_50).trans (ck_congr ?_)
  refine (R_icmp 103 dX8_goBack_72 rfl).trans (c_ge (fun h1 => ?_) (fun h1 => ?_))
  · refine (R_aload_n dX8_goBack_75 rfl (by decide)).trans ?_
    refine (R_aload_n dX8_goBack_76 rfl (by decide)).trans ?_
    refine (gr_8_7 dX8_goBack_77).trans ?_
    refine (R_bipush 9 dX8_goBack_80 bipush_9).trans ?_
    refine (R_iload_n dX8_goBack_82 rfl).trans ?_
    refine (R_iadd dX8_goBack_83).trans ?_
    refine (R_iaload dX8_goBack_84 as_50).trans (ck_congr ?_)
    refine (R_aload_n dX8_goBack_85 rfl (by decide)).trans ?_
    refine (gr_8_7 dX8_goBack_86).trans ?_
    refine (R_bipush 33 dX8_goBack_89 bipush_33).trans ?_
    refine (R_iload_n dX8_goBack_91 rfl).trans ?_
    refine (R_iadd dX8_goBack_92).trans ?_
    refine (R_iaload dX8_goBack_93 as_50).trans (ck_congr ?_)
    refine (R_cv_v (as := [vi (μ 50 0 (Int32.toNatClampNeg (9 + l2))), vi (μ 50 0 (Int32.toNatClampNeg (33 + l2)))]) (rest := []) dX8_goBack_94 mt_8_154 qp_112 qr_112 (E_X8_goBack_112) rfl rfl rfl (Nat.le_of_ble_eq_true rfl)).trans (mm_bind (fun q2 => ?_))
    refine (R_iinc (ls' := [vr 8 0, x1, vi (l2 + 1)]) 1 dX8_goBack_97 rfl iconst_1 (by decide) rfl).trans ?_
    refine (R_goto 64 dX8_goBack_100 rfl).trans ?_
    exact rfl
  · refine (R_iconst 0 dX8_goBack_103 iconst_0).trans ?_
    refine (R_istore_n (ls' := [vr 8 0, x1, vi 0]) dX8_goBack_104 (Nat.le_of_ble_eq_true rfl) (by decide) rfl).trans ?_
    exact rfl
set_option maxRecDepth 100000 in
set_option maxHeartbeats 4000000 in
theorem e_X8_goBack_105 (x1 : mV) (l2 : Int32) (μ : mM) : r_X8_goBack_105 x1 l2 μ = (ck 5225 57 (if l2 < μ 50 0 (Int32.toNatClampNeg 57) then (ck 5225 (58 + l2) (Option.bind (f_X8_comesSort [vr 8 0, vi 4, vi (μ 50 0 (Int32.toNatClampNeg (58 + l2)))] μ) (fun q2 => r_X8_goBack_105 x1 (l2 + 1) q2.2))) else some (1, μ))) := by
  refine (show r_X8_goBack_105 x1 l2 μ = mm_run E_X8_goBack 8 1 cX8_goBack (105, [vr 8 0, x1, vi l2], [], μ) from rfl).trans ?_
  refine (R_iload_n dX8_goBack_105 rfl).trans ?_
  refine (R_aload_n dX8_goBack_106 rfl (by decide)).trans ?_
  refine (gr_8_7 dX8_goBack_107).trans ?_
  refine (R_bipush 57 dX8_goBack_110 bipush_57).trans ?_
  refine (R_iaload dX8_goBack_112 as_50).trans (ck_congr ?_)
  refine (R_icmp 136 dX8_goBack_113 rfl).trans (c_ge (fun h1 => ?_) (fun h1 => ?_))
  · refine (R_aload_n dX8_goBack_116 rfl (by decide)).trans ?_
    refine (R_iconst 4 dX8_goBack_117 iconst_4).trans ?_
    refine (R_aload_n dX8_goBack_118 rfl (by decide)).trans ?_
    refine (gr_8_7 dX8_goBack_119).trans ?_
    refine (R_bipush 58 dX8_goBack_122 bipush_58).trans ?_
    refine (R_iload_n dX8_goBack_124 rfl).trans ?_
    refine (R_iadd dX8_goBack_125).trans ?_
    refine (R_iaload dX8_goBack_126 as_50).trans (ck_congr ?_)
    refine (R_cv_v (as := [vi 4, vi (μ 50 0 (Int32.toNatClampNeg (58 + l2)))]) (rest := []) dX8_goBack_127 mt_8_154 qp_112 qr_112 (E_X8_goBack_112) rfl rfl rfl (Nat.le_of_ble_eq_true rfl)).trans (mm_bind (fun q2 => ?_))
    refine (R_iinc (ls' := [vr 8 0, x1, vi (l2 + 1)]) 1 dX8_goBack_130 rfl iconst_1 (by decide) rfl).trans ?_
    refine (R_goto 105 dX8_goBack_133 rfl).trans ?_
    exact rfl
  · refine (R_iconst 1 dX8_goBack_136 iconst_1).trans ?_
    exact R_ireturn dX8_goBack_137 rfl
noncomputable def E_X0_mostWorth : mE := fun k => if k = 3 then f_X0_tryLastBox else fun _ _ => none
theorem E_X0_mostWorth_3 : E_X0_mostWorth 3 = f_X0_tryLastBox := if_pos rfl
noncomputable def f_X0_mostWorth : List mV → mM → Option mR := mm_fn E_X0_mostWorth 0 1 4 cX0_mostWorth
theorem k_X0_mostWorth (l : Launch) : mm_OK l 2 f_X0_mostWorth := mm_fn_ok l 2 0 E_X0_mostWorth (by decide) rfl (by decide) (by
  intro k as μ q h
  by_cases h0 : k = 3
  · subst h0
    exact ⟨by rw [E_X0_mostWorth_3]; exact k_X0_tryLastBox l, by decide, by decide, by decide⟩
  have e : E_X0_mostWorth k = fun _ _ => none := (if_neg h0).trans (rfl)
  rw [e] at h
  cases h)
noncomputable def r_X0_mostWorth_2 (l1 : Int32) (l2 : Int32) (x3 : mV) (μ : mM) : Option mR := mm_run E_X0_mostWorth 0 1 cX0_mostWorth (2, [vr 0 0, vi l1, vi l2, x3], [], μ)
noncomputable def r_X0_mostWorth_12 (l1 : Int32) (l2 : Int32) (l3 : Int32) (μ : mM) : Option mR := mm_run E_X0_mostWorth 0 1 cX0_mostWorth (12, [vr 0 0, vi l1, vi l2, vi l3], [], μ)
set_option maxRecDepth 100000 in
set_option maxHeartbeats 4000000 in
theorem e_X0_mostWorth (l1 : Int32) (μ : mM) : f_X0_mostWorth [vr 0 0, vi l1] μ = r_X0_mostWorth_2 l1 1 vu μ := by
  refine (show f_X0_mostWorth [vr 0 0, vi l1] μ = mm_run E_X0_mostWorth 0 1 cX0_mostWorth (0, [vr 0 0, vi l1, vu, vu], [], μ) from rfl).trans ?_
  refine (R_iconst 1 dX0_mostWorth_0 iconst_1).trans ?_
  refine (R_istore_n (ls' := [vr 0 0, vi l1, vi 1, vu]) dX0_mostWorth_1 (Nat.le_of_ble_eq_true rfl) (by decide) rfl).trans ?_
  exact rfl
set_option maxRecDepth 100000 in
set_option maxHeartbeats 4000000 in
theorem e_X0_mostWorth_2 (l1 : Int32) (l2 : Int32) (x3 : mV) (μ : mM) : r_X0_mostWorth_2 l1 l2 x3 μ = (if μ 0 0 4 < l2 then (ck 10 l1 (ck 49 (μ 0 0 4) (some (μ 34 ((Int32.toNatClampNeg l1) + 0) (Int32.toNatClampNeg (μ 0 0 4)), μ)))) else r_X0_mostWorth_12 l1 l2 1 μ) := by
  refine (show r_X0_mostWorth_2 l1 l2 x3 μ = mm_run E_X0_mostWorth 0 1 cX0_mostWorth (2, [vr 0 0, vi l1, vi l2, x3], [], μ) from rfl).trans ?_
  refine (R_iload_n dX0_mostWorth_2 rfl).trans ?_
  refine (R_aload_n dX0_mostWorth_3 rfl (by decide)).trans ?_
  refine (gi_0_27 dX0_mostWorth_4).trans ?_
  refine (R_icmp 53 dX0_mostWorth_7 rfl).trans (c_gt (fun h1 => ?_) (fun h1 => ?_))
  · refine (R_aload_n dX0_mostWorth_53 rfl (by decide)).trans ?_
    refine (gr_0_24 dX0_mostWorth_54).trans ?_
    refine (R_iload_n dX0_mostWorth_57 rfl).trans ?_
    refine (R_aaload dX0_mostWorth_58 as_33).trans (ck_congr ?_)
    refine (R_aload_n dX0_mostWorth_59 rfl (by decide)).trans ?_
    refine (gi_0_27 dX0_mostWorth_60).trans ?_
    refine (R_iaload dX0_mostWorth_63 as_34).trans (ck_congr ?_)
    exact R_ireturn dX0_mostWorth_64 rfl
  · refine (R_iconst 1 dX0_mostWorth_10 iconst_1).trans ?_
    refine (R_istore_n (ls' := [vr 0 0, vi l1, vi l2, vi 1]) dX0_mostWorth_11 (Nat.le_of_ble_eq_true rfl) (by decide) rfl).trans ?_
    exact rfl
set_option maxRecDepth 100000 in
set_option maxHeartbeats 4000000 in
theorem e_X0_mostWorth_12 (l1 : Int32) (l2 : Int32) (l3 : Int32) (μ : mM) : r_X0_mostWorth_12 l1 l2 l3 μ = (if l1 < l3 then (Option.bind (f_X0_tryLastBox [vr 0 0, vi l2, vi l1] μ) (fun q2 => r_X0_mostWorth_2 l1 (l2 + 1) (vi l3) q2.2)) else (ck 10 l3 (ck 10 l3 (ck 49 (l2 - 1) (ck 49 l2 (wr (mm_up μ 34 ((Int32.toNatClampNeg l3) + 0) (Int32.toNatClampNeg l2) (μ 34 ((Int32.toNatClampNeg l3) + 0) (Int32.toNatClampNeg (l2 - 1)))) (fun m3 => r_X0_mostWorth_12 l1 l2 (l3 + 1) m3))))))) := by
  refine (show r_X0_mostWorth_12 l1 l2 l3 μ = mm_run E_X0_mostWorth 0 1 cX0_mostWorth (12, [vr 0 0, vi l1, vi l2, vi l3], [], μ) from rfl).trans ?_
  refine (R_iload_n dX0_mostWorth_12 rfl).trans ?_
  refine (R_iload_n dX0_mostWorth_13 rfl).trans ?_
  refine (R_icmp 41 dX0_mostWorth_14 rfl).trans (c_gt (fun h1 => ?_) (fun h1 => ?_))
  · refine (R_aload_n dX0_mostWorth_41 rfl (by decide)).trans ?_
    refine (R_iload_n dX0_mostWorth_42 rfl).trans ?_
    refine (R_iload_n dX0_mostWorth_43 rfl).trans ?_
    refine (R_cv_v (as := [vi l2, vi l1]) (rest := []) dX0_mostWorth_44 mt_0_59 qp_3 qr_3 (E_X0_mostWorth_3) rfl rfl rfl (Nat.le_of_ble_eq_true rfl)).trans (mm_bind (fun q2 => ?_))
    refine (R_iinc (ls' := [vr 0 0, vi l1, vi (l2 + 1), vi l3]) 1 dX0_mostWorth_47 rfl iconst_1 (by decide) rfl).trans ?_
    refine (R_goto 2 dX0_mostWorth_50 rfl).trans ?_
    exact rfl
  · refine (R_aload_n dX0_mostWorth_17 rfl (by decide)).trans ?_
    refine (gr_0_24 dX0_mostWorth_18).trans ?_
    refine (R_iload_n dX0_mostWorth_21 rfl).trans ?_
    refine (R_aaload dX0_mostWorth_22 as_33).trans (ck_congr ?_)
    refine (R_iload_n dX0_mostWorth_23 rfl).trans ?_
    refine (R_aload_n dX0_mostWorth_24 rfl (by decide)).trans ?_
    refine (gr_0_24 dX0_mostWorth_25).trans ?_
    refine (R_iload_n dX0_mostWorth_28 rfl).trans ?_
    refine (R_aaload dX0_mostWorth_29 as_33).trans (ck_congr ?_)
    refine (R_iload_n dX0_mostWorth_30 rfl).trans ?_
    refine (R_iconst 1 dX0_mostWorth_31 iconst_1).trans ?_
    refine (R_isub dX0_mostWorth_32).trans ?_
    refine (R_iaload dX0_mostWorth_33 as_34).trans (ck_congr ?_)
    refine (R_iastore dX0_mostWorth_34 as_34).trans (ck_congr ?_)
    refine wr_intro (g := fun m => mm_run E_X0_mostWorth 0 1 cX0_mostWorth (35, [vr 0 0, vi l1, vi l2, vi l3], [], m)) (fun m3 => ?_)
    refine (R_iinc (ls' := [vr 0 0, vi l1, vi l2, vi (l3 + 1)]) 1 dX0_mostWorth_35 rfl iconst_1 (by decide) rfl).trans ?_
    refine (R_goto 12 dX0_mostWorth_38 rfl).trans ?_
    exact rfl
noncomputable def E_X4_shaftToTry : mE := fun k => if k = 16 then f_X4_count else if k = 47 then f_X6_begin else if k = 48 then f_X6_end else if k = 17 then f_X4_countWithin else if k = 141 then f_J9_max_7cf53 else fun _ _ => none
theorem E_X4_shaftToTry_16 : E_X4_shaftToTry 16 = f_X4_count := if_pos rfl
theorem E_X4_shaftToTry_47 : E_X4_shaftToTry 47 = f_X6_begin := (if_neg (by decide)).trans (if_pos rfl)
theorem E_X4_shaftToTry_48 : E_X4_shaftToTry 48 = f_X6_end := (if_neg (by decide)).trans ((if_neg (by decide)).trans (if_pos rfl))
theorem E_X4_shaftToTry_17 : E_X4_shaftToTry 17 = f_X4_countWithin := (if_neg (by decide)).trans ((if_neg (by decide)).trans ((if_neg (by decide)).trans (if_pos rfl)))
theorem E_X4_shaftToTry_141 : E_X4_shaftToTry 141 = f_J9_max_7cf53 := (if_neg (by decide)).trans ((if_neg (by decide)).trans ((if_neg (by decide)).trans ((if_neg (by decide)).trans (if_pos rfl))))
noncomputable def f_X4_shaftToTry : List mV → mM → Option mR := mm_fn E_X4_shaftToTry 4 1 8 cX4_shaftToTry
theorem k_X4_shaftToTry (l : Launch) : mm_OK l 20 f_X4_shaftToTry := mm_fn_ok l 20 4 E_X4_shaftToTry (by decide) rfl (by decide) (by
  intro k as μ q h
  by_cases h0 : k = 16
  · subst h0
    exact ⟨by rw [E_X4_shaftToTry_16]; exact k_X4_count l, by decide, by decide, by decide⟩
  by_cases h1 : k = 47
  · subst h1
    exact ⟨by rw [E_X4_shaftToTry_47]; exact k_X6_begin l, by decide, by decide, by decide⟩
  by_cases h2 : k = 48
  · subst h2
    exact ⟨by rw [E_X4_shaftToTry_48]; exact k_X6_end l, by decide, by decide, by decide⟩
  by_cases h3 : k = 17
  · subst h3
    exact ⟨by rw [E_X4_shaftToTry_17]; exact k_X4_countWithin l, by decide, by decide, by decide⟩
  by_cases h4 : k = 141
  · subst h4
    exact ⟨by rw [E_X4_shaftToTry_141]; exact k_J9_max_7cf53 l, by decide, by decide, by decide⟩
  have e : E_X4_shaftToTry k = fun _ _ => none := (if_neg h0).trans ((if_neg h1).trans ((if_neg h2).trans ((if_neg h3).trans ((if_neg h4).trans (rfl)))))
  rw [e] at h
  cases h)
noncomputable def r_X4_shaftToTry_13 (b : Nat) (l2 : Int32) (l3 : Int32) (l4 : Int32) (l5 : Int32) (x6 : mV) (x7 : mV) (μ : mM) : Option mR := mm_run E_X4_shaftToTry 4 1 cX4_shaftToTry (13, [vr 4 0, vr 6 b, vi l2, vi l3, vi l4, vi l5, x6, x7], [], μ)
set_option maxRecDepth 100000 in
set_option maxHeartbeats 4000000 in
theorem e_X4_shaftToTry (b : Nat) (μ : mM) : f_X4_shaftToTry [vr 4 0, vr 6 b] μ = (Option.bind (f_X4_count [vr 4 0] μ) (fun q1 => r_X4_shaftToTry_13 b q1.1 (-1) q1.1 0 vu vu q1.2)) := by
  refine (show f_X4_shaftToTry [vr 4 0, vr 6 b] μ = mm_run E_X4_shaftToTry 4 1 cX4_shaftToTry (0, [vr 4 0, vr 6 b, vu, vu, vu, vu, vu, vu], [], μ) from rfl).trans ?_
  refine (R_aload_n dX4_shaftToTry_0 rfl (by decide)).trans ?_
  refine (R_cv_i (as := []) (rest := []) dX4_shaftToTry_1 mt_4_64 qp_16 qr_16 (E_X4_shaftToTry_16) rfl rfl rfl (Nat.le_of_ble_eq_true rfl)).trans (mm_bind (fun q1 => ?_))
  refine (R_istore_n (ls' := [vr 4 0, vr 6 b, vi q1.1, vu, vu, vu, vu, vu]) dX4_shaftToTry_4 (Nat.le_of_ble_eq_true rfl) (by decide) rfl).trans ?_
  refine (R_iconst (-1) dX4_shaftToTry_5 iconst_m1).trans ?_
  refine (R_istore_n (ls' := [vr 4 0, vr 6 b, vi q1.1, vi (-1), vu, vu, vu, vu]) dX4_shaftToTry_6 (Nat.le_of_ble_eq_true rfl) (by decide) rfl).trans ?_
  refine (R_iload_n dX4_shaftToTry_7 rfl).trans ?_
  refine (R_istore (ls' := [vr 4 0, vr 6 b, vi q1.1, vi (-1), vi q1.1, vu, vu, vu]) dX4_shaftToTry_8 (Nat.le_of_ble_eq_true rfl) (by decide) rfl).trans ?_
  refine (R_iconst 0 dX4_shaftToTry_10 iconst_0).trans ?_
  refine (R_istore (ls' := [vr 4 0, vr 6 b, vi q1.1, vi (-1), vi q1.1, vi 0, vu, vu]) dX4_shaftToTry_11 (Nat.le_of_ble_eq_true rfl) (by decide) rfl).trans ?_
  exact rfl
set_option maxRecDepth 100000 in
set_option maxHeartbeats 4000000 in
theorem e_X4_shaftToTry_13 (b : Nat) (l2 : Int32) (l3 : Int32) (l4 : Int32) (l5 : Int32) (x6 : mV) (x7 : mV) (μ : mM) : r_X4_shaftToTry_13 b l2 l3 l4 l5 x6 x7 μ = (if l5 < μ 6 b 6 then (ck 24 l5 (Option.bind (f_X6_begin [vr 6 b, vi (μ 10 b (Int32.toNatClampNeg l5))] μ) (fun q2 => (ck 24 l5 (Option.bind (f_X6_end [vr 6 b, vi (q2.2 10 b (Int32.toNatClampNeg l5))] q2.2) (fun q3 => (Option.bind (f_X4_countWithin [vr 4 0, vi q2.1, vi q3.1] q3.2) (fun q4 => (Option.bind (f_J9_max_7cf53 [vi q4.1, vi (l2 - q4.1)] q4.2) (fun q5 => (if q5.1 < l4 then r_X4_shaftToTry_13 b l2 l5 q5.1 (l5 + 1) (vi q4.1) (vi q5.1) q5.2 else r_X4_shaftToTry_13 b l2 l3 l4 (l5 + 1) (vi q4.1) (vi q5.1) q5.2))))))))))) else some (l3, μ)) := by
  refine (show r_X4_shaftToTry_13 b l2 l3 l4 l5 x6 x7 μ = mm_run E_X4_shaftToTry 4 1 cX4_shaftToTry (13, [vr 4 0, vr 6 b, vi l2, vi l3, vi l4, vi l5, x6, x7], [], μ) from rfl).trans ?_
  refine (R_iload dX4_shaftToTry_13 rfl).trans ?_
  refine (R_aload_n dX4_shaftToTry_15 rfl (by decide)).trans ?_
  refine (gi_4_68 dX4_shaftToTry_16).trans ?_
  refine (R_icmp 81 dX4_shaftToTry_19 rfl).trans (c_ge (fun h1 => ?_) (fun h1 => ?_))
  · refine (R_aload_n dX4_shaftToTry_22 rfl (by decide)).trans ?_
    refine (R_aload_n dX4_shaftToTry_23 rfl (by decide)).trans ?_
    refine (R_aload_n dX4_shaftToTry_24 rfl (by decide)).trans ?_
    refine (gr_4_71 dX4_shaftToTry_25).trans ?_
    refine (R_iload dX4_shaftToTry_28 rfl).trans ?_
    refine (R_iaload dX4_shaftToTry_30 as_10).trans (ck_congr ?_)
    refine (R_cv_i (as := [vi (μ 10 b (Int32.toNatClampNeg l5))]) (rest := [vr 4 0]) dX4_shaftToTry_31 mt_4_37 qp_47 qr_47 (E_X4_shaftToTry_47) rfl rfl rfl (Nat.le_of_ble_eq_true rfl)).trans (mm_bind (fun q2 => ?_))
    refine (R_aload_n dX4_shaftToTry_34 rfl (by decide)).trans ?_
    refine (R_aload_n dX4_shaftToTry_35 rfl (by decide)).trans ?_
    refine (gr_4_71 dX4_shaftToTry_36).trans ?_
    refine (R_iload dX4_shaftToTry_39 rfl).trans ?_
    refine (R_iaload dX4_shaftToTry_41 as_10).trans (ck_congr ?_)
    refine (R_cv_i (as := [vi (q2.2 10 b (Int32.toNatClampNeg l5))]) (rest := [vi q2.1, vr 4 0]) dX4_shaftToTry_42 mt_4_43 qp_48 qr_48 (E_X4_shaftToTry_48) rfl rfl rfl (Nat.le_of_ble_eq_true rfl)).trans (mm_bind (fun q3 => ?_))
    refine (R_cv_i (as := [vi q2.1, vi q3.1]) (rest := []) dX4_shaftToTry_45 mt_4_61 qp_17 qr_17 (E_X4_shaftToTry_17) rfl rfl rfl (Nat.le_of_ble_eq_true rfl)).trans (mm_bind (fun q4 => ?_))
    refine (R_istore (ls' := [vr 4 0, vr 6 b, vi l2, vi l3, vi l4, vi l5, vi q4.1, x7]) dX4_shaftToTry_48 (Nat.le_of_ble_eq_true rfl) (by decide) rfl).trans ?_
    refine (R_iload dX4_shaftToTry_50 rfl).trans ?_
    refine (R_iload_n dX4_shaftToTry_52 rfl).trans ?_
    refine (R_iload dX4_shaftToTry_53 rfl).trans ?_
    refine (R_isub dX4_shaftToTry_55).trans ?_
    refine (R_cs_i (as := [vi q4.1, vi (l2 - q4.1)]) (rest := []) dX4_shaftToTry_56 mt_4_52 (by decide) qp_141 qr_141 (E_X4_shaftToTry_141) (Nat.le_of_ble_eq_true rfl) rfl rfl (Nat.le_of_ble_eq_true rfl)).trans (mm_bind (fun q5 => ?_))
    refine (R_istore (ls' := [vr 4 0, vr 6 b, vi l2, vi l3, vi l4, vi l5, vi q4.1, vi q5.1]) dX4_shaftToTry_59 (Nat.le_of_ble_eq_true rfl) (by decide) rfl).trans ?_
    refine (R_iload dX4_shaftToTry_61 rfl).trans ?_
    refine (R_iload dX4_shaftToTry_63 rfl).trans ?_
    refine (R_icmp 75 dX4_shaftToTry_65 rfl).trans (c_ge (fun h6 => ?_) (fun h6 => ?_))
    · refine (R_iload dX4_shaftToTry_68 rfl).trans ?_
      refine (R_istore_n (ls' := [vr 4 0, vr 6 b, vi l2, vi l5, vi l4, vi l5, vi q4.1, vi q5.1]) dX4_shaftToTry_70 (Nat.le_of_ble_eq_true rfl) (by decide) rfl).trans ?_
      refine (R_iload dX4_shaftToTry_71 rfl).trans ?_
      refine (R_istore (ls' := [vr 4 0, vr 6 b, vi l2, vi l5, vi q5.1, vi l5, vi q4.1, vi q5.1]) dX4_shaftToTry_73 (Nat.le_of_ble_eq_true rfl) (by decide) rfl).trans ?_
      refine (R_iinc (ls' := [vr 4 0, vr 6 b, vi l2, vi l5, vi q5.1, vi (l5 + 1), vi q4.1, vi q5.1]) 1 dX4_shaftToTry_75 rfl iconst_1 (by decide) rfl).trans ?_
      refine (R_goto 13 dX4_shaftToTry_78 rfl).trans ?_
      exact rfl
    · refine (R_iinc (ls' := [vr 4 0, vr 6 b, vi l2, vi l3, vi l4, vi (l5 + 1), vi q4.1, vi q5.1]) 1 dX4_shaftToTry_75 rfl iconst_1 (by decide) rfl).trans ?_
      refine (R_goto 13 dX4_shaftToTry_78 rfl).trans ?_
      exact rfl
  · refine (R_iload_n dX4_shaftToTry_81 rfl).trans ?_
    exact R_ireturn dX4_shaftToTry_82 rfl
