noncomputable def E_X8_boreTells : mE := fun k => if k = 90 then f_X8_now else if k = 103 then f_X8_fitsMany else if k = 100 then f_X8_sortOf else fun _ _ => none
theorem E_X8_boreTells_90 : E_X8_boreTells 90 = f_X8_now := if_pos rfl
theorem E_X8_boreTells_103 : E_X8_boreTells 103 = f_X8_fitsMany := (if_neg (by decide)).trans (if_pos rfl)
theorem E_X8_boreTells_100 : E_X8_boreTells 100 = f_X8_sortOf := (if_neg (by decide)).trans ((if_neg (by decide)).trans (if_pos rfl))
noncomputable def f_X8_boreTells : List mV → mM → Option mR := mm_fn E_X8_boreTells 8 1 4 cX8_boreTells
theorem k_X8_boreTells (l : Launch) : mm_OK l 104 f_X8_boreTells := mm_fn_ok l 104 8 E_X8_boreTells (by decide) rfl (by decide) (by
  intro k as μ q h
  by_cases h0 : k = 90
  · subst h0
    exact ⟨by rw [E_X8_boreTells_90]; exact k_X8_now l, by decide, by decide, by decide⟩
  by_cases h1 : k = 103
  · subst h1
    exact ⟨by rw [E_X8_boreTells_103]; exact k_X8_fitsMany l, by decide, by decide, by decide⟩
  by_cases h2 : k = 100
  · subst h2
    exact ⟨by rw [E_X8_boreTells_100]; exact k_X8_sortOf l, by decide, by decide, by decide⟩
  have e : E_X8_boreTells k = fun _ _ => none := (if_neg h0).trans ((if_neg h1).trans ((if_neg h2).trans (rfl)))
  rw [e] at h
  cases h)
set_option maxRecDepth 100000 in
set_option maxHeartbeats 4000000 in
theorem e_X8_boreTells (l1 : Int32) (l2 : Int32) (μ : mM) : f_X8_boreTells [vr 8 0, vi l1, vi l2] μ = (Option.bind (f_X8_now [vr 8 0] μ) (fun q1 => (if l2 = 0 then (ck 5225 (58 + l1) (some (q1.2 50 0 (Int32.toNatClampNeg (58 + l1)), q1.2))) else (if l2 = 1 then (if 0 < q1.1 then (ck 25 l1 (some (q1.2 54 0 (Int32.toNatClampNeg l1), q1.2))) else some ((-1), q1.2)) else (if l2 = 2 then (ck 5225 (58 + l1) (Option.bind (f_X8_fitsMany [vr 8 0, vi (q1.2 50 0 (Int32.toNatClampNeg (58 + l1)))] q1.2) (fun q6 => some (q6.1, q6.2)))) else (if l2 = 3 then (ck 5225 (58 + l1) (Option.bind (f_X8_sortOf [vr 8 0, vi 4, vi (q1.2 50 0 (Int32.toNatClampNeg (58 + l1)))] q1.2) (fun q8 => some (q8.1, q8.2)))) else some ((-1000000002), q1.2))))))) := by
  refine (show f_X8_boreTells [vr 8 0, vi l1, vi l2] μ = mm_run E_X8_boreTells 8 1 cX8_boreTells (0, [vr 8 0, vi l1, vi l2, vu], [], μ) from rfl).trans ?_
  refine (R_aload_n dX8_boreTells_0 rfl (by decide)).trans ?_
  refine (R_cv_i (as := []) (rest := []) dX8_boreTells_1 mt_8_70 qp_90 qr_90 (E_X8_boreTells_90) rfl rfl rfl (Nat.le_of_ble_eq_true rfl)).trans (mm_bind (fun q1 => ?_))
  refine (R_istore_n (ls' := [vr 8 0, vi l1, vi l2, vi q1.1]) dX8_boreTells_4 (Nat.le_of_ble_eq_true rfl) (by decide) rfl).trans ?_
  refine (R_iload_n dX8_boreTells_5 rfl).trans ?_
  refine mm_ite (c := l2 = 0) (fun h2 => ?_) (fun h2 => ?_)
  · refine (R_switch dX8_boreTells_6 (sw_in 36 h2 rfl rfl rfl rfl)).trans ?_
    refine (R_aload_n dX8_boreTells_36 rfl (by decide)).trans ?_
    refine (gr_8_7 dX8_boreTells_37).trans ?_
    refine (R_bipush 58 dX8_boreTells_40 bipush_58).trans ?_
    refine (R_iload_n dX8_boreTells_42 rfl).trans ?_
    refine (R_iadd dX8_boreTells_43).trans ?_
    refine (R_iaload dX8_boreTells_44 as_50).trans (ck_congr ?_)
    exact R_ireturn dX8_boreTells_45 rfl
  refine mm_ite (c := l2 = 1) (fun h3 => ?_) (fun h3 => ?_)
  · refine (R_switch dX8_boreTells_6 (sw_in 46 h3 rfl rfl rfl rfl)).trans ?_
    refine (R_iload_n dX8_boreTells_46 rfl).trans ?_
    refine (R_ifc 59 dX8_boreTells_47 rfl).trans (c_le (fun h4 => ?_) (fun h4 => ?_))
    · refine (R_aload_n dX8_boreTells_50 rfl (by decide)).trans ?_
      refine (gr_8_23 dX8_boreTells_51).trans ?_
      refine (R_iload_n dX8_boreTells_54 rfl).trans ?_
      refine (R_iaload dX8_boreTells_55 as_54).trans (ck_congr ?_)
      refine (R_goto 60 dX8_boreTells_56 rfl).trans ?_
      exact R_ireturn dX8_boreTells_60 rfl
    · refine (R_iconst (-1) dX8_boreTells_59 iconst_m1).trans ?_
      exact R_ireturn dX8_boreTells_60 rfl
  refine mm_ite (c := l2 = 2) (fun h5 => ?_) (fun h5 => ?_)
  · refine (R_switch dX8_boreTells_6 (sw_in 61 h5 rfl rfl rfl rfl)).trans ?_
    refine (R_aload_n dX8_boreTells_61 rfl (by decide)).trans ?_
    refine (R_aload_n dX8_boreTells_62 rfl (by decide)).trans ?_
    refine (gr_8_7 dX8_boreTells_63).trans ?_
    refine (R_bipush 58 dX8_boreTells_66 bipush_58).trans ?_
    refine (R_iload_n dX8_boreTells_68 rfl).trans ?_
    refine (R_iadd dX8_boreTells_69).trans ?_
    refine (R_iaload dX8_boreTells_70 as_50).trans (ck_congr ?_)
    refine (R_cv_i (as := [vi (q1.2 50 0 (Int32.toNatClampNeg (58 + l1)))]) (rest := []) dX8_boreTells_71 mt_8_133 qp_103 qr_103 (E_X8_boreTells_103) rfl rfl rfl (Nat.le_of_ble_eq_true rfl)).trans (mm_bind (fun q6 => ?_))
    exact R_ireturn dX8_boreTells_74 rfl
  refine mm_ite (c := l2 = 3) (fun h7 => ?_) (fun h7 => ?_)
  · refine (R_switch dX8_boreTells_6 (sw_in 75 h7 rfl rfl rfl rfl)).trans ?_
    refine (R_aload_n dX8_boreTells_75 rfl (by decide)).trans ?_
    refine (R_iconst 4 dX8_boreTells_76 iconst_4).trans ?_
    refine (R_aload_n dX8_boreTells_77 rfl (by decide)).trans ?_
    refine (gr_8_7 dX8_boreTells_78).trans ?_
    refine (R_bipush 58 dX8_boreTells_81 bipush_58).trans ?_
    refine (R_iload_n dX8_boreTells_83 rfl).trans ?_
    refine (R_iadd dX8_boreTells_84).trans ?_
    refine (R_iaload dX8_boreTells_85 as_50).trans (ck_congr ?_)
    refine (R_cv_i (as := [vi 4, vi (q1.2 50 0 (Int32.toNatClampNeg (58 + l1)))]) (rest := []) dX8_boreTells_86 mt_8_119 qp_100 qr_100 (E_X8_boreTells_100) rfl rfl rfl (Nat.le_of_ble_eq_true rfl)).trans (mm_bind (fun q8 => ?_))
    exact R_ireturn dX8_boreTells_89 rfl
  refine (R_switch dX8_boreTells_6 (sw_out 90 (sw_n4 h2 h3 h5 h7) rfl)).trans ?_
  refine (R_ldc dX8_boreTells_90 kt_8_118).trans ?_
  exact R_ireturn dX8_boreTells_92 rfl
noncomputable def E_X8_grade : mE := fun k => if k = 81 then f_X8_isGrade else if k = 79 then f_X8_in else if k = 110 then f_X8_remember else if k = 90 then f_X8_now else fun _ _ => none
theorem E_X8_grade_81 : E_X8_grade 81 = f_X8_isGrade := if_pos rfl
theorem E_X8_grade_79 : E_X8_grade 79 = f_X8_in := (if_neg (by decide)).trans (if_pos rfl)
theorem E_X8_grade_110 : E_X8_grade 110 = f_X8_remember := (if_neg (by decide)).trans ((if_neg (by decide)).trans (if_pos rfl))
theorem E_X8_grade_90 : E_X8_grade 90 = f_X8_now := (if_neg (by decide)).trans ((if_neg (by decide)).trans ((if_neg (by decide)).trans (if_pos rfl)))
noncomputable def f_X8_grade : List mV → mM → Option mR := mm_fn E_X8_grade 8 1 4 cX8_grade
theorem k_X8_grade (l : Launch) : mm_OK l 120 f_X8_grade := mm_fn_ok l 120 8 E_X8_grade (by decide) rfl (by decide) (by
  intro k as μ q h
  by_cases h0 : k = 81
  · subst h0
    exact ⟨by rw [E_X8_grade_81]; exact k_X8_isGrade l, by decide, by decide, by decide⟩
  by_cases h1 : k = 79
  · subst h1
    exact ⟨by rw [E_X8_grade_79]; exact k_X8_in l, by decide, by decide, by decide⟩
  by_cases h2 : k = 110
  · subst h2
    exact ⟨by rw [E_X8_grade_110]; exact k_X8_remember l, by decide, by decide, by decide⟩
  by_cases h3 : k = 90
  · subst h3
    exact ⟨by rw [E_X8_grade_90]; exact k_X8_now l, by decide, by decide, by decide⟩
  have e : E_X8_grade k = fun _ _ => none := (if_neg h0).trans ((if_neg h1).trans ((if_neg h2).trans ((if_neg h3).trans (rfl))))
  rw [e] at h
  cases h)
set_option maxRecDepth 100000 in
set_option maxHeartbeats 4000000 in
theorem e_X8_grade (l1 : Int32) (l2 : Int32) (l3 : Int32) (μ : mM) : f_X8_grade [vr 8 0, vi l1, vi l2, vi l3] μ = (Option.bind (f_X8_isGrade [vi l1] μ) (fun q1 => (if q1.1 = 0 then some ((-1000000001), q1.2) else (Option.bind (f_X8_in [vl (Int32.toInt64 l2), vl 0, vl 999] q1.2) (fun q3 => (if q3.1 = 0 then some ((-1000000002), q3.2) else (Option.bind (f_X8_in [vl (Int32.toInt64 l3), vl (Int32.toInt64 l2), vl 999] q3.2) (fun q5 => (if q5.1 = 0 then some ((-1000000002), q5.2) else (Option.bind (f_X8_remember [vr 8 0] q5.2) (fun q7 => (ck 5225 (0 + l1) (wr (mm_up q7.2 50 0 (Int32.toNatClampNeg (0 + l1)) l2) (fun m8 => (ck 5225 (4 + l1) (wr (mm_up m8 50 0 (Int32.toNatClampNeg (4 + l1)) l3) (fun m9 => (Option.bind (f_X8_now [vr 8 0] m9) (fun q10 => some (q10.1, q10.2)))))))))))))))))))) := by
  refine (show f_X8_grade [vr 8 0, vi l1, vi l2, vi l3] μ = mm_run E_X8_grade 8 1 cX8_grade (0, [vr 8 0, vi l1, vi l2, vi l3], [], μ) from rfl).trans ?_
  refine (R_iload_n dX8_grade_0 rfl).trans ?_
  refine (R_cs_i (as := [vi l1]) (rest := []) dX8_grade_1 mt_8_142 (by decide) qp_81 qr_81 (E_X8_grade_81) (Nat.le_of_ble_eq_true rfl) rfl rfl (Nat.le_of_ble_eq_true rfl)).trans (mm_bind (fun q1 => ?_))
  refine (R_ifc 10 dX8_grade_4 rfl).trans (c_ne (fun h2 => ?_) (fun h2 => ?_))
  · refine (R_ldc dX8_grade_7 kt_8_128).trans ?_
    exact R_ireturn dX8_grade_9 rfl
  · refine (R_iload_n dX8_grade_10 rfl).trans ?_
    refine (R_i2l dX8_grade_11).trans ?_
    refine (R_lconst 0 dX8_grade_12 lconst_0).trans ?_
    refine (R_ldc2_w dX8_grade_13 lt_8_174).trans ?_
    refine (R_cs_i (as := [vl (Int32.toInt64 l2), vl 0, vl 999]) (rest := []) dX8_grade_16 mt_8_50 (by decide) qp_79 qr_79 (E_X8_grade_79) (Nat.le_of_ble_eq_true rfl) rfl rfl (Nat.le_of_ble_eq_true rfl)).trans (mm_bind (fun q3 => ?_))
    refine (R_ifc 35 dX8_grade_19 rfl).trans (c_eq (fun h4 => ?_) (fun h4 => ?_))
    · refine (R_ldc dX8_grade_35 kt_8_118).trans ?_
      exact R_ireturn dX8_grade_37 rfl
    · refine (R_iload_n dX8_grade_22 rfl).trans ?_
      refine (R_i2l dX8_grade_23).trans ?_
      refine (R_iload_n dX8_grade_24 rfl).trans ?_
      refine (R_i2l dX8_grade_25).trans ?_
      refine (R_ldc2_w dX8_grade_26 lt_8_174).trans ?_
      refine (R_cs_i (as := [vl (Int32.toInt64 l3), vl (Int32.toInt64 l2), vl 999]) (rest := []) dX8_grade_29 mt_8_50 (by decide) qp_79 qr_79 (E_X8_grade_79) (Nat.le_of_ble_eq_true rfl) rfl rfl (Nat.le_of_ble_eq_true rfl)).trans (mm_bind (fun q5 => ?_))
      refine (R_ifc 38 dX8_grade_32 rfl).trans (c_ne (fun h6 => ?_) (fun h6 => ?_))
      · refine (R_ldc dX8_grade_35 kt_8_118).trans ?_
        exact R_ireturn dX8_grade_37 rfl
      · refine (R_aload_n dX8_grade_38 rfl (by decide)).trans ?_
        refine (R_cv_v (as := []) (rest := []) dX8_grade_39 mt_8_161 qp_110 qr_110 (E_X8_grade_110) rfl rfl rfl (Nat.le_of_ble_eq_true rfl)).trans (mm_bind (fun q7 => ?_))
        refine (R_aload_n dX8_grade_42 rfl (by decide)).trans ?_
        refine (gr_8_7 dX8_grade_43).trans ?_
        refine (R_iconst 0 dX8_grade_46 iconst_0).trans ?_
        refine (R_iload_n dX8_grade_47 rfl).trans ?_
        refine (R_iadd dX8_grade_48).trans ?_
        refine (R_iload_n dX8_grade_49 rfl).trans ?_
        refine (R_iastore dX8_grade_50 as_50).trans (ck_congr ?_)
        refine wr_intro (g := fun m => mm_run E_X8_grade 8 1 cX8_grade (51, [vr 8 0, vi l1, vi l2, vi l3], [], m)) (fun m8 => ?_)
        refine (R_aload_n dX8_grade_51 rfl (by decide)).trans ?_
        refine (gr_8_7 dX8_grade_52).trans ?_
        refine (R_iconst 4 dX8_grade_55 iconst_4).trans ?_
        refine (R_iload_n dX8_grade_56 rfl).trans ?_
        refine (R_iadd dX8_grade_57).trans ?_
        refine (R_iload_n dX8_grade_58 rfl).trans ?_
        refine (R_iastore dX8_grade_59 as_50).trans (ck_congr ?_)
        refine wr_intro (g := fun m => mm_run E_X8_grade 8 1 cX8_grade (60, [vr 8 0, vi l1, vi l2, vi l3], [], m)) (fun m9 => ?_)
        refine (R_aload_n dX8_grade_60 rfl (by decide)).trans ?_
        refine (R_cv_i (as := []) (rest := []) dX8_grade_61 mt_8_70 qp_90 qr_90 (E_X8_grade_90) rfl rfl rfl (Nat.le_of_ble_eq_true rfl)).trans (mm_bind (fun q10 => ?_))
        exact R_ireturn dX8_grade_64 rfl
noncomputable def E_X8_putAway : mE := fun k => if k = 90 then f_X8_now else if k = 110 then f_X8_remember else if k = 116 then f_X8_shaftGoes else if k = 117 then f_X8_boreGoes else fun _ _ => none
theorem E_X8_putAway_90 : E_X8_putAway 90 = f_X8_now := if_pos rfl
theorem E_X8_putAway_110 : E_X8_putAway 110 = f_X8_remember := (if_neg (by decide)).trans (if_pos rfl)
theorem E_X8_putAway_116 : E_X8_putAway 116 = f_X8_shaftGoes := (if_neg (by decide)).trans ((if_neg (by decide)).trans (if_pos rfl))
theorem E_X8_putAway_117 : E_X8_putAway 117 = f_X8_boreGoes := (if_neg (by decide)).trans ((if_neg (by decide)).trans ((if_neg (by decide)).trans (if_pos rfl)))
noncomputable def f_X8_putAway : List mV → mM → Option mR := mm_fn E_X8_putAway 8 1 3 cX8_putAway
theorem k_X8_putAway (l : Launch) : mm_OK l 121 f_X8_putAway := mm_fn_ok l 121 8 E_X8_putAway (by decide) rfl (by decide) (by
  intro k as μ q h
  by_cases h0 : k = 90
  · subst h0
    exact ⟨by rw [E_X8_putAway_90]; exact k_X8_now l, by decide, by decide, by decide⟩
  by_cases h1 : k = 110
  · subst h1
    exact ⟨by rw [E_X8_putAway_110]; exact k_X8_remember l, by decide, by decide, by decide⟩
  by_cases h2 : k = 116
  · subst h2
    exact ⟨by rw [E_X8_putAway_116]; exact k_X8_shaftGoes l, by decide, by decide, by decide⟩
  by_cases h3 : k = 117
  · subst h3
    exact ⟨by rw [E_X8_putAway_117]; exact k_X8_boreGoes l, by decide, by decide, by decide⟩
  have e : E_X8_putAway k = fun _ _ => none := (if_neg h0).trans ((if_neg h1).trans ((if_neg h2).trans ((if_neg h3).trans (rfl))))
  rw [e] at h
  cases h)
noncomputable def r_X8_putAway_26 (l1 : Int32) (l2 : Int32) (μ : mM) : Option mR := mm_run E_X8_putAway 8 1 cX8_putAway (26, [vr 8 0, vi l1, vi l2], [], μ)
noncomputable def r_X8_putAway_61 (l1 : Int32) (l2 : Int32) (μ : mM) : Option mR := mm_run E_X8_putAway 8 1 cX8_putAway (61, [vr 8 0, vi l1, vi l2], [], μ)
set_option maxRecDepth 100000 in
set_option maxHeartbeats 4000000 in
theorem e_X8_putAway (μ : mM) : f_X8_putAway [vr 8 0] μ = (Option.bind (f_X8_now [vr 8 0] μ) (fun q1 => (if q1.1 = 0 then some ((-1000000003), q1.2) else (Option.bind (f_X8_remember [vr 8 0] q1.2) (fun q3 => (ck 5225 8 (r_X8_putAway_26 q1.1 ((q3.2 50 0 (Int32.toNatClampNeg 8)) - 1) q3.2))))))) := by
  refine (show f_X8_putAway [vr 8 0] μ = mm_run E_X8_putAway 8 1 cX8_putAway (0, [vr 8 0, vu, vu], [], μ) from rfl).trans ?_
  refine (R_aload_n dX8_putAway_0 rfl (by decide)).trans ?_
  refine (R_cv_i (as := []) (rest := []) dX8_putAway_1 mt_8_70 qp_90 qr_90 (E_X8_putAway_90) rfl rfl rfl (Nat.le_of_ble_eq_true rfl)).trans (mm_bind (fun q1 => ?_))
  refine (R_istore_n (ls' := [vr 8 0, vi q1.1, vu]) dX8_putAway_4 (Nat.le_of_ble_eq_true rfl) (by decide) rfl).trans ?_
  refine (R_iload_n dX8_putAway_5 rfl).trans ?_
  refine (R_ifc 12 dX8_putAway_6 rfl).trans (c_ne (fun h2 => ?_) (fun h2 => ?_))
  · refine (R_ldc dX8_putAway_9 kt_8_176).trans ?_
    exact R_ireturn dX8_putAway_11 rfl
  · refine (R_aload_n dX8_putAway_12 rfl (by decide)).trans ?_
    refine (R_cv_v (as := []) (rest := []) dX8_putAway_13 mt_8_161 qp_110 qr_110 (E_X8_putAway_110) rfl rfl rfl (Nat.le_of_ble_eq_true rfl)).trans (mm_bind (fun q3 => ?_))
    refine (R_aload_n dX8_putAway_16 rfl (by decide)).trans ?_
    refine (gr_8_7 dX8_putAway_17).trans ?_
    refine (R_bipush 8 dX8_putAway_20 bipush_8).trans ?_
    refine (R_iaload dX8_putAway_22 as_50).trans (ck_congr ?_)
    refine (R_iconst 1 dX8_putAway_23 iconst_1).trans ?_
    refine (R_isub dX8_putAway_24).trans ?_
    refine (R_istore_n (ls' := [vr 8 0, vi q1.1, vi ((q3.2 50 0 (Int32.toNatClampNeg 8)) - 1)]) dX8_putAway_25 (Nat.le_of_ble_eq_true rfl) (by decide) rfl).trans ?_
    exact rfl
set_option maxRecDepth 100000 in
set_option maxHeartbeats 4000000 in
theorem e_X8_putAway_26 (l1 : Int32) (l2 : Int32) (μ : mM) : r_X8_putAway_26 l1 l2 μ = (if l2 < 0 then (ck 5225 57 (r_X8_putAway_61 l1 ((μ 50 0 (Int32.toNatClampNeg 57)) - 1) μ)) else (ck 24 l2 (if μ 53 0 (Int32.toNatClampNeg l2) = (-1) then r_X8_putAway_26 l1 (l2 + (-1)) μ else (Option.bind (f_X8_shaftGoes [vr 8 0, vi l2] μ) (fun q3 => r_X8_putAway_26 l1 (l2 + (-1)) q3.2))))) := by
  refine (show r_X8_putAway_26 l1 l2 μ = mm_run E_X8_putAway 8 1 cX8_putAway (26, [vr 8 0, vi l1, vi l2], [], μ) from rfl).trans ?_
  refine (R_iload_n dX8_putAway_26 rfl).trans ?_
  refine (R_ifc 51 dX8_putAway_27 rfl).trans (c_lt (fun h1 => ?_) (fun h1 => ?_))
  · refine (R_aload_n dX8_putAway_51 rfl (by decide)).trans ?_
    refine (gr_8_7 dX8_putAway_52).trans ?_
    refine (R_bipush 57 dX8_putAway_55 bipush_57).trans ?_
    refine (R_iaload dX8_putAway_57 as_50).trans (ck_congr ?_)
    refine (R_iconst 1 dX8_putAway_58 iconst_1).trans ?_
    refine (R_isub dX8_putAway_59).trans ?_
    refine (R_istore_n (ls' := [vr 8 0, vi l1, vi ((μ 50 0 (Int32.toNatClampNeg 57)) - 1)]) dX8_putAway_60 (Nat.le_of_ble_eq_true rfl) (by decide) rfl).trans ?_
    exact rfl
  · refine (R_aload_n dX8_putAway_30 rfl (by decide)).trans ?_
    refine (gr_8_20 dX8_putAway_31).trans ?_
    refine (R_iload_n dX8_putAway_34 rfl).trans ?_
    refine (R_iaload dX8_putAway_35 as_53).trans (ck_congr ?_)
    refine (R_iconst (-1) dX8_putAway_36 iconst_m1).trans ?_
    refine (R_icmp 45 dX8_putAway_37 rfl).trans (c_eq (fun h2 => ?_) (fun h2 => ?_))
    · refine (R_iinc (ls' := [vr 8 0, vi l1, vi (l2 + (-1))]) (-1) dX8_putAway_45 rfl iconst_m1 (by decide) rfl).trans ?_
      refine (R_goto 26 dX8_putAway_48 rfl).trans ?_
      exact rfl
    · refine (R_aload_n dX8_putAway_40 rfl (by decide)).trans ?_
      refine (R_iload_n dX8_putAway_41 rfl).trans ?_
      refine (R_cv_v (as := [vi l2]) (rest := []) dX8_putAway_42 mt_8_167 qp_116 qr_116 (E_X8_putAway_116) rfl rfl rfl (Nat.le_of_ble_eq_true rfl)).trans (mm_bind (fun q3 => ?_))
      refine (R_iinc (ls' := [vr 8 0, vi l1, vi (l2 + (-1))]) (-1) dX8_putAway_45 rfl iconst_m1 (by decide) rfl).trans ?_
      refine (R_goto 26 dX8_putAway_48 rfl).trans ?_
      exact rfl
set_option maxRecDepth 100000 in
set_option maxHeartbeats 4000000 in
theorem e_X8_putAway_61 (l1 : Int32) (l2 : Int32) (μ : mM) : r_X8_putAway_61 l1 l2 μ = (if l2 < 0 then some (l1, μ) else (ck 25 l2 (if μ 54 0 (Int32.toNatClampNeg l2) = (-1) then r_X8_putAway_61 l1 (l2 + (-1)) μ else (Option.bind (f_X8_boreGoes [vr 8 0, vi l2] μ) (fun q3 => r_X8_putAway_61 l1 (l2 + (-1)) q3.2))))) := by
  refine (show r_X8_putAway_61 l1 l2 μ = mm_run E_X8_putAway 8 1 cX8_putAway (61, [vr 8 0, vi l1, vi l2], [], μ) from rfl).trans ?_
  refine (R_iload_n dX8_putAway_61 rfl).trans ?_
  refine (R_ifc 86 dX8_putAway_62 rfl).trans (c_lt (fun h1 => ?_) (fun h1 => ?_))
  · refine (R_iload_n dX8_putAway_86 rfl).trans ?_
    exact R_ireturn dX8_putAway_87 rfl
  · refine (R_aload_n dX8_putAway_65 rfl (by decide)).trans ?_
    refine (gr_8_23 dX8_putAway_66).trans ?_
    refine (R_iload_n dX8_putAway_69 rfl).trans ?_
    refine (R_iaload dX8_putAway_70 as_54).trans (ck_congr ?_)
    refine (R_iconst (-1) dX8_putAway_71 iconst_m1).trans ?_
    refine (R_icmp 80 dX8_putAway_72 rfl).trans (c_eq (fun h2 => ?_) (fun h2 => ?_))
    · refine (R_iinc (ls' := [vr 8 0, vi l1, vi (l2 + (-1))]) (-1) dX8_putAway_80 rfl iconst_m1 (by decide) rfl).trans ?_
      refine (R_goto 61 dX8_putAway_83 rfl).trans ?_
      exact rfl
    · refine (R_aload_n dX8_putAway_75 rfl (by decide)).trans ?_
      refine (R_iload_n dX8_putAway_76 rfl).trans ?_
      refine (R_cv_v (as := [vi l2]) (rest := []) dX8_putAway_77 mt_8_171 qp_117 qr_117 (E_X8_putAway_117) rfl rfl rfl (Nat.le_of_ble_eq_true rfl)).trans (mm_bind (fun q3 => ?_))
      refine (R_iinc (ls' := [vr 8 0, vi l1, vi (l2 + (-1))]) (-1) dX8_putAway_80 rfl iconst_m1 (by decide) rfl).trans ?_
      refine (R_goto 61 dX8_putAway_83 rfl).trans ?_
      exact rfl
noncomputable def E_X8_boxes : mE := fun k => if k = 79 then f_X8_in else if k = 131 then f_X8_lines else if k = 132 then f_X8_goesWith else fun _ _ => none
theorem E_X8_boxes_79 : E_X8_boxes 79 = f_X8_in := if_pos rfl
theorem E_X8_boxes_131 : E_X8_boxes 131 = f_X8_lines := (if_neg (by decide)).trans (if_pos rfl)
theorem E_X8_boxes_132 : E_X8_boxes 132 = f_X8_goesWith := (if_neg (by decide)).trans ((if_neg (by decide)).trans (if_pos rfl))
noncomputable def f_X8_boxes : List mV → mM → Option mR := mm_fn E_X8_boxes 8 1 11 cX8_boxes
theorem k_X8_boxes (l : Launch) : mm_OK l 133 f_X8_boxes := mm_fn_ok l 133 8 E_X8_boxes (by decide) rfl (by decide) (by
  intro k as μ q h
  by_cases h0 : k = 79
  · subst h0
    exact ⟨by rw [E_X8_boxes_79]; exact k_X8_in l, by decide, by decide, by decide⟩
  by_cases h1 : k = 131
  · subst h1
    exact ⟨by rw [E_X8_boxes_131]; exact k_X8_lines l, by decide, by decide, by decide⟩
  by_cases h2 : k = 132
  · subst h2
    exact ⟨by rw [E_X8_boxes_132]; exact k_X8_goesWith l, by decide, by decide, by decide⟩
  have e : E_X8_boxes k = fun _ _ => none := (if_neg h0).trans ((if_neg h1).trans ((if_neg h2).trans (rfl)))
  rw [e] at h
  cases h)
noncomputable def r_X8_boxes_22 (l1 : Int32) (l2 : Int32) (l3 : Int32) (μ : mM) : Option mR := mm_run E_X8_boxes 8 1 cX8_boxes (22, [vr 8 0, vi l1, vi l2, vi l3, vu, vu, vu, vu, vu, vu, vu], [], μ)
noncomputable def r_X8_boxes_44 (l1 : Int32) (l2 : Int32) (l3 : Int32) (x4 : mV) (x5 : mV) (x6 : mV) (x7 : mV) (x8 : mV) (x9 : mV) (x10 : mV) (μ : mM) : Option mR := mm_run E_X8_boxes 8 1 cX8_boxes (44, [vr 8 0, vi l1, vi l2, vi l3, x4, x5, x6, x7, x8, x9, x10], [], μ)
noncomputable def r_X8_boxes_52 (l1 : Int32) (l2 : Int32) (l3 : Int32) (l4 : Int32) (x5 : mV) (x6 : mV) (x7 : mV) (x8 : mV) (x9 : mV) (x10 : mV) (μ : mM) : Option mR := mm_run E_X8_boxes 8 1 cX8_boxes (52, [vr 8 0, vi l1, vi l2, vi l3, vi l4, x5, x6, x7, x8, x9, x10], [], μ)
noncomputable def r_X8_boxes_89 (l1 : Int32) (l2 : Int32) (l3 : Int32) (l4 : Int32) (l5 : Int32) (l6 : Int32) (l7 : Int32) (l8 : Int32) (l9 : Int32) (x10 : mV) (μ : mM) : Option mR := mm_run E_X8_boxes 8 1 cX8_boxes (89, [vr 8 0, vi l1, vi l2, vi l3, vi l4, vi l5, vi l6, vi l7, vi l8, vi l9, x10], [], μ)
set_option maxRecDepth 100000 in
set_option maxHeartbeats 4000000 in
theorem e_X8_boxes (l1 : Int32) (μ : mM) : f_X8_boxes [vr 8 0, vi l1] μ = (Option.bind (f_X8_in [vl (Int32.toInt64 l1), vl 0, vl 9] μ) (fun q1 => (if q1.1 = 0 then some ((-1000000002), q1.2) else (Option.bind (f_X8_lines [vr 8 0] q1.2) (fun q3 => r_X8_boxes_22 l1 q3.1 0 q3.2))))) := by
  refine (show f_X8_boxes [vr 8 0, vi l1] μ = mm_run E_X8_boxes 8 1 cX8_boxes (0, [vr 8 0, vi l1, vu, vu, vu, vu, vu, vu, vu, vu, vu], [], μ) from rfl).trans ?_
  refine (R_iload_n dX8_boxes_0 rfl).trans ?_
  refine (R_i2l dX8_boxes_1).trans ?_
  refine (R_lconst 0 dX8_boxes_2 lconst_0).trans ?_
  refine (R_ldc2_w dX8_boxes_3 lt_8_203).trans ?_
  refine (R_cs_i (as := [vl (Int32.toInt64 l1), vl 0, vl 9]) (rest := []) dX8_boxes_6 mt_8_50 (by decide) qp_79 qr_79 (E_X8_boxes_79) (Nat.le_of_ble_eq_true rfl) rfl rfl (Nat.le_of_ble_eq_true rfl)).trans (mm_bind (fun q1 => ?_))
  refine (R_ifc 15 dX8_boxes_9 rfl).trans (c_ne (fun h2 => ?_) (fun h2 => ?_))
  · refine (R_ldc dX8_boxes_12 kt_8_118).trans ?_
    exact R_ireturn dX8_boxes_14 rfl
  · refine (R_aload_n dX8_boxes_15 rfl (by decide)).trans ?_
    refine (R_cv_i (as := []) (rest := []) dX8_boxes_16 mt_8_205 qp_131 qr_131 (E_X8_boxes_131) rfl rfl rfl (Nat.le_of_ble_eq_true rfl)).trans (mm_bind (fun q3 => ?_))
    refine (R_istore_n (ls' := [vr 8 0, vi l1, vi q3.1, vu, vu, vu, vu, vu, vu, vu, vu]) dX8_boxes_19 (Nat.le_of_ble_eq_true rfl) (by decide) rfl).trans ?_
    refine (R_iconst 0 dX8_boxes_20 iconst_0).trans ?_
    refine (R_istore_n (ls' := [vr 8 0, vi l1, vi q3.1, vi 0, vu, vu, vu, vu, vu, vu, vu]) dX8_boxes_21 (Nat.le_of_ble_eq_true rfl) (by decide) rfl).trans ?_
    exact rfl
set_option maxRecDepth 100000 in
set_option maxHeartbeats 4000000 in
theorem e_X8_boxes_22 (l1 : Int32) (l2 : Int32) (l3 : Int32) (μ : mM) : r_X8_boxes_22 l1 l2 l3 μ = (if l3 < 490 then (ck 490 l3 (wr (mm_up μ 60 0 (Int32.toNatClampNeg l3) 0) (fun m2 => r_X8_boxes_22 l1 l2 (l3 + 1) m2))) else r_X8_boxes_44 l1 l2 1 vu vu vu vu vu vu vu μ) := by
  refine (show r_X8_boxes_22 l1 l2 l3 μ = mm_run E_X8_boxes 8 1 cX8_boxes (22, [vr 8 0, vi l1, vi l2, vi l3, vu, vu, vu, vu, vu, vu, vu], [], μ) from rfl).trans ?_
  refine (R_iload_n dX8_boxes_22 rfl).trans ?_
  refine (R_sipush 490 dX8_boxes_23 sipush_490).trans ?_
  refine (R_icmp 42 dX8_boxes_26 rfl).trans (c_ge (fun h1 => ?_) (fun h1 => ?_))
  · refine (R_aload_n dX8_boxes_29 rfl (by decide)).trans ?_
    refine (gr_8_41 dX8_boxes_30).trans ?_
    refine (R_iload_n dX8_boxes_33 rfl).trans ?_
    refine (R_iconst 0 dX8_boxes_34 iconst_0).trans ?_
    refine (R_iastore dX8_boxes_35 as_60).trans (ck_congr ?_)
    refine wr_intro (g := fun m => mm_run E_X8_boxes 8 1 cX8_boxes (36, [vr 8 0, vi l1, vi l2, vi l3, vu, vu, vu, vu, vu, vu, vu], [], m)) (fun m2 => ?_)
    refine (R_iinc (ls' := [vr 8 0, vi l1, vi l2, vi (l3 + 1), vu, vu, vu, vu, vu, vu, vu]) 1 dX8_boxes_36 rfl iconst_1 (by decide) rfl).trans ?_
    refine (R_goto 22 dX8_boxes_39 rfl).trans ?_
    exact rfl
  · refine (R_iconst 1 dX8_boxes_42 iconst_1).trans ?_
    refine (R_istore_n (ls' := [vr 8 0, vi l1, vi l2, vi 1, vu, vu, vu, vu, vu, vu, vu]) dX8_boxes_43 (Nat.le_of_ble_eq_true rfl) (by decide) rfl).trans ?_
    exact rfl
set_option maxRecDepth 100000 in
set_option maxHeartbeats 4000000 in
theorem e_X8_boxes_44 (l1 : Int32) (l2 : Int32) (l3 : Int32) (x4 : mV) (x5 : mV) (x6 : mV) (x7 : mV) (x8 : mV) (x9 : mV) (x10 : mV) (μ : mM) : r_X8_boxes_44 l1 l2 l3 x4 x5 x6 x7 x8 x9 x10 μ = (if l1 < l3 then (ck 490 ((49 * l1) + l2) (some (μ 60 0 (Int32.toNatClampNeg ((49 * l1) + l2)), μ))) else r_X8_boxes_52 l1 l2 l3 1 x5 x6 x7 x8 x9 x10 μ) := by
  refine (show r_X8_boxes_44 l1 l2 l3 x4 x5 x6 x7 x8 x9 x10 μ = mm_run E_X8_boxes 8 1 cX8_boxes (44, [vr 8 0, vi l1, vi l2, vi l3, x4, x5, x6, x7, x8, x9, x10], [], μ) from rfl).trans ?_
  refine (R_iload_n dX8_boxes_44 rfl).trans ?_
  refine (R_iload_n dX8_boxes_45 rfl).trans ?_
  refine (R_icmp 256 dX8_boxes_46 rfl).trans (c_gt (fun h1 => ?_) (fun h1 => ?_))
  · refine (R_aload_n dX8_boxes_256 rfl (by decide)).trans ?_
    refine (gr_8_41 dX8_boxes_257).trans ?_
    refine (R_bipush 49 dX8_boxes_260 bipush_49).trans ?_
    refine (R_iload_n dX8_boxes_262 rfl).trans ?_
    refine (R_imul dX8_boxes_263).trans ?_
    refine (R_iload_n dX8_boxes_264 rfl).trans ?_
    refine (R_iadd dX8_boxes_265).trans ?_
    refine (R_iaload dX8_boxes_266 as_60).trans (ck_congr ?_)
    exact R_ireturn dX8_boxes_267 rfl
  · refine (R_iconst 1 dX8_boxes_49 iconst_1).trans ?_
    refine (R_istore (ls' := [vr 8 0, vi l1, vi l2, vi l3, vi 1, x5, x6, x7, x8, x9, x10]) dX8_boxes_50 (Nat.le_of_ble_eq_true rfl) (by decide) rfl).trans ?_
    exact rfl
set_option maxRecDepth 100000 in
set_option maxHeartbeats 4000000 in
theorem e_X8_boxes_52 (l1 : Int32) (l2 : Int32) (l3 : Int32) (l4 : Int32) (x5 : mV) (x6 : mV) (x7 : mV) (x8 : mV) (x9 : mV) (x10 : mV) (μ : mM) : r_X8_boxes_52 l1 l2 l3 l4 x5 x6 x7 x8 x9 x10 μ = (if l2 < l4 then r_X8_boxes_44 l1 l2 (l3 + 1) (vi l4) x5 x6 x7 x8 x9 x10 μ else (ck 490 (((49 * l3) + l4) - 1) (r_X8_boxes_89 l1 l2 l3 l4 (μ 60 0 (Int32.toNatClampNeg (((49 * l3) + l4) - 1))) 0 0 1 (l4 - 1) x10 μ))) := by
  refine (show r_X8_boxes_52 l1 l2 l3 l4 x5 x6 x7 x8 x9 x10 μ = mm_run E_X8_boxes 8 1 cX8_boxes (52, [vr 8 0, vi l1, vi l2, vi l3, vi l4, x5, x6, x7, x8, x9, x10], [], μ) from rfl).trans ?_
  refine (R_iload dX8_boxes_52 rfl).trans ?_
  refine (R_iload_n dX8_boxes_54 rfl).trans ?_
  refine (R_icmp 250 dX8_boxes_55 rfl).trans (c_gt (fun h1 => ?_) (fun h1 => ?_))
  · refine (R_iinc (ls' := [vr 8 0, vi l1, vi l2, vi (l3 + 1), vi l4, x5, x6, x7, x8, x9, x10]) 1 dX8_boxes_250 rfl iconst_1 (by decide) rfl).trans ?_
    refine (R_goto 44 dX8_boxes_253 rfl).trans ?_
    exact rfl
  · refine (R_aload_n dX8_boxes_58 rfl (by decide)).trans ?_
    refine (gr_8_41 dX8_boxes_59).trans ?_
    refine (R_bipush 49 dX8_boxes_62 bipush_49).trans ?_
    refine (R_iload_n dX8_boxes_64 rfl).trans ?_
    refine (R_imul dX8_boxes_65).trans ?_
    refine (R_iload dX8_boxes_66 rfl).trans ?_
    refine (R_iadd dX8_boxes_68).trans ?_
    refine (R_iconst 1 dX8_boxes_69 iconst_1).trans ?_
    refine (R_isub dX8_boxes_70).trans ?_
    refine (R_iaload dX8_boxes_71 as_60).trans (ck_congr ?_)
    refine (R_istore (ls' := [vr 8 0, vi l1, vi l2, vi l3, vi l4, vi (μ 60 0 (Int32.toNatClampNeg (((49 * l3) + l4) - 1))), x6, x7, x8, x9, x10]) dX8_boxes_72 (Nat.le_of_ble_eq_true rfl) (by decide) rfl).trans ?_
    refine (R_iconst 0 dX8_boxes_74 iconst_0).trans ?_
    refine (R_istore (ls' := [vr 8 0, vi l1, vi l2, vi l3, vi l4, vi (μ 60 0 (Int32.toNatClampNeg (((49 * l3) + l4) - 1))), vi 0, x7, x8, x9, x10]) dX8_boxes_75 (Nat.le_of_ble_eq_true rfl) (by decide) rfl).trans ?_
    refine (R_iconst 0 dX8_boxes_77 iconst_0).trans ?_
    refine (R_istore (ls' := [vr 8 0, vi l1, vi l2, vi l3, vi l4, vi (μ 60 0 (Int32.toNatClampNeg (((49 * l3) + l4) - 1))), vi 0, vi 0, x8, x9, x10]) dX8_boxes_78 (Nat.le_of_ble_eq_true rfl) (by decide) rfl).trans ?_
    refine (R_iconst 1 dX8_boxes_80 iconst_1).trans ?_
    refine (R_istore (ls' := [vr 8 0, vi l1, vi l2, vi l3, vi l4, vi (μ 60 0 (Int32.toNatClampNeg (((49 * l3) + l4) - 1))), vi 0, vi 0, vi 1, x9, x10]) dX8_boxes_81 (Nat.le_of_ble_eq_true rfl) (by decide) rfl).trans ?_
    refine (R_iload dX8_boxes_83 rfl).trans ?_
    refine (R_iconst 1 dX8_boxes_85 iconst_1).trans ?_
    refine (R_isub dX8_boxes_86).trans ?_
    refine (R_istore (ls' := [vr 8 0, vi l1, vi l2, vi l3, vi l4, vi (μ 60 0 (Int32.toNatClampNeg (((49 * l3) + l4) - 1))), vi 0, vi 0, vi 1, vi (l4 - 1), x10]) dX8_boxes_87 (Nat.le_of_ble_eq_true rfl) (by decide) rfl).trans ?_
    exact rfl
set_option maxRecDepth 100000 in
set_option maxHeartbeats 4000000 in
theorem e_X8_boxes_89 (l1 : Int32) (l2 : Int32) (l3 : Int32) (l4 : Int32) (l5 : Int32) (l6 : Int32) (l7 : Int32) (l8 : Int32) (l9 : Int32) (x10 : mV) (μ : mM) : r_X8_boxes_89 l1 l2 l3 l4 l5 l6 l7 l8 l9 x10 μ = (if l9 < 0 then (ck 490 ((49 * l3) + l4) (wr (mm_up μ 60 0 (Int32.toNatClampNeg ((49 * l3) + l4)) l5) (fun m2 => r_X8_boxes_52 l1 l2 l3 (l4 + 1) (vi l5) (vi l6) (vi l7) (vi l8) (vi l9) x10 m2))) else (if l8 = 0 then (ck 490 ((49 * l3) + l4) (wr (mm_up μ 60 0 (Int32.toNatClampNeg ((49 * l3) + l4)) l5) (fun m4 => r_X8_boxes_52 l1 l2 l3 (l4 + 1) (vi l5) (vi l6) (vi l7) (vi l8) (vi l9) x10 m4))) else (ck 48 l9 (Option.bind (f_X8_goesWith [vr 8 0, vi (μ 59 0 (Int32.toNatClampNeg l9)), vi (l9 + 1), vi l4] μ) (fun q5 => (if q5.1 = 0 then (ck 490 ((49 * (l3 - 1)) + l9) (if l6 + 0 < l7 + 0 then r_X8_boxes_89 l1 l2 l3 l4 l5 (l6 + 0) (l7 + 0) q5.1 (l9 + (-1)) (vi ((q5.2 60 0 (Int32.toNatClampNeg ((49 * (l3 - 1)) + l9))) + (l6 + 0))) q5.2 else r_X8_boxes_89 l1 l2 l3 l4 l5 (l6 + 0) (l7 + 0) q5.1 (l9 + (-1)) (vi ((q5.2 60 0 (Int32.toNatClampNeg ((49 * (l3 - 1)) + l9))) + (l7 + 0))) q5.2)) else (ck 48 l9 (if q5.2 59 0 (Int32.toNatClampNeg l9) < 24 then (ck 48 l9 (ck 490 ((49 * (l3 - 1)) + l9) (if l6 + 1 < l7 + 0 then (if l5 < (q5.2 60 0 (Int32.toNatClampNeg ((49 * (l3 - 1)) + l9))) + (l6 + 1) then r_X8_boxes_89 l1 l2 l3 l4 ((q5.2 60 0 (Int32.toNatClampNeg ((49 * (l3 - 1)) + l9))) + (l6 + 1)) (l6 + 1) (l7 + 0) q5.1 (l9 + (-1)) (vi ((q5.2 60 0 (Int32.toNatClampNeg ((49 * (l3 - 1)) + l9))) + (l6 + 1))) q5.2 else r_X8_boxes_89 l1 l2 l3 l4 l5 (l6 + 1) (l7 + 0) q5.1 (l9 + (-1)) (vi ((q5.2 60 0 (Int32.toNatClampNeg ((49 * (l3 - 1)) + l9))) + (l6 + 1))) q5.2) else (if l5 < (q5.2 60 0 (Int32.toNatClampNeg ((49 * (l3 - 1)) + l9))) + (l7 + 0) then r_X8_boxes_89 l1 l2 l3 l4 ((q5.2 60 0 (Int32.toNatClampNeg ((49 * (l3 - 1)) + l9))) + (l7 + 0)) (l6 + 1) (l7 + 0) q5.1 (l9 + (-1)) (vi ((q5.2 60 0 (Int32.toNatClampNeg ((49 * (l3 - 1)) + l9))) + (l7 + 0))) q5.2 else r_X8_boxes_89 l1 l2 l3 l4 l5 (l6 + 1) (l7 + 0) q5.1 (l9 + (-1)) (vi ((q5.2 60 0 (Int32.toNatClampNeg ((49 * (l3 - 1)) + l9))) + (l7 + 0))) q5.2)))) else (ck 48 l9 (ck 490 ((49 * (l3 - 1)) + l9) (if l6 + 0 < l7 + 1 then (if l5 < (q5.2 60 0 (Int32.toNatClampNeg ((49 * (l3 - 1)) + l9))) + (l6 + 0) then r_X8_boxes_89 l1 l2 l3 l4 ((q5.2 60 0 (Int32.toNatClampNeg ((49 * (l3 - 1)) + l9))) + (l6 + 0)) (l6 + 0) (l7 + 1) q5.1 (l9 + (-1)) (vi ((q5.2 60 0 (Int32.toNatClampNeg ((49 * (l3 - 1)) + l9))) + (l6 + 0))) q5.2 else r_X8_boxes_89 l1 l2 l3 l4 l5 (l6 + 0) (l7 + 1) q5.1 (l9 + (-1)) (vi ((q5.2 60 0 (Int32.toNatClampNeg ((49 * (l3 - 1)) + l9))) + (l6 + 0))) q5.2) else (if l5 < (q5.2 60 0 (Int32.toNatClampNeg ((49 * (l3 - 1)) + l9))) + (l7 + 1) then r_X8_boxes_89 l1 l2 l3 l4 ((q5.2 60 0 (Int32.toNatClampNeg ((49 * (l3 - 1)) + l9))) + (l7 + 1)) (l6 + 0) (l7 + 1) q5.1 (l9 + (-1)) (vi ((q5.2 60 0 (Int32.toNatClampNeg ((49 * (l3 - 1)) + l9))) + (l7 + 1))) q5.2 else r_X8_boxes_89 l1 l2 l3 l4 l5 (l6 + 0) (l7 + 1) q5.1 (l9 + (-1)) (vi ((q5.2 60 0 (Int32.toNatClampNeg ((49 * (l3 - 1)) + l9))) + (l7 + 1))) q5.2)))))))))))) := by
  refine (show r_X8_boxes_89 l1 l2 l3 l4 l5 l6 l7 l8 l9 x10 μ = mm_run E_X8_boxes 8 1 cX8_boxes (89, [vr 8 0, vi l1, vi l2, vi l3, vi l4, vi l5, vi l6, vi l7, vi l8, vi l9, x10], [], μ) from rfl).trans ?_
  refine (R_iload dX8_boxes_89 rfl).trans ?_
  refine (R_ifc 230 dX8_boxes_91 rfl).trans (c_lt (fun h1 => ?_) (fun h1 => ?_))
  · refine (R_aload_n dX8_boxes_230 rfl (by decide)).trans ?_
    refine (gr_8_41 dX8_boxes_231).trans ?_
    refine (R_bipush 49 dX8_boxes_234 bipush_49).trans ?_
    refine (R_iload_n dX8_boxes_236 rfl).trans ?_
    refine (R_imul dX8_boxes_237).trans ?_
    refine (R_iload dX8_boxes_238 rfl).trans ?_
    refine (R_iadd dX8_boxes_240).trans ?_
    refine (R_iload dX8_boxes_241 rfl).trans ?_
    refine (R_iastore dX8_boxes_243 as_60).trans (ck_congr ?_)
    refine wr_intro (g := fun m => mm_run E_X8_boxes 8 1 cX8_boxes (244, [vr 8 0, vi l1, vi l2, vi l3, vi l4, vi l5, vi l6, vi l7, vi l8, vi l9, x10], [], m)) (fun m2 => ?_)
    refine (R_iinc (ls' := [vr 8 0, vi l1, vi l2, vi l3, vi (l4 + 1), vi l5, vi l6, vi l7, vi l8, vi l9, x10]) 1 dX8_boxes_244 rfl iconst_1 (by decide) rfl).trans ?_
    refine (R_goto 52 dX8_boxes_247 rfl).trans ?_
    exact rfl
  · refine (R_iload dX8_boxes_94 rfl).trans ?_
    refine (R_ifc 230 dX8_boxes_96 rfl).trans (c_eq (fun h3 => ?_) (fun h3 => ?_))
    · refine (R_aload_n dX8_boxes_230 rfl (by decide)).trans ?_
      refine (gr_8_41 dX8_boxes_231).trans ?_
      refine (R_bipush 49 dX8_boxes_234 bipush_49).trans ?_
      refine (R_iload_n dX8_boxes_236 rfl).trans ?_
      refine (R_imul dX8_boxes_237).trans ?_
      refine (R_iload dX8_boxes_238 rfl).trans ?_
      refine (R_iadd dX8_boxes_240).trans ?_
      refine (R_iload dX8_boxes_241 rfl).trans ?_
      refine (R_iastore dX8_boxes_243 as_60).trans (ck_congr ?_)
      refine wr_intro (g := fun m => mm_run E_X8_boxes 8 1 cX8_boxes (244, [vr 8 0, vi l1, vi l2, vi l3, vi l4, vi l5, vi l6, vi l7, vi l8, vi l9, x10], [], m)) (fun m4 => ?_)
      refine (R_iinc (ls' := [vr 8 0, vi l1, vi l2, vi l3, vi (l4 + 1), vi l5, vi l6, vi l7, vi l8, vi l9, x10]) 1 dX8_boxes_244 rfl iconst_1 (by decide) rfl).trans ?_
      refine (R_goto 52 dX8_boxes_247 rfl).trans ?_
      exact rfl
    · refine (R_aload_n dX8_boxes_99 rfl (by decide)).trans ?_
      refine (R_aload_n dX8_boxes_100 rfl (by decide)).trans ?_
      refine (gr_8_38 dX8_boxes_101).trans ?_
      refine (R_iload dX8_boxes_104 rfl).trans ?_
      refine (R_iaload dX8_boxes_106 as_59).trans (ck_congr ?_)
      refine (R_iload dX8_boxes_107 rfl).trans ?_
      refine (R_iconst 1 dX8_boxes_109 iconst_1).trans ?_
      refine (R_iadd dX8_boxes_110).trans ?_
      refine (R_iload dX8_boxes_111 rfl).trans ?_
      refine (R_cv_i (as := [vi (μ 59 0 (Int32.toNatClampNeg l9)), vi (l9 + 1), vi l4]) (rest := []) dX8_boxes_113 mt_8_208 qp_132 qr_132 (E_X8_boxes_132) rfl rfl rfl (Nat.le_of_ble_eq_true rfl)).trans (mm_bind (fun q5 => ?_))
      refine (R_istore (ls' := [vr 8 0, vi l1, vi l2, vi l3, vi l4, vi l5, vi l6, vi l7, vi q5.1, vi l9, x10]) dX8_boxes_116 (Nat.le_of_ble_eq_true rfl) (by decide) rfl).trans ?_
      refine (R_iload dX8_boxes_118 rfl).trans ?_
      refine (R_iload dX8_boxes_120 rfl).trans ?_
      refine (R_ifc 141 dX8_boxes_122 rfl).trans (c_eq (fun h6 => ?_) (fun h6 => ?_))
      · refine (R_iconst 0 dX8_boxes_141 iconst_0).trans ?_
        refine (R_iadd dX8_boxes_142).trans ?_
        refine (R_istore (ls' := [vr 8 0, vi l1, vi l2, vi l3, vi l4, vi l5, vi (l6 + 0), vi l7, vi q5.1, vi l9, x10]) dX8_boxes_143 (Nat.le_of_ble_eq_true rfl) (by decide) rfl).trans ?_
        refine (R_iload dX8_boxes_145 rfl).trans ?_
        refine (R_iload dX8_boxes_147 rfl).trans ?_
        refine (R_ifc 168 dX8_boxes_149 rfl).trans ((p_eq_t h6).trans ?_)
        refine (R_iconst 0 dX8_boxes_168 iconst_0).trans ?_
        refine (R_iadd dX8_boxes_169).trans ?_
        refine (R_istore (ls' := [vr 8 0, vi l1, vi l2, vi l3, vi l4, vi l5, vi (l6 + 0), vi (l7 + 0), vi q5.1, vi l9, x10]) dX8_boxes_170 (Nat.le_of_ble_eq_true rfl) (by decide) rfl).trans ?_
        refine (R_aload_n dX8_boxes_172 rfl (by decide)).trans ?_
        refine (gr_8_41 dX8_boxes_173).trans ?_
        refine (R_bipush 49 dX8_boxes_176 bipush_49).trans ?_
        refine (R_iload_n dX8_boxes_178 rfl).trans ?_
        refine (R_iconst 1 dX8_boxes_179 iconst_1).trans ?_
        refine (R_isub dX8_boxes_180).trans ?_
        refine (R_imul dX8_boxes_181).trans ?_
        refine (R_iload dX8_boxes_182 rfl).trans ?_
        refine (R_iadd dX8_boxes_184).trans ?_
        refine (R_iaload dX8_boxes_185 as_60).trans (ck_congr ?_)
        refine (R_iload dX8_boxes_186 rfl).trans ?_
        refine (R_iload dX8_boxes_188 rfl).trans ?_
        refine (R_icmp 198 dX8_boxes_190 rfl).trans (c_ge (fun h7 => ?_) (fun h7 => ?_))
        · refine (R_iload dX8_boxes_193 rfl).trans ?_
          refine (R_goto 200 dX8_boxes_195 rfl).trans ?_
          refine (R_iadd dX8_boxes_200).trans ?_
          refine (R_istore (ls' := [vr 8 0, vi l1, vi l2, vi l3, vi l4, vi l5, vi (l6 + 0), vi (l7 + 0), vi q5.1, vi l9, vi ((q5.2 60 0 (Int32.toNatClampNeg ((49 * (l3 - 1)) + l9))) + (l6 + 0))]) dX8_boxes_201 (Nat.le_of_ble_eq_true rfl) (by decide) rfl).trans ?_
          refine (R_iload dX8_boxes_203 rfl).trans ?_
          refine (R_ifc 220 dX8_boxes_205 rfl).trans ((p_eq_t h6).trans ?_)
          refine (R_iload dX8_boxes_220 rfl).trans ?_
          refine (R_istore (ls' := [vr 8 0, vi l1, vi l2, vi l3, vi l4, vi l5, vi (l6 + 0), vi (l7 + 0), vi q5.1, vi l9, vi ((q5.2 60 0 (Int32.toNatClampNeg ((49 * (l3 - 1)) + l9))) + (l6 + 0))]) dX8_boxes_222 (Nat.le_of_ble_eq_true rfl) (by decide) rfl).trans ?_
          refine (R_iinc (ls' := [vr 8 0, vi l1, vi l2, vi l3, vi l4, vi l5, vi (l6 + 0), vi (l7 + 0), vi q5.1, vi (l9 + (-1)), vi ((q5.2 60 0 (Int32.toNatClampNeg ((49 * (l3 - 1)) + l9))) + (l6 + 0))]) (-1) dX8_boxes_224 rfl iconst_m1 (by decide) rfl).trans ?_
          refine (R_goto 89 dX8_boxes_227 rfl).trans ?_
          exact rfl
        · refine (R_iload dX8_boxes_198 rfl).trans ?_
          refine (R_iadd dX8_boxes_200).trans ?_
          refine (R_istore (ls' := [vr 8 0, vi l1, vi l2, vi l3, vi l4, vi l5, vi (l6 + 0), vi (l7 + 0), vi q5.1, vi l9, vi ((q5.2 60 0 (Int32.toNatClampNeg ((49 * (l3 - 1)) + l9))) + (l7 + 0))]) dX8_boxes_201 (Nat.le_of_ble_eq_true rfl) (by decide) rfl).trans ?_
          refine (R_iload dX8_boxes_203 rfl).trans ?_
          refine (R_ifc 220 dX8_boxes_205 rfl).trans ((p_eq_t h6).trans ?_)
          refine (R_iload dX8_boxes_220 rfl).trans ?_
          refine (R_istore (ls' := [vr 8 0, vi l1, vi l2, vi l3, vi l4, vi l5, vi (l6 + 0), vi (l7 + 0), vi q5.1, vi l9, vi ((q5.2 60 0 (Int32.toNatClampNeg ((49 * (l3 - 1)) + l9))) + (l7 + 0))]) dX8_boxes_222 (Nat.le_of_ble_eq_true rfl) (by decide) rfl).trans ?_
          refine (R_iinc (ls' := [vr 8 0, vi l1, vi l2, vi l3, vi l4, vi l5, vi (l6 + 0), vi (l7 + 0), vi q5.1, vi (l9 + (-1)), vi ((q5.2 60 0 (Int32.toNatClampNeg ((49 * (l3 - 1)) + l9))) + (l7 + 0))]) (-1) dX8_boxes_224 rfl iconst_m1 (by decide) rfl).trans ?_
          refine (R_goto 89 dX8_boxes_227 rfl).trans ?_
          exact rfl
      · refine (R_aload_n dX8_boxes_125 rfl (by decide)).trans ?_
        refine (gr_8_38 dX8_boxes_126).trans ?_
        refine (R_iload dX8_boxes_129 rfl).trans ?_
        refine (R_iaload dX8_boxes_131 as_59).trans (ck_congr ?_)
        refine (R_bipush 24 dX8_boxes_132 bipush_24).trans ?_
        refine (R_icmp 141 dX8_boxes_134 rfl).trans (c_ge (fun h8 => ?_) (fun h8 => ?_))
        · refine (R_iconst 1 dX8_boxes_137 iconst_1).trans ?_
          refine (R_goto 142 dX8_boxes_138 rfl).trans ?_
          refine (R_iadd dX8_boxes_142).trans ?_
          refine (R_istore (ls' := [vr 8 0, vi l1, vi l2, vi l3, vi l4, vi l5, vi (l6 + 1), vi l7, vi q5.1, vi l9, x10]) dX8_boxes_143 (Nat.le_of_ble_eq_true rfl) (by decide) rfl).trans ?_
          refine (R_iload dX8_boxes_145 rfl).trans ?_
          refine (R_iload dX8_boxes_147 rfl).trans ?_
          refine (R_ifc 168 dX8_boxes_149 rfl).trans ((p_eq_f h6).trans ?_)
          refine (R_aload_n dX8_boxes_152 rfl (by decide)).trans ?_
          refine (gr_8_38 dX8_boxes_153).trans ?_
          refine (R_iload dX8_boxes_156 rfl).trans ?_
          refine (R_iaload dX8_boxes_158 as_59).trans (ck_congr ?_)
          refine (R_bipush 24 dX8_boxes_159 bipush_24).trans ?_
          refine (R_icmp 168 dX8_boxes_161 rfl).trans ((p_lt_t h8).trans ?_)
          refine (R_iconst 0 dX8_boxes_168 iconst_0).trans ?_
          refine (R_iadd dX8_boxes_169).trans ?_
          refine (R_istore (ls' := [vr 8 0, vi l1, vi l2, vi l3, vi l4, vi l5, vi (l6 + 1), vi (l7 + 0), vi q5.1, vi l9, x10]) dX8_boxes_170 (Nat.le_of_ble_eq_true rfl) (by decide) rfl).trans ?_
          refine (R_aload_n dX8_boxes_172 rfl (by decide)).trans ?_
          refine (gr_8_41 dX8_boxes_173).trans ?_
          refine (R_bipush 49 dX8_boxes_176 bipush_49).trans ?_
          refine (R_iload_n dX8_boxes_178 rfl).trans ?_
          refine (R_iconst 1 dX8_boxes_179 iconst_1).trans ?_
          refine (R_isub dX8_boxes_180).trans ?_
          refine (R_imul dX8_boxes_181).trans ?_
          refine (R_iload dX8_boxes_182 rfl).trans ?_
          refine (R_iadd dX8_boxes_184).trans ?_
          refine (R_iaload dX8_boxes_185 as_60).trans (ck_congr ?_)
          refine (R_iload dX8_boxes_186 rfl).trans ?_
          refine (R_iload dX8_boxes_188 rfl).trans ?_
          refine (R_icmp 198 dX8_boxes_190 rfl).trans (c_ge (fun h9 => ?_) (fun h9 => ?_))
          · refine (R_iload dX8_boxes_193 rfl).trans ?_
            refine (R_goto 200 dX8_boxes_195 rfl).trans ?_
            refine (R_iadd dX8_boxes_200).trans ?_
            refine (R_istore (ls' := [vr 8 0, vi l1, vi l2, vi l3, vi l4, vi l5, vi (l6 + 1), vi (l7 + 0), vi q5.1, vi l9, vi ((q5.2 60 0 (Int32.toNatClampNeg ((49 * (l3 - 1)) + l9))) + (l6 + 1))]) dX8_boxes_201 (Nat.le_of_ble_eq_true rfl) (by decide) rfl).trans ?_
            refine (R_iload dX8_boxes_203 rfl).trans ?_
            refine (R_ifc 220 dX8_boxes_205 rfl).trans ((p_eq_f h6).trans ?_)
            refine (R_iload dX8_boxes_208 rfl).trans ?_
            refine (R_iload dX8_boxes_210 rfl).trans ?_
            refine (R_icmp 220 dX8_boxes_212 rfl).trans (c_le (fun h10 => ?_) (fun h10 => ?_))
            · refine (R_iload dX8_boxes_215 rfl).trans ?_
              refine (R_goto 222 dX8_boxes_217 rfl).trans ?_
              refine (R_istore (ls' := [vr 8 0, vi l1, vi l2, vi l3, vi l4, vi ((q5.2 60 0 (Int32.toNatClampNeg ((49 * (l3 - 1)) + l9))) + (l6 + 1)), vi (l6 + 1), vi (l7 + 0), vi q5.1, vi l9, vi ((q5.2 60 0 (Int32.toNatClampNeg ((49 * (l3 - 1)) + l9))) + (l6 + 1))]) dX8_boxes_222 (Nat.le_of_ble_eq_true rfl) (by decide) rfl).trans ?_
              refine (R_iinc (ls' := [vr 8 0, vi l1, vi l2, vi l3, vi l4, vi ((q5.2 60 0 (Int32.toNatClampNeg ((49 * (l3 - 1)) + l9))) + (l6 + 1)), vi (l6 + 1), vi (l7 + 0), vi q5.1, vi (l9 + (-1)), vi ((q5.2 60 0 (Int32.toNatClampNeg ((49 * (l3 - 1)) + l9))) + (l6 + 1))]) (-1) dX8_boxes_224 rfl iconst_m1 (by decide) rfl).trans ?_
              refine (R_goto 89 dX8_boxes_227 rfl).trans ?_
              exact rfl
            · refine (R_iload dX8_boxes_220 rfl).trans ?_
              refine (R_istore (ls' := [vr 8 0, vi l1, vi l2, vi l3, vi l4, vi l5, vi (l6 + 1), vi (l7 + 0), vi q5.1, vi l9, vi ((q5.2 60 0 (Int32.toNatClampNeg ((49 * (l3 - 1)) + l9))) + (l6 + 1))]) dX8_boxes_222 (Nat.le_of_ble_eq_true rfl) (by decide) rfl).trans ?_
              refine (R_iinc (ls' := [vr 8 0, vi l1, vi l2, vi l3, vi l4, vi l5, vi (l6 + 1), vi (l7 + 0), vi q5.1, vi (l9 + (-1)), vi ((q5.2 60 0 (Int32.toNatClampNeg ((49 * (l3 - 1)) + l9))) + (l6 + 1))]) (-1) dX8_boxes_224 rfl iconst_m1 (by decide) rfl).trans ?_
              refine (R_goto 89 dX8_boxes_227 rfl).trans ?_
              exact rfl
          · refine (R_iload dX8_boxes_198 rfl).trans ?_
            refine (R_iadd dX8_boxes_200).trans ?_
            refine (R_istore (ls' := [vr 8 0, vi l1, vi l2, vi l3, vi l4, vi l5, vi (l6 + 1), vi (l7 + 0), vi q5.1, vi l9, vi ((q5.2 60 0 (Int32.toNatClampNeg ((49 * (l3 - 1)) + l9))) + (l7 + 0))]) dX8_boxes_201 (Nat.le_of_ble_eq_true rfl) (by decide) rfl).trans ?_
            refine (R_iload dX8_boxes_203 rfl).trans ?_
            refine (R_ifc 220 dX8_boxes_205 rfl).trans ((p_eq_f h6).trans ?_)
            refine (R_iload dX8_boxes_208 rfl).trans ?_
            refine (R_iload dX8_boxes_210 rfl).trans ?_
            refine (R_icmp 220 dX8_boxes_212 rfl).trans (c_le (fun h11 => ?_) (fun h11 => ?_))
            · refine (R_iload dX8_boxes_215 rfl).trans ?_
              refine (R_goto 222 dX8_boxes_217 rfl).trans ?_
              refine (R_istore (ls' := [vr 8 0, vi l1, vi l2, vi l3, vi l4, vi ((q5.2 60 0 (Int32.toNatClampNeg ((49 * (l3 - 1)) + l9))) + (l7 + 0)), vi (l6 + 1), vi (l7 + 0), vi q5.1, vi l9, vi ((q5.2 60 0 (Int32.toNatClampNeg ((49 * (l3 - 1)) + l9))) + (l7 + 0))]) dX8_boxes_222 (Nat.le_of_ble_eq_true rfl) (by decide) rfl).trans ?_
              refine (R_iinc (ls' := [vr 8 0, vi l1, vi l2, vi l3, vi l4, vi ((q5.2 60 0 (Int32.toNatClampNeg ((49 * (l3 - 1)) + l9))) + (l7 + 0)), vi (l6 + 1), vi (l7 + 0), vi q5.1, vi (l9 + (-1)), vi ((q5.2 60 0 (Int32.toNatClampNeg ((49 * (l3 - 1)) + l9))) + (l7 + 0))]) (-1) dX8_boxes_224 rfl iconst_m1 (by decide) rfl).trans ?_
              refine (R_goto 89 dX8_boxes_227 rfl).trans ?_
              exact rfl
            · refine (R_iload dX8_boxes_220 rfl).trans ?_
              refine (R_istore (ls' := [vr 8 0, vi l1, vi l2, vi l3, vi l4, vi l5, vi (l6 + 1), vi (l7 + 0), vi q5.1, vi l9, vi ((q5.2 60 0 (Int32.toNatClampNeg ((49 * (l3 - 1)) + l9))) + (l7 + 0))]) dX8_boxes_222 (Nat.le_of_ble_eq_true rfl) (by decide) rfl).trans ?_
              refine (R_iinc (ls' := [vr 8 0, vi l1, vi l2, vi l3, vi l4, vi l5, vi (l6 + 1), vi (l7 + 0), vi q5.1, vi (l9 + (-1)), vi ((q5.2 60 0 (Int32.toNatClampNeg ((49 * (l3 - 1)) + l9))) + (l7 + 0))]) (-1) dX8_boxes_224 rfl iconst_m1 (by decide) rfl).trans ?_
              refine (R_goto 89 dX8_boxes_227 rfl).trans ?_
              exact rfl
        · refine (R_iconst 0 dX8_boxes_141 iconst_0).trans ?_
          refine (R_iadd dX8_boxes_142).trans ?_
          refine (R_istore (ls' := [vr 8 0, vi l1, vi l2, vi l3, vi l4, vi l5, vi (l6 + 0), vi l7, vi q5.1, vi l9, x10]) dX8_boxes_143 (Nat.le_of_ble_eq_true rfl) (by decide) rfl).trans ?_
          refine (R_iload dX8_boxes_145 rfl).trans ?_
          refine (R_iload dX8_boxes_147 rfl).trans ?_
          refine (R_ifc 168 dX8_boxes_149 rfl).trans ((p_eq_f h6).trans ?_)
          refine (R_aload_n dX8_boxes_152 rfl (by decide)).trans ?_
          refine (gr_8_38 dX8_boxes_153).trans ?_
          refine (R_iload dX8_boxes_156 rfl).trans ?_
          refine (R_iaload dX8_boxes_158 as_59).trans (ck_congr ?_)
          refine (R_bipush 24 dX8_boxes_159 bipush_24).trans ?_
          refine (R_icmp 168 dX8_boxes_161 rfl).trans ((p_lt_f h8).trans ?_)
          refine (R_iconst 1 dX8_boxes_164 iconst_1).trans ?_
          refine (R_goto 169 dX8_boxes_165 rfl).trans ?_
          refine (R_iadd dX8_boxes_169).trans ?_
          refine (R_istore (ls' := [vr 8 0, vi l1, vi l2, vi l3, vi l4, vi l5, vi (l6 + 0), vi (l7 + 1), vi q5.1, vi l9, x10]) dX8_boxes_170 (Nat.le_of_ble_eq_true rfl) (by decide) rfl).trans ?_
          refine (R_aload_n dX8_boxes_172 rfl (by decide)).trans ?_
          refine (gr_8_41 dX8_boxes_173).trans ?_
          refine (R_bipush 49 dX8_boxes_176 bipush_49).trans ?_
          refine (R_iload_n dX8_boxes_178 rfl).trans ?_
          refine (R_iconst 1 dX8_boxes_179 iconst_1).trans ?_
          refine (R_isub dX8_boxes_180).trans ?_
          refine (R_imul dX8_boxes_181).trans ?_
          refine (R_iload dX8_boxes_182 rfl).trans ?_
          refine (R_iadd dX8_boxes_184).trans ?_
          refine (R_iaload dX8_boxes_185 as_60).trans (ck_congr ?_)
          refine (R_iload dX8_boxes_186 rfl).trans ?_
          refine (R_iload dX8_boxes_188 rfl).trans ?_
          refine (R_icmp 198 dX8_boxes_190 rfl).trans (c_ge (fun h12 => ?_) (fun h12 => ?_))
          · refine (R_iload dX8_boxes_193 rfl).trans ?_
            refine (R_goto 200 dX8_boxes_195 rfl).trans ?_
            refine (R_iadd dX8_boxes_200).trans ?_
            refine (R_istore (ls' := [vr 8 0, vi l1, vi l2, vi l3, vi l4, vi l5, vi (l6 + 0), vi (l7 + 1), vi q5.1, vi l9, vi ((q5.2 60 0 (Int32.toNatClampNeg ((49 * (l3 - 1)) + l9))) + (l6 + 0))]) dX8_boxes_201 (Nat.le_of_ble_eq_true rfl) (by decide) rfl).trans ?_
            refine (R_iload dX8_boxes_203 rfl).trans ?_
            refine (R_ifc 220 dX8_boxes_205 rfl).trans ((p_eq_f h6).trans ?_)
            refine (R_iload dX8_boxes_208 rfl).trans ?_
            refine (R_iload dX8_boxes_210 rfl).trans ?_
            refine (R_icmp 220 dX8_boxes_212 rfl).trans (c_le (fun h13 => ?_) (fun h13 => ?_))
            · refine (R_iload dX8_boxes_215 rfl).trans ?_
              refine (R_goto 222 dX8_boxes_217 rfl).trans ?_
              refine (R_istore (ls' := [vr 8 0, vi l1, vi l2, vi l3, vi l4, vi ((q5.2 60 0 (Int32.toNatClampNeg ((49 * (l3 - 1)) + l9))) + (l6 + 0)), vi (l6 + 0), vi (l7 + 1), vi q5.1, vi l9, vi ((q5.2 60 0 (Int32.toNatClampNeg ((49 * (l3 - 1)) + l9))) + (l6 + 0))]) dX8_boxes_222 (Nat.le_of_ble_eq_true rfl) (by decide) rfl).trans ?_
              refine (R_iinc (ls' := [vr 8 0, vi l1, vi l2, vi l3, vi l4, vi ((q5.2 60 0 (Int32.toNatClampNeg ((49 * (l3 - 1)) + l9))) + (l6 + 0)), vi (l6 + 0), vi (l7 + 1), vi q5.1, vi (l9 + (-1)), vi ((q5.2 60 0 (Int32.toNatClampNeg ((49 * (l3 - 1)) + l9))) + (l6 + 0))]) (-1) dX8_boxes_224 rfl iconst_m1 (by decide) rfl).trans ?_
              refine (R_goto 89 dX8_boxes_227 rfl).trans ?_
              exact rfl
            · refine (R_iload dX8_boxes_220 rfl).trans ?_
              refine (R_istore (ls' := [vr 8 0, vi l1, vi l2, vi l3, vi l4, vi l5, vi (l6 + 0), vi (l7 + 1), vi q5.1, vi l9, vi ((q5.2 60 0 (Int32.toNatClampNeg ((49 * (l3 - 1)) + l9))) + (l6 + 0))]) dX8_boxes_222 (Nat.le_of_ble_eq_true rfl) (by decide) rfl).trans ?_
              refine (R_iinc (ls' := [vr 8 0, vi l1, vi l2, vi l3, vi l4, vi l5, vi (l6 + 0), vi (l7 + 1), vi q5.1, vi (l9 + (-1)), vi ((q5.2 60 0 (Int32.toNatClampNeg ((49 * (l3 - 1)) + l9))) + (l6 + 0))]) (-1) dX8_boxes_224 rfl iconst_m1 (by decide) rfl).trans ?_
              refine (R_goto 89 dX8_boxes_227 rfl).trans ?_
              exact rfl
          · refine (R_iload dX8_boxes_198 rfl).trans ?_
            refine (R_iadd dX8_boxes_200).trans ?_
            refine (R_istore (ls' := [vr 8 0, vi l1, vi l2, vi l3, vi l4, vi l5, vi (l6 + 0), vi (l7 + 1), vi q5.1, vi l9, vi ((q5.2 60 0 (Int32.toNatClampNeg ((49 * (l3 - 1)) + l9))) + (l7 + 1))]) dX8_boxes_201 (Nat.le_of_ble_eq_true rfl) (by decide) rfl).trans ?_
            refine (R_iload dX8_boxes_203 rfl).trans ?_
            refine (R_ifc 220 dX8_boxes_205 rfl).trans ((p_eq_f h6).trans ?_)
            refine (R_iload dX8_boxes_208 rfl).trans ?_
            refine (R_iload dX8_boxes_210 rfl).trans ?_
            refine (R_icmp 220 dX8_boxes_212 rfl).trans (c_le (fun h14 => ?_) (fun h14 => ?_))
            · refine (R_iload dX8_boxes_215 rfl).trans ?_
              refine (R_goto 222 dX8_boxes_217 rfl).trans ?_
              refine (R_istore (ls' := [vr 8 0, vi l1, vi l2, vi l3, vi l4, vi ((q5.2 60 0 (Int32.toNatClampNeg ((49 * (l3 - 1)) + l9))) + (l7 + 1)), vi (l6 + 0), vi (l7 + 1), vi q5.1, vi l9, vi ((q5.2 60 0 (Int32.toNatClampNeg ((49 * (l3 - 1)) + l9))) + (l7 + 1))]) dX8_boxes_222 (Nat.le_of_ble_eq_true rfl) (by decide) rfl).trans ?_
              refine (R_iinc (ls' := [vr 8 0, vi l1, vi l2, vi l3, vi l4, vi ((q5.2 60 0 (Int32.toNatClampNeg ((49 * (l3 - 1)) + l9))) + (l7 + 1)), vi (l6 + 0), vi (l7 + 1), vi q5.1, vi (l9 + (-1)), vi ((q5.2 60 0 (Int32.toNatClampNeg ((49 * (l3 - 1)) + l9))) + (l7 + 1))]) (-1) dX8_boxes_224 rfl iconst_m1 (by decide) rfl).trans ?_
              refine (R_goto 89 dX8_boxes_227 rfl).trans ?_
              exact rfl
            · refine (R_iload dX8_boxes_220 rfl).trans ?_
              refine (R_istore (ls' := [vr 8 0, vi l1, vi l2, vi l3, vi l4, vi l5, vi (l6 + 0), vi (l7 + 1), vi q5.1, vi l9, vi ((q5.2 60 0 (Int32.toNatClampNeg ((49 * (l3 - 1)) + l9))) + (l7 + 1))]) dX8_boxes_222 (Nat.le_of_ble_eq_true rfl) (by decide) rfl).trans ?_
              refine (R_iinc (ls' := [vr 8 0, vi l1, vi l2, vi l3, vi l4, vi l5, vi (l6 + 0), vi (l7 + 1), vi q5.1, vi (l9 + (-1)), vi ((q5.2 60 0 (Int32.toNatClampNeg ((49 * (l3 - 1)) + l9))) + (l7 + 1))]) (-1) dX8_boxes_224 rfl iconst_m1 (by decide) rfl).trans ?_
              refine (R_goto 89 dX8_boxes_227 rfl).trans ?_
              exact rfl
noncomputable def E_X8_told : mE := fun k => if k = 90 then f_X8_now else if k = 91 then f_X8_playOf else if k = 92 then f_X8_ease else if k = 93 then f_X8_more else if k = 98 then f_X8_sizesTell else if k = 97 then f_X8_tryNext else fun _ _ => none
theorem E_X8_told_90 : E_X8_told 90 = f_X8_now := if_pos rfl
theorem E_X8_told_91 : E_X8_told 91 = f_X8_playOf := (if_neg (by decide)).trans (if_pos rfl)
theorem E_X8_told_92 : E_X8_told 92 = f_X8_ease := (if_neg (by decide)).trans ((if_neg (by decide)).trans (if_pos rfl))
theorem E_X8_told_93 : E_X8_told 93 = f_X8_more := (if_neg (by decide)).trans ((if_neg (by decide)).trans ((if_neg (by decide)).trans (if_pos rfl)))
theorem E_X8_told_98 : E_X8_told 98 = f_X8_sizesTell := (if_neg (by decide)).trans ((if_neg (by decide)).trans ((if_neg (by decide)).trans ((if_neg (by decide)).trans (if_pos rfl))))
theorem E_X8_told_97 : E_X8_told 97 = f_X8_tryNext := (if_neg (by decide)).trans ((if_neg (by decide)).trans ((if_neg (by decide)).trans ((if_neg (by decide)).trans ((if_neg (by decide)).trans (if_pos rfl)))))
noncomputable def f_X8_told : List mV → mM → Option mR := mm_fn E_X8_told 8 1 2 cX8_told
theorem k_X8_told (l : Launch) : mm_OK l 99 f_X8_told := mm_fn_ok l 99 8 E_X8_told (by decide) rfl (by decide) (by
  intro k as μ q h
  by_cases h0 : k = 90
  · subst h0
    exact ⟨by rw [E_X8_told_90]; exact k_X8_now l, by decide, by decide, by decide⟩
  by_cases h1 : k = 91
  · subst h1
    exact ⟨by rw [E_X8_told_91]; exact k_X8_playOf l, by decide, by decide, by decide⟩
  by_cases h2 : k = 92
  · subst h2
    exact ⟨by rw [E_X8_told_92]; exact k_X8_ease l, by decide, by decide, by decide⟩
  by_cases h3 : k = 93
  · subst h3
    exact ⟨by rw [E_X8_told_93]; exact k_X8_more l, by decide, by decide, by decide⟩
  by_cases h4 : k = 98
  · subst h4
    exact ⟨by rw [E_X8_told_98]; exact k_X8_sizesTell l, by decide, by decide, by decide⟩
  by_cases h5 : k = 97
  · subst h5
    exact ⟨by rw [E_X8_told_97]; exact k_X8_tryNext l, by decide, by decide, by decide⟩
  have e : E_X8_told k = fun _ _ => none := (if_neg h0).trans ((if_neg h1).trans ((if_neg h2).trans ((if_neg h3).trans ((if_neg h4).trans ((if_neg h5).trans (rfl))))))
  rw [e] at h
  cases h)
set_option maxRecDepth 100000 in
set_option maxHeartbeats 4000000 in
theorem e_X8_told (l1 : Int32) (μ : mM) : f_X8_told [vr 8 0, vi l1] μ = (if l1 = 0 then (ck 5225 8 (some (μ 50 0 (Int32.toNatClampNeg 8), μ))) else (if l1 = 1 then (ck 5225 57 (some (μ 50 0 (Int32.toNatClampNeg 57), μ))) else (if l1 = 2 then (ck 5225 82 (some (μ 50 0 (Int32.toNatClampNeg 82), μ))) else (if l1 = 3 then (Option.bind (f_X8_now [vr 8 0] μ) (fun q5 => some (q5.1, q5.2))) else (if l1 = 4 then (ck 5225 8 (Option.bind (f_X8_now [vr 8 0] μ) (fun q7 => some ((μ 50 0 (Int32.toNatClampNeg 8)) - q7.1, q7.2)))) else (if l1 = 5 then (ck 5225 57 (Option.bind (f_X8_now [vr 8 0] μ) (fun q9 => some ((μ 50 0 (Int32.toNatClampNeg 57)) - q9.1, q9.2)))) else (if l1 = 6 then (Option.bind (f_X8_playOf [vr 8 0, vi 0] μ) (fun q11 => some (q11.1, q11.2))) else (if l1 = 7 then (Option.bind (f_X8_playOf [vr 8 0, vi 1] μ) (fun q13 => some (q13.1, q13.2))) else (if l1 = 8 then (Option.bind (f_X8_ease [vr 8 0] μ) (fun q15 => some (q15.1, q15.2))) else (if l1 = 9 then (Option.bind (f_X8_more [vr 8 0] μ) (fun q17 => some (q17.1, q17.2))) else (if l1 = 10 then some (μ 8 0 8, μ) else (if l1 = 11 then (Option.bind (f_X8_sizesTell [vr 8 0, vi 0] μ) (fun q20 => some (q20.1, q20.2))) else (if l1 = 12 then (Option.bind (f_X8_sizesTell [vr 8 0, vi 1] μ) (fun q22 => some (q22.1, q22.2))) else (if l1 = 13 then (Option.bind (f_X8_sizesTell [vr 8 0, vi 2] μ) (fun q24 => some (q24.1, q24.2))) else (if l1 = 14 then (Option.bind (f_X8_tryNext [vr 8 0] μ) (fun q26 => some (q26.1, q26.2))) else (if l1 = 15 then some (μ 8 0 3, μ) else some ((-1000000002), μ))))))))))))))))) := by
  refine (show f_X8_told [vr 8 0, vi l1] μ = mm_run E_X8_told 8 1 cX8_told (0, [vr 8 0, vi l1], [], μ) from rfl).trans ?_
  refine (R_iload_n dX8_told_0 rfl).trans ?_
  refine mm_ite (c := l1 = 0) (fun h1 => ?_) (fun h1 => ?_)
  · refine (R_switch dX8_told_1 (sw_in 80 h1 rfl rfl rfl rfl)).trans ?_
    refine (R_aload_n dX8_told_80 rfl (by decide)).trans ?_
    refine (gr_8_7 dX8_told_81).trans ?_
    refine (R_bipush 8 dX8_told_84 bipush_8).trans ?_
    refine (R_iaload dX8_told_86 as_50).trans (ck_congr ?_)
    exact R_ireturn dX8_told_87 rfl
  refine mm_ite (c := l1 = 1) (fun h2 => ?_) (fun h2 => ?_)
  · refine (R_switch dX8_told_1 (sw_in 88 h2 rfl rfl rfl rfl)).trans ?_
    refine (R_aload_n dX8_told_88 rfl (by decide)).trans ?_
    refine (gr_8_7 dX8_told_89).trans ?_
    refine (R_bipush 57 dX8_told_92 bipush_57).trans ?_
    refine (R_iaload dX8_told_94 as_50).trans (ck_congr ?_)
    exact R_ireturn dX8_told_95 rfl
  refine mm_ite (c := l1 = 2) (fun h3 => ?_) (fun h3 => ?_)
  · refine (R_switch dX8_told_1 (sw_in 96 h3 rfl rfl rfl rfl)).trans ?_
    refine (R_aload_n dX8_told_96 rfl (by decide)).trans ?_
    refine (gr_8_7 dX8_told_97).trans ?_
    refine (R_bipush 82 dX8_told_100 bipush_82).trans ?_
    refine (R_iaload dX8_told_102 as_50).trans (ck_congr ?_)
    exact R_ireturn dX8_told_103 rfl
  refine mm_ite (c := l1 = 3) (fun h4 => ?_) (fun h4 => ?_)
  · refine (R_switch dX8_told_1 (sw_in 104 h4 rfl rfl rfl rfl)).trans ?_
    refine (R_aload_n dX8_told_104 rfl (by decide)).trans ?_
    refine (R_cv_i (as := []) (rest := []) dX8_told_105 mt_8_70 qp_90 qr_90 (E_X8_told_90) rfl rfl rfl (Nat.le_of_ble_eq_true rfl)).trans (mm_bind (fun q5 => ?_))
    exact R_ireturn dX8_told_108 rfl
  refine mm_ite (c := l1 = 4) (fun h6 => ?_) (fun h6 => ?_)
  · refine (R_switch dX8_told_1 (sw_in 109 h6 rfl rfl rfl rfl)).trans ?_
    refine (R_aload_n dX8_told_109 rfl (by decide)).trans ?_
    refine (gr_8_7 dX8_told_110).trans ?_
    refine (R_bipush 8 dX8_told_113 bipush_8).trans ?_
    refine (R_iaload dX8_told_115 as_50).trans (ck_congr ?_)
    refine (R_aload_n dX8_told_116 rfl (by decide)).trans ?_
    refine (R_cv_i (as := []) (rest := [vi (μ 50 0 (Int32.toNatClampNeg 8))]) dX8_told_117 mt_8_70 qp_90 qr_90 (E_X8_told_90) rfl rfl rfl (Nat.le_of_ble_eq_true rfl)).trans (mm_bind (fun q7 => ?_))
    refine (R_isub dX8_told_120).trans ?_
    exact R_ireturn dX8_told_121 rfl
  refine mm_ite (c := l1 = 5) (fun h8 => ?_) (fun h8 => ?_)
  · refine (R_switch dX8_told_1 (sw_in 122 h8 rfl rfl rfl rfl)).trans ?_
    refine (R_aload_n dX8_told_122 rfl (by decide)).trans ?_
    refine (gr_8_7 dX8_told_123).trans ?_
    refine (R_bipush 57 dX8_told_126 bipush_57).trans ?_
    refine (R_iaload dX8_told_128 as_50).trans (ck_congr ?_)
    refine (R_aload_n dX8_told_129 rfl (by decide)).trans ?_
    refine (R_cv_i (as := []) (rest := [vi (μ 50 0 (Int32.toNatClampNeg 57))]) dX8_told_130 mt_8_70 qp_90 qr_90 (E_X8_told_90) rfl rfl rfl (Nat.le_of_ble_eq_true rfl)).trans (mm_bind (fun q9 => ?_))
    refine (R_isub dX8_told_133).trans ?_
    exact R_ireturn dX8_told_134 rfl
  refine mm_ite (c := l1 = 6) (fun h10 => ?_) (fun h10 => ?_)
  · refine (R_switch dX8_told_1 (sw_in 135 h10 rfl rfl rfl rfl)).trans ?_
    refine (R_aload_n dX8_told_135 rfl (by decide)).trans ?_
    refine (R_iconst 0 dX8_told_136 iconst_0).trans ?_
    refine (R_cv_i (as := [vi 0]) (rest := []) dX8_told_137 mt_8_99 qp_91 qr_91 (E_X8_told_91) rfl rfl rfl (Nat.le_of_ble_eq_true rfl)).trans (mm_bind (fun q11 => ?_))
    exact R_ireturn dX8_told_140 rfl
  refine mm_ite (c := l1 = 7) (fun h12 => ?_) (fun h12 => ?_)
  · refine (R_switch dX8_told_1 (sw_in 141 h12 rfl rfl rfl rfl)).trans ?_
    refine (R_aload_n dX8_told_141 rfl (by decide)).trans ?_
    refine (R_iconst 1 dX8_told_142 iconst_1).trans ?_
    refine (R_cv_i (as := [vi 1]) (rest := []) dX8_told_143 mt_8_99 qp_91 qr_91 (E_X8_told_91) rfl rfl rfl (Nat.le_of_ble_eq_true rfl)).trans (mm_bind (fun q13 => ?_))
    exact R_ireturn dX8_told_146 rfl
  refine mm_ite (c := l1 = 8) (fun h14 => ?_) (fun h14 => ?_)
  · refine (R_switch dX8_told_1 (sw_in 147 h14 rfl rfl rfl rfl)).trans ?_
    refine (R_aload_n dX8_told_147 rfl (by decide)).trans ?_
    refine (R_cv_i (as := []) (rest := []) dX8_told_148 mt_8_103 qp_92 qr_92 (E_X8_told_92) rfl rfl rfl (Nat.le_of_ble_eq_true rfl)).trans (mm_bind (fun q15 => ?_))
    exact R_ireturn dX8_told_151 rfl
  refine mm_ite (c := l1 = 9) (fun h16 => ?_) (fun h16 => ?_)
  · refine (R_switch dX8_told_1 (sw_in 152 h16 rfl rfl rfl rfl)).trans ?_
    refine (R_aload_n dX8_told_152 rfl (by decide)).trans ?_
    refine (R_cv_i (as := []) (rest := []) dX8_told_153 mt_8_106 qp_93 qr_93 (E_X8_told_93) rfl rfl rfl (Nat.le_of_ble_eq_true rfl)).trans (mm_bind (fun q17 => ?_))
    exact R_ireturn dX8_told_156 rfl
  refine mm_ite (c := l1 = 10) (fun h18 => ?_) (fun h18 => ?_)
  · refine (R_switch dX8_told_1 (sw_in 157 h18 rfl rfl rfl rfl)).trans ?_
    refine (R_aload_n dX8_told_157 rfl (by decide)).trans ?_
    refine (gi_8_78 dX8_told_158).trans ?_
    exact R_ireturn dX8_told_161 rfl
  refine mm_ite (c := l1 = 11) (fun h19 => ?_) (fun h19 => ?_)
  · refine (R_switch dX8_told_1 (sw_in 162 h19 rfl rfl rfl rfl)).trans ?_
    refine (R_aload_n dX8_told_162 rfl (by decide)).trans ?_
    refine (R_iconst 0 dX8_told_163 iconst_0).trans ?_
    refine (R_cv_i (as := [vi 0]) (rest := []) dX8_told_164 mt_8_109 qp_98 qr_98 (E_X8_told_98) rfl rfl rfl (Nat.le_of_ble_eq_true rfl)).trans (mm_bind (fun q20 => ?_))
    exact R_ireturn dX8_told_167 rfl
  refine mm_ite (c := l1 = 12) (fun h21 => ?_) (fun h21 => ?_)
  · refine (R_switch dX8_told_1 (sw_in 168 h21 rfl rfl rfl rfl)).trans ?_
    refine (R_aload_n dX8_told_168 rfl (by decide)).trans ?_
    refine (R_iconst 1 dX8_told_169 iconst_1).trans ?_
    refine (R_cv_i (as := [vi 1]) (rest := []) dX8_told_170 mt_8_109 qp_98 qr_98 (E_X8_told_98) rfl rfl rfl (Nat.le_of_ble_eq_true rfl)).trans (mm_bind (fun q22 => ?_))
    exact R_ireturn dX8_told_173 rfl
  refine mm_ite (c := l1 = 13) (fun h23 => ?_) (fun h23 => ?_)
  · refine (R_switch dX8_told_1 (sw_in 174 h23 rfl rfl rfl rfl)).trans ?_
    refine (R_aload_n dX8_told_174 rfl (by decide)).trans ?_
    refine (R_iconst 2 dX8_told_175 iconst_2).trans ?_
    refine (R_cv_i (as := [vi 2]) (rest := []) dX8_told_176 mt_8_109 qp_98 qr_98 (E_X8_told_98) rfl rfl rfl (Nat.le_of_ble_eq_true rfl)).trans (mm_bind (fun q24 => ?_))
    exact R_ireturn dX8_told_179 rfl
  refine mm_ite (c := l1 = 14) (fun h25 => ?_) (fun h25 => ?_)
  · refine (R_switch dX8_told_1 (sw_in 180 h25 rfl rfl rfl rfl)).trans ?_
    refine (R_aload_n dX8_told_180 rfl (by decide)).trans ?_
    refine (R_cv_i (as := []) (rest := []) dX8_told_181 mt_8_112 qp_97 qr_97 (E_X8_told_97) rfl rfl rfl (Nat.le_of_ble_eq_true rfl)).trans (mm_bind (fun q26 => ?_))
    exact R_ireturn dX8_told_184 rfl
  refine mm_ite (c := l1 = 15) (fun h27 => ?_) (fun h27 => ?_)
  · refine (R_switch dX8_told_1 (sw_in 185 h27 rfl rfl rfl rfl)).trans ?_
    refine (R_aload_n dX8_told_185 rfl (by decide)).trans ?_
    refine (gi_8_115 dX8_told_186).trans ?_
    exact R_ireturn dX8_told_189 rfl
  refine (R_switch dX8_told_1 (sw_out 190 (sw_n16 h1 h2 h3 h4 h6 h8 h10 h12 h14 h16 h18 h19 h21 h23 h25 h27) rfl)).trans ?_
  refine (R_ldc dX8_told_190 kt_8_118).trans ?_
  exact R_ireturn dX8_told_192 rfl
noncomputable def E_X8_shaftAt : mE := fun k => if k = 83 then f_X8_isShaft else if k = 101 then f_X8_shaftTells else fun _ _ => none
theorem E_X8_shaftAt_83 : E_X8_shaftAt 83 = f_X8_isShaft := if_pos rfl
theorem E_X8_shaftAt_101 : E_X8_shaftAt 101 = f_X8_shaftTells := (if_neg (by decide)).trans (if_pos rfl)
noncomputable def f_X8_shaftAt : List mV → mM → Option mR := mm_fn E_X8_shaftAt 8 1 3 cX8_shaftAt
theorem k_X8_shaftAt (l : Launch) : mm_OK l 102 f_X8_shaftAt := mm_fn_ok l 102 8 E_X8_shaftAt (by decide) rfl (by decide) (by
  intro k as μ q h
  by_cases h0 : k = 83
  · subst h0
    exact ⟨by rw [E_X8_shaftAt_83]; exact k_X8_isShaft l, by decide, by decide, by decide⟩
  by_cases h1 : k = 101
  · subst h1
    exact ⟨by rw [E_X8_shaftAt_101]; exact k_X8_shaftTells l, by decide, by decide, by decide⟩
  have e : E_X8_shaftAt k = fun _ _ => none := (if_neg h0).trans ((if_neg h1).trans (rfl))
  rw [e] at h
  cases h)
set_option maxRecDepth 100000 in
set_option maxHeartbeats 4000000 in
theorem e_X8_shaftAt (l1 : Int32) (l2 : Int32) (μ : mM) : f_X8_shaftAt [vr 8 0, vi l1, vi l2] μ = (Option.bind (f_X8_isShaft [vr 8 0, vi l1] μ) (fun q1 => (if q1.1 = 0 then some ((-1000000001), q1.2) else (Option.bind (f_X8_shaftTells [vr 8 0, vi l1, vi l2] q1.2) (fun q3 => some (q3.1, q3.2)))))) := by
  refine (show f_X8_shaftAt [vr 8 0, vi l1, vi l2] μ = mm_run E_X8_shaftAt 8 1 cX8_shaftAt (0, [vr 8 0, vi l1, vi l2], [], μ) from rfl).trans ?_
  refine (R_aload_n dX8_shaftAt_0 rfl (by decide)).trans ?_
  refine (R_iload_n dX8_shaftAt_1 rfl).trans ?_
  refine (R_cv_i (as := [vi l1]) (rest := []) dX8_shaftAt_2 mt_8_122 qp_83 qr_83 (E_X8_shaftAt_83) rfl rfl rfl (Nat.le_of_ble_eq_true rfl)).trans (mm_bind (fun q1 => ?_))
  refine (R_ifc 17 dX8_shaftAt_5 rfl).trans (c_eq (fun h2 => ?_) (fun h2 => ?_))
  · refine (R_ldc dX8_shaftAt_17 kt_8_128).trans ?_
    exact R_ireturn dX8_shaftAt_19 rfl
  · refine (R_aload_n dX8_shaftAt_8 rfl (by decide)).trans ?_
    refine (R_iload_n dX8_shaftAt_9 rfl).trans ?_
    refine (R_iload_n dX8_shaftAt_10 rfl).trans ?_
    refine (R_cv_i (as := [vi l1, vi l2]) (rest := []) dX8_shaftAt_11 mt_8_125 qp_101 qr_101 (E_X8_shaftAt_101) rfl rfl rfl (Nat.le_of_ble_eq_true rfl)).trans (mm_bind (fun q3 => ?_))
    refine (R_goto 19 dX8_shaftAt_14 rfl).trans ?_
    exact R_ireturn dX8_shaftAt_19 rfl
noncomputable def E_X8_boreAt : mE := fun k => if k = 84 then f_X8_isBore else if k = 104 then f_X8_boreTells else fun _ _ => none
theorem E_X8_boreAt_84 : E_X8_boreAt 84 = f_X8_isBore := if_pos rfl
theorem E_X8_boreAt_104 : E_X8_boreAt 104 = f_X8_boreTells := (if_neg (by decide)).trans (if_pos rfl)
noncomputable def f_X8_boreAt : List mV → mM → Option mR := mm_fn E_X8_boreAt 8 1 3 cX8_boreAt
theorem k_X8_boreAt (l : Launch) : mm_OK l 105 f_X8_boreAt := mm_fn_ok l 105 8 E_X8_boreAt (by decide) rfl (by decide) (by
  intro k as μ q h
  by_cases h0 : k = 84
  · subst h0
    exact ⟨by rw [E_X8_boreAt_84]; exact k_X8_isBore l, by decide, by decide, by decide⟩
  by_cases h1 : k = 104
  · subst h1
    exact ⟨by rw [E_X8_boreAt_104]; exact k_X8_boreTells l, by decide, by decide, by decide⟩
  have e : E_X8_boreAt k = fun _ _ => none := (if_neg h0).trans ((if_neg h1).trans (rfl))
  rw [e] at h
  cases h)
set_option maxRecDepth 100000 in
set_option maxHeartbeats 4000000 in
theorem e_X8_boreAt (l1 : Int32) (l2 : Int32) (μ : mM) : f_X8_boreAt [vr 8 0, vi l1, vi l2] μ = (Option.bind (f_X8_isBore [vr 8 0, vi l1] μ) (fun q1 => (if q1.1 = 0 then some ((-1000000001), q1.2) else (Option.bind (f_X8_boreTells [vr 8 0, vi l1, vi l2] q1.2) (fun q3 => some (q3.1, q3.2)))))) := by
  refine (show f_X8_boreAt [vr 8 0, vi l1, vi l2] μ = mm_run E_X8_boreAt 8 1 cX8_boreAt (0, [vr 8 0, vi l1, vi l2], [], μ) from rfl).trans ?_
  refine (R_aload_n dX8_boreAt_0 rfl (by decide)).trans ?_
  refine (R_iload_n dX8_boreAt_1 rfl).trans ?_
  refine (R_cv_i (as := [vi l1]) (rest := []) dX8_boreAt_2 mt_8_136 qp_84 qr_84 (E_X8_boreAt_84) rfl rfl rfl (Nat.le_of_ble_eq_true rfl)).trans (mm_bind (fun q1 => ?_))
  refine (R_ifc 17 dX8_boreAt_5 rfl).trans (c_eq (fun h2 => ?_) (fun h2 => ?_))
  · refine (R_ldc dX8_boreAt_17 kt_8_128).trans ?_
    exact R_ireturn dX8_boreAt_19 rfl
  · refine (R_aload_n dX8_boreAt_8 rfl (by decide)).trans ?_
    refine (R_iload_n dX8_boreAt_9 rfl).trans ?_
    refine (R_iload_n dX8_boreAt_10 rfl).trans ?_
    refine (R_cv_i (as := [vi l1, vi l2]) (rest := []) dX8_boreAt_11 mt_8_139 qp_104 qr_104 (E_X8_boreAt_104) rfl rfl rfl (Nat.le_of_ble_eq_true rfl)).trans (mm_bind (fun q3 => ?_))
    refine (R_goto 19 dX8_boreAt_14 rfl).trans ?_
    exact R_ireturn dX8_boreAt_19 rfl
