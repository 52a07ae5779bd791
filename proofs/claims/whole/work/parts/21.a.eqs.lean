noncomputable def E_X0_add : mE := fun k => fun _ _ => none
noncomputable def f_X0_add : List mV → mM → Option mR := mm_fn E_X0_add 0 0 5 cX0_add
theorem k_X0_add (l : Launch) : mm_OK l 1 f_X0_add := mm_fn_ok l 1 0 E_X0_add (by decide) rfl (by decide) (by
  intro k as μ q h
  have e : E_X0_add k = fun _ _ => none := rfl
  rw [e] at h
  cases h)
noncomputable def r_X0_add_16 (l1 : Int32) (l2 : Int32) (l3 : Int32) (l4 : Int32) (μ : mM) : Option mR := mm_run E_X0_add 0 0 cX0_add (16, [vr 0 0, vi l1, vi l2, vi l3, vi l4], [], μ)
set_option maxRecDepth 100000 in
set_option maxHeartbeats 4000000 in
theorem e_X0_add (l1 : Int32) (l2 : Int32) (l3 : Int32) (μ : mM) : f_X0_add [vr 0 0, vi l1, vi l2, vi l3] μ = (if μ 0 0 4 < 48 then r_X0_add_16 l1 l2 l3 (μ 0 0 4) μ else some (0, μ)) := by
  refine (show f_X0_add [vr 0 0, vi l1, vi l2, vi l3] μ = mm_run E_X0_add 0 0 cX0_add (0, [vr 0 0, vi l1, vi l2, vi l3, vu], [], μ) from rfl).trans ?_
  refine (R_aload_n dX0_add_0 rfl (by decide)).trans ?_
  refine (gi_0_27 dX0_add_1).trans ?_
  refine (R_bipush 48 dX0_add_4 bipush_48).trans ?_
  refine (R_icmp 10 dX0_add_6 rfl).trans (c_lt (fun h1 => ?_) (fun h1 => ?_))
  · refine (R_aload_n dX0_add_10 rfl (by decide)).trans ?_
    refine (gi_0_27 dX0_add_11).trans ?_
    refine (R_istore (ls' := [vr 0 0, vi l1, vi l2, vi l3, vi (μ 0 0 4)]) dX0_add_14 (Nat.le_of_ble_eq_true rfl) (by decide) rfl).trans ?_
    exact rfl
  · exact R_return dX0_add_9 rfl
set_option maxRecDepth 100000 in
set_option maxHeartbeats 4000000 in
theorem e_X0_add_16 (l1 : Int32) (l2 : Int32) (l3 : Int32) (l4 : Int32) (μ : mM) : r_X0_add_16 l1 l2 l3 l4 μ = (if 0 < l4 then (ck 48 (l4 - 1) (if l1 < μ 30 0 (Int32.toNatClampNeg (l4 - 1)) then (ck 48 (l4 - 1) (ck 48 l4 (wr (mm_up μ 30 0 (Int32.toNatClampNeg l4) (μ 30 0 (Int32.toNatClampNeg (l4 - 1)))) (fun m3 => (ck 48 (l4 - 1) (ck 48 l4 (wr (mm_up m3 31 0 (Int32.toNatClampNeg l4) (m3 31 0 (Int32.toNatClampNeg (l4 - 1)))) (fun m4 => (ck 48 (l4 - 1) (ck 48 l4 (wr (mm_up m4 32 0 (Int32.toNatClampNeg l4) (vp_nar .boolean (m4 32 0 (Int32.toNatClampNeg (l4 - 1))))) (fun m5 => r_X0_add_16 l1 l2 l3 (l4 + (-1)) m5)))))))))))) else (ck 48 l4 (wr (mm_up μ 30 0 (Int32.toNatClampNeg l4) l1) (fun m6 => (ck 48 l4 (wr (mm_up m6 31 0 (Int32.toNatClampNeg l4) l2) (fun m7 => (ck 48 l4 (wr (mm_up m7 32 0 (Int32.toNatClampNeg l4) (vp_nar .boolean l3)) (fun m8 => (wr (mm_up m8 0 0 4 ((m8 0 0 4) + 1)) (fun m9 => some (0, m9)))))))))))))) else (ck 48 l4 (wr (mm_up μ 30 0 (Int32.toNatClampNeg l4) l1) (fun m10 => (ck 48 l4 (wr (mm_up m10 31 0 (Int32.toNatClampNeg l4) l2) (fun m11 => (ck 48 l4 (wr (mm_up m11 32 0 (Int32.toNatClampNeg l4) (vp_nar .boolean l3)) (fun m12 => (wr (mm_up m12 0 0 4 ((m12 0 0 4) + 1)) (fun m13 => some (0, m13))))))))))))) := by
  refine (show r_X0_add_16 l1 l2 l3 l4 μ = mm_run E_X0_add 0 0 cX0_add (16, [vr 0 0, vi l1, vi l2, vi l3, vi l4], [], μ) from rfl).trans ?_
  refine (R_iload dX0_add_16 rfl).trans ?_
  refine (R_ifc 88 dX0_add_18 rfl).trans (c_le (fun h1 => ?_) (fun h1 => ?_))
  · refine (R_aload_n dX0_add_21 rfl (by decide)).trans ?_
    refine (gr_0_9 dX0_add_22).trans ?_
    refine (R_iload dX0_add_25 rfl).trans ?_
    refine (R_iconst 1 dX0_add_27 iconst_1).trans ?_
    refine (R_isub dX0_add_28).trans ?_
    refine (R_iaload dX0_add_29 as_30).trans (ck_congr ?_)
    refine (R_iload_n dX0_add_30 rfl).trans ?_
    refine (R_icmp 88 dX0_add_31 rfl).trans (c_le (fun h2 => ?_) (fun h2 => ?_))
    · refine (R_aload_n dX0_add_34 rfl (by decide)).trans ?_
      refine (gr_0_9 dX0_add_35).trans ?_
      refine (R_iload dX0_add_38 rfl).trans ?_
      refine (R_aload_n dX0_add_40 rfl (by decide)).trans ?_
      refine (gr_0_9 dX0_add_41).trans ?_
      refine (R_iload dX0_add_44 rfl).trans ?_
      refine (R_iconst 1 dX0_add_46 iconst_1).trans ?_
      refine (R_isub dX0_add_47).trans ?_
      refine (R_iaload dX0_add_48 as_30).trans (ck_congr ?_)
      refine (R_iastore dX0_add_49 as_30).trans (ck_congr ?_)
      refine wr_intro (g := fun m => mm_run E_X0_add 0 0 cX0_add (50, [vr 0 0, vi l1, vi l2, vi l3, vi l4], [], m)) (fun m3 => ?_)
      refine (R_aload_n dX0_add_50 rfl (by decide)).trans ?_
      refine (gr_0_15 dX0_add_51).trans ?_
      refine (R_iload dX0_add_54 rfl).trans ?_
      refine (R_aload_n dX0_add_56 rfl (by decide)).trans ?_
      refine (gr_0_15 dX0_add_57).trans ?_
      refine (R_iload dX0_add_60 rfl).trans ?_
      refine (R_iconst 1 dX0_add_62 iconst_1).trans ?_
      refine (R_isub dX0_add_63).trans ?_
      refine (R_iaload dX0_add_64 as_31).trans (ck_congr ?_)
      refine (R_iastore dX0_add_65 as_31).trans (ck_congr ?_)
      refine wr_intro (g := fun m => mm_run E_X0_add 0 0 cX0_add (66, [vr 0 0, vi l1, vi l2, vi l3, vi l4], [], m)) (fun m4 => ?_)
      refine (R_aload_n dX0_add_66 rfl (by decide)).trans ?_
      refine (gr_0_18 dX0_add_67).trans ?_
      refine (R_iload dX0_add_70 rfl).trans ?_
      refine (R_aload_n dX0_add_72 rfl (by decide)).trans ?_
      refine (gr_0_18 dX0_add_73).trans ?_
      refine (R_iload dX0_add_76 rfl).trans ?_
      refine (R_iconst 1 dX0_add_78 iconst_1).trans ?_
      refine (R_isub dX0_add_79).trans ?_
      refine (R_baload dX0_add_80 as_32).trans (ck_congr ?_)
      refine (R_bastore dX0_add_81 as_32).trans (ck_congr ?_)
      refine wr_intro (g := fun m => mm_run E_X0_add 0 0 cX0_add (82, [vr 0 0, vi l1, vi l2, vi l3, vi l4], [], m)) (fun m5 => ?_)
      refine (R_iinc (ls' := [vr 0 0, vi l1, vi l2, vi l3, vi (l4 + (-1))]) (-1) dX0_add_82 rfl iconst_m1 (by decide) rfl).trans ?_
      refine (R_goto 16 dX0_add_85 rfl).trans ?_
      exact rfl
    · refine (R_aload_n dX0_add_88 rfl (by decide)).trans ?_
      refine (gr_0_9 dX0_add_89).trans ?_
      refine (R_iload dX0_add_92 rfl).trans ?_
      refine (R_iload_n dX0_add_94 rfl).trans ?_
      refine (R_iastore dX0_add_95 as_30).trans (ck_congr ?_)
      refine wr_intro (g := fun m => mm_run E_X0_add 0 0 cX0_add (96, [vr 0 0, vi l1, vi l2, vi l3, vi l4], [], m)) (fun m6 => ?_)
      refine (R_aload_n dX0_add_96 rfl (by decide)).trans ?_
      refine (gr_0_15 dX0_add_97).trans ?_
      refine (R_iload dX0_add_100 rfl).trans ?_
      refine (R_iload_n dX0_add_102 rfl).trans ?_
      refine (R_iastore dX0_add_103 as_31).trans (ck_congr ?_)
      refine wr_intro (g := fun m => mm_run E_X0_add 0 0 cX0_add (104, [vr 0 0, vi l1, vi l2, vi l3, vi l4], [], m)) (fun m7 => ?_)
      refine (R_aload_n dX0_add_104 rfl (by decide)).trans ?_
      refine (gr_0_18 dX0_add_105).trans ?_
      refine (R_iload dX0_add_108 rfl).trans ?_
      refine (R_iload_n dX0_add_110 rfl).trans ?_
      refine (R_bastore dX0_add_111 as_32).trans (ck_congr ?_)
      refine wr_intro (g := fun m => mm_run E_X0_add 0 0 cX0_add (112, [vr 0 0, vi l1, vi l2, vi l3, vi l4], [], m)) (fun m8 => ?_)
      refine (R_aload_n dX0_add_112 rfl (by decide)).trans ?_
      refine (R_dup dX0_add_113 rfl).trans ?_
      refine (gi_0_27 dX0_add_114).trans ?_
      refine (R_iconst 1 dX0_add_117 iconst_1).trans ?_
      refine (R_iadd dX0_add_118).trans ?_
      refine (R_pi dX0_add_119 ft_0_27 fs_0_4).trans ?_
      refine wr_intro (g := fun m => mm_run E_X0_add 0 0 cX0_add (122, [vr 0 0, vi l1, vi l2, vi l3, vi l4], [], m)) (fun m9 => ?_)
      exact R_return dX0_add_122 rfl
  · refine (R_aload_n dX0_add_88 rfl (by decide)).trans ?_
    refine (gr_0_9 dX0_add_89).trans ?_
    refine (R_iload dX0_add_92 rfl).trans ?_
    refine (R_iload_n dX0_add_94 rfl).trans ?_
    refine (R_iastore dX0_add_95 as_30).trans (ck_congr ?_)
    refine wr_intro (g := fun m => mm_run E_X0_add 0 0 cX0_add (96, [vr 0 0, vi l1, vi l2, vi l3, vi l4], [], m)) (fun m10 => ?_)
    refine (R_aload_n dX0_add_96 rfl (by decide)).trans ?_
    refine (gr_0_15 dX0_add_97).trans ?_
    refine (R_iload dX0_add_100 rfl).trans ?_
    refine (R_iload_n dX0_add_102 rfl).trans ?_
    refine (R_iastore dX0_add_103 as_31).trans (ck_congr ?_)
    refine wr_intro (g := fun m => mm_run E_X0_add 0 0 cX0_add (104, [vr 0 0, vi l1, vi l2, vi l3, vi l4], [], m)) (fun m11 => ?_)
    refine (R_aload_n dX0_add_104 rfl (by decide)).trans ?_
    refine (gr_0_18 dX0_add_105).trans ?_
    refine (R_iload dX0_add_108 rfl).trans ?_
    refine (R_iload_n dX0_add_110 rfl).trans ?_
    refine (R_bastore dX0_add_111 as_32).trans (ck_congr ?_)
    refine wr_intro (g := fun m => mm_run E_X0_add 0 0 cX0_add (112, [vr 0 0, vi l1, vi l2, vi l3, vi l4], [], m)) (fun m12 => ?_)
    refine (R_aload_n dX0_add_112 rfl (by decide)).trans ?_
    refine (R_dup dX0_add_113 rfl).trans ?_
    refine (gi_0_27 dX0_add_114).trans ?_
    refine (R_iconst 1 dX0_add_117 iconst_1).trans ?_
    refine (R_iadd dX0_add_118).trans ?_
    refine (R_pi dX0_add_119 ft_0_27 fs_0_4).trans ?_
    refine wr_intro (g := fun m => mm_run E_X0_add 0 0 cX0_add (122, [vr 0 0, vi l1, vi l2, vi l3, vi l4], [], m)) (fun m13 => ?_)
    exact R_return dX0_add_122 rfl
noncomputable def E_X1_firstBoreFrom : mE := fun k => fun _ _ => none
noncomputable def f_X1_firstBoreFrom : List mV → mM → Option mR := mm_fn E_X1_firstBoreFrom 1 1 4 cX1_firstBoreFrom
theorem k_X1_firstBoreFrom (l : Launch) : mm_OK l 7 f_X1_firstBoreFrom := mm_fn_ok l 7 1 E_X1_firstBoreFrom (by decide) rfl (by decide) (by
  intro k as μ q h
  have e : E_X1_firstBoreFrom k = fun _ _ => none := rfl
  rw [e] at h
  cases h)
noncomputable def r_X1_firstBoreFrom_2 (l2 : Int32) (l3 : Int32) (μ : mM) : Option mR := mm_run E_X1_firstBoreFrom 1 1 cX1_firstBoreFrom (2, [vr 1 0, vr 5 0, vi l2, vi l3], [], μ)
set_option maxRecDepth 100000 in
set_option maxHeartbeats 4000000 in
theorem e_X1_firstBoreFrom (l2 : Int32) (μ : mM) : f_X1_firstBoreFrom [vr 1 0, vr 5 0, vi l2] μ = r_X1_firstBoreFrom_2 l2 0 μ := by
  refine (show f_X1_firstBoreFrom [vr 1 0, vr 5 0, vi l2] μ = mm_run E_X1_firstBoreFrom 1 1 cX1_firstBoreFrom (0, [vr 1 0, vr 5 0, vi l2, vu], [], μ) from rfl).trans ?_
  refine (R_iconst 0 dX1_firstBoreFrom_0 iconst_0).trans ?_
  refine (R_istore_n (ls' := [vr 1 0, vr 5 0, vi l2, vi 0]) dX1_firstBoreFrom_1 (Nat.le_of_ble_eq_true rfl) (by decide) rfl).trans ?_
  exact rfl
set_option maxRecDepth 100000 in
set_option maxHeartbeats 4000000 in
theorem e_X1_firstBoreFrom_2 (l2 : Int32) (l3 : Int32) (μ : mM) : r_X1_firstBoreFrom_2 l2 l3 μ = (if l3 < μ 5 0 9 then (ck 25 l3 (ck 25 (μ 26 0 (Int32.toNatClampNeg l3)) (if μ 25 0 (Int32.toNatClampNeg (μ 26 0 (Int32.toNatClampNeg l3))) < l2 then r_X1_firstBoreFrom_2 l2 (l3 + 1) μ else some (l3, μ)))) else some (l3, μ)) := by
  refine (show r_X1_firstBoreFrom_2 l2 l3 μ = mm_run E_X1_firstBoreFrom 1 1 cX1_firstBoreFrom (2, [vr 1 0, vr 5 0, vi l2, vi l3], [], μ) from rfl).trans ?_
  refine (R_iload_n dX1_firstBoreFrom_2 rfl).trans ?_
  refine (R_aload_n dX1_firstBoreFrom_3 rfl (by decide)).trans ?_
  refine (gi_1_43 dX1_firstBoreFrom_4).trans ?_
  refine (R_icmp 31 dX1_firstBoreFrom_7 rfl).trans (c_ge (fun h1 => ?_) (fun h1 => ?_))
  · refine (R_aload_n dX1_firstBoreFrom_10 rfl (by decide)).trans ?_
    refine (gr_1_44 dX1_firstBoreFrom_11).trans ?_
    refine (R_aload_n dX1_firstBoreFrom_14 rfl (by decide)).trans ?_
    refine (gr_1_47 dX1_firstBoreFrom_15).trans ?_
    refine (R_iload_n dX1_firstBoreFrom_18 rfl).trans ?_
    refine (R_iaload dX1_firstBoreFrom_19 as_26).trans (ck_congr ?_)
    refine (R_iaload dX1_firstBoreFrom_20 as_25).trans (ck_congr ?_)
    refine (R_iload_n dX1_firstBoreFrom_21 rfl).trans ?_
    refine (R_icmp 31 dX1_firstBoreFrom_22 rfl).trans (c_ge (fun h2 => ?_) (fun h2 => ?_))
    · refine (R_iinc (ls' := [vr 1 0, vr 5 0, vi l2, vi (l3 + 1)]) 1 dX1_firstBoreFrom_25 rfl iconst_1 (by decide) rfl).trans ?_
      refine (R_goto 2 dX1_firstBoreFrom_28 rfl).trans ?_
      exact rfl
    · refine (R_iload_n dX1_firstBoreFrom_31 rfl).trans ?_
      exact R_ireturn dX1_firstBoreFrom_32 rfl
  · refine (R_iload_n dX1_firstBoreFrom_31 rfl).trans ?_
    exact R_ireturn dX1_firstBoreFrom_32 rfl
noncomputable def E_X1_weigh : mE := fun k => fun _ _ => none
noncomputable def f_X1_weigh : List mV → mM → Option mR := mm_fn E_X1_weigh 1 0 6 cX1_weigh
theorem k_X1_weigh (l : Launch) : mm_OK l 8 f_X1_weigh := mm_fn_ok l 8 1 E_X1_weigh (by decide) rfl (by decide) (by
  intro k as μ q h
  have e : E_X1_weigh k = fun _ _ => none := rfl
  rw [e] at h
  cases h)
set_option maxRecDepth 100000 in
set_option maxHeartbeats 4000000 in
theorem e_X1_weigh (l1 : Int32) (l2 : Int32) (l3 : Int32) (l4 : Int32) (μ : mM) : f_X1_weigh [vr 1 0, vi l1, vi l2, vi l3, vi l4] μ = (if μ 1 0 4 < l3 - l4 then (wr (mm_up μ 1 0 0 l1) (fun m2 => (wr (mm_up m2 1 0 1 l2) (fun m3 => (wr (mm_up m3 1 0 2 l3) (fun m4 => (wr (mm_up m4 1 0 3 l4) (fun m5 => (wr (mm_up m5 1 0 4 (l3 - l4)) (fun m6 => some (0, m6))))))))))) else (if l3 - l4 = μ 1 0 4 then (if 0 < μ 1 0 4 then (if l1 < μ 1 0 0 then (wr (mm_up μ 1 0 0 l1) (fun m10 => (wr (mm_up m10 1 0 1 l2) (fun m11 => (wr (mm_up m11 1 0 2 l3) (fun m12 => (wr (mm_up m12 1 0 3 l4) (fun m13 => (wr (mm_up m13 1 0 4 (l3 - l4)) (fun m14 => some (0, m14))))))))))) else some (0, μ)) else some (0, μ)) else some (0, μ))) := by
  refine (show f_X1_weigh [vr 1 0, vi l1, vi l2, vi l3, vi l4] μ = mm_run E_X1_weigh 1 0 cX1_weigh (0, [vr 1 0, vi l1, vi l2, vi l3, vi l4, vu], [], μ) from rfl).trans ?_
  refine (R_iload_n dX1_weigh_0 rfl).trans ?_
  refine (R_iload dX1_weigh_1 rfl).trans ?_
  refine (R_isub dX1_weigh_3).trans ?_
  refine (R_istore (ls' := [vr 1 0, vi l1, vi l2, vi l3, vi l4, vi (l3 - l4)]) dX1_weigh_4 (Nat.le_of_ble_eq_true rfl) (by decide) rfl).trans ?_
  refine (R_iload dX1_weigh_6 rfl).trans ?_
  refine (R_aload_n dX1_weigh_8 rfl (by decide)).trans ?_
  refine (gi_1_22 dX1_weigh_9).trans ?_
  refine (R_icmp 39 dX1_weigh_12 rfl).trans (c_gt (fun h1 => ?_) (fun h1 => ?_))
  · refine (R_aload_n dX1_weigh_39 rfl (by decide)).trans ?_
    refine (R_iload_n dX1_weigh_40 rfl).trans ?_
    refine (R_pi dX1_weigh_41 ft_1_7 fs_1_0).trans ?_
    refine wr_intro (g := fun m => mm_run E_X1_weigh 1 0 cX1_weigh (44, [vr 1 0, vi l1, vi l2, vi l3, vi l4, vi (l3 - l4)], [], m)) (fun m2 => ?_)
    refine (R_aload_n dX1_weigh_44 rfl (by decide)).trans ?_
    refine (R_iload_n dX1_weigh_45 rfl).trans ?_
    refine (R_pi dX1_weigh_46 ft_1_13 fs_1_1).trans ?_
    refine wr_intro (g := fun m => mm_run E_X1_weigh 1 0 cX1_weigh (49, [vr 1 0, vi l1, vi l2, vi l3, vi l4, vi (l3 - l4)], [], m)) (fun m3 => ?_)
    refine (R_aload_n dX1_weigh_49 rfl (by decide)).trans ?_
    refine (R_iload_n dX1_weigh_50 rfl).trans ?_
    refine (R_pi dX1_weigh_51 ft_1_16 fs_1_2).trans ?_
    refine wr_intro (g := fun m => mm_run E_X1_weigh 1 0 cX1_weigh (54, [vr 1 0, vi l1, vi l2, vi l3, vi l4, vi (l3 - l4)], [], m)) (fun m4 => ?_)
    refine (R_aload_n dX1_weigh_54 rfl (by decide)).trans ?_
    refine (R_iload dX1_weigh_55 rfl).trans ?_
    refine (R_pi dX1_weigh_57 ft_1_19 fs_1_3).trans ?_
    refine wr_intro (g := fun m => mm_run E_X1_weigh 1 0 cX1_weigh (60, [vr 1 0, vi l1, vi l2, vi l3, vi l4, vi (l3 - l4)], [], m)) (fun m5 => ?_)
    refine (R_aload_n dX1_weigh_60 rfl (by decide)).trans ?_
    refine (R_iload dX1_weigh_61 rfl).trans ?_
    refine (R_pi dX1_weigh_63 ft_1_22 fs_1_4).trans ?_
    refine wr_intro (g := fun m => mm_run E_X1_weigh 1 0 cX1_weigh (66, [vr 1 0, vi l1, vi l2, vi l3, vi l4, vi (l3 - l4)], [], m)) (fun m6 => ?_)
    exact R_return dX1_weigh_66 rfl
  · refine (R_iload dX1_weigh_15 rfl).trans ?_
    refine (R_aload_n dX1_weigh_17 rfl (by decide)).trans ?_
    refine (gi_1_22 dX1_weigh_18).trans ?_
    refine (R_icmp 66 dX1_weigh_21 rfl).trans (c_ne (fun h7 => ?_) (fun h7 => ?_))
    · refine (R_aload_n dX1_weigh_24 rfl (by decide)).trans ?_
      refine (gi_1_22 dX1_weigh_25).trans ?_
      refine (R_ifc 66 dX1_weigh_28 rfl).trans (c_le (fun h8 => ?_) (fun h8 => ?_))
      · refine (R_iload_n dX1_weigh_31 rfl).trans ?_
        refine (R_aload_n dX1_weigh_32 rfl (by decide)).trans ?_
        refine (gi_1_7 dX1_weigh_33).trans ?_
        refine (R_icmp 66 dX1_weigh_36 rfl).trans (c_ge (fun h9 => ?_) (fun h9 => ?_))
        · refine (R_aload_n dX1_weigh_39 rfl (by decide)).trans ?_
          refine (R_iload_n dX1_weigh_40 rfl).trans ?_
          refine (R_pi dX1_weigh_41 ft_1_7 fs_1_0).trans ?_
          refine wr_intro (g := fun m => mm_run E_X1_weigh 1 0 cX1_weigh (44, [vr 1 0, vi l1, vi l2, vi l3, vi l4, vi (l3 - l4)], [], m)) (fun m10 => ?_)
          refine (R_aload_n dX1_weigh_44 rfl (by decide)).trans ?_
          refine (R_iload_n dX1_weigh_45 rfl).trans ?_
          refine (R_pi dX1_weigh_46 ft_1_13 fs_1_1).trans ?_
          refine wr_intro (g := fun m => mm_run E_X1_weigh 1 0 cX1_weigh (49, [vr 1 0, vi l1, vi l2, vi l3, vi l4, vi (l3 - l4)], [], m)) (fun m11 => ?_)
          refine (R_aload_n dX1_weigh_49 rfl (by decide)).trans ?_
          refine (R_iload_n dX1_weigh_50 rfl).trans ?_
          refine (R_pi dX1_weigh_51 ft_1_16 fs_1_2).trans ?_
          refine wr_intro (g := fun m => mm_run E_X1_weigh 1 0 cX1_weigh (54, [vr 1 0, vi l1, vi l2, vi l3, vi l4, vi (l3 - l4)], [], m)) (fun m12 => ?_)
          refine (R_aload_n dX1_weigh_54 rfl (by decide)).trans ?_
          refine (R_iload dX1_weigh_55 rfl).trans ?_
          refine (R_pi dX1_weigh_57 ft_1_19 fs_1_3).trans ?_
          refine wr_intro (g := fun m => mm_run E_X1_weigh 1 0 cX1_weigh (60, [vr 1 0, vi l1, vi l2, vi l3, vi l4, vi (l3 - l4)], [], m)) (fun m13 => ?_)
          refine (R_aload_n dX1_weigh_60 rfl (by decide)).trans ?_
          refine (R_iload dX1_weigh_61 rfl).trans ?_
          refine (R_pi dX1_weigh_63 ft_1_22 fs_1_4).trans ?_
          refine wr_intro (g := fun m => mm_run E_X1_weigh 1 0 cX1_weigh (66, [vr 1 0, vi l1, vi l2, vi l3, vi l4, vi (l3 - l4)], [], m)) (fun m14 => ?_)
          exact R_return dX1_weigh_66 rfl
        · exact R_return dX1_weigh_66 rfl
      · exact R_return dX1_weigh_66 rfl
    · exact R_return dX1_weigh_66 rfl
noncomputable def E_X4_note : mE := fun k => fun _ _ => none
noncomputable def f_X4_note : List mV → mM → Option mR := mm_fn E_X4_note 4 1 3 cX4_note
theorem k_X4_note (l : Launch) : mm_OK l 11 f_X4_note := mm_fn_ok l 11 4 E_X4_note (by decide) rfl (by decide) (by
  intro k as μ q h
  have e : E_X4_note k = fun _ _ => none := rfl
  rw [e] at h
  cases h)
set_option maxRecDepth 100000 in
set_option maxHeartbeats 4000000 in
theorem e_X4_note (l1 : Int32) (l2 : Int32) (μ : mM) : f_X4_note [vr 4 0, vi l1, vi l2] μ = (if μ 4 0 4 < 6 then (ck 6 (μ 4 0 4) (wr (mm_up μ 40 0 (Int32.toNatClampNeg (μ 4 0 4)) l1) (fun m2 => (ck 6 (m2 4 0 4) (wr (mm_up m2 41 0 (Int32.toNatClampNeg (m2 4 0 4)) (vp_nar .boolean l2)) (fun m3 => (wr (mm_up m3 4 0 4 ((m3 4 0 4) + 1)) (fun m4 => some (m4 4 0 4, m4))))))))) else some ((-1000000004), μ)) := by
  refine (show f_X4_note [vr 4 0, vi l1, vi l2] μ = mm_run E_X4_note 4 1 cX4_note (0, [vr 4 0, vi l1, vi l2], [], μ) from rfl).trans ?_
  refine (R_aload_n dX4_note_0 rfl (by decide)).trans ?_
  refine (gi_4_25 dX4_note_1).trans ?_
  refine (R_bipush 6 dX4_note_4 bipush_6).trans ?_
  refine (R_icmp 12 dX4_note_6 rfl).trans (c_lt (fun h1 => ?_) (fun h1 => ?_))
  · refine (R_aload_n dX4_note_12 rfl (by decide)).trans ?_
    refine (gr_4_9 dX4_note_13).trans ?_
    refine (R_aload_n dX4_note_16 rfl (by decide)).trans ?_
    refine (gi_4_25 dX4_note_17).trans ?_
    refine (R_iload_n dX4_note_20 rfl).trans ?_
    refine (R_iastore dX4_note_21 as_40).trans (ck_congr ?_)
    refine wr_intro (g := fun m => mm_run E_X4_note 4 1 cX4_note (22, [vr 4 0, vi l1, vi l2], [], m)) (fun m2 => ?_)
    refine (R_aload_n dX4_note_22 rfl (by decide)).trans ?_
    refine (gr_4_15 dX4_note_23).trans ?_
    refine (R_aload_n dX4_note_26 rfl (by decide)).trans ?_
    refine (gi_4_25 dX4_note_27).trans ?_
    refine (R_iload_n dX4_note_30 rfl).trans ?_
    refine (R_bastore dX4_note_31 as_41).trans (ck_congr ?_)
    refine wr_intro (g := fun m => mm_run E_X4_note 4 1 cX4_note (32, [vr 4 0, vi l1, vi l2], [], m)) (fun m3 => ?_)
    refine (R_aload_n dX4_note_32 rfl (by decide)).trans ?_
    refine (R_dup dX4_note_33 rfl).trans ?_
    refine (gi_4_25 dX4_note_34).trans ?_
    refine (R_iconst 1 dX4_note_37 iconst_1).trans ?_
    refine (R_iadd dX4_note_38).trans ?_
    refine (R_pi dX4_note_39 ft_4_25 fs_4_4).trans ?_
    refine wr_intro (g := fun m => mm_run E_X4_note 4 1 cX4_note (42, [vr 4 0, vi l1, vi l2], [], m)) (fun m4 => ?_)
    refine (R_aload_n dX4_note_42 rfl (by decide)).trans ?_
    refine (gi_4_25 dX4_note_43).trans ?_
    exact R_ireturn dX4_note_46 rfl
  · refine (R_ldc dX4_note_9 kt_4_32).trans ?_
    exact R_ireturn dX4_note_11 rfl
noncomputable def E_X4_addRow : mE := fun k => fun _ _ => none
noncomputable def f_X4_addRow : List mV → mM → Option mR := mm_fn E_X4_addRow 4 0 3 cX4_addRow
theorem k_X4_addRow (l : Launch) : mm_OK l 13 f_X4_addRow := mm_fn_ok l 13 4 E_X4_addRow (by decide) rfl (by decide) (by
  intro k as μ q h
  have e : E_X4_addRow k = fun _ _ => none := rfl
  rw [e] at h
  cases h)
set_option maxRecDepth 100000 in
set_option maxHeartbeats 4000000 in
theorem e_X4_addRow (l1 : Int32) (l2 : Int32) (μ : mM) : f_X4_addRow [vr 4 0, vi l1, vi l2] μ = (if 6 < μ 4 0 5 then some (0, μ) else (ck 7 (μ 4 0 5) (wr (mm_up μ 42 0 (Int32.toNatClampNeg (μ 4 0 5)) l1) (fun m2 => (ck 7 (m2 4 0 5) (wr (mm_up m2 43 0 (Int32.toNatClampNeg (m2 4 0 5)) l2) (fun m3 => (wr (mm_up m3 4 0 5 ((m3 4 0 5) + 1)) (fun m4 => some (0, m4)))))))))) := by
  refine (show f_X4_addRow [vr 4 0, vi l1, vi l2] μ = mm_run E_X4_addRow 4 0 cX4_addRow (0, [vr 4 0, vi l1, vi l2], [], μ) from rfl).trans ?_
  refine (R_aload_n dX4_addRow_0 rfl (by decide)).trans ?_
  refine (gi_4_29 dX4_addRow_1).trans ?_
  refine (R_bipush 6 dX4_addRow_4 bipush_6).trans ?_
  refine (R_icmp 39 dX4_addRow_6 rfl).trans (c_gt (fun h1 => ?_) (fun h1 => ?_))
  · exact R_return dX4_addRow_39 rfl
  · refine (R_aload_n dX4_addRow_9 rfl (by decide)).trans ?_
    refine (gr_4_19 dX4_addRow_10).trans ?_
    refine (R_aload_n dX4_addRow_13 rfl (by decide)).trans ?_
    refine (gi_4_29 dX4_addRow_14).trans ?_
    refine (R_iload_n dX4_addRow_17 rfl).trans ?_
    refine (R_iastore dX4_addRow_18 as_42).trans (ck_congr ?_)
    refine wr_intro (g := fun m => mm_run E_X4_addRow 4 0 cX4_addRow (19, [vr 4 0, vi l1, vi l2], [], m)) (fun m2 => ?_)
    refine (R_aload_n dX4_addRow_19 rfl (by decide)).trans ?_
    refine (gr_4_22 dX4_addRow_20).trans ?_
    refine (R_aload_n dX4_addRow_23 rfl (by decide)).trans ?_
    refine (gi_4_29 dX4_addRow_24).trans ?_
    refine (R_iload_n dX4_addRow_27 rfl).trans ?_
    refine (R_iastore dX4_addRow_28 as_43).trans (ck_congr ?_)
    refine wr_intro (g := fun m => mm_run E_X4_addRow 4 0 cX4_addRow (29, [vr 4 0, vi l1, vi l2], [], m)) (fun m3 => ?_)
    refine (R_aload_n dX4_addRow_29 rfl (by decide)).trans ?_
    refine (R_dup dX4_addRow_30 rfl).trans ?_
    refine (gi_4_29 dX4_addRow_31).trans ?_
    refine (R_iconst 1 dX4_addRow_34 iconst_1).trans ?_
    refine (R_iadd dX4_addRow_35).trans ?_
    refine (R_pi dX4_addRow_36 ft_4_29 fs_4_5).trans ?_
    refine wr_intro (g := fun m => mm_run E_X4_addRow 4 0 cX4_addRow (39, [vr 4 0, vi l1, vi l2], [], m)) (fun m4 => ?_)
    exact R_return dX4_addRow_39 rfl
noncomputable def E_X4_leastSize : mE := fun k => fun _ _ => none
noncomputable def f_X4_leastSize : List mV → mM → Option mR := mm_fn E_X4_leastSize 4 1 3 cX4_leastSize
theorem k_X4_leastSize (l : Launch) : mm_OK l 18 f_X4_leastSize := mm_fn_ok l 18 4 E_X4_leastSize (by decide) rfl (by decide) (by
  intro k as μ q h
  have e : E_X4_leastSize k = fun _ _ => none := rfl
  rw [e] at h
  cases h)
noncomputable def r_X4_leastSize_4 (l1 : Int32) (l2 : Int32) (μ : mM) : Option mR := mm_run E_X4_leastSize 4 1 cX4_leastSize (4, [vr 4 0, vi l1, vi l2], [], μ)
set_option maxRecDepth 100000 in
set_option maxHeartbeats 4000000 in
theorem e_X4_leastSize (μ : mM) : f_X4_leastSize [vr 4 0] μ = r_X4_leastSize_4 (-1) 0 μ := by
  refine (show f_X4_leastSize [vr 4 0] μ = mm_run E_X4_leastSize 4 1 cX4_leastSize (0, [vr 4 0, vu, vu], [], μ) from rfl).trans ?_
  refine (R_iconst (-1) dX4_leastSize_0 iconst_m1).trans ?_
  refine (R_istore_n (ls' := [vr 4 0, vi (-1), vu]) dX4_leastSize_1 (Nat.le_of_ble_eq_true rfl) (by decide) rfl).trans ?_
  refine (R_iconst 0 dX4_leastSize_2 iconst_0).trans ?_
  refine (R_istore_n (ls' := [vr 4 0, vi (-1), vi 0]) dX4_leastSize_3 (Nat.le_of_ble_eq_true rfl) (by decide) rfl).trans ?_
  exact rfl
set_option maxRecDepth 100000 in
set_option maxHeartbeats 4000000 in
theorem e_X4_leastSize_4 (l1 : Int32) (l2 : Int32) (μ : mM) : r_X4_leastSize_4 l1 l2 μ = (if l2 < μ 4 0 5 then (ck 7 l2 (ck 7 l2 (if μ 43 0 (Int32.toNatClampNeg l2) < μ 42 0 (Int32.toNatClampNeg l2) then r_X4_leastSize_4 l1 (l2 + 1) μ else (if l1 = (-1) then (ck 7 l2 (r_X4_leastSize_4 (μ 42 0 (Int32.toNatClampNeg l2)) (l2 + 1) μ)) else (ck 7 l2 (if μ 42 0 (Int32.toNatClampNeg l2) < l1 then (ck 7 l2 (r_X4_leastSize_4 (μ 42 0 (Int32.toNatClampNeg l2)) (l2 + 1) μ)) else r_X4_leastSize_4 l1 (l2 + 1) μ)))))) else some (l1, μ)) := by
  refine (show r_X4_leastSize_4 l1 l2 μ = mm_run E_X4_leastSize 4 1 cX4_leastSize (4, [vr 4 0, vi l1, vi l2], [], μ) from rfl).trans ?_
  refine (R_iload_n dX4_leastSize_4 rfl).trans ?_
  refine (R_aload_n dX4_leastSize_5 rfl (by decide)).trans ?_
  refine (gi_4_29 dX4_leastSize_6).trans ?_
  refine (R_icmp 55 dX4_leastSize_9 rfl).trans (c_ge (fun h1 => ?_) (fun h1 => ?_))
  · refine (R_aload_n dX4_leastSize_12 rfl (by decide)).trans ?_
    refine (gr_4_19 dX4_leastSize_13).trans ?_
    refine (R_iload_n dX4_leastSize_16 rfl).trans ?_
    refine (R_iaload dX4_leastSize_17 as_42).trans (ck_congr ?_)
    refine (R_aload_n dX4_leastSize_18 rfl (by decide)).trans ?_
    refine (gr_4_22 dX4_leastSize_19).trans ?_
    refine (R_iload_n dX4_leastSize_22 rfl).trans ?_
    refine (R_iaload dX4_leastSize_23 as_43).trans (ck_congr ?_)
    refine (R_icmp 49 dX4_leastSize_24 rfl).trans (c_gt (fun h2 => ?_) (fun h2 => ?_))
    · refine (R_iinc (ls' := [vr 4 0, vi l1, vi (l2 + 1)]) 1 dX4_leastSize_49 rfl iconst_1 (by decide) rfl).trans ?_
      refine (R_goto 4 dX4_leastSize_52 rfl).trans ?_
      exact rfl
    · refine (R_iload_n dX4_leastSize_27 rfl).trans ?_
      refine (R_iconst (-1) dX4_leastSize_28 iconst_m1).trans ?_
      refine (R_icmp 42 dX4_leastSize_29 rfl).trans (c_eq (fun h3 => ?_) (fun h3 => ?_))
      · refine (R_aload_n dX4_leastSize_42 rfl (by decide)).trans ?_
        refine (gr_4_19 dX4_leastSize_43).trans ?_
        refine (R_iload_n dX4_leastSize_46 rfl).trans ?_
        refine (R_iaload dX4_leastSize_47 as_42).trans (ck_congr ?_)
        refine (R_istore_n (ls' := [vr 4 0, vi (μ 42 0 (Int32.toNatClampNeg l2)), vi l2]) dX4_leastSize_48 (Nat.le_of_ble_eq_true rfl) (by decide) rfl).trans ?_
        refine (R_iinc (ls' := [vr 4 0, vi (μ 42 0 (Int32.toNatClampNeg l2)), vi (l2 + 1)]) 1 dX4_leastSize_49 rfl iconst_1 (by decide) rfl).trans ?_
        refine (R_goto 4 dX4_leastSize_52 rfl).trans ?_
        exact rfl
      · refine (R_aload_n dX4_leastSize_32 rfl (by decide)).trans ?_
        refine (gr_4_19 dX4_leastSize_33).trans ?_
        refine (R_iload_n dX4_leastSize_36 rfl).trans ?_
        refine (R_iaload dX4_leastSize_37 as_42).trans (ck_congr ?_)
        refine (R_iload_n dX4_leastSize_38 rfl).trans ?_
        refine (R_icmp 49 dX4_leastSize_39 rfl).trans (c_ge (fun h4 => ?_) (fun h4 => ?_))
        · refine (R_aload_n dX4_leastSize_42 rfl (by decide)).trans ?_
          refine (gr_4_19 dX4_leastSize_43).trans ?_
          refine (R_iload_n dX4_leastSize_46 rfl).trans ?_
          refine (R_iaload dX4_leastSize_47 as_42).trans (ck_congr ?_)
          refine (R_istore_n (ls' := [vr 4 0, vi (μ 42 0 (Int32.toNatClampNeg l2)), vi l2]) dX4_leastSize_48 (Nat.le_of_ble_eq_true rfl) (by decide) rfl).trans ?_
          refine (R_iinc (ls' := [vr 4 0, vi (μ 42 0 (Int32.toNatClampNeg l2)), vi (l2 + 1)]) 1 dX4_leastSize_49 rfl iconst_1 (by decide) rfl).trans ?_
          refine (R_goto 4 dX4_leastSize_52 rfl).trans ?_
          exact rfl
        · refine (R_iinc (ls' := [vr 4 0, vi l1, vi (l2 + 1)]) 1 dX4_leastSize_49 rfl iconst_1 (by decide) rfl).trans ?_
          refine (R_goto 4 dX4_leastSize_52 rfl).trans ?_
          exact rfl
  · refine (R_iload_n dX4_leastSize_55 rfl).trans ?_
    exact R_ireturn dX4_leastSize_56 rfl
noncomputable def E_X5_closesAfter : mE := fun k => fun _ _ => none
noncomputable def f_X5_closesAfter : List mV → mM → Option mR := mm_fn E_X5_closesAfter 5 2 3 cX5_closesAfter
theorem k_X5_closesAfter (l : Launch) : mm_OK l 23 f_X5_closesAfter := mm_fn_ok l 23 5 E_X5_closesAfter (by decide) rfl (by decide) (by
  intro k as μ q h
  have e : E_X5_closesAfter k = fun _ _ => none := rfl
  rw [e] at h
  cases h)
set_option maxRecDepth 100000 in
set_option maxHeartbeats 4000000 in
theorem e_X5_closesAfter (l1 : Int32) (l2 : Int32) (μ : mM) : f_X5_closesAfter [vr 5 0, vi l1, vi l2] μ = (ck 24 l1 (ck 24 l2 (if μ 22 0 (Int32.toNatClampNeg l2) < μ 22 0 (Int32.toNatClampNeg l1) then some (1, μ) else (ck 24 l1 (ck 24 l2 (if μ 22 0 (Int32.toNatClampNeg l1) = μ 22 0 (Int32.toNatClampNeg l2) then (ck 24 l1 (ck 24 l2 (if μ 20 0 (Int32.toNatClampNeg l2) < μ 20 0 (Int32.toNatClampNeg l1) then some (1, μ) else some (0, μ)))) else some (0, μ))))))) := by
  refine (show f_X5_closesAfter [vr 5 0, vi l1, vi l2] μ = mm_run E_X5_closesAfter 5 2 cX5_closesAfter (0, [vr 5 0, vi l1, vi l2], [], μ) from rfl).trans ?_
  refine (R_aload_n dX5_closesAfter_0 rfl (by decide)).trans ?_
  refine (gr_5_18 dX5_closesAfter_1).trans ?_
  refine (R_iload_n dX5_closesAfter_4 rfl).trans ?_
  refine (R_iaload dX5_closesAfter_5 as_22).trans (ck_congr ?_)
  refine (R_aload_n dX5_closesAfter_6 rfl (by decide)).trans ?_
  refine (gr_5_18 dX5_closesAfter_7).trans ?_
  refine (R_iload_n dX5_closesAfter_10 rfl).trans ?_
  refine (R_iaload dX5_closesAfter_11 as_22).trans (ck_congr ?_)
  refine (R_icmp 45 dX5_closesAfter_12 rfl).trans (c_gt (fun h1 => ?_) (fun h1 => ?_))
  · refine (R_iconst 1 dX5_closesAfter_45 iconst_1).trans ?_
    refine (R_goto 50 dX5_closesAfter_46 rfl).trans ?_
    exact R_zreturn dX5_closesAfter_50 (by decide) (by decide)
  · refine (R_aload_n dX5_closesAfter_15 rfl (by decide)).trans ?_
    refine (gr_5_18 dX5_closesAfter_16).trans ?_
    refine (R_iload_n dX5_closesAfter_19 rfl).trans ?_
    refine (R_iaload dX5_closesAfter_20 as_22).trans (ck_congr ?_)
    refine (R_aload_n dX5_closesAfter_21 rfl (by decide)).trans ?_
    refine (gr_5_18 dX5_closesAfter_22).trans ?_
    refine (R_iload_n dX5_closesAfter_25 rfl).trans ?_
    refine (R_iaload dX5_closesAfter_26 as_22).trans (ck_congr ?_)
    refine (R_icmp 49 dX5_closesAfter_27 rfl).trans (c_ne (fun h2 => ?_) (fun h2 => ?_))
    · refine (R_aload_n dX5_closesAfter_30 rfl (by decide)).trans ?_
      refine (gr_5_9 dX5_closesAfter_31).trans ?_
      refine (R_iload_n dX5_closesAfter_34 rfl).trans ?_
      refine (R_iaload dX5_closesAfter_35 as_20).trans (ck_congr ?_)
      refine (R_aload_n dX5_closesAfter_36 rfl (by decide)).trans ?_
      refine (gr_5_9 dX5_closesAfter_37).trans ?_
      refine (R_iload_n dX5_closesAfter_40 rfl).trans ?_
      refine (R_iaload dX5_closesAfter_41 as_20).trans (ck_congr ?_)
      refine (R_icmp 49 dX5_closesAfter_42 rfl).trans (c_le (fun h3 => ?_) (fun h3 => ?_))
      · refine (R_iconst 1 dX5_closesAfter_45 iconst_1).trans ?_
        refine (R_goto 50 dX5_closesAfter_46 rfl).trans ?_
        exact R_zreturn dX5_closesAfter_50 (by decide) (by decide)
      · refine (R_iconst 0 dX5_closesAfter_49 iconst_0).trans ?_
        exact R_zreturn dX5_closesAfter_50 (by decide) (by decide)
    · refine (R_iconst 0 dX5_closesAfter_49 iconst_0).trans ?_
      exact R_zreturn dX5_closesAfter_50 (by decide) (by decide)
noncomputable def E_X5_addBore : mE := fun k => fun _ _ => none
noncomputable def f_X5_addBore : List mV → mM → Option mR := mm_fn E_X5_addBore 5 0 3 cX5_addBore
theorem k_X5_addBore (l : Launch) : mm_OK l 24 f_X5_addBore := mm_fn_ok l 24 5 E_X5_addBore (by decide) rfl (by decide) (by
  intro k as μ q h
  have e : E_X5_addBore k = fun _ _ => none := rfl
  rw [e] at h
  cases h)
noncomputable def r_X5_addBore_25 (l1 : Int32) (l2 : Int32) (μ : mM) : Option mR := mm_run E_X5_addBore 5 0 cX5_addBore (25, [vr 5 0, vi l1, vi l2], [], μ)
set_option maxRecDepth 100000 in
set_option maxHeartbeats 4000000 in
theorem e_X5_addBore (l1 : Int32) (μ : mM) : f_X5_addBore [vr 5 0, vi l1] μ = (if 24 < μ 5 0 9 then some (0, μ) else (ck 25 (μ 5 0 9) (wr (mm_up μ 25 0 (Int32.toNatClampNeg (μ 5 0 9)) l1) (fun m2 => r_X5_addBore_25 l1 (m2 5 0 9) m2)))) := by
  refine (show f_X5_addBore [vr 5 0, vi l1] μ = mm_run E_X5_addBore 5 0 cX5_addBore (0, [vr 5 0, vi l1, vu], [], μ) from rfl).trans ?_
  refine (R_aload_n dX5_addBore_0 rfl (by decide)).trans ?_
  refine (gi_5_40 dX5_addBore_1).trans ?_
  refine (R_bipush 24 dX5_addBore_4 bipush_24).trans ?_
  refine (R_icmp 10 dX5_addBore_6 rfl).trans (c_le (fun h1 => ?_) (fun h1 => ?_))
  · exact R_return dX5_addBore_9 rfl
  · refine (R_aload_n dX5_addBore_10 rfl (by decide)).trans ?_
    refine (gr_5_27 dX5_addBore_11).trans ?_
    refine (R_aload_n dX5_addBore_14 rfl (by decide)).trans ?_
    refine (gi_5_40 dX5_addBore_15).trans ?_
    refine (R_iload_n dX5_addBore_18 rfl).trans ?_
    refine (R_iastore dX5_addBore_19 as_25).trans (ck_congr ?_)
    refine wr_intro (g := fun m => mm_run E_X5_addBore 5 0 cX5_addBore (20, [vr 5 0, vi l1, vu], [], m)) (fun m2 => ?_)
    refine (R_aload_n dX5_addBore_20 rfl (by decide)).trans ?_
    refine (gi_5_40 dX5_addBore_21).trans ?_
    refine (R_istore_n (ls' := [vr 5 0, vi l1, vi (m2 5 0 9)]) dX5_addBore_24 (Nat.le_of_ble_eq_true rfl) (by decide) rfl).trans ?_
    exact rfl
set_option maxRecDepth 100000 in
set_option maxHeartbeats 4000000 in
theorem e_X5_addBore_25 (l1 : Int32) (l2 : Int32) (μ : mM) : r_X5_addBore_25 l1 l2 μ = (if 0 < l2 then (ck 25 (l2 - 1) (ck 25 (μ 26 0 (Int32.toNatClampNeg (l2 - 1))) (if l1 < μ 25 0 (Int32.toNatClampNeg (μ 26 0 (Int32.toNatClampNeg (l2 - 1)))) then (ck 25 (l2 - 1) (ck 25 l2 (wr (mm_up μ 26 0 (Int32.toNatClampNeg l2) (μ 26 0 (Int32.toNatClampNeg (l2 - 1)))) (fun m3 => r_X5_addBore_25 l1 (l2 + (-1)) m3)))) else (ck 25 l2 (wr (mm_up μ 26 0 (Int32.toNatClampNeg l2) (μ 5 0 9)) (fun m4 => (wr (mm_up m4 5 0 9 ((m4 5 0 9) + 1)) (fun m5 => some (0, m5))))))))) else (ck 25 l2 (wr (mm_up μ 26 0 (Int32.toNatClampNeg l2) (μ 5 0 9)) (fun m6 => (wr (mm_up m6 5 0 9 ((m6 5 0 9) + 1)) (fun m7 => some (0, m7))))))) := by
  refine (show r_X5_addBore_25 l1 l2 μ = mm_run E_X5_addBore 5 0 cX5_addBore (25, [vr 5 0, vi l1, vi l2], [], μ) from rfl).trans ?_
  refine (R_iload_n dX5_addBore_25 rfl).trans ?_
  refine (R_ifc 66 dX5_addBore_26 rfl).trans (c_le (fun h1 => ?_) (fun h1 => ?_))
  · refine (R_aload_n dX5_addBore_29 rfl (by decide)).trans ?_
    refine (gr_5_27 dX5_addBore_30).trans ?_
    refine (R_aload_n dX5_addBore_33 rfl (by decide)).trans ?_
    refine (gr_5_30 dX5_addBore_34).trans ?_
    refine (R_iload_n dX5_addBore_37 rfl).trans ?_
    refine (R_iconst 1 dX5_addBore_38 iconst_1).trans ?_
    refine (R_isub dX5_addBore_39).trans ?_
    refine (R_iaload dX5_addBore_40 as_26).trans (ck_congr ?_)
    refine (R_iaload dX5_addBore_41 as_25).trans (ck_congr ?_)
    refine (R_iload_n dX5_addBore_42 rfl).trans ?_
    refine (R_icmp 66 dX5_addBore_43 rfl).trans (c_le (fun h2 => ?_) (fun h2 => ?_))
    · refine (R_aload_n dX5_addBore_46 rfl (by decide)).trans ?_
      refine (gr_5_30 dX5_addBore_47).trans ?_
      refine (R_iload_n dX5_addBore_50 rfl).trans ?_
      refine (R_aload_n dX5_addBore_51 rfl (by decide)).trans ?_
      refine (gr_5_30 dX5_addBore_52).trans ?_
      refine (R_iload_n dX5_addBore_55 rfl).trans ?_
      refine (R_iconst 1 dX5_addBore_56 iconst_1).trans ?_
      refine (R_isub dX5_addBore_57).trans ?_
      refine (R_iaload dX5_addBore_58 as_26).trans (ck_congr ?_)
      refine (R_iastore dX5_addBore_59 as_26).trans (ck_congr ?_)
      refine wr_intro (g := fun m => mm_run E_X5_addBore 5 0 cX5_addBore (60, [vr 5 0, vi l1, vi l2], [], m)) (fun m3 => ?_)
      refine (R_iinc (ls' := [vr 5 0, vi l1, vi (l2 + (-1))]) (-1) dX5_addBore_60 rfl iconst_m1 (by decide) rfl).trans ?_
      refine (R_goto 25 dX5_addBore_63 rfl).trans ?_
      exact rfl
    · refine (R_aload_n dX5_addBore_66 rfl (by decide)).trans ?_
      refine (gr_5_30 dX5_addBore_67).trans ?_
      refine (R_iload_n dX5_addBore_70 rfl).trans ?_
      refine (R_aload_n dX5_addBore_71 rfl (by decide)).trans ?_
      refine (gi_5_40 dX5_addBore_72).trans ?_
      refine (R_iastore dX5_addBore_75 as_26).trans (ck_congr ?_)
      refine wr_intro (g := fun m => mm_run E_X5_addBore 5 0 cX5_addBore (76, [vr 5 0, vi l1, vi l2], [], m)) (fun m4 => ?_)
      refine (R_aload_n dX5_addBore_76 rfl (by decide)).trans ?_
      refine (R_dup dX5_addBore_77 rfl).trans ?_
      refine (gi_5_40 dX5_addBore_78).trans ?_
      refine (R_iconst 1 dX5_addBore_81 iconst_1).trans ?_
      refine (R_iadd dX5_addBore_82).trans ?_
      refine (R_pi dX5_addBore_83 ft_5_40 fs_5_9).trans ?_
      refine wr_intro (g := fun m => mm_run E_X5_addBore 5 0 cX5_addBore (86, [vr 5 0, vi l1, vi l2], [], m)) (fun m5 => ?_)
      exact R_return dX5_addBore_86 rfl
  · refine (R_aload_n dX5_addBore_66 rfl (by decide)).trans ?_
    refine (gr_5_30 dX5_addBore_67).trans ?_
    refine (R_iload_n dX5_addBore_70 rfl).trans ?_
    refine (R_aload_n dX5_addBore_71 rfl (by decide)).trans ?_
    refine (gi_5_40 dX5_addBore_72).trans ?_
    refine (R_iastore dX5_addBore_75 as_26).trans (ck_congr ?_)
    refine wr_intro (g := fun m => mm_run E_X5_addBore 5 0 cX5_addBore (76, [vr 5 0, vi l1, vi l2], [], m)) (fun m6 => ?_)
    refine (R_aload_n dX5_addBore_76 rfl (by decide)).trans ?_
    refine (R_dup dX5_addBore_77 rfl).trans ?_
    refine (gi_5_40 dX5_addBore_78).trans ?_
    refine (R_iconst 1 dX5_addBore_81 iconst_1).trans ?_
    refine (R_iadd dX5_addBore_82).trans ?_
    refine (R_pi dX5_addBore_83 ft_5_40 fs_5_9).trans ?_
    refine wr_intro (g := fun m => mm_run E_X5_addBore 5 0 cX5_addBore (86, [vr 5 0, vi l1, vi l2], [], m)) (fun m7 => ?_)
    exact R_return dX5_addBore_86 rfl
noncomputable def E_X5_dropLatestBore : mE := fun k => fun _ _ => none
noncomputable def f_X5_dropLatestBore : List mV → mM → Option mR := mm_fn E_X5_dropLatestBore 5 0 3 cX5_dropLatestBore
theorem k_X5_dropLatestBore (l : Launch) : mm_OK l 25 f_X5_dropLatestBore := mm_fn_ok l 25 5 E_X5_dropLatestBore (by decide) rfl (by decide) (by
  intro k as μ q h
  have e : E_X5_dropLatestBore k = fun _ _ => none := rfl
  rw [e] at h
  cases h)
noncomputable def r_X5_dropLatestBore_14 (l1 : Int32) (l2 : Int32) (μ : mM) : Option mR := mm_run E_X5_dropLatestBore 5 0 cX5_dropLatestBore (14, [vr 5 0, vi l1, vi l2], [], μ)
set_option maxRecDepth 100000 in
set_option maxHeartbeats 4000000 in
theorem e_X5_dropLatestBore (μ : mM) : f_X5_dropLatestBore [vr 5 0] μ = (wr (mm_up μ 5 0 9 ((μ 5 0 9) - 1)) (fun m1 => r_X5_dropLatestBore_14 0 0 m1)) := by
  refine (show f_X5_dropLatestBore [vr 5 0] μ = mm_run E_X5_dropLatestBore 5 0 cX5_dropLatestBore (0, [vr 5 0, vu, vu], [], μ) from rfl).trans ?_
  refine (R_aload_n dX5_dropLatestBore_0 rfl (by decide)).trans ?_
  refine (R_dup dX5_dropLatestBore_1 rfl).trans ?_
  refine (gi_5_40 dX5_dropLatestBore_2).trans ?_
  refine (R_iconst 1 dX5_dropLatestBore_5 iconst_1).trans ?_
  refine (R_isub dX5_dropLatestBore_6).trans ?_
  refine (R_pi dX5_dropLatestBore_7 ft_5_40 fs_5_9).trans ?_
  refine wr_intro (g := fun m => mm_run E_X5_dropLatestBore 5 0 cX5_dropLatestBore (10, [vr 5 0, vu, vu], [], m)) (fun m1 => ?_)
  refine (R_iconst 0 dX5_dropLatestBore_10 iconst_0).trans ?_
  refine (R_istore_n (ls' := [vr 5 0, vi 0, vu]) dX5_dropLatestBore_11 (Nat.le_of_ble_eq_true rfl) (by decide) rfl).trans ?_
  refine (R_iconst 0 dX5_dropLatestBore_12 iconst_0).trans ?_
  refine (R_istore_n (ls' := [vr 5 0, vi 0, vi 0]) dX5_dropLatestBore_13 (Nat.le_of_ble_eq_true rfl) (by decide) rfl).trans ?_
  exact rfl
set_option maxRecDepth 100000 in
set_option maxHeartbeats 4000000 in
theorem e_X5_dropLatestBore_14 (l1 : Int32) (l2 : Int32) (μ : mM) : r_X5_dropLatestBore_14 l1 l2 μ = (if μ 5 0 9 < l2 then some (0, μ) else (ck 25 l2 (if μ 26 0 (Int32.toNatClampNeg l2) = μ 5 0 9 then r_X5_dropLatestBore_14 l1 (l2 + 1) μ else (ck 25 l2 (ck 25 l1 (wr (mm_up μ 26 0 (Int32.toNatClampNeg l1) (μ 26 0 (Int32.toNatClampNeg l2))) (fun m3 => r_X5_dropLatestBore_14 (l1 + 1) (l2 + 1) m3))))))) := by
  refine (show r_X5_dropLatestBore_14 l1 l2 μ = mm_run E_X5_dropLatestBore 5 0 cX5_dropLatestBore (14, [vr 5 0, vi l1, vi l2], [], μ) from rfl).trans ?_
  refine (R_iload_n dX5_dropLatestBore_14 rfl).trans ?_
  refine (R_aload_n dX5_dropLatestBore_15 rfl (by decide)).trans ?_
  refine (gi_5_40 dX5_dropLatestBore_16).trans ?_
  refine (R_icmp 56 dX5_dropLatestBore_19 rfl).trans (c_gt (fun h1 => ?_) (fun h1 => ?_))
  · exact R_return dX5_dropLatestBore_56 rfl
  · refine (R_aload_n dX5_dropLatestBore_22 rfl (by decide)).trans ?_
    refine (gr_5_30 dX5_dropLatestBore_23).trans ?_
    refine (R_iload_n dX5_dropLatestBore_26 rfl).trans ?_
    refine (R_iaload dX5_dropLatestBore_27 as_26).trans (ck_congr ?_)
    refine (R_aload_n dX5_dropLatestBore_28 rfl (by decide)).trans ?_
    refine (gi_5_40 dX5_dropLatestBore_29).trans ?_
    refine (R_icmp 50 dX5_dropLatestBore_32 rfl).trans (c_eq (fun h2 => ?_) (fun h2 => ?_))
    · refine (R_iinc (ls' := [vr 5 0, vi l1, vi (l2 + 1)]) 1 dX5_dropLatestBore_50 rfl iconst_1 (by decide) rfl).trans ?_
      refine (R_goto 14 dX5_dropLatestBore_53 rfl).trans ?_
      exact rfl
    · refine (R_aload_n dX5_dropLatestBore_35 rfl (by decide)).trans ?_
      refine (gr_5_30 dX5_dropLatestBore_36).trans ?_
      refine (R_iload_n dX5_dropLatestBore_39 rfl).trans ?_
      refine (R_aload_n dX5_dropLatestBore_40 rfl (by decide)).trans ?_
      refine (gr_5_30 dX5_dropLatestBore_41).trans ?_
      refine (R_iload_n dX5_dropLatestBore_44 rfl).trans ?_
      refine (R_iaload dX5_dropLatestBore_45 as_26).trans (ck_congr ?_)
      refine (R_iastore dX5_dropLatestBore_46 as_26).trans (ck_congr ?_)
      refine wr_intro (g := fun m => mm_run E_X5_dropLatestBore 5 0 cX5_dropLatestBore (47, [vr 5 0, vi l1, vi l2], [], m)) (fun m3 => ?_)
      refine (R_iinc (ls' := [vr 5 0, vi (l1 + 1), vi l2]) 1 dX5_dropLatestBore_47 rfl iconst_1 (by decide) rfl).trans ?_
      refine (R_iinc (ls' := [vr 5 0, vi (l1 + 1), vi (l2 + 1)]) 1 dX5_dropLatestBore_50 rfl iconst_1 (by decide) rfl).trans ?_
      refine (R_goto 14 dX5_dropLatestBore_53 rfl).trans ?_
      exact rfl
noncomputable def E_X5_firstToClose : mE := fun k => fun _ _ => none
noncomputable def f_X5_firstToClose : List mV → mM → Option mR := mm_fn E_X5_firstToClose 5 1 5 cX5_firstToClose
theorem k_X5_firstToClose (l : Launch) : mm_OK l 27 f_X5_firstToClose := mm_fn_ok l 27 5 E_X5_firstToClose (by decide) rfl (by decide) (by
  intro k as μ q h
  have e : E_X5_firstToClose k = fun _ _ => none := rfl
  rw [e] at h
  cases h)
noncomputable def r_X5_firstToClose_2 (l1 : Int32) (l2 : Int32) (l3 : Int32) (x4 : mV) (μ : mM) : Option mR := mm_run E_X5_firstToClose 5 1 cX5_firstToClose (2, [vr 5 0, vi l1, vi l2, vi l3, x4], [], μ)
set_option maxRecDepth 100000 in
set_option maxHeartbeats 4000000 in
theorem e_X5_firstToClose (l1 : Int32) (l2 : Int32) (μ : mM) : f_X5_firstToClose [vr 5 0, vi l1, vi l2] μ = r_X5_firstToClose_2 l1 l2 0 vu μ := by
  refine (show f_X5_firstToClose [vr 5 0, vi l1, vi l2] μ = mm_run E_X5_firstToClose 5 1 cX5_firstToClose (0, [vr 5 0, vi l1, vi l2, vu, vu], [], μ) from rfl).trans ?_
  refine (R_iconst 0 dX5_firstToClose_0 iconst_0).trans ?_
  refine (R_istore_n (ls' := [vr 5 0, vi l1, vi l2, vi 0, vu]) dX5_firstToClose_1 (Nat.le_of_ble_eq_true rfl) (by decide) rfl).trans ?_
  exact rfl
set_option maxRecDepth 100000 in
set_option maxHeartbeats 4000000 in
theorem e_X5_firstToClose_2 (l1 : Int32) (l2 : Int32) (l3 : Int32) (x4 : mV) (μ : mM) : r_X5_firstToClose_2 l1 l2 l3 x4 μ = (if l3 < μ 5 0 8 then (ck 24 l3 (ck 24 (μ 23 0 (Int32.toNatClampNeg l3)) (if μ 24 0 (Int32.toNatClampNeg (μ 23 0 (Int32.toNatClampNeg l3))) = (-1) then (ck 24 (μ 23 0 (Int32.toNatClampNeg l3)) (if l1 < (μ 21 0 (Int32.toNatClampNeg (μ 23 0 (Int32.toNatClampNeg l3)))) - l2 then r_X5_firstToClose_2 l1 l2 (l3 + 1) (vi (μ 23 0 (Int32.toNatClampNeg l3))) μ else (ck 24 (μ 23 0 (Int32.toNatClampNeg l3)) (if (μ 22 0 (Int32.toNatClampNeg (μ 23 0 (Int32.toNatClampNeg l3)))) + l2 < l1 then r_X5_firstToClose_2 l1 l2 (l3 + 1) (vi (μ 23 0 (Int32.toNatClampNeg l3))) μ else some (μ 23 0 (Int32.toNatClampNeg l3), μ))))) else r_X5_firstToClose_2 l1 l2 (l3 + 1) (vi (μ 23 0 (Int32.toNatClampNeg l3))) μ))) else some ((-1), μ)) := by
  refine (show r_X5_firstToClose_2 l1 l2 l3 x4 μ = mm_run E_X5_firstToClose 5 1 cX5_firstToClose (2, [vr 5 0, vi l1, vi l2, vi l3, x4], [], μ) from rfl).trans ?_
  refine (R_iload_n dX5_firstToClose_2 rfl).trans ?_
  refine (R_aload_n dX5_firstToClose_3 rfl (by decide)).trans ?_
  refine (gi_5_36 dX5_firstToClose_4).trans ?_
  refine (R_icmp 64 dX5_firstToClose_7 rfl).trans (c_ge (fun h1 => ?_) (fun h1 => ?_))
  · refine (R_aload_n dX5_firstToClose_10 rfl (by decide)).trans ?_
    refine (gr_5_21 dX5_firstToClose_11).trans ?_
    refine (R_iload_n dX5_firstToClose_14 rfl).trans ?_
    refine (R_iaload dX5_firstToClose_15 as_23).trans (ck_congr ?_)
    refine (R_istore (ls' := [vr 5 0, vi l1, vi l2, vi l3, vi (μ 23 0 (Int32.toNatClampNeg l3))]) dX5_firstToClose_16 (Nat.le_of_ble_eq_true rfl) (by decide) rfl).trans ?_
    refine (R_aload_n dX5_firstToClose_18 rfl (by decide)).trans ?_
    refine (gr_5_24 dX5_firstToClose_19).trans ?_
    refine (R_iload dX5_firstToClose_22 rfl).trans ?_
    refine (R_iaload dX5_firstToClose_24 as_24).trans (ck_congr ?_)
    refine (R_iconst (-1) dX5_firstToClose_25 iconst_m1).trans ?_
    refine (R_icmp 58 dX5_firstToClose_26 rfl).trans (c_ne (fun h2 => ?_) (fun h2 => ?_))
    · refine (R_aload_n dX5_firstToClose_29 rfl (by decide)).trans ?_
      refine (gr_5_15 dX5_firstToClose_30).trans ?_
      refine (R_iload dX5_firstToClose_33 rfl).trans ?_
      refine (R_iaload dX5_firstToClose_35 as_21).trans (ck_congr ?_)
      refine (R_iload_n dX5_firstToClose_36 rfl).trans ?_
      refine (R_isub dX5_firstToClose_37).trans ?_
      refine (R_iload_n dX5_firstToClose_38 rfl).trans ?_
      refine (R_icmp 58 dX5_firstToClose_39 rfl).trans (c_gt (fun h3 => ?_) (fun h3 => ?_))
      · refine (R_iinc (ls' := [vr 5 0, vi l1, vi l2, vi (l3 + 1), vi (μ 23 0 (Int32.toNatClampNeg l3))]) 1 dX5_firstToClose_58 rfl iconst_1 (by decide) rfl).trans ?_
        refine (R_goto 2 dX5_firstToClose_61 rfl).trans ?_
        exact rfl
      · refine (R_iload_n dX5_firstToClose_42 rfl).trans ?_
        refine (R_aload_n dX5_firstToClose_43 rfl (by decide)).trans ?_
        refine (gr_5_18 dX5_firstToClose_44).trans ?_
        refine (R_iload dX5_firstToClose_47 rfl).trans ?_
        refine (R_iaload dX5_firstToClose_49 as_22).trans (ck_congr ?_)
        refine (R_iload_n dX5_firstToClose_50 rfl).trans ?_
        refine (R_iadd dX5_firstToClose_51).trans ?_
        refine (R_icmp 58 dX5_firstToClose_52 rfl).trans (c_gt (fun h4 => ?_) (fun h4 => ?_))
        · refine (R_iinc (ls' := [vr 5 0, vi l1, vi l2, vi (l3 + 1), vi (μ 23 0 (Int32.toNatClampNeg l3))]) 1 dX5_firstToClose_58 rfl iconst_1 (by decide) rfl).trans ?_
          refine (R_goto 2 dX5_firstToClose_61 rfl).trans ?_
          exact rfl
        · refine (R_iload dX5_firstToClose_55 rfl).trans ?_
          exact R_ireturn dX5_firstToClose_57 rfl
    · refine (R_iinc (ls' := [vr 5 0, vi l1, vi l2, vi (l3 + 1), vi (μ 23 0 (Int32.toNatClampNeg l3))]) 1 dX5_firstToClose_58 rfl iconst_1 (by decide) rfl).trans ?_
      refine (R_goto 2 dX5_firstToClose_61 rfl).trans ?_
      exact rfl
  · refine (R_iconst (-1) dX5_firstToClose_64 iconst_m1).trans ?_
    exact R_ireturn dX5_firstToClose_65 rfl
noncomputable def E_X5_playOf : mE := fun k => fun _ _ => none
noncomputable def f_X5_playOf : List mV → mM → Option mR := mm_fn E_X5_playOf 5 1 2 cX5_playOf
theorem k_X5_playOf (l : Launch) : mm_OK l 30 f_X5_playOf := mm_fn_ok l 30 5 E_X5_playOf (by decide) rfl (by decide) (by
  intro k as μ q h
  have e : E_X5_playOf k = fun _ _ => none := rfl
  rw [e] at h
  cases h)
set_option maxRecDepth 100000 in
set_option maxHeartbeats 4000000 in
theorem e_X5_playOf (l1 : Int32) (μ : mM) : f_X5_playOf [vr 5 0, vi l1] μ = (ck 24 l1 (ck 25 (μ 24 0 (Int32.toNatClampNeg l1)) (ck 24 l1 (some ((μ 25 0 (Int32.toNatClampNeg (μ 24 0 (Int32.toNatClampNeg l1)))) - (μ 20 0 (Int32.toNatClampNeg l1)), μ))))) := by
  refine (show f_X5_playOf [vr 5 0, vi l1] μ = mm_run E_X5_playOf 5 1 cX5_playOf (0, [vr 5 0, vi l1], [], μ) from rfl).trans ?_
  refine (R_aload_n dX5_playOf_0 rfl (by decide)).trans ?_
  refine (gr_5_27 dX5_playOf_1).trans ?_
  refine (R_aload_n dX5_playOf_4 rfl (by decide)).trans ?_
  refine (gr_5_24 dX5_playOf_5).trans ?_
  refine (R_iload_n dX5_playOf_8 rfl).trans ?_
  refine (R_iaload dX5_playOf_9 as_24).trans (ck_congr ?_)
  refine (R_iaload dX5_playOf_10 as_25).trans (ck_congr ?_)
  refine (R_aload_n dX5_playOf_11 rfl (by decide)).trans ?_
  refine (gr_5_9 dX5_playOf_12).trans ?_
  refine (R_iload_n dX5_playOf_15 rfl).trans ?_
  refine (R_iaload dX5_playOf_16 as_20).trans (ck_congr ?_)
  refine (R_isub dX5_playOf_17).trans ?_
  exact R_ireturn dX5_playOf_18 rfl
noncomputable def E_X6_copyFrom : mE := fun k => fun _ _ => none
noncomputable def f_X6_copyFrom : List mV → mM → Option mR := mm_fn E_X6_copyFrom 6 0 2 cX6_copyFrom
theorem k_X6_copyFrom (l : Launch) : mm_OK l 34 f_X6_copyFrom := mm_fn_ok l 34 6 E_X6_copyFrom (by decide) rfl (by decide) (by
  intro k as μ q h
  have e : E_X6_copyFrom k = fun _ _ => none := rfl
  rw [e] at h
  cases h)
set_option maxRecDepth 100000 in
set_option maxHeartbeats 4000000 in
theorem e_X6_copyFrom (a : Nat) (b : Nat) (μ : mM) : f_X6_copyFrom [vr 6 a, vr 6 b] μ = (wr (mm_up μ 6 a 6 (μ 6 b 6)) (fun m1 => (wr (mm_up m1 6 a 7 (m1 6 b 7)) (fun m2 => (wr (mm_up m2 6 a 8 (m2 6 b 8)) (fun m3 => (ca 24 24 (m3 6 a 6) 0 0 (wr (mm_row m3 10 a (va_cpy (m3 10 b) (m3 10 a) (Int32.toNatClampNeg 0) (Int32.toNatClampNeg 0) (Int32.toNatClampNeg (m3 6 a 6)))) (fun m4 => (ca 24 24 (m4 6 a 7) 0 0 (wr (mm_row m4 11 a (va_cpy (m4 11 b) (m4 11 a) (Int32.toNatClampNeg 0) (Int32.toNatClampNeg 0) (Int32.toNatClampNeg (m4 6 a 7)))) (fun m5 => (ca 4 4 4 0 0 (wr (mm_row m5 12 a (va_cpy (m5 12 b) (m5 12 a) (Int32.toNatClampNeg 0) (Int32.toNatClampNeg 0) (Int32.toNatClampNeg 4))) (fun m6 => (ca 4 4 4 0 0 (wr (mm_row m6 13 a (va_cpy (m6 13 b) (m6 13 a) (Int32.toNatClampNeg 0) (Int32.toNatClampNeg 0) (Int32.toNatClampNeg 4))) (fun m7 => (ca 48 48 (m7 6 a 8) 0 0 (wr (mm_row m7 14 a (va_cpy (m7 14 b) (m7 14 a) (Int32.toNatClampNeg 0) (Int32.toNatClampNeg 0) (Int32.toNatClampNeg (m7 6 a 8)))) (fun m8 => (ca 48 48 (m8 6 a 8) 0 0 (wr (mm_row m8 15 a (va_cpy (m8 15 b) (m8 15 a) (Int32.toNatClampNeg 0) (Int32.toNatClampNeg 0) (Int32.toNatClampNeg (m8 6 a 8)))) (fun m9 => some (0, m9))))))))))))))))))))))))) := by
  refine (show f_X6_copyFrom [vr 6 a, vr 6 b] μ = mm_run E_X6_copyFrom 6 0 cX6_copyFrom (0, [vr 6 a, vr 6 b], [], μ) from rfl).trans ?_
  refine (R_aload_n dX6_copyFrom_0 rfl (by decide)).trans ?_
  refine (R_aload_n dX6_copyFrom_1 rfl (by decide)).trans ?_
  refine (gi_6_30 dX6_copyFrom_2).trans ?_
  refine (R_pi dX6_copyFrom_5 ft_6_30 fs_6_6).trans ?_
  refine wr_intro (g := fun m => mm_run E_X6_copyFrom 6 0 cX6_copyFrom (8, [vr 6 a, vr 6 b], [], m)) (fun m1 => ?_)
  refine (R_aload_n dX6_copyFrom_8 rfl (by decide)).trans ?_
  refine (R_aload_n dX6_copyFrom_9 rfl (by decide)).trans ?_
  refine (gi_6_34 dX6_copyFrom_10).trans ?_
  refine (R_pi dX6_copyFrom_13 ft_6_34 fs_6_7).trans ?_
  refine wr_intro (g := fun m => mm_run E_X6_copyFrom 6 0 cX6_copyFrom (16, [vr 6 a, vr 6 b], [], m)) (fun m2 => ?_)
  refine (R_aload_n dX6_copyFrom_16 rfl (by decide)).trans ?_
  refine (R_aload_n dX6_copyFrom_17 rfl (by decide)).trans ?_
  refine (gi_6_37 dX6_copyFrom_18).trans ?_
  refine (R_pi dX6_copyFrom_21 ft_6_37 fs_6_8).trans ?_
  refine wr_intro (g := fun m => mm_run E_X6_copyFrom 6 0 cX6_copyFrom (24, [vr 6 a, vr 6 b], [], m)) (fun m3 => ?_)
  refine (R_aload_n dX6_copyFrom_24 rfl (by decide)).trans ?_
  refine (gr_6_9 dX6_copyFrom_25).trans ?_
  refine (R_iconst 0 dX6_copyFrom_28 iconst_0).trans ?_
  refine (R_aload_n dX6_copyFrom_29 rfl (by decide)).trans ?_
  refine (gr_6_9 dX6_copyFrom_30).trans ?_
  refine (R_iconst 0 dX6_copyFrom_33 iconst_0).trans ?_
  refine (R_aload_n dX6_copyFrom_34 rfl (by decide)).trans ?_
  refine (gi_6_30 dX6_copyFrom_35).trans ?_
  refine (R_ac dX6_copyFrom_38 mt_6_40 as_10 as_10 (Nat.le_of_ble_eq_true rfl)).trans (ca_congr ?_)
  refine wr_intro (g := fun m => mm_run E_X6_copyFrom 6 0 cX6_copyFrom (41, [vr 6 a, vr 6 b], [], m)) (fun m4 => ?_)
  refine (R_aload_n dX6_copyFrom_41 rfl (by decide)).trans ?_
  refine (gr_6_15 dX6_copyFrom_42).trans ?_
  refine (R_iconst 0 dX6_copyFrom_45 iconst_0).trans ?_
  refine (R_aload_n dX6_copyFrom_46 rfl (by decide)).trans ?_
  refine (gr_6_15 dX6_copyFrom_47).trans ?_
  refine (R_iconst 0 dX6_copyFrom_50 iconst_0).trans ?_
  refine (R_aload_n dX6_copyFrom_51 rfl (by decide)).trans ?_
  refine (gi_6_34 dX6_copyFrom_52).trans ?_
  refine (R_ac dX6_copyFrom_55 mt_6_40 as_11 as_11 (Nat.le_of_ble_eq_true rfl)).trans (ca_congr ?_)
  refine wr_intro (g := fun m => mm_run E_X6_copyFrom 6 0 cX6_copyFrom (58, [vr 6 a, vr 6 b], [], m)) (fun m5 => ?_)
  refine (R_aload_n dX6_copyFrom_58 rfl (by decide)).trans ?_
  refine (gr_6_18 dX6_copyFrom_59).trans ?_
  refine (R_iconst 0 dX6_copyFrom_62 iconst_0).trans ?_
  refine (R_aload_n dX6_copyFrom_63 rfl (by decide)).trans ?_
  refine (gr_6_18 dX6_copyFrom_64).trans ?_
  refine (R_iconst 0 dX6_copyFrom_67 iconst_0).trans ?_
  refine (R_iconst 4 dX6_copyFrom_68 iconst_4).trans ?_
  refine (R_ac dX6_copyFrom_69 mt_6_40 as_12 as_12 (Nat.le_of_ble_eq_true rfl)).trans (ca_congr ?_)
  refine wr_intro (g := fun m => mm_run E_X6_copyFrom 6 0 cX6_copyFrom (72, [vr 6 a, vr 6 b], [], m)) (fun m6 => ?_)
  refine (R_aload_n dX6_copyFrom_72 rfl (by decide)).trans ?_
  refine (gr_6_21 dX6_copyFrom_73).trans ?_
  refine (R_iconst 0 dX6_copyFrom_76 iconst_0).trans ?_
  refine (R_aload_n dX6_copyFrom_77 rfl (by decide)).trans ?_
  refine (gr_6_21 dX6_copyFrom_78).trans ?_
  refine (R_iconst 0 dX6_copyFrom_81 iconst_0).trans ?_
  refine (R_iconst 4 dX6_copyFrom_82 iconst_4).trans ?_
  refine (R_ac dX6_copyFrom_83 mt_6_40 as_13 as_13 (Nat.le_of_ble_eq_true rfl)).trans (ca_congr ?_)
  refine wr_intro (g := fun m => mm_run E_X6_copyFrom 6 0 cX6_copyFrom (86, [vr 6 a, vr 6 b], [], m)) (fun m7 => ?_)
  refine (R_aload_n dX6_copyFrom_86 rfl (by decide)).trans ?_
  refine (gr_6_24 dX6_copyFrom_87).trans ?_
  refine (R_iconst 0 dX6_copyFrom_90 iconst_0).trans ?_
  refine (R_aload_n dX6_copyFrom_91 rfl (by decide)).trans ?_
  refine (gr_6_24 dX6_copyFrom_92).trans ?_
  refine (R_iconst 0 dX6_copyFrom_95 iconst_0).trans ?_
  refine (R_aload_n dX6_copyFrom_96 rfl (by decide)).trans ?_
  refine (gi_6_37 dX6_copyFrom_97).trans ?_
  refine (R_ac dX6_copyFrom_100 mt_6_40 as_14 as_14 (Nat.le_of_ble_eq_true rfl)).trans (ca_congr ?_)
  refine wr_intro (g := fun m => mm_run E_X6_copyFrom 6 0 cX6_copyFrom (103, [vr 6 a, vr 6 b], [], m)) (fun m8 => ?_)
  refine (R_aload_n dX6_copyFrom_103 rfl (by decide)).trans ?_
  refine (gr_6_27 dX6_copyFrom_104).trans ?_
  refine (R_iconst 0 dX6_copyFrom_107 iconst_0).trans ?_
  refine (R_aload_n dX6_copyFrom_108 rfl (by decide)).trans ?_
  refine (gr_6_27 dX6_copyFrom_109).trans ?_
  refine (R_iconst 0 dX6_copyFrom_112 iconst_0).trans ?_
  refine (R_aload_n dX6_copyFrom_113 rfl (by decide)).trans ?_
  refine (gi_6_37 dX6_copyFrom_114).trans ?_
  refine (R_ac dX6_copyFrom_117 mt_6_40 as_15 as_15 (Nat.le_of_ble_eq_true rfl)).trans (ca_congr ?_)
  refine wr_intro (g := fun m => mm_run E_X6_copyFrom 6 0 cX6_copyFrom (120, [vr 6 a, vr 6 b], [], m)) (fun m9 => ?_)
  exact R_return dX6_copyFrom_120 rfl
noncomputable def E_X6_parts : mE := fun k => fun _ _ => none
noncomputable def f_X6_parts : List mV → mM → Option mR := mm_fn E_X6_parts 6 1 1 cX6_parts
theorem k_X6_parts (l : Launch) : mm_OK l 35 f_X6_parts := mm_fn_ok l 35 6 E_X6_parts (by decide) rfl (by decide) (by
  intro k as μ q h
  have e : E_X6_parts k = fun _ _ => none := rfl
  rw [e] at h
  cases h)
set_option maxRecDepth 100000 in
set_option maxHeartbeats 4000000 in
theorem e_X6_parts (a : Nat) (μ : mM) : f_X6_parts [vr 6 a] μ = some ((μ 6 a 6) + (μ 6 a 7), μ) := by
  refine (show f_X6_parts [vr 6 a] μ = mm_run E_X6_parts 6 1 cX6_parts (0, [vr 6 a], [], μ) from rfl).trans ?_
  refine (R_aload_n dX6_parts_0 rfl (by decide)).trans ?_
  refine (gi_6_30 dX6_parts_1).trans ?_
  refine (R_aload_n dX6_parts_4 rfl (by decide)).trans ?_
  refine (gi_6_34 dX6_parts_5).trans ?_
  refine (R_iadd dX6_parts_8).trans ?_
  exact R_ireturn dX6_parts_9 rfl
noncomputable def E_X6_sortOf : mE := fun k => fun _ _ => none
noncomputable def f_X6_sortOf : List mV → mM → Option mR := mm_fn E_X6_sortOf 6 1 3 cX6_sortOf
theorem k_X6_sortOf (l : Launch) : mm_OK l 36 f_X6_sortOf := mm_fn_ok l 36 6 E_X6_sortOf (by decide) rfl (by decide) (by
  intro k as μ q h
  have e : E_X6_sortOf k = fun _ _ => none := rfl
  rw [e] at h
  cases h)
noncomputable def r_X6_sortOf_2 (a : Nat) (l1 : Int32) (l2 : Int32) (μ : mM) : Option mR := mm_run E_X6_sortOf 6 1 cX6_sortOf (2, [vr 6 a, vi l1, vi l2], [], μ)
set_option maxRecDepth 100000 in
set_option maxHeartbeats 4000000 in
theorem e_X6_sortOf (a : Nat) (l1 : Int32) (μ : mM) : f_X6_sortOf [vr 6 a, vi l1] μ = r_X6_sortOf_2 a l1 0 μ := by
  refine (show f_X6_sortOf [vr 6 a, vi l1] μ = mm_run E_X6_sortOf 6 1 cX6_sortOf (0, [vr 6 a, vi l1, vu], [], μ) from rfl).trans ?_
  refine (R_iconst 0 dX6_sortOf_0 iconst_0).trans ?_
  refine (R_istore_n (ls' := [vr 6 a, vi l1, vi 0]) dX6_sortOf_1 (Nat.le_of_ble_eq_true rfl) (by decide) rfl).trans ?_
  exact rfl
set_option maxRecDepth 100000 in
set_option maxHeartbeats 4000000 in
theorem e_X6_sortOf_2 (a : Nat) (l1 : Int32) (l2 : Int32) (μ : mM) : r_X6_sortOf_2 a l1 l2 μ = (if l2 < μ 6 a 8 then (ck 48 l2 (if μ 14 a (Int32.toNatClampNeg l2) = l1 then some (l2, μ) else r_X6_sortOf_2 a l1 (l2 + 1) μ)) else some ((-1), μ)) := by
  refine (show r_X6_sortOf_2 a l1 l2 μ = mm_run E_X6_sortOf 6 1 cX6_sortOf (2, [vr 6 a, vi l1, vi l2], [], μ) from rfl).trans ?_
  refine (R_iload_n dX6_sortOf_2 rfl).trans ?_
  refine (R_aload_n dX6_sortOf_3 rfl (by decide)).trans ?_
  refine (gi_6_37 dX6_sortOf_4).trans ?_
  refine (R_icmp 28 dX6_sortOf_7 rfl).trans (c_ge (fun h1 => ?_) (fun h1 => ?_))
  · refine (R_aload_n dX6_sortOf_10 rfl (by decide)).trans ?_
    refine (gr_6_24 dX6_sortOf_11).trans ?_
    refine (R_iload_n dX6_sortOf_14 rfl).trans ?_
    refine (R_iaload dX6_sortOf_15 as_14).trans (ck_congr ?_)
    refine (R_iload_n dX6_sortOf_16 rfl).trans ?_
    refine (R_icmp 22 dX6_sortOf_17 rfl).trans (c_ne (fun h2 => ?_) (fun h2 => ?_))
    · refine (R_iload_n dX6_sortOf_20 rfl).trans ?_
      exact R_ireturn dX6_sortOf_21 rfl
    · refine (R_iinc (ls' := [vr 6 a, vi l1, vi (l2 + 1)]) 1 dX6_sortOf_22 rfl iconst_1 (by decide) rfl).trans ?_
      refine (R_goto 2 dX6_sortOf_25 rfl).trans ?_
      exact rfl
  · refine (R_iconst (-1) dX6_sortOf_28 iconst_m1).trans ?_
    exact R_ireturn dX6_sortOf_29 rfl
noncomputable def E_X6_empty : mE := fun k => fun _ _ => none
noncomputable def f_X6_empty : List mV → mM → Option mR := mm_fn E_X6_empty 6 0 1 cX6_empty
theorem k_X6_empty (l : Launch) : mm_OK l 43 f_X6_empty := mm_fn_ok l 43 6 E_X6_empty (by decide) rfl (by decide) (by
  intro k as μ q h
  have e : E_X6_empty k = fun _ _ => none := rfl
  rw [e] at h
  cases h)
set_option maxRecDepth 100000 in
set_option maxHeartbeats 4000000 in
theorem e_X6_empty (a : Nat) (μ : mM) : f_X6_empty [vr 6 a] μ = (wr (mm_up μ 6 a 6 0) (fun m1 => (wr (mm_up m1 6 a 7 0) (fun m2 => (wr (mm_up m2 6 a 8 0) (fun m3 => some (0, m3))))))) := by
  refine (show f_X6_empty [vr 6 a] μ = mm_run E_X6_empty 6 0 cX6_empty (0, [vr 6 a], [], μ) from rfl).trans ?_
  refine (R_aload_n dX6_empty_0 rfl (by decide)).trans ?_
  refine (R_iconst 0 dX6_empty_1 iconst_0).trans ?_
  refine (R_pi dX6_empty_2 ft_6_30 fs_6_6).trans ?_
  refine wr_intro (g := fun m => mm_run E_X6_empty 6 0 cX6_empty (5, [vr 6 a], [], m)) (fun m1 => ?_)
  refine (R_aload_n dX6_empty_5 rfl (by decide)).trans ?_
  refine (R_iconst 0 dX6_empty_6 iconst_0).trans ?_
  refine (R_pi dX6_empty_7 ft_6_34 fs_6_7).trans ?_
  refine wr_intro (g := fun m => mm_run E_X6_empty 6 0 cX6_empty (10, [vr 6 a], [], m)) (fun m2 => ?_)
  refine (R_aload_n dX6_empty_10 rfl (by decide)).trans ?_
  refine (R_iconst 0 dX6_empty_11 iconst_0).trans ?_
  refine (R_pi dX6_empty_12 ft_6_37 fs_6_8).trans ?_
  refine wr_intro (g := fun m => mm_run E_X6_empty 6 0 cX6_empty (15, [vr 6 a], [], m)) (fun m3 => ?_)
  exact R_return dX6_empty_15 rfl
noncomputable def E_X6_partsOfKind : mE := fun k => fun _ _ => none
noncomputable def f_X6_partsOfKind : List mV → mM → Option mR := mm_fn E_X6_partsOfKind 6 1 4 cX6_partsOfKind
theorem k_X6_partsOfKind (l : Launch) : mm_OK l 44 f_X6_partsOfKind := mm_fn_ok l 44 6 E_X6_partsOfKind (by decide) rfl (by decide) (by
  intro k as μ q h
  have e : E_X6_partsOfKind k = fun _ _ => none := rfl
  rw [e] at h
  cases h)
noncomputable def r_X6_partsOfKind_4 (a : Nat) (l1 : Int32) (l2 : Int32) (l3 : Int32) (μ : mM) : Option mR := mm_run E_X6_partsOfKind 6 1 cX6_partsOfKind (4, [vr 6 a, vi l1, vi l2, vi l3], [], μ)
noncomputable def r_X6_partsOfKind_38 (a : Nat) (l1 : Int32) (l2 : Int32) (l3 : Int32) (μ : mM) : Option mR := mm_run E_X6_partsOfKind 6 1 cX6_partsOfKind (38, [vr 6 a, vi l1, vi l2, vi l3], [], μ)
set_option maxRecDepth 100000 in
set_option maxHeartbeats 4000000 in
theorem e_X6_partsOfKind (a : Nat) (l1 : Int32) (μ : mM) : f_X6_partsOfKind [vr 6 a, vi l1] μ = r_X6_partsOfKind_4 a l1 0 0 μ := by
  refine (show f_X6_partsOfKind [vr 6 a, vi l1] μ = mm_run E_X6_partsOfKind 6 1 cX6_partsOfKind (0, [vr 6 a, vi l1, vu, vu], [], μ) from rfl).trans ?_
  refine (R_iconst 0 dX6_partsOfKind_0 iconst_0).trans ?_
  refine (R_istore_n (ls' := [vr 6 a, vi l1, vi 0, vu]) dX6_partsOfKind_1 (Nat.le_of_ble_eq_true rfl) (by decide) rfl).trans ?_
  refine (R_iconst 0 dX6_partsOfKind_2 iconst_0).trans ?_
  refine (R_istore_n (ls' := [vr 6 a, vi l1, vi 0, vi 0]) dX6_partsOfKind_3 (Nat.le_of_ble_eq_true rfl) (by decide) rfl).trans ?_
  exact rfl
set_option maxRecDepth 100000 in
set_option maxHeartbeats 4000000 in
theorem e_X6_partsOfKind_4 (a : Nat) (l1 : Int32) (l2 : Int32) (l3 : Int32) (μ : mM) : r_X6_partsOfKind_4 a l1 l2 l3 μ = (if l3 < μ 6 a 6 then (ck 24 l3 (if μ 10 a (Int32.toNatClampNeg l3) = l1 then r_X6_partsOfKind_4 a l1 (l2 + 1) (l3 + 1) μ else r_X6_partsOfKind_4 a l1 (l2 + 0) (l3 + 1) μ)) else r_X6_partsOfKind_38 a l1 l2 0 μ) := by
  refine (show r_X6_partsOfKind_4 a l1 l2 l3 μ = mm_run E_X6_partsOfKind 6 1 cX6_partsOfKind (4, [vr 6 a, vi l1, vi l2, vi l3], [], μ) from rfl).trans ?_
  refine (R_iload_n dX6_partsOfKind_4 rfl).trans ?_
  refine (R_aload_n dX6_partsOfKind_5 rfl (by decide)).trans ?_
  refine (gi_6_30 dX6_partsOfKind_6).trans ?_
  refine (R_icmp 36 dX6_partsOfKind_9 rfl).trans (c_ge (fun h1 => ?_) (fun h1 => ?_))
  · refine (R_iload_n dX6_partsOfKind_12 rfl).trans ?_
    refine (R_aload_n dX6_partsOfKind_13 rfl (by decide)).trans ?_
    refine (gr_6_9 dX6_partsOfKind_14).trans ?_
    refine (R_iload_n dX6_partsOfKind_17 rfl).trans ?_
    refine (R_iaload dX6_partsOfKind_18 as_10).trans (ck_congr ?_)
    refine (R_iload_n dX6_partsOfKind_19 rfl).trans ?_
    refine (R_icmp 27 dX6_partsOfKind_20 rfl).trans (c_ne (fun h2 => ?_) (fun h2 => ?_))
    · refine (R_iconst 1 dX6_partsOfKind_23 iconst_1).trans ?_
      refine (R_goto 28 dX6_partsOfKind_24 rfl).trans ?_
      refine (R_iadd dX6_partsOfKind_28).trans ?_
      refine (R_istore_n (ls' := [vr 6 a, vi l1, vi (l2 + 1), vi l3]) dX6_partsOfKind_29 (Nat.le_of_ble_eq_true rfl) (by decide) rfl).trans ?_
      refine (R_iinc (ls' := [vr 6 a, vi l1, vi (l2 + 1), vi (l3 + 1)]) 1 dX6_partsOfKind_30 rfl iconst_1 (by decide) rfl).trans ?_
      refine (R_goto 4 dX6_partsOfKind_33 rfl).trans ?_
      exact rfl
    · refine (R_iconst 0 dX6_partsOfKind_27 iconst_0).trans ?_
      refine (R_iadd dX6_partsOfKind_28).trans ?_
      refine (R_istore_n (ls' := [vr 6 a, vi l1, vi (l2 + 0), vi l3]) dX6_partsOfKind_29 (Nat.le_of_ble_eq_true rfl) (by decide) rfl).trans ?_
      refine (R_iinc (ls' := [vr 6 a, vi l1, vi (l2 + 0), vi (l3 + 1)]) 1 dX6_partsOfKind_30 rfl iconst_1 (by decide) rfl).trans ?_
      refine (R_goto 4 dX6_partsOfKind_33 rfl).trans ?_
      exact rfl
  · refine (R_iconst 0 dX6_partsOfKind_36 iconst_0).trans ?_
    refine (R_istore_n (ls' := [vr 6 a, vi l1, vi l2, vi 0]) dX6_partsOfKind_37 (Nat.le_of_ble_eq_true rfl) (by decide) rfl).trans ?_
    exact rfl
set_option maxRecDepth 100000 in
set_option maxHeartbeats 4000000 in
theorem e_X6_partsOfKind_38 (a : Nat) (l1 : Int32) (l2 : Int32) (l3 : Int32) (μ : mM) : r_X6_partsOfKind_38 a l1 l2 l3 μ = (if l3 < μ 6 a 7 then (ck 24 l3 (if μ 11 a (Int32.toNatClampNeg l3) = l1 then r_X6_partsOfKind_38 a l1 (l2 + 1) (l3 + 1) μ else r_X6_partsOfKind_38 a l1 (l2 + 0) (l3 + 1) μ)) else some (l2, μ)) := by
  refine (show r_X6_partsOfKind_38 a l1 l2 l3 μ = mm_run E_X6_partsOfKind 6 1 cX6_partsOfKind (38, [vr 6 a, vi l1, vi l2, vi l3], [], μ) from rfl).trans ?_
  refine (R_iload_n dX6_partsOfKind_38 rfl).trans ?_
  refine (R_aload_n dX6_partsOfKind_39 rfl (by decide)).trans ?_
  refine (gi_6_34 dX6_partsOfKind_40).trans ?_
  refine (R_icmp 70 dX6_partsOfKind_43 rfl).trans (c_ge (fun h1 => ?_) (fun h1 => ?_))
  · refine (R_iload_n dX6_partsOfKind_46 rfl).trans ?_
    refine (R_aload_n dX6_partsOfKind_47 rfl (by decide)).trans ?_
    refine (gr_6_15 dX6_partsOfKind_48).trans ?_
    refine (R_iload_n dX6_partsOfKind_51 rfl).trans ?_
    refine (R_iaload dX6_partsOfKind_52 as_11).trans (ck_congr ?_)
    refine (R_iload_n dX6_partsOfKind_53 rfl).trans ?_
    refine (R_icmp 61 dX6_partsOfKind_54 rfl).trans (c_ne (fun h2 => ?_) (fun h2 => ?_))
    · refine (R_iconst 1 dX6_partsOfKind_57 iconst_1).trans ?_
      refine (R_goto 62 dX6_partsOfKind_58 rfl).trans ?_
      refine (R_iadd dX6_partsOfKind_62).trans ?_
      refine (R_istore_n (ls' := [vr 6 a, vi l1, vi (l2 + 1), vi l3]) dX6_partsOfKind_63 (Nat.le_of_ble_eq_true rfl) (by decide) rfl).trans ?_
      refine (R_iinc (ls' := [vr 6 a, vi l1, vi (l2 + 1), vi (l3 + 1)]) 1 dX6_partsOfKind_64 rfl iconst_1 (by decide) rfl).trans ?_
      refine (R_goto 38 dX6_partsOfKind_67 rfl).trans ?_
      exact rfl
    · refine (R_iconst 0 dX6_partsOfKind_61 iconst_0).trans ?_
      refine (R_iadd dX6_partsOfKind_62).trans ?_
      refine (R_istore_n (ls' := [vr 6 a, vi l1, vi (l2 + 0), vi l3]) dX6_partsOfKind_63 (Nat.le_of_ble_eq_true rfl) (by decide) rfl).trans ?_
      refine (R_iinc (ls' := [vr 6 a, vi l1, vi (l2 + 0), vi (l3 + 1)]) 1 dX6_partsOfKind_64 rfl iconst_1 (by decide) rfl).trans ?_
      refine (R_goto 38 dX6_partsOfKind_67 rfl).trans ?_
      exact rfl
  · refine (R_iload_n dX6_partsOfKind_70 rfl).trans ?_
    exact R_ireturn dX6_partsOfKind_71 rfl
noncomputable def E_X7_forget : mE := fun k => fun _ _ => none
noncomputable def f_X7_forget : List mV → mM → Option mR := mm_fn E_X7_forget 7 1 2 cX7_forget
theorem k_X7_forget (l : Launch) : mm_OK l 68 f_X7_forget := mm_fn_ok l 68 7 E_X7_forget (by decide) rfl (by decide) (by
  intro k as μ q h
  have e : E_X7_forget k = fun _ _ => none := rfl
  rw [e] at h
  cases h)
set_option maxRecDepth 100000 in
set_option maxHeartbeats 4000000 in
theorem e_X7_forget (μ : mM) : f_X7_forget [vr 7 0] μ = (wr (mm_up μ 4 0 4 0) (fun m1 => some (μ 4 0 4, m1))) := by
  refine (show f_X7_forget [vr 7 0] μ = mm_run E_X7_forget 7 1 cX7_forget (0, [vr 7 0, vu], [], μ) from rfl).trans ?_
  refine (R_aload_n dX7_forget_0 rfl (by decide)).trans ?_
  refine (gr_7_47 dX7_forget_1).trans ?_
  refine (gi_7_91 dX7_forget_4).trans ?_
  refine (R_istore_n (ls' := [vr 7 0, vi (μ 4 0 4)]) dX7_forget_7 (Nat.le_of_ble_eq_true rfl) (by decide) rfl).trans ?_
  refine (R_aload_n dX7_forget_8 rfl (by decide)).trans ?_
  refine (gr_7_47 dX7_forget_9).trans ?_
  refine (R_iconst 0 dX7_forget_12 iconst_0).trans ?_
  refine (R_pi dX7_forget_13 ft_7_91 fs_4_4).trans ?_
  refine wr_intro (g := fun m => mm_run E_X7_forget 7 1 cX7_forget (16, [vr 7 0, vi (μ 4 0 4)], [], m)) (fun m1 => ?_)
  refine (R_iload_n dX7_forget_16 rfl).trans ?_
  exact R_ireturn dX7_forget_17 rfl
noncomputable def E_X7_seed : mE := fun k => fun _ _ => none
noncomputable def f_X7_seed : List mV → mM → Option mR := mm_fn E_X7_seed 7 1 3 cX7_seed
theorem k_X7_seed (l : Launch) : mm_OK l 69 f_X7_seed := mm_fn_ok l 69 7 E_X7_seed (by decide) rfl (by decide) (by
  intro k as μ q h
  have e : E_X7_seed k = fun _ _ => none := rfl
  rw [e] at h
  cases h)
set_option maxRecDepth 100000 in
set_option maxHeartbeats 4000000 in
theorem e_X7_seed (l1 : Int32) (μ : mM) : f_X7_seed [vr 7 0, vi l1] μ = (if l1 < 0 then some ((-1000000002), μ) else (wr (mm_up μ 7 0 7 l1) (fun m2 => some (μ 7 0 7, m2)))) := by
  refine (show f_X7_seed [vr 7 0, vi l1] μ = mm_run E_X7_seed 7 1 cX7_seed (0, [vr 7 0, vi l1, vu], [], μ) from rfl).trans ?_
  refine (R_iload_n dX7_seed_0 rfl).trans ?_
  refine (R_ifc 7 dX7_seed_1 rfl).trans (c_ge (fun h1 => ?_) (fun h1 => ?_))
  · refine (R_ldc dX7_seed_4 kt_7_113).trans ?_
    exact R_ireturn dX7_seed_6 rfl
  · refine (R_aload_n dX7_seed_7 rfl (by decide)).trans ?_
    refine (gi_7_57 dX7_seed_8).trans ?_
    refine (R_istore_n (ls' := [vr 7 0, vi l1, vi (μ 7 0 7)]) dX7_seed_11 (Nat.le_of_ble_eq_true rfl) (by decide) rfl).trans ?_
    refine (R_aload_n dX7_seed_12 rfl (by decide)).trans ?_
    refine (R_iload_n dX7_seed_13 rfl).trans ?_
    refine (R_pi dX7_seed_14 ft_7_57 fs_7_7).trans ?_
    refine wr_intro (g := fun m => mm_run E_X7_seed 7 1 cX7_seed (17, [vr 7 0, vi l1, vi (μ 7 0 7)], [], m)) (fun m2 => ?_)
    refine (R_iload_n dX7_seed_17 rfl).trans ?_
    exact R_ireturn dX7_seed_18 rfl
noncomputable def E_X7_draw : mE := fun k => fun _ _ => none
noncomputable def f_X7_draw : List mV → mM → Option mR := mm_fn E_X7_draw 7 1 2 cX7_draw
theorem k_X7_draw (l : Launch) : mm_OK l 74 f_X7_draw := mm_fn_ok l 74 7 E_X7_draw (by decide) rfl (by decide) (by
  intro k as μ q h
  have e : E_X7_draw k = fun _ _ => none := rfl
  rw [e] at h
  cases h)
set_option maxRecDepth 100000 in
set_option maxHeartbeats 4000000 in
theorem e_X7_draw (l1 : Int32) (μ : mM) : f_X7_draw [vr 7 0, vi l1] μ = (wr (mm_up μ 7 0 7 (Int64.toInt32 ((((Int32.toInt64 (μ 7 0 7)) * 1103515245) + 12345) - (((Int32.toInt64 (μ 7 0 7)) * 1103515245) + 12345) / 2147483648 * 2147483648))) (fun m1 => (if l1 < 1 then some (0, m1) else (if l1 = 0 then none else some (((m1 7 0 7) / 65536) - ((m1 7 0 7) / 65536) / l1 * l1, m1))))) := by
  refine (show f_X7_draw [vr 7 0, vi l1] μ = mm_run E_X7_draw 7 1 cX7_draw (0, [vr 7 0, vi l1], [], μ) from rfl).trans ?_
  refine (R_aload_n dX7_draw_0 rfl (by decide)).trans ?_
  refine (R_aload_n dX7_draw_1 rfl (by decide)).trans ?_
  refine (gi_7_57 dX7_draw_2).trans ?_
  refine (R_i2l dX7_draw_5).trans ?_
  refine (R_ldc2_w dX7_draw_6 lt_7_252).trans ?_
  refine (R_lmul dX7_draw_9).trans ?_
  refine (R_ldc2_w dX7_draw_10 lt_7_254).trans ?_
  refine (R_ladd dX7_draw_13).trans ?_
  refine (R_ldc2_w dX7_draw_14 lt_7_256).trans ?_
  refine (R_lrem dX7_draw_17).trans ?_
  refine (if_neg (by decide)).trans ?_
  refine (R_l2i dX7_draw_18).trans ?_
  refine (R_pi dX7_draw_19 ft_7_57 fs_7_7).trans ?_
  refine wr_intro (g := fun m => mm_run E_X7_draw 7 1 cX7_draw (22, [vr 7 0, vi l1], [], m)) (fun m1 => ?_)
  refine (R_iload_n dX7_draw_22 rfl).trans ?_
  refine (R_iconst 1 dX7_draw_23 iconst_1).trans ?_
  refine (R_icmp 31 dX7_draw_24 rfl).trans (c_ge (fun h2 => ?_) (fun h2 => ?_))
  · refine (R_iconst 0 dX7_draw_27 iconst_0).trans ?_
    refine (R_goto 41 dX7_draw_28 rfl).trans ?_
    exact R_ireturn dX7_draw_41 rfl
  · refine (R_aload_n dX7_draw_31 rfl (by decide)).trans ?_
    refine (gi_7_57 dX7_draw_32).trans ?_
    refine (R_ldc_w dX7_draw_35 kt_7_258).trans ?_
    refine (R_idiv dX7_draw_38).trans ?_
    refine (if_neg (by decide)).trans ?_
    refine (R_iload_n dX7_draw_39 rfl).trans ?_
    refine (R_irem dX7_draw_40).trans (z_congr (fun h3 => ?_))
    exact R_ireturn dX7_draw_41 rfl
noncomputable def E_X7_isIn : mE := fun k => fun _ _ => none
noncomputable def f_X7_isIn : List mV → mM → Option mR := mm_fn E_X7_isIn 7 2 2 cX7_isIn
theorem k_X7_isIn (l : Launch) : mm_OK l 75 f_X7_isIn := mm_fn_ok l 75 7 E_X7_isIn (by decide) rfl (by decide) (by
  intro k as μ q h
  have e : E_X7_isIn k = fun _ _ => none := rfl
  rw [e] at h
  cases h)
set_option maxRecDepth 100000 in
set_option maxHeartbeats 4000000 in
theorem e_X7_isIn (l0 : Int32) (l1 : Int32) (μ : mM) : f_X7_isIn [vi l0, vi l1] μ = (if l0 < 0 then some (0, μ) else (if l0 < l1 then some (1, μ) else some (0, μ))) := by
  refine (show f_X7_isIn [vi l0, vi l1] μ = mm_run E_X7_isIn 7 2 cX7_isIn (0, [vi l0, vi l1], [], μ) from rfl).trans ?_
  refine (R_iload_n dX7_isIn_0 rfl).trans ?_
  refine (R_ifc 13 dX7_isIn_1 rfl).trans (c_lt (fun h1 => ?_) (fun h1 => ?_))
  · refine (R_iconst 0 dX7_isIn_13 iconst_0).trans ?_
    exact R_zreturn dX7_isIn_14 (by decide) (by decide)
  · refine (R_iload_n dX7_isIn_4 rfl).trans ?_
    refine (R_iload_n dX7_isIn_5 rfl).trans ?_
    refine (R_icmp 13 dX7_isIn_6 rfl).trans (c_ge (fun h2 => ?_) (fun h2 => ?_))
    · refine (R_iconst 1 dX7_isIn_9 iconst_1).trans ?_
      refine (R_goto 14 dX7_isIn_10 rfl).trans ?_
      exact R_zreturn dX7_isIn_14 (by decide) (by decide)
    · refine (R_iconst 0 dX7_isIn_13 iconst_0).trans ?_
      exact R_zreturn dX7_isIn_14 (by decide) (by decide)
noncomputable def E_X7_kindOf : mE := fun k => fun _ _ => none
noncomputable def f_X7_kindOf : List mV → mM → Option mR := mm_fn E_X7_kindOf 7 1 2 cX7_kindOf
theorem k_X7_kindOf (l : Launch) : mm_OK l 76 f_X7_kindOf := mm_fn_ok l 76 7 E_X7_kindOf (by decide) rfl (by decide) (by
  intro k as μ q h
  have e : E_X7_kindOf k = fun _ _ => none := rfl
  rw [e] at h
  cases h)
set_option maxRecDepth 100000 in
set_option maxHeartbeats 4000000 in
theorem e_X7_kindOf (l0 : Int32) (l1 : Int32) (μ : mM) : f_X7_kindOf [vi l0, vi l1] μ = some ((l0 * 10000) + l1, μ) := by
  refine (show f_X7_kindOf [vi l0, vi l1] μ = mm_run E_X7_kindOf 7 1 cX7_kindOf (0, [vi l0, vi l1], [], μ) from rfl).trans ?_
  refine (R_iload_n dX7_kindOf_0 rfl).trans ?_
  refine (R_sipush 10000 dX7_kindOf_1 sipush_10000).trans ?_
  refine (R_imul dX7_kindOf_4).trans ?_
  refine (R_iload_n dX7_kindOf_5 rfl).trans ?_
  refine (R_iadd dX7_kindOf_6).trans ?_
  exact R_ireturn dX7_kindOf_7 rfl
noncomputable def E_X7_gradeOf : mE := fun k => fun _ _ => none
noncomputable def f_X7_gradeOf : List mV → mM → Option mR := mm_fn E_X7_gradeOf 7 1 1 cX7_gradeOf
theorem k_X7_gradeOf (l : Launch) : mm_OK l 77 f_X7_gradeOf := mm_fn_ok l 77 7 E_X7_gradeOf (by decide) rfl (by decide) (by
  intro k as μ q h
  have e : E_X7_gradeOf k = fun _ _ => none := rfl
  rw [e] at h
  cases h)
set_option maxRecDepth 100000 in
set_option maxHeartbeats 4000000 in
theorem e_X7_gradeOf (l0 : Int32) (μ : mM) : f_X7_gradeOf [vi l0] μ = some (l0 / 10000, μ) := by
  refine (show f_X7_gradeOf [vi l0] μ = mm_run E_X7_gradeOf 7 1 cX7_gradeOf (0, [vi l0], [], μ) from rfl).trans ?_
  refine (R_iload_n dX7_gradeOf_0 rfl).trans ?_
  refine (R_sipush 10000 dX7_gradeOf_1 sipush_10000).trans ?_
  refine (R_idiv dX7_gradeOf_4).trans ?_
  refine (if_neg (by decide)).trans ?_
  exact R_ireturn dX7_gradeOf_5 rfl
noncomputable def E_X7_sizeOf : mE := fun k => fun _ _ => none
noncomputable def f_X7_sizeOf : List mV → mM → Option mR := mm_fn E_X7_sizeOf 7 1 1 cX7_sizeOf
theorem k_X7_sizeOf (l : Launch) : mm_OK l 78 f_X7_sizeOf := mm_fn_ok l 78 7 E_X7_sizeOf (by decide) rfl (by decide) (by
  intro k as μ q h
  have e : E_X7_sizeOf k = fun _ _ => none := rfl
  rw [e] at h
  cases h)
set_option maxRecDepth 100000 in
set_option maxHeartbeats 4000000 in
theorem e_X7_sizeOf (l0 : Int32) (μ : mM) : f_X7_sizeOf [vi l0] μ = some (l0 - l0 / 10000 * 10000, μ) := by
  refine (show f_X7_sizeOf [vi l0] μ = mm_run E_X7_sizeOf 7 1 cX7_sizeOf (0, [vi l0], [], μ) from rfl).trans ?_
  refine (R_iload_n dX7_sizeOf_0 rfl).trans ?_
  refine (R_sipush 10000 dX7_sizeOf_1 sipush_10000).trans ?_
  refine (R_irem dX7_sizeOf_4).trans ?_
  refine (if_neg (by decide)).trans ?_
  exact R_ireturn dX7_sizeOf_5 rfl
noncomputable def E_X8_in : mE := fun k => fun _ _ => none
noncomputable def f_X8_in : List mV → mM → Option mR := mm_fn E_X8_in 8 3 6 cX8_in
theorem k_X8_in (l : Launch) : mm_OK l 79 f_X8_in := mm_fn_ok l 79 8 E_X8_in (by decide) rfl (by decide) (by
  intro k as μ q h
  have e : E_X8_in k = fun _ _ => none := rfl
  rw [e] at h
  cases h)
set_option maxRecDepth 100000 in
set_option maxHeartbeats 4000000 in
theorem e_X8_in (l0 : Int64) (l2 : Int64) (l4 : Int64) (μ : mM) : f_X8_in [vl l0, vl l2, vl l4] μ = (if lg_cmp l0 l2 < 0 then some (0, μ) else (if 0 < lg_cmp l0 l4 then some (0, μ) else some (1, μ))) := by
  refine (show f_X8_in [vl l0, vl l2, vl l4] μ = mm_run E_X8_in 8 3 cX8_in (0, [vl l0, vu, vl l2, vu, vl l4, vu], [], μ) from rfl).trans ?_
  refine (R_lload_n dX8_in_0 rfl).trans ?_
  refine (R_lload_n dX8_in_1 rfl).trans ?_
  refine (R_lcmp dX8_in_2).trans ?_
  refine (R_ifc 17 dX8_in_3 rfl).trans (c_lt (fun h1 => ?_) (fun h1 => ?_))
  · refine (R_iconst 0 dX8_in_17 iconst_0).trans ?_
    exact R_zreturn dX8_in_18 (by decide) (by decide)
  · refine (R_lload_n dX8_in_6 rfl).trans ?_
    refine (R_lload dX8_in_7 rfl).trans ?_
    refine (R_lcmp dX8_in_9).trans ?_
    refine (R_ifc 17 dX8_in_10 rfl).trans (c_gt (fun h2 => ?_) (fun h2 => ?_))
    · refine (R_iconst 0 dX8_in_17 iconst_0).trans ?_
      exact R_zreturn dX8_in_18 (by decide) (by decide)
    · refine (R_iconst 1 dX8_in_13 iconst_1).trans ?_
      refine (R_goto 18 dX8_in_14 rfl).trans ?_
      exact R_zreturn dX8_in_18 (by decide) (by decide)
noncomputable def E_X8_copy : mE := fun k => fun _ _ => none
noncomputable def f_X8_copy : List mV → mM → Option mR := mm_fn E_X8_copy 8 0 4 cX8_copy
theorem k_X8_copy (l : Launch) : mm_OK l 80 f_X8_copy := mm_fn_ok l 80 8 E_X8_copy (by decide) rfl (by decide) (by
  intro k as μ q h
  have e : E_X8_copy k = fun _ _ => none := rfl
  rw [e] at h
  cases h)
noncomputable def r_X8_copy_2 (l1 : Int32) (l2 : Int32) (l3 : Int32) (μ : mM) : Option mR := mm_run E_X8_copy 8 0 cX8_copy (2, [vr 8 0, vi l1, vi l2, vi l3], [], μ)
set_option maxRecDepth 100000 in
set_option maxHeartbeats 4000000 in
theorem e_X8_copy (l1 : Int32) (l2 : Int32) (μ : mM) : f_X8_copy [vr 8 0, vi l1, vi l2] μ = r_X8_copy_2 l1 l2 0 μ := by
  refine (show f_X8_copy [vr 8 0, vi l1, vi l2] μ = mm_run E_X8_copy 8 0 cX8_copy (0, [vr 8 0, vi l1, vi l2, vu], [], μ) from rfl).trans ?_
  refine (R_iconst 0 dX8_copy_0 iconst_0).trans ?_
  refine (R_istore_n (ls' := [vr 8 0, vi l1, vi l2, vi 0]) dX8_copy_1 (Nat.le_of_ble_eq_true rfl) (by decide) rfl).trans ?_
  exact rfl
set_option maxRecDepth 100000 in
set_option maxHeartbeats 4000000 in
theorem e_X8_copy_2 (l1 : Int32) (l2 : Int32) (l3 : Int32) (μ : mM) : r_X8_copy_2 l1 l2 l3 μ = (if l3 < 275 then (ck 5225 (l1 + l3) (ck 5225 (l2 + l3) (wr (mm_up μ 50 0 (Int32.toNatClampNeg (l2 + l3)) (μ 50 0 (Int32.toNatClampNeg (l1 + l3)))) (fun m2 => r_X8_copy_2 l1 l2 (l3 + 1) m2)))) else some (0, μ)) := by
  refine (show r_X8_copy_2 l1 l2 l3 μ = mm_run E_X8_copy 8 0 cX8_copy (2, [vr 8 0, vi l1, vi l2, vi l3], [], μ) from rfl).trans ?_
  refine (R_iload_n dX8_copy_2 rfl).trans ?_
  refine (R_sipush 275 dX8_copy_3 sipush_275).trans ?_
  refine (R_icmp 31 dX8_copy_6 rfl).trans (c_ge (fun h1 => ?_) (fun h1 => ?_))
  · refine (R_aload_n dX8_copy_9 rfl (by decide)).trans ?_
    refine (gr_8_7 dX8_copy_10).trans ?_
    refine (R_iload_n dX8_copy_13 rfl).trans ?_
    refine (R_iload_n dX8_copy_14 rfl).trans ?_
    refine (R_iadd dX8_copy_15).trans ?_
    refine (R_aload_n dX8_copy_16 rfl (by decide)).trans ?_
    refine (gr_8_7 dX8_copy_17).trans ?_
    refine (R_iload_n dX8_copy_20 rfl).trans ?_
    refine (R_iload_n dX8_copy_21 rfl).trans ?_
    refine (R_iadd dX8_copy_22).trans ?_
    refine (R_iaload dX8_copy_23 as_50).trans (ck_congr ?_)
    refine (R_iastore dX8_copy_24 as_50).trans (ck_congr ?_)
    refine wr_intro (g := fun m => mm_run E_X8_copy 8 0 cX8_copy (25, [vr 8 0, vi l1, vi l2, vi l3], [], m)) (fun m2 => ?_)
    refine (R_iinc (ls' := [vr 8 0, vi l1, vi l2, vi (l3 + 1)]) 1 dX8_copy_25 rfl iconst_1 (by decide) rfl).trans ?_
    refine (R_goto 2 dX8_copy_28 rfl).trans ?_
    exact rfl
  · exact R_return dX8_copy_31 rfl
noncomputable def E_X8_begin : mE := fun k => fun _ _ => none
noncomputable def f_X8_begin : List mV → mM → Option mR := mm_fn E_X8_begin 8 1 2 cX8_begin
theorem k_X8_begin (l : Launch) : mm_OK l 85 f_X8_begin := mm_fn_ok l 85 8 E_X8_begin (by decide) rfl (by decide) (by
  intro k as μ q h
  have e : E_X8_begin k = fun _ _ => none := rfl
  rw [e] at h
  cases h)
set_option maxRecDepth 100000 in
set_option maxHeartbeats 4000000 in
theorem e_X8_begin (l1 : Int32) (μ : mM) : f_X8_begin [vr 8 0, vi l1] μ = (ck 5225 (33 + l1) (ck 5225 (9 + l1) (ck 5225 (0 + (μ 50 0 (Int32.toNatClampNeg (9 + l1)))) (some ((μ 50 0 (Int32.toNatClampNeg (33 + l1))) + (μ 50 0 (Int32.toNatClampNeg (0 + (μ 50 0 (Int32.toNatClampNeg (9 + l1)))))), μ))))) := by
  refine (show f_X8_begin [vr 8 0, vi l1] μ = mm_run E_X8_begin 8 1 cX8_begin (0, [vr 8 0, vi l1], [], μ) from rfl).trans ?_
  refine (R_aload_n dX8_begin_0 rfl (by decide)).trans ?_
  refine (gr_8_7 dX8_begin_1).trans ?_
  refine (R_bipush 33 dX8_begin_4 bipush_33).trans ?_
  refine (R_iload_n dX8_begin_6 rfl).trans ?_
  refine (R_iadd dX8_begin_7).trans ?_
  refine (R_iaload dX8_begin_8 as_50).trans (ck_congr ?_)
  refine (R_aload_n dX8_begin_9 rfl (by decide)).trans ?_
  refine (gr_8_7 dX8_begin_10).trans ?_
  refine (R_iconst 0 dX8_begin_13 iconst_0).trans ?_
  refine (R_aload_n dX8_begin_14 rfl (by decide)).trans ?_
  refine (gr_8_7 dX8_begin_15).trans ?_
  refine (R_bipush 9 dX8_begin_18 bipush_9).trans ?_
  refine (R_iload_n dX8_begin_20 rfl).trans ?_
  refine (R_iadd dX8_begin_21).trans ?_
  refine (R_iaload dX8_begin_22 as_50).trans (ck_congr ?_)
  refine (R_iadd dX8_begin_23).trans ?_
  refine (R_iaload dX8_begin_24 as_50).trans (ck_congr ?_)
  refine (R_iadd dX8_begin_25).trans ?_
  exact R_ireturn dX8_begin_26 rfl
noncomputable def E_X8_end : mE := fun k => fun _ _ => none
noncomputable def f_X8_end : List mV → mM → Option mR := mm_fn E_X8_end 8 1 2 cX8_end
theorem k_X8_end (l : Launch) : mm_OK l 86 f_X8_end := mm_fn_ok l 86 8 E_X8_end (by decide) rfl (by decide) (by
  intro k as μ q h
  have e : E_X8_end k = fun _ _ => none := rfl
  rw [e] at h
  cases h)
set_option maxRecDepth 100000 in
set_option maxHeartbeats 4000000 in
theorem e_X8_end (l1 : Int32) (μ : mM) : f_X8_end [vr 8 0, vi l1] μ = (ck 5225 (33 + l1) (ck 5225 (9 + l1) (ck 5225 (4 + (μ 50 0 (Int32.toNatClampNeg (9 + l1)))) (some ((μ 50 0 (Int32.toNatClampNeg (33 + l1))) + (μ 50 0 (Int32.toNatClampNeg (4 + (μ 50 0 (Int32.toNatClampNeg (9 + l1)))))), μ))))) := by
  refine (show f_X8_end [vr 8 0, vi l1] μ = mm_run E_X8_end 8 1 cX8_end (0, [vr 8 0, vi l1], [], μ) from rfl).trans ?_
  refine (R_aload_n dX8_end_0 rfl (by decide)).trans ?_
  refine (gr_8_7 dX8_end_1).trans ?_
  refine (R_bipush 33 dX8_end_4 bipush_33).trans ?_
  refine (R_iload_n dX8_end_6 rfl).trans ?_
  refine (R_iadd dX8_end_7).trans ?_
  refine (R_iaload dX8_end_8 as_50).trans (ck_congr ?_)
  refine (R_aload_n dX8_end_9 rfl (by decide)).trans ?_
  refine (gr_8_7 dX8_end_10).trans ?_
  refine (R_iconst 4 dX8_end_13 iconst_4).trans ?_
  refine (R_aload_n dX8_end_14 rfl (by decide)).trans ?_
  refine (gr_8_7 dX8_end_15).trans ?_
  refine (R_bipush 9 dX8_end_18 bipush_9).trans ?_
  refine (R_iload_n dX8_end_20 rfl).trans ?_
  refine (R_iadd dX8_end_21).trans ?_
  refine (R_iaload dX8_end_22 as_50).trans (ck_congr ?_)
  refine (R_iadd dX8_end_23).trans ?_
  refine (R_iaload dX8_end_24 as_50).trans (ck_congr ?_)
  refine (R_iadd dX8_end_25).trans ?_
  exact R_ireturn dX8_end_26 rfl
noncomputable def E_X8_sortOf : mE := fun k => fun _ _ => none
noncomputable def f_X8_sortOf : List mV → mM → Option mR := mm_fn E_X8_sortOf 8 1 4 cX8_sortOf
theorem k_X8_sortOf (l : Launch) : mm_OK l 100 f_X8_sortOf := mm_fn_ok l 100 8 E_X8_sortOf (by decide) rfl (by decide) (by
  intro k as μ q h
  have e : E_X8_sortOf k = fun _ _ => none := rfl
  rw [e] at h
  cases h)
noncomputable def r_X8_sortOf_2 (l1 : Int32) (l2 : Int32) (l3 : Int32) (μ : mM) : Option mR := mm_run E_X8_sortOf 8 1 cX8_sortOf (2, [vr 8 0, vi l1, vi l2, vi l3], [], μ)
set_option maxRecDepth 100000 in
set_option maxHeartbeats 4000000 in
theorem e_X8_sortOf (l1 : Int32) (l2 : Int32) (μ : mM) : f_X8_sortOf [vr 8 0, vi l1, vi l2] μ = r_X8_sortOf_2 l1 l2 0 μ := by
  refine (show f_X8_sortOf [vr 8 0, vi l1, vi l2] μ = mm_run E_X8_sortOf 8 1 cX8_sortOf (0, [vr 8 0, vi l1, vi l2, vu], [], μ) from rfl).trans ?_
  refine (R_iconst 0 dX8_sortOf_0 iconst_0).trans ?_
  refine (R_istore_n (ls' := [vr 8 0, vi l1, vi l2, vi 0]) dX8_sortOf_1 (Nat.le_of_ble_eq_true rfl) (by decide) rfl).trans ?_
  exact rfl
set_option maxRecDepth 100000 in
set_option maxHeartbeats 4000000 in
theorem e_X8_sortOf_2 (l1 : Int32) (l2 : Int32) (l3 : Int32) (μ : mM) : r_X8_sortOf_2 l1 l2 l3 μ = (ck 5225 82 (if l3 < μ 50 0 (Int32.toNatClampNeg 82) then (ck 5225 (83 + l3) (if μ 50 0 (Int32.toNatClampNeg (83 + l3)) = l1 then (ck 5225 (131 + l3) (if μ 50 0 (Int32.toNatClampNeg (131 + l3)) = l2 then some (l3, μ) else r_X8_sortOf_2 l1 l2 (l3 + 1) μ)) else r_X8_sortOf_2 l1 l2 (l3 + 1) μ)) else some ((-1), μ))) := by
  refine (show r_X8_sortOf_2 l1 l2 l3 μ = mm_run E_X8_sortOf 8 1 cX8_sortOf (2, [vr 8 0, vi l1, vi l2, vi l3], [], μ) from rfl).trans ?_
  refine (R_iload_n dX8_sortOf_2 rfl).trans ?_
  refine (R_aload_n dX8_sortOf_3 rfl (by decide)).trans ?_
  refine (gr_8_7 dX8_sortOf_4).trans ?_
  refine (R_bipush 82 dX8_sortOf_7 bipush_82).trans ?_
  refine (R_iaload dX8_sortOf_9 as_50).trans (ck_congr ?_)
  refine (R_icmp 48 dX8_sortOf_10 rfl).trans (c_ge (fun h1 => ?_) (fun h1 => ?_))
  · refine (R_aload_n dX8_sortOf_13 rfl (by decide)).trans ?_
    refine (gr_8_7 dX8_sortOf_14).trans ?_
    refine (R_bipush 83 dX8_sortOf_17 bipush_83).trans ?_
    refine (R_iload_n dX8_sortOf_19 rfl).trans ?_
    refine (R_iadd dX8_sortOf_20).trans ?_
    refine (R_iaload dX8_sortOf_21 as_50).trans (ck_congr ?_)
    refine (R_iload_n dX8_sortOf_22 rfl).trans ?_
    refine (R_icmp 42 dX8_sortOf_23 rfl).trans (c_ne (fun h2 => ?_) (fun h2 => ?_))
    · refine (R_aload_n dX8_sortOf_26 rfl (by decide)).trans ?_
      refine (gr_8_7 dX8_sortOf_27).trans ?_
      refine (R_sipush 131 dX8_sortOf_30 sipush_131).trans ?_
      refine (R_iload_n dX8_sortOf_33 rfl).trans ?_
      refine (R_iadd dX8_sortOf_34).trans ?_
      refine (R_iaload dX8_sortOf_35 as_50).trans (ck_congr ?_)
      refine (R_iload_n dX8_sortOf_36 rfl).trans ?_
      refine (R_icmp 42 dX8_sortOf_37 rfl).trans (c_ne (fun h3 => ?_) (fun h3 => ?_))
      · refine (R_iload_n dX8_sortOf_40 rfl).trans ?_
        exact R_ireturn dX8_sortOf_41 rfl
      · refine (R_iinc (ls' := [vr 8 0, vi l1, vi l2, vi (l3 + 1)]) 1 dX8_sortOf_42 rfl iconst_1 (by decide) rfl).trans ?_
        refine (R_goto 2 dX8_sortOf_45 rfl).trans ?_
        exact rfl
    · refine (R_iinc (ls' := [vr 8 0, vi l1, vi l2, vi (l3 + 1)]) 1 dX8_sortOf_42 rfl iconst_1 (by decide) rfl).trans ?_
      refine (R_goto 2 dX8_sortOf_45 rfl).trans ?_
      exact rfl
  · refine (R_iconst (-1) dX8_sortOf_48 iconst_m1).trans ?_
    exact R_ireturn dX8_sortOf_49 rfl
