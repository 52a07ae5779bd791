noncomputable def E_X8_comesSort : mE := fun k => if k = 100 then f_X8_sortOf else fun _ _ => none
theorem E_X8_comesSort_100 : E_X8_comesSort 100 = f_X8_sortOf := if_pos rfl
noncomputable def f_X8_comesSort : List mV → mM → Option mR := mm_fn E_X8_comesSort 8 0 4 cX8_comesSort
theorem k_X8_comesSort (l : Launch) : mm_OK l 112 f_X8_comesSort := mm_fn_ok l 112 8 E_X8_comesSort (by decide) rfl (by decide) (by
  intro k as μ q h
  by_cases h0 : k = 100
  · subst h0
    exact ⟨by rw [E_X8_comesSort_100]; exact k_X8_sortOf l, by decide, by decide, by decide⟩
  have e : E_X8_comesSort k = fun _ _ => none := (if_neg h0).trans (rfl)
  rw [e] at h
  cases h)
set_option maxRecDepth 100000 in
set_option maxHeartbeats 4000000 in
theorem e_X8_comesSort (l1 : Int32) (l2 : Int32) (μ : mM) : f_X8_comesSort [vr 8 0, vi l1, vi l2] μ = (Option.bind (f_X8_sortOf [vr 8 0, vi l1, vi l2] μ) (fun q1 => (if q1.1 = (-1) then (ck 5225 82 (ck 5225 (83 + (q1.2 50 0 (Int32.toNatClampNeg 82))) (wr (mm_up q1.2 50 0 (Int32.toNatClampNeg (83 + (q1.2 50 0 (Int32.toNatClampNeg 82)))) l1) (fun m3 => (ck 5225 (131 + (q1.2 50 0 (Int32.toNatClampNeg 82))) (wr (mm_up m3 50 0 (Int32.toNatClampNeg (131 + (q1.2 50 0 (Int32.toNatClampNeg 82)))) l2) (fun m4 => (ck 5225 (179 + (q1.2 50 0 (Int32.toNatClampNeg 82))) (wr (mm_up m4 50 0 (Int32.toNatClampNeg (179 + (q1.2 50 0 (Int32.toNatClampNeg 82)))) 0) (fun m5 => (ck 5225 (227 + (q1.2 50 0 (Int32.toNatClampNeg 82))) (wr (mm_up m5 50 0 (Int32.toNatClampNeg (227 + (q1.2 50 0 (Int32.toNatClampNeg 82)))) 0) (fun m6 => (ck 5225 82 (ck 5225 82 (wr (mm_up m6 50 0 (Int32.toNatClampNeg 82) ((m6 50 0 (Int32.toNatClampNeg 82)) + 1)) (fun m7 => (ck 5225 (179 + (q1.2 50 0 (Int32.toNatClampNeg 82))) (ck 5225 (179 + (q1.2 50 0 (Int32.toNatClampNeg 82))) (wr (mm_up m7 50 0 (Int32.toNatClampNeg (179 + (q1.2 50 0 (Int32.toNatClampNeg 82)))) ((m7 50 0 (Int32.toNatClampNeg (179 + (q1.2 50 0 (Int32.toNatClampNeg 82))))) + 1)) (fun m8 => (ck 5225 (227 + (q1.2 50 0 (Int32.toNatClampNeg 82))) (ck 5225 (227 + (q1.2 50 0 (Int32.toNatClampNeg 82))) (wr (mm_up m8 50 0 (Int32.toNatClampNeg (227 + (q1.2 50 0 (Int32.toNatClampNeg 82)))) ((m8 50 0 (Int32.toNatClampNeg (227 + (q1.2 50 0 (Int32.toNatClampNeg 82))))) + 1)) (fun m9 => some (0, m9)))))))))))))))))))))))))) else (ck 5225 (179 + q1.1) (ck 5225 (179 + q1.1) (wr (mm_up q1.2 50 0 (Int32.toNatClampNeg (179 + q1.1)) ((q1.2 50 0 (Int32.toNatClampNeg (179 + q1.1))) + 1)) (fun m10 => (ck 5225 (227 + q1.1) (ck 5225 (227 + q1.1) (wr (mm_up m10 50 0 (Int32.toNatClampNeg (227 + q1.1)) ((m10 50 0 (Int32.toNatClampNeg (227 + q1.1))) + 1)) (fun m11 => some (0, m11)))))))))))) := by
  refine (show f_X8_comesSort [vr 8 0, vi l1, vi l2] μ = mm_run E_X8_comesSort 8 0 cX8_comesSort (0, [vr 8 0, vi l1, vi l2, vu], [], μ) from rfl).trans ?_
  refine (R_aload_n dX8_comesSort_0 rfl (by decide)).trans ?_
  refine (R_iload_n dX8_comesSort_1 rfl).trans ?_
  refine (R_iload_n dX8_comesSort_2 rfl).trans ?_
  refine (R_cv_i (as := [vi l1, vi l2]) (rest := []) dX8_comesSort_3 mt_8_119 qp_100 qr_100 (E_X8_comesSort_100) rfl rfl rfl (Nat.le_of_ble_eq_true rfl)).trans (mm_bind (fun q1 => ?_))
  refine (R_istore_n (ls' := [vr 8 0, vi l1, vi l2, vi q1.1]) dX8_comesSort_6 (Nat.le_of_ble_eq_true rfl) (by decide) rfl).trans ?_
  refine (R_iload_n dX8_comesSort_7 rfl).trans ?_
  refine (R_iconst (-1) dX8_comesSort_8 iconst_m1).trans ?_
  refine (R_icmp 74 dX8_comesSort_9 rfl).trans (c_ne (fun h2 => ?_) (fun h2 => ?_))
  · refine (R_aload_n dX8_comesSort_12 rfl (by decide)).trans ?_
    refine (gr_8_7 dX8_comesSort_13).trans ?_
    refine (R_bipush 82 dX8_comesSort_16 bipush_82).trans ?_
    refine (R_iaload dX8_comesSort_18 as_50).trans (ck_congr ?_)
    refine (R_istore_n (ls' := [vr 8 0, vi l1, vi l2, vi (q1.2 50 0 (Int32.toNatClampNeg 82))]) dX8_comesSort_19 (Nat.le_of_ble_eq_true rfl) (by decide) rfl).trans ?_
    refine (R_aload_n dX8_comesSort_20 rfl (by decide)).trans ?_
    refine (gr_8_7 dX8_comesSort_21).trans ?_
    refine (R_bipush 83 dX8_comesSort_24 bipush_83).trans ?_
    refine (R_iload_n dX8_comesSort_26 rfl).trans ?_
    refine (R_iadd dX8_comesSort_27).trans ?_
    refine (R_iload_n dX8_comesSort_28 rfl).trans ?_
    refine (R_iastore dX8_comesSort_29 as_50).trans (ck_congr ?_)
    refine wr_intro (g := fun m => mm_run E_X8_comesSort 8 0 cX8_comesSort (30, [vr 8 0, vi l1, vi l2, vi (q1.2 50 0 (Int32.toNatClampNeg 82))], [], m)) (fun m3 => ?_)
    refine (R_aload_n dX8_comesSort_30 rfl (by decide)).trans ?_
    refine (gr_8_7 dX8_comesSort_31).trans ?_
    refine (R_sipush 131 dX8_comesSort_34 sipush_131).trans ?_
    refine (R_iload_n dX8_comesSort_37 rfl).trans ?_
    refine (R_iadd dX8_comesSort_38).trans ?_
    refine (R_iload_n dX8_comesSort_39 rfl).trans ?_
    refine (R_iastore dX8_comesSort_40 as_50).trans (ck_congr ?_)
    refine wr_intro (g := fun m => mm_run E_X8_comesSort 8 0 cX8_comesSort (41, [vr 8 0, vi l1, vi l2, vi (q1.2 50 0 (Int32.toNatClampNeg 82))], [], m)) (fun m4 => ?_)
    refine (R_aload_n dX8_comesSort_41 rfl (by decide)).trans ?_
    refine (gr_8_7 dX8_comesSort_42).trans ?_
    refine (R_sipush 179 dX8_comesSort_45 sipush_179).trans ?_
    refine (R_iload_n dX8_comesSort_48 rfl).trans ?_
    refine (R_iadd dX8_comesSort_49).trans ?_
    refine (R_iconst 0 dX8_comesSort_50 iconst_0).trans ?_
    refine (R_iastore dX8_comesSort_51 as_50).trans (ck_congr ?_)
    refine wr_intro (g := fun m => mm_run E_X8_comesSort 8 0 cX8_comesSort (52, [vr 8 0, vi l1, vi l2, vi (q1.2 50 0 (Int32.toNatClampNeg 82))], [], m)) (fun m5 => ?_)
    refine (R_aload_n dX8_comesSort_52 rfl (by decide)).trans ?_
    refine (gr_8_7 dX8_comesSort_53).trans ?_
    refine (R_sipush 227 dX8_comesSort_56 sipush_227).trans ?_
    refine (R_iload_n dX8_comesSort_59 rfl).trans ?_
    refine (R_iadd dX8_comesSort_60).trans ?_
    refine (R_iconst 0 dX8_comesSort_61 iconst_0).trans ?_
    refine (R_iastore dX8_comesSort_62 as_50).trans (ck_congr ?_)
    refine wr_intro (g := fun m => mm_run E_X8_comesSort 8 0 cX8_comesSort (63, [vr 8 0, vi l1, vi l2, vi (q1.2 50 0 (Int32.toNatClampNeg 82))], [], m)) (fun m6 => ?_)
    refine (R_aload_n dX8_comesSort_63 rfl (by decide)).trans ?_
    refine (gr_8_7 dX8_comesSort_64).trans ?_
    refine (R_bipush 82 dX8_comesSort_67 bipush_82).trans ?_
    refine (R_dup2 dX8_comesSort_69 rfl rfl).trans ?_
    refine (R_iaload dX8_comesSort_70 as_50).trans (ck_congr ?_)
    refine (R_iconst 1 dX8_comesSort_71 iconst_1).trans ?_
    refine (R_iadd dX8_comesSort_72).trans ?_
    refine (R_iastore dX8_comesSort_73 as_50).trans (ck_congr ?_)
    refine wr_intro (g := fun m => mm_run E_X8_comesSort 8 0 cX8_comesSort (74, [vr 8 0, vi l1, vi l2, vi (q1.2 50 0 (Int32.toNatClampNeg 82))], [], m)) (fun m7 => ?_)
    refine (R_aload_n dX8_comesSort_74 rfl (by decide)).trans ?_
    refine (gr_8_7 dX8_comesSort_75).trans ?_
    refine (R_sipush 179 dX8_comesSort_78 sipush_179).trans ?_
    refine (R_iload_n dX8_comesSort_81 rfl).trans ?_
    refine (R_iadd dX8_comesSort_82).trans ?_
    refine (R_dup2 dX8_comesSort_83 rfl rfl).trans ?_
    refine (R_iaload dX8_comesSort_84 as_50).trans (ck_congr ?_)
    refine (R_iconst 1 dX8_comesSort_85 iconst_1).trans ?_
    refine (R_iadd dX8_comesSort_86).trans ?_
    refine (R_iastore dX8_comesSort_87 as_50).trans (ck_congr ?_)
    refine wr_intro (g := fun m => mm_run E_X8_comesSort 8 0 cX8_comesSort (88, [vr 8 0, vi l1, vi l2, vi (q1.2 50 0 (Int32.toNatClampNeg 82))], [], m)) (fun m8 => ?_)
    refine (R_aload_n dX8_comesSort_88 rfl (by decide)).trans ?_
    refine (gr_8_7 dX8_comesSort_89).trans ?_
    refine (R_sipush 227 dX8_comesSort_92 sipush_227).trans ?_
    refine (R_iload_n dX8_comesSort_95 rfl).trans ?_
    refine (R_iadd dX8_comesSort_96).trans ?_
    refine (R_dup2 dX8_comesSort_97 rfl rfl).trans ?_
    refine (R_iaload dX8_comesSort_98 as_50).trans (ck_congr ?_)
    refine (R_iconst 1 dX8_comesSort_99 iconst_1).trans ?_
    refine (R_iadd dX8_comesSort_100).trans ?_
    refine (R_iastore dX8_comesSort_101 as_50).trans (ck_congr ?_)
    refine wr_intro (g := fun m => mm_run E_X8_comesSort 8 0 cX8_comesSort (102, [vr 8 0, vi l1, vi l2, vi (q1.2 50 0 (Int32.toNatClampNeg 82))], [], m)) (fun m9 => ?_)
    exact R_return dX8_comesSort_102 rfl
  · refine (R_aload_n dX8_comesSort_74 rfl (by decide)).trans ?_
    refine (gr_8_7 dX8_comesSort_75).trans ?_
    refine (R_sipush 179 dX8_comesSort_78 sipush_179).trans ?_
    refine (R_iload_n dX8_comesSort_81 rfl).trans ?_
    refine (R_iadd dX8_comesSort_82).trans ?_
    refine (R_dup2 dX8_comesSort_83 rfl rfl).trans ?_
    refine (R_iaload dX8_comesSort_84 as_50).trans (ck_congr ?_)
    refine (R_iconst 1 dX8_comesSort_85 iconst_1).trans ?_
    refine (R_iadd dX8_comesSort_86).trans ?_
    refine (R_iastore dX8_comesSort_87 as_50).trans (ck_congr ?_)
    refine wr_intro (g := fun m => mm_run E_X8_comesSort 8 0 cX8_comesSort (88, [vr 8 0, vi l1, vi l2, vi q1.1], [], m)) (fun m10 => ?_)
    refine (R_aload_n dX8_comesSort_88 rfl (by decide)).trans ?_
    refine (gr_8_7 dX8_comesSort_89).trans ?_
    refine (R_sipush 227 dX8_comesSort_92 sipush_227).trans ?_
    refine (R_iload_n dX8_comesSort_95 rfl).trans ?_
    refine (R_iadd dX8_comesSort_96).trans ?_
    refine (R_dup2 dX8_comesSort_97 rfl rfl).trans ?_
    refine (R_iaload dX8_comesSort_98 as_50).trans (ck_congr ?_)
    refine (R_iconst 1 dX8_comesSort_99 iconst_1).trans ?_
    refine (R_iadd dX8_comesSort_100).trans ?_
    refine (R_iastore dX8_comesSort_101 as_50).trans (ck_congr ?_)
    refine wr_intro (g := fun m => mm_run E_X8_comesSort 8 0 cX8_comesSort (102, [vr 8 0, vi l1, vi l2, vi q1.1], [], m)) (fun m11 => ?_)
    exact R_return dX8_comesSort_102 rfl
noncomputable def E_X8_shaftGoes : mE := fun k => if k = 100 then f_X8_sortOf else fun _ _ => none
theorem E_X8_shaftGoes_100 : E_X8_shaftGoes 100 = f_X8_sortOf := if_pos rfl
noncomputable def f_X8_shaftGoes : List mV → mM → Option mR := mm_fn E_X8_shaftGoes 8 0 3 cX8_shaftGoes
theorem k_X8_shaftGoes (l : Launch) : mm_OK l 116 f_X8_shaftGoes := mm_fn_ok l 116 8 E_X8_shaftGoes (by decide) rfl (by decide) (by
  intro k as μ q h
  by_cases h0 : k = 100
  · subst h0
    exact ⟨by rw [E_X8_shaftGoes_100]; exact k_X8_sortOf l, by decide, by decide, by decide⟩
  have e : E_X8_shaftGoes k = fun _ _ => none := (if_neg h0).trans (rfl)
  rw [e] at h
  cases h)
noncomputable def r_X8_shaftGoes_48 (x1 : mV) (l2 : Int32) (μ : mM) : Option mR := mm_run E_X8_shaftGoes 8 0 cX8_shaftGoes (48, [vr 8 0, x1, vi l2], [], μ)
set_option maxRecDepth 100000 in
set_option maxHeartbeats 4000000 in
theorem e_X8_shaftGoes (l1 : Int32) (μ : mM) : f_X8_shaftGoes [vr 8 0, vi l1] μ = (ck 5225 (9 + l1) (ck 5225 (33 + l1) (Option.bind (f_X8_sortOf [vr 8 0, vi (μ 50 0 (Int32.toNatClampNeg (9 + l1))), vi (μ 50 0 (Int32.toNatClampNeg (33 + l1)))] μ) (fun q1 => (ck 5225 (179 + q1.1) (ck 5225 (179 + q1.1) (wr (mm_up q1.2 50 0 (Int32.toNatClampNeg (179 + q1.1)) ((q1.2 50 0 (Int32.toNatClampNeg (179 + q1.1))) - 1)) (fun m2 => (ck 5225 8 (ck 5225 8 (wr (mm_up m2 50 0 (Int32.toNatClampNeg 8) ((m2 50 0 (Int32.toNatClampNeg 8)) - 1)) (fun m3 => r_X8_shaftGoes_48 (vi l1) l1 m3)))))))))))) := by
  refine (show f_X8_shaftGoes [vr 8 0, vi l1] μ = mm_run E_X8_shaftGoes 8 0 cX8_shaftGoes (0, [vr 8 0, vi l1, vu], [], μ) from rfl).trans ?_
  refine (R_aload_n dX8_shaftGoes_0 rfl (by decide)).trans ?_
  refine (gr_8_7 dX8_shaftGoes_1).trans ?_
  refine (R_sipush 179 dX8_shaftGoes_4 sipush_179).trans ?_
  refine (R_aload_n dX8_shaftGoes_7 rfl (by decide)).trans ?_
  refine (R_aload_n dX8_shaftGoes_8 rfl (by decide)).trans ?_
  refine (gr_8_7 dX8_shaftGoes_9).trans ?_
  refine (R_bipush 9 dX8_shaftGoes_12 bipush_9).trans ?_
  refine (R_iload_n dX8_shaftGoes_14 rfl).trans ?_
  refine (R_iadd dX8_shaftGoes_15).trans ?_
  refine (R_iaload dX8_shaftGoes_16 as_50).trans (ck_congr ?_)
  refine (R_aload_n dX8_shaftGoes_17 rfl (by decide)).trans ?_
  refine (gr_8_7 dX8_shaftGoes_18).trans ?_
  refine (R_bipush 33 dX8_shaftGoes_21 bipush_33).trans ?_
  refine (R_iload_n dX8_shaftGoes_23 rfl).trans ?_
  refine (R_iadd dX8_shaftGoes_24).trans ?_
  refine (R_iaload dX8_shaftGoes_25 as_50).trans (ck_congr ?_)
  refine (R_cv_i (as := [vi (μ 50 0 (Int32.toNatClampNeg (9 + l1))), vi (μ 50 0 (Int32.toNatClampNeg (33 + l1)))]) (rest := [vi 179, vr 50 0]) dX8_shaftGoes_26 mt_8_119 qp_100 qr_100 (E_X8_shaftGoes_100) rfl rfl rfl (Nat.le_of_ble_eq_true rfl)).trans (mm_bind (fun q1 => ?_))
  refine (R_iadd dX8_shaftGoes_29).trans ?_
  refine (R_dup2 dX8_shaftGoes_30 rfl rfl).trans ?_
  refine (R_iaload dX8_shaftGoes_31 as_50).trans (ck_congr ?_)
  refine (R_iconst 1 dX8_shaftGoes_32 iconst_1).trans ?_
  refine (R_isub dX8_shaftGoes_33).trans ?_
  refine (R_iastore dX8_shaftGoes_34 as_50).trans (ck_congr ?_)
  refine wr_intro (g := fun m => mm_run E_X8_shaftGoes 8 0 cX8_shaftGoes (35, [vr 8 0, vi l1, vu], [], m)) (fun m2 => ?_)
  refine (R_aload_n dX8_shaftGoes_35 rfl (by decide)).trans ?_
  refine (gr_8_7 dX8_shaftGoes_36).trans ?_
  refine (R_bipush 8 dX8_shaftGoes_39 bipush_8).trans ?_
  refine (R_dup2 dX8_shaftGoes_41 rfl rfl).trans ?_
  refine (R_iaload dX8_shaftGoes_42 as_50).trans (ck_congr ?_)
  refine (R_iconst 1 dX8_shaftGoes_43 iconst_1).trans ?_
  refine (R_isub dX8_shaftGoes_44).trans ?_
  refine (R_iastore dX8_shaftGoes_45 as_50).trans (ck_congr ?_)
  refine wr_intro (g := fun m => mm_run E_X8_shaftGoes 8 0 cX8_shaftGoes (46, [vr 8 0, vi l1, vu], [], m)) (fun m3 => ?_)
  refine (R_iload_n dX8_shaftGoes_46 rfl).trans ?_
  refine (R_istore_n (ls' := [vr 8 0, vi l1, vi l1]) dX8_shaftGoes_47 (Nat.le_of_ble_eq_true rfl) (by decide) rfl).trans ?_
  exact rfl
set_option maxRecDepth 100000 in
set_option maxHeartbeats 4000000 in
theorem e_X8_shaftGoes_48 (x1 : mV) (l2 : Int32) (μ : mM) : r_X8_shaftGoes_48 x1 l2 μ = (ck 5225 8 (if l2 < μ 50 0 (Int32.toNatClampNeg 8) then (ck 5225 ((9 + l2) + 1) (ck 5225 (9 + l2) (wr (mm_up μ 50 0 (Int32.toNatClampNeg (9 + l2)) (μ 50 0 (Int32.toNatClampNeg ((9 + l2) + 1)))) (fun m2 => (ck 5225 ((33 + l2) + 1) (ck 5225 (33 + l2) (wr (mm_up m2 50 0 (Int32.toNatClampNeg (33 + l2)) (m2 50 0 (Int32.toNatClampNeg ((33 + l2) + 1)))) (fun m3 => r_X8_shaftGoes_48 x1 (l2 + 1) m3)))))))) else some (0, μ))) := by
  refine (show r_X8_shaftGoes_48 x1 l2 μ = mm_run E_X8_shaftGoes 8 0 cX8_shaftGoes (48, [vr 8 0, x1, vi l2], [], μ) from rfl).trans ?_
  refine (R_iload_n dX8_shaftGoes_48 rfl).trans ?_
  refine (R_aload_n dX8_shaftGoes_49 rfl (by decide)).trans ?_
  refine (gr_8_7 dX8_shaftGoes_50).trans ?_
  refine (R_bipush 8 dX8_shaftGoes_53 bipush_8).trans ?_
  refine (R_iaload dX8_shaftGoes_55 as_50).trans (ck_congr ?_)
  refine (R_icmp 105 dX8_shaftGoes_56 rfl).trans (c_ge (fun h1 => ?_) (fun h1 => ?_))
  · refine (R_aload_n dX8_shaftGoes_59 rfl (by decide)).trans ?_
    refine (gr_8_7 dX8_shaftGoes_60).trans ?_
    refine (R_bipush 9 dX8_shaftGoes_63 bipush_9).trans ?_
    refine (R_iload_n dX8_shaftGoes_65 rfl).trans ?_
    refine (R_iadd dX8_shaftGoes_66).trans ?_
    refine (R_aload_n dX8_shaftGoes_67 rfl (by decide)).trans ?_
    refine (gr_8_7 dX8_shaftGoes_68).trans ?_
    refine (R_bipush 9 dX8_shaftGoes_71 bipush_9).trans ?_
    refine (R_iload_n dX8_shaftGoes_73 rfl).trans ?_
    refine (R_iadd dX8_shaftGoes_74).trans ?_
    refine (R_iconst 1 dX8_shaftGoes_75 iconst_1).trans ?_
    refine (R_iadd dX8_shaftGoes_76).trans ?_
    refine (R_iaload dX8_shaftGoes_77 as_50).trans (ck_congr ?_)
    refine (R_iastore dX8_shaftGoes_78 as_50).trans (ck_congr ?_)
    refine wr_intro (g := fun m => mm_run E_X8_shaftGoes 8 0 cX8_shaftGoes (79, [vr 8 0, x1, vi l2], [], m)) (fun m2 => ?_)
    refine (R_aload_n dX8_shaftGoes_79 rfl (by decide)).trans ?_
    refine (gr_8_7 dX8_shaftGoes_80).trans ?_
    refine (R_bipush 33 dX8_shaftGoes_83 bipush_33).trans ?_
    refine (R_iload_n dX8_shaftGoes_85 rfl).trans ?_
    refine (R_iadd dX8_shaftGoes_86).trans ?_
    refine (R_aload_n dX8_shaftGoes_87 rfl (by decide)).trans ?_
    refine (gr_8_7 dX8_shaftGoes_88).trans ?_
    refine (R_bipush 33 dX8_shaftGoes_91 bipush_33).trans ?_
    refine (R_iload_n dX8_shaftGoes_93 rfl).trans ?_
    refine (R_iadd dX8_shaftGoes_94).trans ?_
    refine (R_iconst 1 dX8_shaftGoes_95 iconst_1).trans ?_
    refine (R_iadd dX8_shaftGoes_96).trans ?_
    refine (R_iaload dX8_shaftGoes_97 as_50).trans (ck_congr ?_)
    refine (R_iastore dX8_shaftGoes_98 as_50).trans (ck_congr ?_)
    refine wr_intro (g := fun m => mm_run E_X8_shaftGoes 8 0 cX8_shaftGoes (99, [vr 8 0, x1, vi l2], [], m)) (fun m3 => ?_)
    refine (R_iinc (ls' := [vr 8 0, x1, vi (l2 + 1)]) 1 dX8_shaftGoes_99 rfl iconst_1 (by decide) rfl).trans ?_
    refine (R_goto 48 dX8_shaftGoes_102 rfl).trans ?_
    exact rfl
  · exact R_return dX8_shaftGoes_105 rfl
noncomputable def E_X8_boreGoes : mE := fun k => if k = 100 then f_X8_sortOf else fun _ _ => none
theorem E_X8_boreGoes_100 : E_X8_boreGoes 100 = f_X8_sortOf := if_pos rfl
noncomputable def f_X8_boreGoes : List mV → mM → Option mR := mm_fn E_X8_boreGoes 8 0 3 cX8_boreGoes
theorem k_X8_boreGoes (l : Launch) : mm_OK l 117 f_X8_boreGoes := mm_fn_ok l 117 8 E_X8_boreGoes (by decide) rfl (by decide) (by
  intro k as μ q h
  by_cases h0 : k = 100
  · subst h0
    exact ⟨by rw [E_X8_boreGoes_100]; exact k_X8_sortOf l, by decide, by decide, by decide⟩
  have e : E_X8_boreGoes k = fun _ _ => none := (if_neg h0).trans (rfl)
  rw [e] at h
  cases h)
noncomputable def r_X8_boreGoes_40 (x1 : mV) (l2 : Int32) (μ : mM) : Option mR := mm_run E_X8_boreGoes 8 0 cX8_boreGoes (40, [vr 8 0, x1, vi l2], [], μ)
set_option maxRecDepth 100000 in
set_option maxHeartbeats 4000000 in
theorem e_X8_boreGoes (l1 : Int32) (μ : mM) : f_X8_boreGoes [vr 8 0, vi l1] μ = (ck 5225 (58 + l1) (Option.bind (f_X8_sortOf [vr 8 0, vi 4, vi (μ 50 0 (Int32.toNatClampNeg (58 + l1)))] μ) (fun q1 => (ck 5225 (179 + q1.1) (ck 5225 (179 + q1.1) (wr (mm_up q1.2 50 0 (Int32.toNatClampNeg (179 + q1.1)) ((q1.2 50 0 (Int32.toNatClampNeg (179 + q1.1))) - 1)) (fun m2 => (ck 5225 57 (ck 5225 57 (wr (mm_up m2 50 0 (Int32.toNatClampNeg 57) ((m2 50 0 (Int32.toNatClampNeg 57)) - 1)) (fun m3 => r_X8_boreGoes_40 (vi l1) l1 m3))))))))))) := by
  refine (show f_X8_boreGoes [vr 8 0, vi l1] μ = mm_run E_X8_boreGoes 8 0 cX8_boreGoes (0, [vr 8 0, vi l1, vu], [], μ) from rfl).trans ?_
  refine (R_aload_n dX8_boreGoes_0 rfl (by decide)).trans ?_
  refine (gr_8_7 dX8_boreGoes_1).trans ?_
  refine (R_sipush 179 dX8_boreGoes_4 sipush_179).trans ?_
  refine (R_aload_n dX8_boreGoes_7 rfl (by decide)).trans ?_
  refine (R_iconst 4 dX8_boreGoes_8 iconst_4).trans ?_
  refine (R_aload_n dX8_boreGoes_9 rfl (by decide)).trans ?_
  refine (gr_8_7 dX8_boreGoes_10).trans ?_
  refine (R_bipush 58 dX8_boreGoes_13 bipush_58).trans ?_
  refine (R_iload_n dX8_boreGoes_15 rfl).trans ?_
  refine (R_iadd dX8_boreGoes_16).trans ?_
  refine (R_iaload dX8_boreGoes_17 as_50).trans (ck_congr ?_)
  refine (R_cv_i (as := [vi 4, vi (μ 50 0 (Int32.toNatClampNeg (58 + l1)))]) (rest := [vi 179, vr 50 0]) dX8_boreGoes_18 mt_8_119 qp_100 qr_100 (E_X8_boreGoes_100) rfl rfl rfl (Nat.le_of_ble_eq_true rfl)).trans (mm_bind (fun q1 => ?_))
  refine (R_iadd dX8_boreGoes_21).trans ?_
  refine (R_dup2 dX8_boreGoes_22 rfl rfl).trans ?_
  refine (R_iaload dX8_boreGoes_23 as_50).trans (ck_congr ?_)
  refine (R_iconst 1 dX8_boreGoes_24 iconst_1).trans ?_
  refine (R_isub dX8_boreGoes_25).trans ?_
  refine (R_iastore dX8_boreGoes_26 as_50).trans (ck_congr ?_)
  refine wr_intro (g := fun m => mm_run E_X8_boreGoes 8 0 cX8_boreGoes (27, [vr 8 0, vi l1, vu], [], m)) (fun m2 => ?_)
  refine (R_aload_n dX8_boreGoes_27 rfl (by decide)).trans ?_
  refine (gr_8_7 dX8_boreGoes_28).trans ?_
  refine (R_bipush 57 dX8_boreGoes_31 bipush_57).trans ?_
  refine (R_dup2 dX8_boreGoes_33 rfl rfl).trans ?_
  refine (R_iaload dX8_boreGoes_34 as_50).trans (ck_congr ?_)
  refine (R_iconst 1 dX8_boreGoes_35 iconst_1).trans ?_
  refine (R_isub dX8_boreGoes_36).trans ?_
  refine (R_iastore dX8_boreGoes_37 as_50).trans (ck_congr ?_)
  refine wr_intro (g := fun m => mm_run E_X8_boreGoes 8 0 cX8_boreGoes (38, [vr 8 0, vi l1, vu], [], m)) (fun m3 => ?_)
  refine (R_iload_n dX8_boreGoes_38 rfl).trans ?_
  refine (R_istore_n (ls' := [vr 8 0, vi l1, vi l1]) dX8_boreGoes_39 (Nat.le_of_ble_eq_true rfl) (by decide) rfl).trans ?_
  exact rfl
set_option maxRecDepth 100000 in
set_option maxHeartbeats 4000000 in
theorem e_X8_boreGoes_40 (x1 : mV) (l2 : Int32) (μ : mM) : r_X8_boreGoes_40 x1 l2 μ = (ck 5225 57 (if l2 < μ 50 0 (Int32.toNatClampNeg 57) then (ck 5225 ((58 + l2) + 1) (ck 5225 (58 + l2) (wr (mm_up μ 50 0 (Int32.toNatClampNeg (58 + l2)) (μ 50 0 (Int32.toNatClampNeg ((58 + l2) + 1)))) (fun m2 => r_X8_boreGoes_40 x1 (l2 + 1) m2)))) else some (0, μ))) := by
  refine (show r_X8_boreGoes_40 x1 l2 μ = mm_run E_X8_boreGoes 8 0 cX8_boreGoes (40, [vr 8 0, x1, vi l2], [], μ) from rfl).trans ?_
  refine (R_iload_n dX8_boreGoes_40 rfl).trans ?_
  refine (R_aload_n dX8_boreGoes_41 rfl (by decide)).trans ?_
  refine (gr_8_7 dX8_boreGoes_42).trans ?_
  refine (R_bipush 57 dX8_boreGoes_45 bipush_57).trans ?_
  refine (R_iaload dX8_boreGoes_47 as_50).trans (ck_congr ?_)
  refine (R_icmp 77 dX8_boreGoes_48 rfl).trans (c_ge (fun h1 => ?_) (fun h1 => ?_))
  · refine (R_aload_n dX8_boreGoes_51 rfl (by decide)).trans ?_
    refine (gr_8_7 dX8_boreGoes_52).trans ?_
    refine (R_bipush 58 dX8_boreGoes_55 bipush_58).trans ?_
    refine (R_iload_n dX8_boreGoes_57 rfl).trans ?_
    refine (R_iadd dX8_boreGoes_58).trans ?_
    refine (R_aload_n dX8_boreGoes_59 rfl (by decide)).trans ?_
    refine (gr_8_7 dX8_boreGoes_60).trans ?_
    refine (R_bipush 58 dX8_boreGoes_63 bipush_58).trans ?_
    refine (R_iload_n dX8_boreGoes_65 rfl).trans ?_
    refine (R_iadd dX8_boreGoes_66).trans ?_
    refine (R_iconst 1 dX8_boreGoes_67 iconst_1).trans ?_
    refine (R_iadd dX8_boreGoes_68).trans ?_
    refine (R_iaload dX8_boreGoes_69 as_50).trans (ck_congr ?_)
    refine (R_iastore dX8_boreGoes_70 as_50).trans (ck_congr ?_)
    refine wr_intro (g := fun m => mm_run E_X8_boreGoes 8 0 cX8_boreGoes (71, [vr 8 0, x1, vi l2], [], m)) (fun m2 => ?_)
    refine (R_iinc (ls' := [vr 8 0, x1, vi (l2 + 1)]) 1 dX8_boreGoes_71 rfl iconst_1 (by decide) rfl).trans ?_
    refine (R_goto 40 dX8_boreGoes_74 rfl).trans ?_
    exact rfl
  · exact R_return dX8_boreGoes_77 rfl
noncomputable def E_X8_undo : mE := fun k => if k = 79 then f_X8_in else if k = 80 then f_X8_copy else fun _ _ => none
theorem E_X8_undo_79 : E_X8_undo 79 = f_X8_in := if_pos rfl
theorem E_X8_undo_80 : E_X8_undo 80 = f_X8_copy := (if_neg (by decide)).trans (if_pos rfl)
noncomputable def f_X8_undo : List mV → mM → Option mR := mm_fn E_X8_undo 8 1 2 cX8_undo
theorem k_X8_undo (l : Launch) : mm_OK l 125 f_X8_undo := mm_fn_ok l 125 8 E_X8_undo (by decide) rfl (by decide) (by
  intro k as μ q h
  by_cases h0 : k = 79
  · subst h0
    exact ⟨by rw [E_X8_undo_79]; exact k_X8_in l, by decide, by decide, by decide⟩
  by_cases h1 : k = 80
  · subst h1
    exact ⟨by rw [E_X8_undo_80]; exact k_X8_copy l, by decide, by decide, by decide⟩
  have e : E_X8_undo k = fun _ _ => none := (if_neg h0).trans ((if_neg h1).trans (rfl))
  rw [e] at h
  cases h)
set_option maxRecDepth 100000 in
set_option maxHeartbeats 4000000 in
theorem e_X8_undo (l1 : Int32) (μ : mM) : f_X8_undo [vr 8 0, vi l1] μ = (Option.bind (f_X8_in [vl (Int32.toInt64 l1), vl 1, vl 16] μ) (fun q1 => (if q1.1 = 0 then some ((-1000000002), q1.2) else (if q1.2 8 0 3 < l1 then some ((-1000000003), q1.2) else (wr (mm_up q1.2 8 0 3 ((q1.2 8 0 3) - l1)) (fun m4 => (Option.bind (f_X8_copy [vr 8 0, vi (825 + (275 * (m4 8 0 3))), vi 0] m4) (fun q5 => (ck 5225 8 (ck 5225 57 (some ((q5.2 50 0 (Int32.toNatClampNeg 8)) + (q5.2 50 0 (Int32.toNatClampNeg 57)), q5.2)))))))))))) := by
  refine (show f_X8_undo [vr 8 0, vi l1] μ = mm_run E_X8_undo 8 1 cX8_undo (0, [vr 8 0, vi l1], [], μ) from rfl).trans ?_
  refine (R_iload_n dX8_undo_0 rfl).trans ?_
  refine (R_i2l dX8_undo_1).trans ?_
  refine (R_lconst 1 dX8_undo_2 lconst_1).trans ?_
  refine (R_ldc2_w dX8_undo_3 lt_8_189).trans ?_
  refine (R_cs_i (as := [vl (Int32.toInt64 l1), vl 1, vl 16]) (rest := []) dX8_undo_6 mt_8_50 (by decide) qp_79 qr_79 (E_X8_undo_79) (Nat.le_of_ble_eq_true rfl) rfl rfl (Nat.le_of_ble_eq_true rfl)).trans (mm_bind (fun q1 => ?_))
  refine (R_ifc 15 dX8_undo_9 rfl).trans (c_ne (fun h2 => ?_) (fun h2 => ?_))
  · refine (R_ldc dX8_undo_12 kt_8_118).trans ?_
    exact R_ireturn dX8_undo_14 rfl
  · refine (R_iload_n dX8_undo_15 rfl).trans ?_
    refine (R_aload_n dX8_undo_16 rfl (by decide)).trans ?_
    refine (gi_8_115 dX8_undo_17).trans ?_
    refine (R_icmp 26 dX8_undo_20 rfl).trans (c_le (fun h3 => ?_) (fun h3 => ?_))
    · refine (R_ldc dX8_undo_23 kt_8_176).trans ?_
      exact R_ireturn dX8_undo_25 rfl
    · refine (R_aload_n dX8_undo_26 rfl (by decide)).trans ?_
      refine (R_dup dX8_undo_27 rfl).trans ?_
      refine (gi_8_115 dX8_undo_28).trans ?_
      refine (R_iload_n dX8_undo_31 rfl).trans ?_
      refine (R_isub dX8_undo_32).trans ?_
      refine (R_pi dX8_undo_33 ft_8_115 fs_8_3).trans ?_
      refine wr_intro (g := fun m => mm_run E_X8_undo 8 1 cX8_undo (36, [vr 8 0, vi l1], [], m)) (fun m4 => ?_)
      refine (R_aload_n dX8_undo_36 rfl (by decide)).trans ?_
      refine (R_sipush 825 dX8_undo_37 sipush_825).trans ?_
      refine (R_sipush 275 dX8_undo_40 sipush_275).trans ?_
      refine (R_aload_n dX8_undo_43 rfl (by decide)).trans ?_
      refine (gi_8_115 dX8_undo_44).trans ?_
      refine (R_imul dX8_undo_47).trans ?_
      refine (R_iadd dX8_undo_48).trans ?_
      refine (R_iconst 0 dX8_undo_49 iconst_0).trans ?_
      refine (R_cv_v (as := [vi (825 + (275 * (m4 8 0 3))), vi 0]) (rest := []) dX8_undo_50 mt_8_150 qp_80 qr_80 (E_X8_undo_80) rfl rfl rfl (Nat.le_of_ble_eq_true rfl)).trans (mm_bind (fun q5 => ?_))
      refine (R_aload_n dX8_undo_53 rfl (by decide)).trans ?_
      refine (gr_8_7 dX8_undo_54).trans ?_
      refine (R_bipush 8 dX8_undo_57 bipush_8).trans ?_
      refine (R_iaload dX8_undo_59 as_50).trans (ck_congr ?_)
      refine (R_aload_n dX8_undo_60 rfl (by decide)).trans ?_
      refine (gr_8_7 dX8_undo_61).trans ?_
      refine (R_bipush 57 dX8_undo_64 bipush_57).trans ?_
      refine (R_iaload dX8_undo_66 as_50).trans (ck_congr ?_)
      refine (R_iadd dX8_undo_67).trans ?_
      exact R_ireturn dX8_undo_68 rfl
noncomputable def E_X8_shaftsWithin : mE := fun k => if k = 85 then f_X8_begin else if k = 86 then f_X8_end else fun _ _ => none
theorem E_X8_shaftsWithin_85 : E_X8_shaftsWithin 85 = f_X8_begin := if_pos rfl
theorem E_X8_shaftsWithin_86 : E_X8_shaftsWithin 86 = f_X8_end := (if_neg (by decide)).trans (if_pos rfl)
noncomputable def f_X8_shaftsWithin : List mV → mM → Option mR := mm_fn E_X8_shaftsWithin 8 1 5 cX8_shaftsWithin
theorem k_X8_shaftsWithin (l : Launch) : mm_OK l 126 f_X8_shaftsWithin := mm_fn_ok l 126 8 E_X8_shaftsWithin (by decide) rfl (by decide) (by
  intro k as μ q h
  by_cases h0 : k = 85
  · subst h0
    exact ⟨by rw [E_X8_shaftsWithin_85]; exact k_X8_begin l, by decide, by decide, by decide⟩
  by_cases h1 : k = 86
  · subst h1
    exact ⟨by rw [E_X8_shaftsWithin_86]; exact k_X8_end l, by decide, by decide, by decide⟩
  have e : E_X8_shaftsWithin k = fun _ _ => none := (if_neg h0).trans ((if_neg h1).trans (rfl))
  rw [e] at h
  cases h)
noncomputable def r_X8_shaftsWithin_5 (l1 : Int32) (l2 : Int32) (l3 : Int32) (l4 : Int32) (μ : mM) : Option mR := mm_run E_X8_shaftsWithin 8 1 cX8_shaftsWithin (5, [vr 8 0, vi l1, vi l2, vi l3, vi l4], [], μ)
set_option maxRecDepth 100000 in
set_option maxHeartbeats 4000000 in
theorem e_X8_shaftsWithin (l1 : Int32) (l2 : Int32) (μ : mM) : f_X8_shaftsWithin [vr 8 0, vi l1, vi l2] μ = r_X8_shaftsWithin_5 l1 l2 0 0 μ := by
  refine (show f_X8_shaftsWithin [vr 8 0, vi l1, vi l2] μ = mm_run E_X8_shaftsWithin 8 1 cX8_shaftsWithin (0, [vr 8 0, vi l1, vi l2, vu, vu], [], μ) from rfl).trans ?_
  refine (R_iconst 0 dX8_shaftsWithin_0 iconst_0).trans ?_
  refine (R_istore_n (ls' := [vr 8 0, vi l1, vi l2, vi 0, vu]) dX8_shaftsWithin_1 (Nat.le_of_ble_eq_true rfl) (by decide) rfl).trans ?_
  refine (R_iconst 0 dX8_shaftsWithin_2 iconst_0).trans ?_
  refine (R_istore (ls' := [vr 8 0, vi l1, vi l2, vi 0, vi 0]) dX8_shaftsWithin_3 (Nat.le_of_ble_eq_true rfl) (by decide) rfl).trans ?_
  exact rfl
set_option maxRecDepth 100000 in
set_option maxHeartbeats 4000000 in
theorem e_X8_shaftsWithin_5 (l1 : Int32) (l2 : Int32) (l3 : Int32) (l4 : Int32) (μ : mM) : r_X8_shaftsWithin_5 l1 l2 l3 l4 μ = (ck 5225 8 (if l4 < μ 50 0 (Int32.toNatClampNeg 8) then (Option.bind (f_X8_begin [vr 8 0, vi l4] μ) (fun q2 => (if q2.1 < l1 then r_X8_shaftsWithin_5 l1 l2 (l3 + 0) (l4 + 1) q2.2 else (Option.bind (f_X8_end [vr 8 0, vi l4] q2.2) (fun q4 => (if l2 < q4.1 then r_X8_shaftsWithin_5 l1 l2 (l3 + 0) (l4 + 1) q4.2 else r_X8_shaftsWithin_5 l1 l2 (l3 + 1) (l4 + 1) q4.2)))))) else some (l3, μ))) := by
  refine (show r_X8_shaftsWithin_5 l1 l2 l3 l4 μ = mm_run E_X8_shaftsWithin 8 1 cX8_shaftsWithin (5, [vr 8 0, vi l1, vi l2, vi l3, vi l4], [], μ) from rfl).trans ?_
  refine (R_iload dX8_shaftsWithin_5 rfl).trans ?_
  refine (R_aload_n dX8_shaftsWithin_7 rfl (by decide)).trans ?_
  refine (gr_8_7 dX8_shaftsWithin_8).trans ?_
  refine (R_bipush 8 dX8_shaftsWithin_11 bipush_8).trans ?_
  refine (R_iaload dX8_shaftsWithin_13 as_50).trans (ck_congr ?_)
  refine (R_icmp 51 dX8_shaftsWithin_14 rfl).trans (c_ge (fun h1 => ?_) (fun h1 => ?_))
  · refine (R_iload_n dX8_shaftsWithin_17 rfl).trans ?_
    refine (R_aload_n dX8_shaftsWithin_18 rfl (by decide)).trans ?_
    refine (R_iload dX8_shaftsWithin_19 rfl).trans ?_
    refine (R_cv_i (as := [vi l4]) (rest := [vi l3]) dX8_shaftsWithin_21 mt_8_56 qp_85 qr_85 (E_X8_shaftsWithin_85) rfl rfl rfl (Nat.le_of_ble_eq_true rfl)).trans (mm_bind (fun q2 => ?_))
    refine (R_iload_n dX8_shaftsWithin_24 rfl).trans ?_
    refine (R_icmp 42 dX8_shaftsWithin_25 rfl).trans (c_lt (fun h3 => ?_) (fun h3 => ?_))
    · refine (R_iconst 0 dX8_shaftsWithin_42 iconst_0).trans ?_
      refine (R_iadd dX8_shaftsWithin_43).trans ?_
      refine (R_istore_n (ls' := [vr 8 0, vi l1, vi l2, vi (l3 + 0), vi l4]) dX8_shaftsWithin_44 (Nat.le_of_ble_eq_true rfl) (by decide) rfl).trans ?_
      refine (R_iinc (ls' := [vr 8 0, vi l1, vi l2, vi (l3 + 0), vi (l4 + 1)]) 1 dX8_shaftsWithin_45 rfl iconst_1 (by decide) rfl).trans ?_
      refine (R_goto 5 dX8_shaftsWithin_48 rfl).trans ?_
      exact rfl
    · refine (R_aload_n dX8_shaftsWithin_28 rfl (by decide)).trans ?_
      refine (R_iload dX8_shaftsWithin_29 rfl).trans ?_
      refine (R_cv_i (as := [vi l4]) (rest := [vi l3]) dX8_shaftsWithin_31 mt_8_60 qp_86 qr_86 (E_X8_shaftsWithin_86) rfl rfl rfl (Nat.le_of_ble_eq_true rfl)).trans (mm_bind (fun q4 => ?_))
      refine (R_iload_n dX8_shaftsWithin_34 rfl).trans ?_
      refine (R_icmp 42 dX8_shaftsWithin_35 rfl).trans (c_gt (fun h5 => ?_) (fun h5 => ?_))
      · refine (R_iconst 0 dX8_shaftsWithin_42 iconst_0).trans ?_
        refine (R_iadd dX8_shaftsWithin_43).trans ?_
        refine (R_istore_n (ls' := [vr 8 0, vi l1, vi l2, vi (l3 + 0), vi l4]) dX8_shaftsWithin_44 (Nat.le_of_ble_eq_true rfl) (by decide) rfl).trans ?_
        refine (R_iinc (ls' := [vr 8 0, vi l1, vi l2, vi (l3 + 0), vi (l4 + 1)]) 1 dX8_shaftsWithin_45 rfl iconst_1 (by decide) rfl).trans ?_
        refine (R_goto 5 dX8_shaftsWithin_48 rfl).trans ?_
        exact rfl
      · refine (R_iconst 1 dX8_shaftsWithin_38 iconst_1).trans ?_
        refine (R_goto 43 dX8_shaftsWithin_39 rfl).trans ?_
        refine (R_iadd dX8_shaftsWithin_43).trans ?_
        refine (R_istore_n (ls' := [vr 8 0, vi l1, vi l2, vi (l3 + 1), vi l4]) dX8_shaftsWithin_44 (Nat.le_of_ble_eq_true rfl) (by decide) rfl).trans ?_
        refine (R_iinc (ls' := [vr 8 0, vi l1, vi l2, vi (l3 + 1), vi (l4 + 1)]) 1 dX8_shaftsWithin_45 rfl iconst_1 (by decide) rfl).trans ?_
        refine (R_goto 5 dX8_shaftsWithin_48 rfl).trans ?_
        exact rfl
  · refine (R_iload_n dX8_shaftsWithin_51 rfl).trans ?_
    exact R_ireturn dX8_shaftsWithin_52 rfl
noncomputable def E_X8_boresWithin : mE := fun k => if k = 79 then f_X8_in else fun _ _ => none
theorem E_X8_boresWithin_79 : E_X8_boresWithin 79 = f_X8_in := if_pos rfl
noncomputable def f_X8_boresWithin : List mV → mM → Option mR := mm_fn E_X8_boresWithin 8 1 5 cX8_boresWithin
theorem k_X8_boresWithin (l : Launch) : mm_OK l 127 f_X8_boresWithin := mm_fn_ok l 127 8 E_X8_boresWithin (by decide) rfl (by decide) (by
  intro k as μ q h
  by_cases h0 : k = 79
  · subst h0
    exact ⟨by rw [E_X8_boresWithin_79]; exact k_X8_in l, by decide, by decide, by decide⟩
  have e : E_X8_boresWithin k = fun _ _ => none := (if_neg h0).trans (rfl)
  rw [e] at h
  cases h)
noncomputable def r_X8_boresWithin_5 (l1 : Int32) (l2 : Int32) (l3 : Int32) (l4 : Int32) (μ : mM) : Option mR := mm_run E_X8_boresWithin 8 1 cX8_boresWithin (5, [vr 8 0, vi l1, vi l2, vi l3, vi l4], [], μ)
set_option maxRecDepth 100000 in
set_option maxHeartbeats 4000000 in
theorem e_X8_boresWithin (l1 : Int32) (l2 : Int32) (μ : mM) : f_X8_boresWithin [vr 8 0, vi l1, vi l2] μ = r_X8_boresWithin_5 l1 l2 0 0 μ := by
  refine (show f_X8_boresWithin [vr 8 0, vi l1, vi l2] μ = mm_run E_X8_boresWithin 8 1 cX8_boresWithin (0, [vr 8 0, vi l1, vi l2, vu, vu], [], μ) from rfl).trans ?_
  refine (R_iconst 0 dX8_boresWithin_0 iconst_0).trans ?_
  refine (R_istore_n (ls' := [vr 8 0, vi l1, vi l2, vi 0, vu]) dX8_boresWithin_1 (Nat.le_of_ble_eq_true rfl) (by decide) rfl).trans ?_
  refine (R_iconst 0 dX8_boresWithin_2 iconst_0).trans ?_
  refine (R_istore (ls' := [vr 8 0, vi l1, vi l2, vi 0, vi 0]) dX8_boresWithin_3 (Nat.le_of_ble_eq_true rfl) (by decide) rfl).trans ?_
  exact rfl
set_option maxRecDepth 100000 in
set_option maxHeartbeats 4000000 in
theorem e_X8_boresWithin_5 (l1 : Int32) (l2 : Int32) (l3 : Int32) (l4 : Int32) (μ : mM) : r_X8_boresWithin_5 l1 l2 l3 l4 μ = (ck 5225 57 (if l4 < μ 50 0 (Int32.toNatClampNeg 57) then (ck 5225 (58 + l4) (Option.bind (f_X8_in [vl (Int32.toInt64 (μ 50 0 (Int32.toNatClampNeg (58 + l4)))), vl (Int32.toInt64 l1), vl (Int32.toInt64 l2)] μ) (fun q2 => (if q2.1 = 0 then r_X8_boresWithin_5 l1 l2 (l3 + 0) (l4 + 1) q2.2 else r_X8_boresWithin_5 l1 l2 (l3 + 1) (l4 + 1) q2.2)))) else some (l3, μ))) := by
  refine (show r_X8_boresWithin_5 l1 l2 l3 l4 μ = mm_run E_X8_boresWithin 8 1 cX8_boresWithin (5, [vr 8 0, vi l1, vi l2, vi l3, vi l4], [], μ) from rfl).trans ?_
  refine (R_iload dX8_boresWithin_5 rfl).trans ?_
  refine (R_aload_n dX8_boresWithin_7 rfl (by decide)).trans ?_
  refine (gr_8_7 dX8_boresWithin_8).trans ?_
  refine (R_bipush 57 dX8_boresWithin_11 bipush_57).trans ?_
  refine (R_iaload dX8_boresWithin_13 as_50).trans (ck_congr ?_)
  refine (R_icmp 52 dX8_boresWithin_14 rfl).trans (c_ge (fun h1 => ?_) (fun h1 => ?_))
  · refine (R_iload_n dX8_boresWithin_17 rfl).trans ?_
    refine (R_aload_n dX8_boresWithin_18 rfl (by decide)).trans ?_
    refine (gr_8_7 dX8_boresWithin_19).trans ?_
    refine (R_bipush 58 dX8_boresWithin_22 bipush_58).trans ?_
    refine (R_iload dX8_boresWithin_24 rfl).trans ?_
    refine (R_iadd dX8_boresWithin_26).trans ?_
    refine (R_iaload dX8_boresWithin_27 as_50).trans (ck_congr ?_)
    refine (R_i2l dX8_boresWithin_28).trans ?_
    refine (R_iload_n dX8_boresWithin_29 rfl).trans ?_
    refine (R_i2l dX8_boresWithin_30).trans ?_
    refine (R_iload_n dX8_boresWithin_31 rfl).trans ?_
    refine (R_i2l dX8_boresWithin_32).trans ?_
    refine (R_cs_i (as := [vl (Int32.toInt64 (μ 50 0 (Int32.toNatClampNeg (58 + l4)))), vl (Int32.toInt64 l1), vl (Int32.toInt64 l2)]) (rest := [vi l3]) dX8_boresWithin_33 mt_8_50 (by decide) qp_79 qr_79 (E_X8_boresWithin_79) (Nat.le_of_ble_eq_true rfl) rfl rfl (Nat.le_of_ble_eq_true rfl)).trans (mm_bind (fun q2 => ?_))
    refine (R_ifc 43 dX8_boresWithin_36 rfl).trans (c_eq (fun h3 => ?_) (fun h3 => ?_))
    · refine (R_iconst 0 dX8_boresWithin_43 iconst_0).trans ?_
      refine (R_iadd dX8_boresWithin_44).trans ?_
      refine (R_istore_n (ls' := [vr 8 0, vi l1, vi l2, vi (l3 + 0), vi l4]) dX8_boresWithin_45 (Nat.le_of_ble_eq_true rfl) (by decide) rfl).trans ?_
      refine (R_iinc (ls' := [vr 8 0, vi l1, vi l2, vi (l3 + 0), vi (l4 + 1)]) 1 dX8_boresWithin_46 rfl iconst_1 (by decide) rfl).trans ?_
      refine (R_goto 5 dX8_boresWithin_49 rfl).trans ?_
      exact rfl
    · refine (R_iconst 1 dX8_boresWithin_39 iconst_1).trans ?_
      refine (R_goto 44 dX8_boresWithin_40 rfl).trans ?_
      refine (R_iadd dX8_boresWithin_44).trans ?_
      refine (R_istore_n (ls' := [vr 8 0, vi l1, vi l2, vi (l3 + 1), vi l4]) dX8_boresWithin_45 (Nat.le_of_ble_eq_true rfl) (by decide) rfl).trans ?_
      refine (R_iinc (ls' := [vr 8 0, vi l1, vi l2, vi (l3 + 1), vi (l4 + 1)]) 1 dX8_boresWithin_46 rfl iconst_1 (by decide) rfl).trans ?_
      refine (R_goto 5 dX8_boresWithin_49 rfl).trans ?_
      exact rfl
  · refine (R_iload_n dX8_boresWithin_52 rfl).trans ?_
    exact R_ireturn dX8_boresWithin_53 rfl
noncomputable def E_X8_keyOf : mE := fun k => if k = 85 then f_X8_begin else fun _ _ => none
theorem E_X8_keyOf_85 : E_X8_keyOf 85 = f_X8_begin := if_pos rfl
noncomputable def f_X8_keyOf : List mV → mM → Option mR := mm_fn E_X8_keyOf 8 1 2 cX8_keyOf
theorem k_X8_keyOf (l : Launch) : mm_OK l 129 f_X8_keyOf := mm_fn_ok l 129 8 E_X8_keyOf (by decide) rfl (by decide) (by
  intro k as μ q h
  by_cases h0 : k = 85
  · subst h0
    exact ⟨by rw [E_X8_keyOf_85]; exact k_X8_begin l, by decide, by decide, by decide⟩
  have e : E_X8_keyOf k = fun _ _ => none := (if_neg h0).trans (rfl)
  rw [e] at h
  cases h)
set_option maxRecDepth 100000 in
set_option maxHeartbeats 4000000 in
theorem e_X8_keyOf (l1 : Int32) (μ : mM) : f_X8_keyOf [vr 8 0, vi l1] μ = (if l1 < 24 then (Option.bind (f_X8_begin [vr 8 0, vi l1] μ) (fun q2 => some (q2.1, q2.2))) else (ck 5225 ((58 + l1) - 24) (some (μ 50 0 (Int32.toNatClampNeg ((58 + l1) - 24)), μ)))) := by
  refine (show f_X8_keyOf [vr 8 0, vi l1] μ = mm_run E_X8_keyOf 8 1 cX8_keyOf (0, [vr 8 0, vi l1], [], μ) from rfl).trans ?_
  refine (R_iload_n dX8_keyOf_0 rfl).trans ?_
  refine (R_bipush 24 dX8_keyOf_1 bipush_24).trans ?_
  refine (R_icmp 14 dX8_keyOf_3 rfl).trans (c_ge (fun h1 => ?_) (fun h1 => ?_))
  · refine (R_aload_n dX8_keyOf_6 rfl (by decide)).trans ?_
    refine (R_iload_n dX8_keyOf_7 rfl).trans ?_
    refine (R_cv_i (as := [vi l1]) (rest := []) dX8_keyOf_8 mt_8_56 qp_85 qr_85 (E_X8_keyOf_85) rfl rfl rfl (Nat.le_of_ble_eq_true rfl)).trans (mm_bind (fun q2 => ?_))
    refine (R_goto 26 dX8_keyOf_11 rfl).trans ?_
    exact R_ireturn dX8_keyOf_26 rfl
  · refine (R_aload_n dX8_keyOf_14 rfl (by decide)).trans ?_
    refine (gr_8_7 dX8_keyOf_15).trans ?_
    refine (R_bipush 58 dX8_keyOf_18 bipush_58).trans ?_
    refine (R_iload_n dX8_keyOf_20 rfl).trans ?_
    refine (R_iadd dX8_keyOf_21).trans ?_
    refine (R_bipush 24 dX8_keyOf_22 bipush_24).trans ?_
    refine (R_isub dX8_keyOf_24).trans ?_
    refine (R_iaload dX8_keyOf_25 as_50).trans (ck_congr ?_)
    exact R_ireturn dX8_keyOf_26 rfl
noncomputable def E_X8_keep : mE := fun k => if k = 79 then f_X8_in else if k = 80 then f_X8_copy else fun _ _ => none
theorem E_X8_keep_79 : E_X8_keep 79 = f_X8_in := if_pos rfl
theorem E_X8_keep_80 : E_X8_keep 80 = f_X8_copy := (if_neg (by decide)).trans (if_pos rfl)
noncomputable def f_X8_keep : List mV → mM → Option mR := mm_fn E_X8_keep 8 1 2 cX8_keep
theorem k_X8_keep (l : Launch) : mm_OK l 138 f_X8_keep := mm_fn_ok l 138 8 E_X8_keep (by decide) rfl (by decide) (by
  intro k as μ q h
  by_cases h0 : k = 79
  · subst h0
    exact ⟨by rw [E_X8_keep_79]; exact k_X8_in l, by decide, by decide, by decide⟩
  by_cases h1 : k = 80
  · subst h1
    exact ⟨by rw [E_X8_keep_80]; exact k_X8_copy l, by decide, by decide, by decide⟩
  have e : E_X8_keep k = fun _ _ => none := (if_neg h0).trans ((if_neg h1).trans (rfl))
  rw [e] at h
  cases h)
set_option maxRecDepth 100000 in
set_option maxHeartbeats 4000000 in
theorem e_X8_keep (l1 : Int32) (μ : mM) : f_X8_keep [vr 8 0, vi l1] μ = (Option.bind (f_X8_in [vl (Int32.toInt64 l1), vl 0, vl 1] μ) (fun q1 => (if q1.1 = 0 then some ((-1000000001), q1.2) else (Option.bind (f_X8_copy [vr 8 0, vi 0, vi (275 + (275 * l1))] q1.2) (fun q3 => (ck 2 l1 (wr (mm_up q3.2 52 0 (Int32.toNatClampNeg l1) (q3.2 8 0 4)) (fun m4 => (ck 2 l1 (wr (mm_up m4 51 0 (Int32.toNatClampNeg l1) (vp_nar .boolean 1)) (fun m5 => (wr (mm_up m5 8 0 3 0) (fun m6 => some (1, m6)))))))))))))) := by
  refine (show f_X8_keep [vr 8 0, vi l1] μ = mm_run E_X8_keep 8 1 cX8_keep (0, [vr 8 0, vi l1], [], μ) from rfl).trans ?_
  refine (R_iload_n dX8_keep_0 rfl).trans ?_
  refine (R_i2l dX8_keep_1).trans ?_
  refine (R_lconst 0 dX8_keep_2 lconst_0).trans ?_
  refine (R_lconst 1 dX8_keep_3 lconst_1).trans ?_
  refine (R_cs_i (as := [vl (Int32.toInt64 l1), vl 0, vl 1]) (rest := []) dX8_keep_4 mt_8_50 (by decide) qp_79 qr_79 (E_X8_keep_79) (Nat.le_of_ble_eq_true rfl) rfl rfl (Nat.le_of_ble_eq_true rfl)).trans (mm_bind (fun q1 => ?_))
  refine (R_ifc 13 dX8_keep_7 rfl).trans (c_ne (fun h2 => ?_) (fun h2 => ?_))
  · refine (R_ldc dX8_keep_10 kt_8_128).trans ?_
    exact R_ireturn dX8_keep_12 rfl
  · refine (R_aload_n dX8_keep_13 rfl (by decide)).trans ?_
    refine (R_iconst 0 dX8_keep_14 iconst_0).trans ?_
    refine (R_sipush 275 dX8_keep_15 sipush_275).trans ?_
    refine (R_sipush 275 dX8_keep_18 sipush_275).trans ?_
    refine (R_iload_n dX8_keep_21 rfl).trans ?_
    refine (R_imul dX8_keep_22).trans ?_
    refine (R_iadd dX8_keep_23).trans ?_
    refine (R_cv_v (as := [vi 0, vi (275 + (275 * l1))]) (rest := []) dX8_keep_24 mt_8_150 qp_80 qr_80 (E_X8_keep_80) rfl rfl rfl (Nat.le_of_ble_eq_true rfl)).trans (mm_bind (fun q3 => ?_))
    refine (R_aload_n dX8_keep_27 rfl (by decide)).trans ?_
    refine (gr_8_17 dX8_keep_28).trans ?_
    refine (R_iload_n dX8_keep_31 rfl).trans ?_
    refine (R_aload_n dX8_keep_32 rfl (by decide)).trans ?_
    refine (gi_8_44 dX8_keep_33).trans ?_
    refine (R_iastore dX8_keep_36 as_52).trans (ck_congr ?_)
    refine wr_intro (g := fun m => mm_run E_X8_keep 8 1 cX8_keep (37, [vr 8 0, vi l1], [], m)) (fun m4 => ?_)
    refine (R_aload_n dX8_keep_37 rfl (by decide)).trans ?_
    refine (gr_8_13 dX8_keep_38).trans ?_
    refine (R_iload_n dX8_keep_41 rfl).trans ?_
    refine (R_iconst 1 dX8_keep_42 iconst_1).trans ?_
    refine (R_bastore dX8_keep_43 as_51).trans (ck_congr ?_)
    refine wr_intro (g := fun m => mm_run E_X8_keep 8 1 cX8_keep (44, [vr 8 0, vi l1], [], m)) (fun m5 => ?_)
    refine (R_aload_n dX8_keep_44 rfl (by decide)).trans ?_
    refine (R_iconst 0 dX8_keep_45 iconst_0).trans ?_
    refine (R_pi dX8_keep_46 ft_8_115 fs_8_3).trans ?_
    refine wr_intro (g := fun m => mm_run E_X8_keep 8 1 cX8_keep (49, [vr 8 0, vi l1], [], m)) (fun m6 => ?_)
    refine (R_iconst 1 dX8_keep_49 iconst_1).trans ?_
    exact R_ireturn dX8_keep_50 rfl
noncomputable def E_X0_read : mE := fun k => if k = 47 then f_X6_begin else if k = 48 then f_X6_end else if k = 1 then f_X0_add else if k = 78 then f_X7_sizeOf else fun _ _ => none
theorem E_X0_read_47 : E_X0_read 47 = f_X6_begin := if_pos rfl
theorem E_X0_read_48 : E_X0_read 48 = f_X6_end := (if_neg (by decide)).trans (if_pos rfl)
theorem E_X0_read_1 : E_X0_read 1 = f_X0_add := (if_neg (by decide)).trans ((if_neg (by decide)).trans (if_pos rfl))
theorem E_X0_read_78 : E_X0_read 78 = f_X7_sizeOf := (if_neg (by decide)).trans ((if_neg (by decide)).trans ((if_neg (by decide)).trans (if_pos rfl)))
noncomputable def f_X0_read : List mV → mM → Option mR := mm_fn E_X0_read 0 0 4 cX0_read
theorem k_X0_read (l : Launch) : mm_OK l 0 f_X0_read := mm_fn_ok l 0 0 E_X0_read (by decide) rfl (by decide) (by
  intro k as μ q h
  by_cases h0 : k = 47
  · subst h0
    exact ⟨by rw [E_X0_read_47]; exact k_X6_begin l, by decide, by decide, by decide⟩
  by_cases h1 : k = 48
  · subst h1
    exact ⟨by rw [E_X0_read_48]; exact k_X6_end l, by decide, by decide, by decide⟩
  by_cases h2 : k = 1
  · subst h2
    exact ⟨by rw [E_X0_read_1]; exact k_X0_add l, by decide, by decide, by decide⟩
  by_cases h3 : k = 78
  · subst h3
    exact ⟨by rw [E_X0_read_78]; exact k_X7_sizeOf l, by decide, by decide, by decide⟩
  have e : E_X0_read k = fun _ _ => none := (if_neg h0).trans ((if_neg h1).trans ((if_neg h2).trans ((if_neg h3).trans (rfl))))
  rw [e] at h
  cases h)
noncomputable def r_X0_read_7 (b : Nat) (l2 : Int32) (μ : mM) : Option mR := mm_run E_X0_read 0 0 cX0_read (7, [vr 0 0, vr 6 b, vi l2, vu], [], μ)
noncomputable def r_X0_read_48 (b : Nat) (l2 : Int32) (x3 : mV) (μ : mM) : Option mR := mm_run E_X0_read 0 0 cX0_read (48, [vr 0 0, vr 6 b, vi l2, x3], [], μ)
set_option maxRecDepth 100000 in
set_option maxHeartbeats 4000000 in
theorem e_X0_read (b : Nat) (μ : mM) : f_X0_read [vr 0 0, vr 6 b] μ = (wr (mm_up μ 0 0 4 0) (fun m1 => r_X0_read_7 b 0 m1)) := by
  refine (show f_X0_read [vr 0 0, vr 6 b] μ = mm_run E_X0_read 0 0 cX0_read (0, [vr 0 0, vr 6 b, vu, vu], [], μ) from rfl).trans ?_
  refine (R_aload_n dX0_read_0 rfl (by decide)).trans ?_
  refine (R_iconst 0 dX0_read_1 iconst_0).trans ?_
  refine (R_pi dX0_read_2 ft_0_27 fs_0_4).trans ?_
  refine wr_intro (g := fun m => mm_run E_X0_read 0 0 cX0_read (5, [vr 0 0, vr 6 b, vu, vu], [], m)) (fun m1 => ?_)
  refine (R_iconst 0 dX0_read_5 iconst_0).trans ?_
  refine (R_istore_n (ls' := [vr 0 0, vr 6 b, vi 0, vu]) dX0_read_6 (Nat.le_of_ble_eq_true rfl) (by decide) rfl).trans ?_
  exact rfl
set_option maxRecDepth 100000 in
set_option maxHeartbeats 4000000 in
theorem e_X0_read_7 (b : Nat) (l2 : Int32) (μ : mM) : r_X0_read_7 b l2 μ = (if l2 < μ 6 b 6 then (ck 24 l2 (Option.bind (f_X6_begin [vr 6 b, vi (μ 10 b (Int32.toNatClampNeg l2))] μ) (fun q2 => (ck 24 l2 (Option.bind (f_X6_end [vr 6 b, vi (q2.2 10 b (Int32.toNatClampNeg l2))] q2.2) (fun q3 => (Option.bind (f_X0_add [vr 0 0, vi q2.1, vi q3.1, vi 0] q3.2) (fun q4 => r_X0_read_7 b (l2 + 1) q4.2)))))))) else r_X0_read_48 b 0 vu μ) := by
  refine (show r_X0_read_7 b l2 μ = mm_run E_X0_read 0 0 cX0_read (7, [vr 0 0, vr 6 b, vi l2, vu], [], μ) from rfl).trans ?_
  refine (R_iload_n dX0_read_7 rfl).trans ?_
  refine (R_aload_n dX0_read_8 rfl (by decide)).trans ?_
  refine (gi_0_31 dX0_read_9).trans ?_
  refine (R_icmp 46 dX0_read_12 rfl).trans (c_ge (fun h1 => ?_) (fun h1 => ?_))
  · refine (R_aload_n dX0_read_15 rfl (by decide)).trans ?_
    refine (R_aload_n dX0_read_16 rfl (by decide)).trans ?_
    refine (R_aload_n dX0_read_17 rfl (by decide)).trans ?_
    refine (gr_0_36 dX0_read_18).trans ?_
    refine (R_iload_n dX0_read_21 rfl).trans ?_
    refine (R_iaload dX0_read_22 as_10).trans (ck_congr ?_)
    refine (R_cv_i (as := [vi (μ 10 b (Int32.toNatClampNeg l2))]) (rest := [vr 0 0]) dX0_read_23 mt_0_39 qp_47 qr_47 (E_X0_read_47) rfl rfl rfl (Nat.le_of_ble_eq_true rfl)).trans (mm_bind (fun q2 => ?_))
    refine (R_aload_n dX0_read_26 rfl (by decide)).trans ?_
    refine (R_aload_n dX0_read_27 rfl (by decide)).trans ?_
    refine (gr_0_36 dX0_read_28).trans ?_
    refine (R_iload_n dX0_read_31 rfl).trans ?_
    refine (R_iaload dX0_read_32 as_10).trans (ck_congr ?_)
    refine (R_cv_i (as := [vi (q2.2 10 b (Int32.toNatClampNeg l2))]) (rest := [vi q2.1, vr 0 0]) dX0_read_33 mt_0_43 qp_48 qr_48 (E_X0_read_48) rfl rfl rfl (Nat.le_of_ble_eq_true rfl)).trans (mm_bind (fun q3 => ?_))
    refine (R_iconst 0 dX0_read_36 iconst_0).trans ?_
    refine (R_cv_v (as := [vi q2.1, vi q3.1, vi 0]) (rest := []) dX0_read_37 mt_0_46 qp_1 qr_1 (E_X0_read_1) rfl rfl rfl (Nat.le_of_ble_eq_true rfl)).trans (mm_bind (fun q4 => ?_))
    refine (R_iinc (ls' := [vr 0 0, vr 6 b, vi (l2 + 1), vu]) 1 dX0_read_40 rfl iconst_1 (by decide) rfl).trans ?_
    refine (R_goto 7 dX0_read_43 rfl).trans ?_
    exact rfl
  · refine (R_iconst 0 dX0_read_46 iconst_0).trans ?_
    refine (R_istore_n (ls' := [vr 0 0, vr 6 b, vi 0, vu]) dX0_read_47 (Nat.le_of_ble_eq_true rfl) (by decide) rfl).trans ?_
    exact rfl
set_option maxRecDepth 100000 in
set_option maxHeartbeats 4000000 in
theorem e_X0_read_48 (b : Nat) (l2 : Int32) (x3 : mV) (μ : mM) : r_X0_read_48 b l2 x3 μ = (if l2 < μ 6 b 7 then (ck 24 l2 (Option.bind (f_X7_sizeOf [vi (μ 11 b (Int32.toNatClampNeg l2))] μ) (fun q2 => (Option.bind (f_X0_add [vr 0 0, vi q2.1, vi q2.1, vi 1] q2.2) (fun q3 => r_X0_read_48 b (l2 + 1) (vi q2.1) q3.2))))) else some (0, μ)) := by
  refine (show r_X0_read_48 b l2 x3 μ = mm_run E_X0_read 0 0 cX0_read (48, [vr 0 0, vr 6 b, vi l2, x3], [], μ) from rfl).trans ?_
  refine (R_iload_n dX0_read_48 rfl).trans ?_
  refine (R_aload_n dX0_read_49 rfl (by decide)).trans ?_
  refine (gi_0_50 dX0_read_50).trans ?_
  refine (R_icmp 79 dX0_read_53 rfl).trans (c_ge (fun h1 => ?_) (fun h1 => ?_))
  · refine (R_aload_n dX0_read_56 rfl (by decide)).trans ?_
    refine (gr_0_53 dX0_read_57).trans ?_
    refine (R_iload_n dX0_read_60 rfl).trans ?_
    refine (R_iaload dX0_read_61 as_11).trans (ck_congr ?_)
    refine (R_cs_i (as := [vi (μ 11 b (Int32.toNatClampNeg l2))]) (rest := []) dX0_read_62 mt_0_56 (by decide) qp_78 qr_78 (E_X0_read_78) (Nat.le_of_ble_eq_true rfl) rfl rfl (Nat.le_of_ble_eq_true rfl)).trans (mm_bind (fun q2 => ?_))
    refine (R_istore_n (ls' := [vr 0 0, vr 6 b, vi l2, vi q2.1]) dX0_read_65 (Nat.le_of_ble_eq_true rfl) (by decide) rfl).trans ?_
    refine (R_aload_n dX0_read_66 rfl (by decide)).trans ?_
    refine (R_iload_n dX0_read_67 rfl).trans ?_
    refine (R_iload_n dX0_read_68 rfl).trans ?_
    refine (R_iconst 1 dX0_read_69 iconst_1).trans ?_
    refine (R_cv_v (as := [vi q2.1, vi q2.1, vi 1]) (rest := []) dX0_read_70 mt_0_46 qp_1 qr_1 (E_X0_read_1) rfl rfl rfl (Nat.le_of_ble_eq_true rfl)).trans (mm_bind (fun q3 => ?_))
    refine (R_iinc (ls' := [vr 0 0, vr 6 b, vi (l2 + 1), vi q2.1]) 1 dX0_read_73 rfl iconst_1 (by decide) rfl).trans ?_
    refine (R_goto 48 dX0_read_76 rfl).trans ?_
    exact rfl
  · exact R_return dX0_read_79 rfl
noncomputable def E_X0_tryLastBox : mE := fun k => if k = 142 then f_J9_min_7cf53 else if k = 141 then f_J9_max_7cf53 else if k = 4 then f_X0_addBox else fun _ _ => none
theorem E_X0_tryLastBox_142 : E_X0_tryLastBox 142 = f_J9_min_7cf53 := if_pos rfl
theorem E_X0_tryLastBox_141 : E_X0_tryLastBox 141 = f_J9_max_7cf53 := (if_neg (by decide)).trans (if_pos rfl)
theorem E_X0_tryLastBox_4 : E_X0_tryLastBox 4 = f_X0_addBox := (if_neg (by decide)).trans ((if_neg (by decide)).trans (if_pos rfl))
noncomputable def f_X0_tryLastBox : List mV → mM → Option mR := mm_fn E_X0_tryLastBox 0 0 10 cX0_tryLastBox
theorem k_X0_tryLastBox (l : Launch) : mm_OK l 3 f_X0_tryLastBox := mm_fn_ok l 3 0 E_X0_tryLastBox (by decide) rfl (by decide) (by
  intro k as μ q h
  by_cases h0 : k = 142
  · subst h0
    exact ⟨by rw [E_X0_tryLastBox_142]; exact k_J9_min_7cf53 l, by decide, by decide, by decide⟩
  by_cases h1 : k = 141
  · subst h1
    exact ⟨by rw [E_X0_tryLastBox_141]; exact k_J9_max_7cf53 l, by decide, by decide, by decide⟩
  by_cases h2 : k = 4
  · subst h2
    exact ⟨by rw [E_X0_tryLastBox_4]; exact k_X0_addBox l, by decide, by decide, by decide⟩
  have e : E_X0_tryLastBox k = fun _ _ => none := (if_neg h0).trans ((if_neg h1).trans ((if_neg h2).trans (rfl)))
  rw [e] at h
  cases h)
noncomputable def r_X0_tryLastBox_26 (l1 : Int32) (l2 : Int32) (l3 : Int32) (l4 : Int32) (l5 : Int32) (l6 : Int32) (l7 : Int32) (l8 : Int32) (l9 : Int32) (μ : mM) : Option mR := mm_run E_X0_tryLastBox 0 0 cX0_tryLastBox (26, [vr 0 0, vi l1, vi l2, vi l3, vi l4, vi l5, vi l6, vi l7, vi l8, vi l9], [], μ)
set_option maxRecDepth 100000 in
set_option maxHeartbeats 4000000 in
theorem e_X0_tryLastBox (l1 : Int32) (l2 : Int32) (μ : mM) : f_X0_tryLastBox [vr 0 0, vi l1, vi l2] μ = r_X0_tryLastBox_26 l1 l2 0 0 (-1) 11000 11000 (-1) (l1 - 1) μ := by
  refine (show f_X0_tryLastBox [vr 0 0, vi l1, vi l2] μ = mm_run E_X0_tryLastBox 0 0 cX0_tryLastBox (0, [vr 0 0, vi l1, vi l2, vu, vu, vu, vu, vu, vu, vu], [], μ) from rfl).trans ?_
  refine (R_iconst 0 dX0_tryLastBox_0 iconst_0).trans ?_
  refine (R_istore_n (ls' := [vr 0 0, vi l1, vi l2, vi 0, vu, vu, vu, vu, vu, vu]) dX0_tryLastBox_1 (Nat.le_of_ble_eq_true rfl) (by decide) rfl).trans ?_
  refine (R_iconst 0 dX0_tryLastBox_2 iconst_0).trans ?_
  refine (R_istore (ls' := [vr 0 0, vi l1, vi l2, vi 0, vi 0, vu, vu, vu, vu, vu]) dX0_tryLastBox_3 (Nat.le_of_ble_eq_true rfl) (by decide) rfl).trans ?_
  refine (R_iconst (-1) dX0_tryLastBox_5 iconst_m1).trans ?_
  refine (R_istore (ls' := [vr 0 0, vi l1, vi l2, vi 0, vi 0, vi (-1), vu, vu, vu, vu]) dX0_tryLastBox_6 (Nat.le_of_ble_eq_true rfl) (by decide) rfl).trans ?_
  refine (R_sipush 11000 dX0_tryLastBox_8 sipush_11000).trans ?_
  refine (R_istore (ls' := [vr 0 0, vi l1, vi l2, vi 0, vi 0, vi (-1), vi 11000, vu, vu, vu]) dX0_tryLastBox_11 (Nat.le_of_ble_eq_true rfl) (by decide) rfl).trans ?_
  refine (R_sipush 11000 dX0_tryLastBox_13 sipush_11000).trans ?_
  refine (R_istore (ls' := [vr 0 0, vi l1, vi l2, vi 0, vi 0, vi (-1), vi 11000, vi 11000, vu, vu]) dX0_tryLastBox_16 (Nat.le_of_ble_eq_true rfl) (by decide) rfl).trans ?_
  refine (R_iconst (-1) dX0_tryLastBox_18 iconst_m1).trans ?_
  refine (R_istore (ls' := [vr 0 0, vi l1, vi l2, vi 0, vi 0, vi (-1), vi 11000, vi 11000, vi (-1), vu]) dX0_tryLastBox_19 (Nat.le_of_ble_eq_true rfl) (by decide) rfl).trans ?_
  refine (R_iload_n dX0_tryLastBox_21 rfl).trans ?_
  refine (R_iconst 1 dX0_tryLastBox_22 iconst_1).trans ?_
  refine (R_isub dX0_tryLastBox_23).trans ?_
  refine (R_istore (ls' := [vr 0 0, vi l1, vi l2, vi 0, vi 0, vi (-1), vi 11000, vi 11000, vi (-1), vi (l1 - 1)]) dX0_tryLastBox_24 (Nat.le_of_ble_eq_true rfl) (by decide) rfl).trans ?_
  exact rfl
set_option maxRecDepth 100000 in
set_option maxHeartbeats 4000000 in
theorem e_X0_tryLastBox_26 (l1 : Int32) (l2 : Int32) (l3 : Int32) (l4 : Int32) (l5 : Int32) (l6 : Int32) (l7 : Int32) (l8 : Int32) (l9 : Int32) (μ : mM) : r_X0_tryLastBox_26 l1 l2 l3 l4 l5 l6 l7 l8 l9 μ = (if l9 < 0 then some (0, μ) else (ck 48 l9 (if μ 32 0 (Int32.toNatClampNeg l9) = 0 then (ck 48 l9 (Option.bind (f_J9_max_7cf53 [vi l5, vi (μ 30 0 (Int32.toNatClampNeg l9))] μ) (fun q3 => (ck 48 l9 (Option.bind (f_J9_min_7cf53 [vi l6, vi (q3.2 31 0 (Int32.toNatClampNeg l9))] q3.2) (fun q4 => (if l7 < q3.1 then some (0, q4.2) else (if q4.1 < l8 then some (0, q4.2) else (Option.bind (f_J9_min_7cf53 [vi (l3 + 1), vi l4] q4.2) (fun q7 => (Option.bind (f_X0_addBox [vr 0 0, vi l9, vi l1, vi l2, vi q7.1] q7.2) (fun q8 => r_X0_tryLastBox_26 l1 l2 (l3 + 1) l4 q3.1 q4.1 l7 l8 (l9 + (-1)) q8.2)))))))))))) else (ck 48 l9 (Option.bind (f_J9_min_7cf53 [vi l7, vi (μ 30 0 (Int32.toNatClampNeg l9))] μ) (fun q9 => (ck 48 l9 (Option.bind (f_J9_max_7cf53 [vi l8, vi (q9.2 30 0 (Int32.toNatClampNeg l9))] q9.2) (fun q10 => (if q9.1 < l5 then some (0, q10.2) else (if l6 < q10.1 then some (0, q10.2) else (Option.bind (f_J9_min_7cf53 [vi l3, vi (l4 + 1)] q10.2) (fun q13 => (Option.bind (f_X0_addBox [vr 0 0, vi l9, vi l1, vi l2, vi q13.1] q13.2) (fun q14 => r_X0_tryLastBox_26 l1 l2 l3 (l4 + 1) l5 l6 q9.1 q10.1 (l9 + (-1)) q14.2))))))))))))))) := by
  refine (show r_X0_tryLastBox_26 l1 l2 l3 l4 l5 l6 l7 l8 l9 μ = mm_run E_X0_tryLastBox 0 0 cX0_tryLastBox (26, [vr 0 0, vi l1, vi l2, vi l3, vi l4, vi l5, vi l6, vi l7, vi l8, vi l9], [], μ) from rfl).trans ?_
  refine (R_iload dX0_tryLastBox_26 rfl).trans ?_
  refine (R_ifc 141 dX0_tryLastBox_28 rfl).trans (c_lt (fun h1 => ?_) (fun h1 => ?_))
  · exact R_return dX0_tryLastBox_141 rfl
  · refine (R_aload_n dX0_tryLastBox_31 rfl (by decide)).trans ?_
    refine (gr_0_18 dX0_tryLastBox_32).trans ?_
    refine (R_iload dX0_tryLastBox_35 rfl).trans ?_
    refine (R_baload dX0_tryLastBox_37 as_32).trans (ck_congr ?_)
    refine (R_ifc 75 dX0_tryLastBox_38 rfl).trans (c_eq (fun h2 => ?_) (fun h2 => ?_))
    · refine (R_iinc (ls' := [vr 0 0, vi l1, vi l2, vi (l3 + 1), vi l4, vi l5, vi l6, vi l7, vi l8, vi l9]) 1 dX0_tryLastBox_75 rfl iconst_1 (by decide) rfl).trans ?_
      refine (R_iload dX0_tryLastBox_78 rfl).trans ?_
      refine (R_aload_n dX0_tryLastBox_80 rfl (by decide)).trans ?_
      refine (gr_0_9 dX0_tryLastBox_81).trans ?_
      refine (R_iload dX0_tryLastBox_84 rfl).trans ?_
      refine (R_iaload dX0_tryLastBox_86 as_30).trans (ck_congr ?_)
      refine (R_cs_i (as := [vi l5, vi (μ 30 0 (Int32.toNatClampNeg l9))]) (rest := []) dX0_tryLastBox_87 mt_0_69 (by decide) qp_141 qr_141 (E_X0_tryLastBox_141) (Nat.le_of_ble_eq_true rfl) rfl rfl (Nat.le_of_ble_eq_true rfl)).trans (mm_bind (fun q3 => ?_))
      refine (R_istore (ls' := [vr 0 0, vi l1, vi l2, vi (l3 + 1), vi l4, vi q3.1, vi l6, vi l7, vi l8, vi l9]) dX0_tryLastBox_90 (Nat.le_of_ble_eq_true rfl) (by decide) rfl).trans ?_
      refine (R_iload dX0_tryLastBox_92 rfl).trans ?_
      refine (R_aload_n dX0_tryLastBox_94 rfl (by decide)).trans ?_
      refine (gr_0_15 dX0_tryLastBox_95).trans ?_
      refine (R_iload dX0_tryLastBox_98 rfl).trans ?_
      refine (R_iaload dX0_tryLastBox_100 as_31).trans (ck_congr ?_)
      refine (R_cs_i (as := [vi l6, vi (q3.2 31 0 (Int32.toNatClampNeg l9))]) (rest := []) dX0_tryLastBox_101 mt_0_63 (by decide) qp_142 qr_142 (E_X0_tryLastBox_142) (Nat.le_of_ble_eq_true rfl) rfl rfl (Nat.le_of_ble_eq_true rfl)).trans (mm_bind (fun q4 => ?_))
      refine (R_istore (ls' := [vr 0 0, vi l1, vi l2, vi (l3 + 1), vi l4, vi q3.1, vi q4.1, vi l7, vi l8, vi l9]) dX0_tryLastBox_104 (Nat.le_of_ble_eq_true rfl) (by decide) rfl).trans ?_
      refine (R_iload dX0_tryLastBox_106 rfl).trans ?_
      refine (R_iload dX0_tryLastBox_108 rfl).trans ?_
      refine (R_icmp 120 dX0_tryLastBox_110 rfl).trans (c_gt (fun h5 => ?_) (fun h5 => ?_))
      · exact R_return dX0_tryLastBox_120 rfl
      · refine (R_iload dX0_tryLastBox_113 rfl).trans ?_
        refine (R_iload dX0_tryLastBox_115 rfl).trans ?_
        refine (R_icmp 121 dX0_tryLastBox_117 rfl).trans (c_le (fun h6 => ?_) (fun h6 => ?_))
        · exact R_return dX0_tryLastBox_120 rfl
        · refine (R_aload_n dX0_tryLastBox_121 rfl (by decide)).trans ?_
          refine (R_iload dX0_tryLastBox_122 rfl).trans ?_
          refine (R_iload_n dX0_tryLastBox_124 rfl).trans ?_
          refine (R_iload_n dX0_tryLastBox_125 rfl).trans ?_
          refine (R_iload_n dX0_tryLastBox_126 rfl).trans ?_
          refine (R_iload dX0_tryLastBox_127 rfl).trans ?_
          refine (R_cs_i (as := [vi (l3 + 1), vi l4]) (rest := [vi l2, vi l1, vi l9, vr 0 0]) dX0_tryLastBox_129 mt_0_63 (by decide) qp_142 qr_142 (E_X0_tryLastBox_142) (Nat.le_of_ble_eq_true rfl) rfl rfl (Nat.le_of_ble_eq_true rfl)).trans (mm_bind (fun q7 => ?_))
          refine (R_cv_v (as := [vi l9, vi l1, vi l2, vi q7.1]) (rest := []) dX0_tryLastBox_132 mt_0_72 qp_4 qr_4 (E_X0_tryLastBox_4) rfl rfl rfl (Nat.le_of_ble_eq_true rfl)).trans (mm_bind (fun q8 => ?_))
          refine (R_iinc (ls' := [vr 0 0, vi l1, vi l2, vi (l3 + 1), vi l4, vi q3.1, vi q4.1, vi l7, vi l8, vi (l9 + (-1))]) (-1) dX0_tryLastBox_135 rfl iconst_m1 (by decide) rfl).trans ?_
          refine (R_goto 26 dX0_tryLastBox_138 rfl).trans ?_
          exact rfl
    · refine (R_iinc (ls' := [vr 0 0, vi l1, vi l2, vi l3, vi (l4 + 1), vi l5, vi l6, vi l7, vi l8, vi l9]) 1 dX0_tryLastBox_41 rfl iconst_1 (by decide) rfl).trans ?_
      refine (R_iload dX0_tryLastBox_44 rfl).trans ?_
      refine (R_aload_n dX0_tryLastBox_46 rfl (by decide)).trans ?_
      refine (gr_0_9 dX0_tryLastBox_47).trans ?_
      refine (R_iload dX0_tryLastBox_50 rfl).trans ?_
      refine (R_iaload dX0_tryLastBox_52 as_30).trans (ck_congr ?_)
      refine (R_cs_i (as := [vi l7, vi (μ 30 0 (Int32.toNatClampNeg l9))]) (rest := []) dX0_tryLastBox_53 mt_0_63 (by decide) qp_142 qr_142 (E_X0_tryLastBox_142) (Nat.le_of_ble_eq_true rfl) rfl rfl (Nat.le_of_ble_eq_true rfl)).trans (mm_bind (fun q9 => ?_))
      refine (R_istore (ls' := [vr 0 0, vi l1, vi l2, vi l3, vi (l4 + 1), vi l5, vi l6, vi q9.1, vi l8, vi l9]) dX0_tryLastBox_56 (Nat.le_of_ble_eq_true rfl) (by decide) rfl).trans ?_
      refine (R_iload dX0_tryLastBox_58 rfl).trans ?_
      refine (R_aload_n dX0_tryLastBox_60 rfl (by decide)).trans ?_
      refine (gr_0_9 dX0_tryLastBox_61).trans ?_
      refine (R_iload dX0_tryLastBox_64 rfl).trans ?_
      refine (R_iaload dX0_tryLastBox_66 as_30).trans (ck_congr ?_)
      refine (R_cs_i (as := [vi l8, vi (q9.2 30 0 (Int32.toNatClampNeg l9))]) (rest := []) dX0_tryLastBox_67 mt_0_69 (by decide) qp_141 qr_141 (E_X0_tryLastBox_141) (Nat.le_of_ble_eq_true rfl) rfl rfl (Nat.le_of_ble_eq_true rfl)).trans (mm_bind (fun q10 => ?_))
      refine (R_istore (ls' := [vr 0 0, vi l1, vi l2, vi l3, vi (l4 + 1), vi l5, vi l6, vi q9.1, vi q10.1, vi l9]) dX0_tryLastBox_70 (Nat.le_of_ble_eq_true rfl) (by decide) rfl).trans ?_
      refine (R_goto 106 dX0_tryLastBox_72 rfl).trans ?_
      refine (R_iload dX0_tryLastBox_106 rfl).trans ?_
      refine (R_iload dX0_tryLastBox_108 rfl).trans ?_
      refine (R_icmp 120 dX0_tryLastBox_110 rfl).trans (c_gt (fun h11 => ?_) (fun h11 => ?_))
      · exact R_return dX0_tryLastBox_120 rfl
      · refine (R_iload dX0_tryLastBox_113 rfl).trans ?_
        refine (R_iload dX0_tryLastBox_115 rfl).trans ?_
        refine (R_icmp 121 dX0_tryLastBox_117 rfl).trans (c_le (fun h12 => ?_) (fun h12 => ?_))
        · exact R_return dX0_tryLastBox_120 rfl
        · refine (R_aload_n dX0_tryLastBox_121 rfl (by decide)).trans ?_
          refine (R_iload dX0_tryLastBox_122 rfl).trans ?_
          refine (R_iload_n dX0_tryLastBox_124 rfl).trans ?_
          refine (R_iload_n dX0_tryLastBox_125 rfl).trans ?_
          refine (R_iload_n dX0_tryLastBox_126 rfl).trans ?_
          refine (R_iload dX0_tryLastBox_127 rfl).trans ?_
          refine (R_cs_i (as := [vi l3, vi (l4 + 1)]) (rest := [vi l2, vi l1, vi l9, vr 0 0]) dX0_tryLastBox_129 mt_0_63 (by decide) qp_142 qr_142 (E_X0_tryLastBox_142) (Nat.le_of_ble_eq_true rfl) rfl rfl (Nat.le_of_ble_eq_true rfl)).trans (mm_bind (fun q13 => ?_))
          refine (R_cv_v (as := [vi l9, vi l1, vi l2, vi q13.1]) (rest := []) dX0_tryLastBox_132 mt_0_72 qp_4 qr_4 (E_X0_tryLastBox_4) rfl rfl rfl (Nat.le_of_ble_eq_true rfl)).trans (mm_bind (fun q14 => ?_))
          refine (R_iinc (ls' := [vr 0 0, vi l1, vi l2, vi l3, vi (l4 + 1), vi l5, vi l6, vi q9.1, vi q10.1, vi (l9 + (-1))]) (-1) dX0_tryLastBox_135 rfl iconst_m1 (by decide) rfl).trans ?_
          refine (R_goto 26 dX0_tryLastBox_138 rfl).trans ?_
          exact rfl
noncomputable def E_X1_seek : mE := fun k => if k = 6 then f_X1_seekFrom else fun _ _ => none
theorem E_X1_seek_6 : E_X1_seek 6 = f_X1_seekFrom := if_pos rfl
noncomputable def f_X1_seek : List mV → mM → Option mR := mm_fn E_X1_seek 1 0 3 cX1_seek
theorem k_X1_seek (l : Launch) : mm_OK l 5 f_X1_seek := mm_fn_ok l 5 1 E_X1_seek (by decide) rfl (by decide) (by
  intro k as μ q h
  by_cases h0 : k = 6
  · subst h0
    exact ⟨by rw [E_X1_seek_6]; exact k_X1_seekFrom l, by decide, by decide, by decide⟩
  have e : E_X1_seek k = fun _ _ => none := (if_neg h0).trans (rfl)
  rw [e] at h
  cases h)
noncomputable def r_X1_seek_7 (l2 : Int32) (μ : mM) : Option mR := mm_run E_X1_seek 1 0 cX1_seek (7, [vr 1 0, vr 5 0, vi l2], [], μ)
set_option maxRecDepth 100000 in
set_option maxHeartbeats 4000000 in
theorem e_X1_seek (μ : mM) : f_X1_seek [vr 1 0, vr 5 0] μ = (wr (mm_up μ 1 0 4 0) (fun m1 => r_X1_seek_7 0 m1)) := by
  refine (show f_X1_seek [vr 1 0, vr 5 0] μ = mm_run E_X1_seek 1 0 cX1_seek (0, [vr 1 0, vr 5 0, vu], [], μ) from rfl).trans ?_
  refine (R_aload_n dX1_seek_0 rfl (by decide)).trans ?_
  refine (R_iconst 0 dX1_seek_1 iconst_0).trans ?_
  refine (R_pi dX1_seek_2 ft_1_22 fs_1_4).trans ?_
  refine wr_intro (g := fun m => mm_run E_X1_seek 1 0 cX1_seek (5, [vr 1 0, vr 5 0, vu], [], m)) (fun m1 => ?_)
  refine (R_iconst 0 dX1_seek_5 iconst_0).trans ?_
  refine (R_istore_n (ls' := [vr 1 0, vr 5 0, vi 0]) dX1_seek_6 (Nat.le_of_ble_eq_true rfl) (by decide) rfl).trans ?_
  exact rfl
set_option maxRecDepth 100000 in
set_option maxHeartbeats 4000000 in
theorem e_X1_seek_7 (l2 : Int32) (μ : mM) : r_X1_seek_7 l2 μ = (if l2 < μ 5 0 8 then (ck 24 l2 (Option.bind (f_X1_seekFrom [vr 1 0, vr 5 0, vi (μ 21 0 (Int32.toNatClampNeg l2))] μ) (fun q2 => r_X1_seek_7 (l2 + 1) q2.2))) else some (0, μ)) := by
  refine (show r_X1_seek_7 l2 μ = mm_run E_X1_seek 1 0 cX1_seek (7, [vr 1 0, vr 5 0, vi l2], [], μ) from rfl).trans ?_
  refine (R_iload_n dX1_seek_7 rfl).trans ?_
  refine (R_aload_n dX1_seek_8 rfl (by decide)).trans ?_
  refine (gi_1_25 dX1_seek_9).trans ?_
  refine (R_icmp 32 dX1_seek_12 rfl).trans (c_ge (fun h1 => ?_) (fun h1 => ?_))
  · refine (R_aload_n dX1_seek_15 rfl (by decide)).trans ?_
    refine (R_aload_n dX1_seek_16 rfl (by decide)).trans ?_
    refine (R_aload_n dX1_seek_17 rfl (by decide)).trans ?_
    refine (gr_1_28 dX1_seek_18).trans ?_
    refine (R_iload_n dX1_seek_21 rfl).trans ?_
    refine (R_iaload dX1_seek_22 as_21).trans (ck_congr ?_)
    refine (R_cv_v (as := [vr 5 0, vi (μ 21 0 (Int32.toNatClampNeg l2))]) (rest := []) dX1_seek_23 mt_1_32 qp_6 qr_6 (E_X1_seek_6) rfl rfl rfl (Nat.le_of_ble_eq_true rfl)).trans (mm_bind (fun q2 => ?_))
    refine (R_iinc (ls' := [vr 1 0, vr 5 0, vi (l2 + 1)]) 1 dX1_seek_26 rfl iconst_1 (by decide) rfl).trans ?_
    refine (R_goto 7 dX1_seek_29 rfl).trans ?_
    exact rfl
  · exact R_return dX1_seek_32 rfl
noncomputable def E_X4_narrow : mE := fun k => if k = 13 then f_X4_addRow else if k = 47 then f_X6_begin else if k = 48 then f_X6_end else if k = 14 then f_X4_leaveOnly else if k = 15 then f_X4_cutOut else fun _ _ => none
theorem E_X4_narrow_13 : E_X4_narrow 13 = f_X4_addRow := if_pos rfl
theorem E_X4_narrow_47 : E_X4_narrow 47 = f_X6_begin := (if_neg (by decide)).trans (if_pos rfl)
theorem E_X4_narrow_48 : E_X4_narrow 48 = f_X6_end := (if_neg (by decide)).trans ((if_neg (by decide)).trans (if_pos rfl))
theorem E_X4_narrow_14 : E_X4_narrow 14 = f_X4_leaveOnly := (if_neg (by decide)).trans ((if_neg (by decide)).trans ((if_neg (by decide)).trans (if_pos rfl)))
theorem E_X4_narrow_15 : E_X4_narrow 15 = f_X4_cutOut := (if_neg (by decide)).trans ((if_neg (by decide)).trans ((if_neg (by decide)).trans ((if_neg (by decide)).trans (if_pos rfl))))
noncomputable def f_X4_narrow : List mV → mM → Option mR := mm_fn E_X4_narrow 4 0 3 cX4_narrow
theorem k_X4_narrow (l : Launch) : mm_OK l 12 f_X4_narrow := mm_fn_ok l 12 4 E_X4_narrow (by decide) rfl (by decide) (by
  intro k as μ q h
  by_cases h0 : k = 13
  · subst h0
    exact ⟨by rw [E_X4_narrow_13]; exact k_X4_addRow l, by decide, by decide, by decide⟩
  by_cases h1 : k = 47
  · subst h1
    exact ⟨by rw [E_X4_narrow_47]; exact k_X6_begin l, by decide, by decide, by decide⟩
  by_cases h2 : k = 48
  · subst h2
    exact ⟨by rw [E_X4_narrow_48]; exact k_X6_end l, by decide, by decide, by decide⟩
  by_cases h3 : k = 14
  · subst h3
    exact ⟨by rw [E_X4_narrow_14]; exact k_X4_leaveOnly l, by decide, by decide, by decide⟩
  by_cases h4 : k = 15
  · subst h4
    exact ⟨by rw [E_X4_narrow_15]; exact k_X4_cutOut l, by decide, by decide, by decide⟩
  have e : E_X4_narrow k = fun _ _ => none := (if_neg h0).trans ((if_neg h1).trans ((if_neg h2).trans ((if_neg h3).trans ((if_neg h4).trans (rfl)))))
  rw [e] at h
  cases h)
noncomputable def r_X4_narrow_15 (b : Nat) (l2 : Int32) (μ : mM) : Option mR := mm_run E_X4_narrow 4 0 cX4_narrow (15, [vr 4 0, vr 6 b, vi l2], [], μ)
set_option maxRecDepth 100000 in
set_option maxHeartbeats 4000000 in
theorem e_X4_narrow (b : Nat) (μ : mM) : f_X4_narrow [vr 4 0, vr 6 b] μ = (wr (mm_up μ 4 0 5 0) (fun m1 => (Option.bind (f_X4_addRow [vr 4 0, vi 0, vi 9999] m1) (fun q2 => r_X4_narrow_15 b 0 q2.2)))) := by
  refine (show f_X4_narrow [vr 4 0, vr 6 b] μ = mm_run E_X4_narrow 4 0 cX4_narrow (0, [vr 4 0, vr 6 b, vu], [], μ) from rfl).trans ?_
  refine (R_aload_n dX4_narrow_0 rfl (by decide)).trans ?_
  refine (R_iconst 0 dX4_narrow_1 iconst_0).trans ?_
  refine (R_pi dX4_narrow_2 ft_4_29 fs_4_5).trans ?_
  refine wr_intro (g := fun m => mm_run E_X4_narrow 4 0 cX4_narrow (5, [vr 4 0, vr 6 b, vu], [], m)) (fun m1 => ?_)
  refine (R_aload_n dX4_narrow_5 rfl (by decide)).trans ?_
  refine (R_iconst 0 dX4_narrow_6 iconst_0).trans ?_
  refine (R_sipush 9999 dX4_narrow_7 sipush_9999).trans ?_
  refine (R_cv_v (as := [vi 0, vi 9999]) (rest := []) dX4_narrow_10 mt_4_33 qp_13 qr_13 (E_X4_narrow_13) rfl rfl rfl (Nat.le_of_ble_eq_true rfl)).trans (mm_bind (fun q2 => ?_))
  refine (R_iconst 0 dX4_narrow_13 iconst_0).trans ?_
  refine (R_istore_n (ls' := [vr 4 0, vr 6 b, vi 0]) dX4_narrow_14 (Nat.le_of_ble_eq_true rfl) (by decide) rfl).trans ?_
  exact rfl
set_option maxRecDepth 100000 in
set_option maxHeartbeats 4000000 in
theorem e_X4_narrow_15 (b : Nat) (l2 : Int32) (μ : mM) : r_X4_narrow_15 b l2 μ = (if l2 < μ 4 0 4 then (ck 6 l2 (if μ 41 0 (Int32.toNatClampNeg l2) = 0 then (ck 6 l2 (Option.bind (f_X6_begin [vr 6 b, vi (μ 40 0 (Int32.toNatClampNeg l2))] μ) (fun q3 => (ck 6 l2 (Option.bind (f_X6_end [vr 6 b, vi (q3.2 40 0 (Int32.toNatClampNeg l2))] q3.2) (fun q4 => (Option.bind (f_X4_cutOut [vr 4 0, vi q3.1, vi q4.1] q4.2) (fun q5 => r_X4_narrow_15 b (l2 + 1) q5.2)))))))) else (ck 6 l2 (Option.bind (f_X6_begin [vr 6 b, vi (μ 40 0 (Int32.toNatClampNeg l2))] μ) (fun q6 => (ck 6 l2 (Option.bind (f_X6_end [vr 6 b, vi (q6.2 40 0 (Int32.toNatClampNeg l2))] q6.2) (fun q7 => (Option.bind (f_X4_leaveOnly [vr 4 0, vi q6.1, vi q7.1] q7.2) (fun q8 => r_X4_narrow_15 b (l2 + 1) q8.2)))))))))) else some (0, μ)) := by
  refine (show r_X4_narrow_15 b l2 μ = mm_run E_X4_narrow 4 0 cX4_narrow (15, [vr 4 0, vr 6 b, vi l2], [], μ) from rfl).trans ?_
  refine (R_iload_n dX4_narrow_15 rfl).trans ?_
  refine (R_aload_n dX4_narrow_16 rfl (by decide)).trans ?_
  refine (gi_4_25 dX4_narrow_17).trans ?_
  refine (R_icmp 89 dX4_narrow_20 rfl).trans (c_ge (fun h1 => ?_) (fun h1 => ?_))
  · refine (R_aload_n dX4_narrow_23 rfl (by decide)).trans ?_
    refine (gr_4_15 dX4_narrow_24).trans ?_
    refine (R_iload_n dX4_narrow_27 rfl).trans ?_
    refine (R_baload dX4_narrow_28 as_41).trans (ck_congr ?_)
    refine (R_ifc 59 dX4_narrow_29 rfl).trans (c_eq (fun h2 => ?_) (fun h2 => ?_))
    · refine (R_aload_n dX4_narrow_59 rfl (by decide)).trans ?_
      refine (R_aload_n dX4_narrow_60 rfl (by decide)).trans ?_
      refine (R_aload_n dX4_narrow_61 rfl (by decide)).trans ?_
      refine (gr_4_9 dX4_narrow_62).trans ?_
      refine (R_iload_n dX4_narrow_65 rfl).trans ?_
      refine (R_iaload dX4_narrow_66 as_40).trans (ck_congr ?_)
      refine (R_cv_i (as := [vi (μ 40 0 (Int32.toNatClampNeg l2))]) (rest := [vr 4 0]) dX4_narrow_67 mt_4_37 qp_47 qr_47 (E_X4_narrow_47) rfl rfl rfl (Nat.le_of_ble_eq_true rfl)).trans (mm_bind (fun q3 => ?_))
      refine (R_aload_n dX4_narrow_70 rfl (by decide)).trans ?_
      refine (R_aload_n dX4_narrow_71 rfl (by decide)).trans ?_
      refine (gr_4_9 dX4_narrow_72).trans ?_
      refine (R_iload_n dX4_narrow_75 rfl).trans ?_
      refine (R_iaload dX4_narrow_76 as_40).trans (ck_congr ?_)
      refine (R_cv_i (as := [vi (q3.2 40 0 (Int32.toNatClampNeg l2))]) (rest := [vi q3.1, vr 4 0]) dX4_narrow_77 mt_4_43 qp_48 qr_48 (E_X4_narrow_48) rfl rfl rfl (Nat.le_of_ble_eq_true rfl)).trans (mm_bind (fun q4 => ?_))
      refine (R_cv_v (as := [vi q3.1, vi q4.1]) (rest := []) dX4_narrow_80 mt_4_49 qp_15 qr_15 (E_X4_narrow_15) rfl rfl rfl (Nat.le_of_ble_eq_true rfl)).trans (mm_bind (fun q5 => ?_))
      refine (R_iinc (ls' := [vr 4 0, vr 6 b, vi (l2 + 1)]) 1 dX4_narrow_83 rfl iconst_1 (by decide) rfl).trans ?_
      refine (R_goto 15 dX4_narrow_86 rfl).trans ?_
      exact rfl
    · refine (R_aload_n dX4_narrow_32 rfl (by decide)).trans ?_
      refine (R_aload_n dX4_narrow_33 rfl (by decide)).trans ?_
      refine (R_aload_n dX4_narrow_34 rfl (by decide)).trans ?_
      refine (gr_4_9 dX4_narrow_35).trans ?_
      refine (R_iload_n dX4_narrow_38 rfl).trans ?_
      refine (R_iaload dX4_narrow_39 as_40).trans (ck_congr ?_)
      refine (R_cv_i (as := [vi (μ 40 0 (Int32.toNatClampNeg l2))]) (rest := [vr 4 0]) dX4_narrow_40 mt_4_37 qp_47 qr_47 (E_X4_narrow_47) rfl rfl rfl (Nat.le_of_ble_eq_true rfl)).trans (mm_bind (fun q6 => ?_))
      refine (R_aload_n dX4_narrow_43 rfl (by decide)).trans ?_
      refine (R_aload_n dX4_narrow_44 rfl (by decide)).trans ?_
      refine (gr_4_9 dX4_narrow_45).trans ?_
      refine (R_iload_n dX4_narrow_48 rfl).trans ?_
      refine (R_iaload dX4_narrow_49 as_40).trans (ck_congr ?_)
      refine (R_cv_i (as := [vi (q6.2 40 0 (Int32.toNatClampNeg l2))]) (rest := [vi q6.1, vr 4 0]) dX4_narrow_50 mt_4_43 qp_48 qr_48 (E_X4_narrow_48) rfl rfl rfl (Nat.le_of_ble_eq_true rfl)).trans (mm_bind (fun q7 => ?_))
      refine (R_cv_v (as := [vi q6.1, vi q7.1]) (rest := []) dX4_narrow_53 mt_4_46 qp_14 qr_14 (E_X4_narrow_14) rfl rfl rfl (Nat.le_of_ble_eq_true rfl)).trans (mm_bind (fun q8 => ?_))
      refine (R_goto 83 dX4_narrow_56 rfl).trans ?_
      refine (R_iinc (ls' := [vr 4 0, vr 6 b, vi (l2 + 1)]) 1 dX4_narrow_83 rfl iconst_1 (by decide) rfl).trans ?_
      refine (R_goto 15 dX4_narrow_86 rfl).trans ?_
      exact rfl
  · exact R_return dX4_narrow_89 rfl
noncomputable def E_X4_count : mE := fun k => if k = 17 then f_X4_countWithin else fun _ _ => none
theorem E_X4_count_17 : E_X4_count 17 = f_X4_countWithin := if_pos rfl
noncomputable def f_X4_count : List mV → mM → Option mR := mm_fn E_X4_count 4 1 1 cX4_count
theorem k_X4_count (l : Launch) : mm_OK l 16 f_X4_count := mm_fn_ok l 16 4 E_X4_count (by decide) rfl (by decide) (by
  intro k as μ q h
  by_cases h0 : k = 17
  · subst h0
    exact ⟨by rw [E_X4_count_17]; exact k_X4_countWithin l, by decide, by decide, by decide⟩
  have e : E_X4_count k = fun _ _ => none := (if_neg h0).trans (rfl)
  rw [e] at h
  cases h)
set_option maxRecDepth 100000 in
set_option maxHeartbeats 4000000 in
theorem e_X4_count (μ : mM) : f_X4_count [vr 4 0] μ = (Option.bind (f_X4_countWithin [vr 4 0, vi 0, vi 9999] μ) (fun q1 => some (q1.1, q1.2))) := by
  refine (show f_X4_count [vr 4 0] μ = mm_run E_X4_count 4 1 cX4_count (0, [vr 4 0], [], μ) from rfl).trans ?_
  refine (R_aload_n dX4_count_0 rfl (by decide)).trans ?_
  refine (R_iconst 0 dX4_count_1 iconst_0).trans ?_
  refine (R_sipush 9999 dX4_count_2 sipush_9999).trans ?_
  refine (R_cv_i (as := [vi 0, vi 9999]) (rest := []) dX4_count_5 mt_4_61 qp_17 qr_17 (E_X4_count_17) rfl rfl rfl (Nat.le_of_ble_eq_true rfl)).trans (mm_bind (fun q1 => ?_))
  exact R_ireturn dX4_count_8 rfl
noncomputable def E_X5_read : mE := fun k => if k = 78 then f_X7_sizeOf else if k = 47 then f_X6_begin else if k = 48 then f_X6_end else if k = 22 then f_X5_addShaft else if k = 24 then f_X5_addBore else fun _ _ => none
theorem E_X5_read_78 : E_X5_read 78 = f_X7_sizeOf := if_pos rfl
theorem E_X5_read_47 : E_X5_read 47 = f_X6_begin := (if_neg (by decide)).trans (if_pos rfl)
theorem E_X5_read_48 : E_X5_read 48 = f_X6_end := (if_neg (by decide)).trans ((if_neg (by decide)).trans (if_pos rfl))
theorem E_X5_read_22 : E_X5_read 22 = f_X5_addShaft := (if_neg (by decide)).trans ((if_neg (by decide)).trans ((if_neg (by decide)).trans (if_pos rfl)))
theorem E_X5_read_24 : E_X5_read 24 = f_X5_addBore := (if_neg (by decide)).trans ((if_neg (by decide)).trans ((if_neg (by decide)).trans ((if_neg (by decide)).trans (if_pos rfl))))
noncomputable def f_X5_read : List mV → mM → Option mR := mm_fn E_X5_read 5 0 4 cX5_read
theorem k_X5_read (l : Launch) : mm_OK l 21 f_X5_read := mm_fn_ok l 21 5 E_X5_read (by decide) rfl (by decide) (by
  intro k as μ q h
  by_cases h0 : k = 78
  · subst h0
    exact ⟨by rw [E_X5_read_78]; exact k_X7_sizeOf l, by decide, by decide, by decide⟩
  by_cases h1 : k = 47
  · subst h1
    exact ⟨by rw [E_X5_read_47]; exact k_X6_begin l, by decide, by decide, by decide⟩
  by_cases h2 : k = 48
  · subst h2
    exact ⟨by rw [E_X5_read_48]; exact k_X6_end l, by decide, by decide, by decide⟩
  by_cases h3 : k = 22
  · subst h3
    exact ⟨by rw [E_X5_read_22]; exact k_X5_addShaft l, by decide, by decide, by decide⟩
  by_cases h4 : k = 24
  · subst h4
    exact ⟨by rw [E_X5_read_24]; exact k_X5_addBore l, by decide, by decide, by decide⟩
  have e : E_X5_read k = fun _ _ => none := (if_neg h0).trans ((if_neg h1).trans ((if_neg h2).trans ((if_neg h3).trans ((if_neg h4).trans (rfl)))))
  rw [e] at h
  cases h)
noncomputable def r_X5_read_7 (b : Nat) (l2 : Int32) (x3 : mV) (μ : mM) : Option mR := mm_run E_X5_read 5 0 cX5_read (7, [vr 5 0, vr 6 b, vi l2, x3], [], μ)
noncomputable def r_X5_read_53 (b : Nat) (l2 : Int32) (x3 : mV) (μ : mM) : Option mR := mm_run E_X5_read 5 0 cX5_read (53, [vr 5 0, vr 6 b, vi l2, x3], [], μ)
set_option maxRecDepth 100000 in
set_option maxHeartbeats 4000000 in
theorem e_X5_read (b : Nat) (μ : mM) : f_X5_read [vr 5 0, vr 6 b] μ = (wr (mm_up μ 5 0 8 0) (fun m1 => r_X5_read_7 b 0 vu m1)) := by
  refine (show f_X5_read [vr 5 0, vr 6 b] μ = mm_run E_X5_read 5 0 cX5_read (0, [vr 5 0, vr 6 b, vu, vu], [], μ) from rfl).trans ?_
  refine (R_aload_n dX5_read_0 rfl (by decide)).trans ?_
  refine (R_iconst 0 dX5_read_1 iconst_0).trans ?_
  refine (R_pi dX5_read_2 ft_5_36 fs_5_8).trans ?_
  refine wr_intro (g := fun m => mm_run E_X5_read 5 0 cX5_read (5, [vr 5 0, vr 6 b, vu, vu], [], m)) (fun m1 => ?_)
  refine (R_iconst 0 dX5_read_5 iconst_0).trans ?_
  refine (R_istore_n (ls' := [vr 5 0, vr 6 b, vi 0, vu]) dX5_read_6 (Nat.le_of_ble_eq_true rfl) (by decide) rfl).trans ?_
  exact rfl
set_option maxRecDepth 100000 in
set_option maxHeartbeats 4000000 in
theorem e_X5_read_7 (b : Nat) (l2 : Int32) (x3 : mV) (μ : mM) : r_X5_read_7 b l2 x3 μ = (if l2 < μ 6 b 6 then (ck 24 l2 (Option.bind (f_X7_sizeOf [vi (μ 10 b (Int32.toNatClampNeg l2))] μ) (fun q2 => (Option.bind (f_X6_begin [vr 6 b, vi (μ 10 b (Int32.toNatClampNeg l2))] q2.2) (fun q3 => (Option.bind (f_X6_end [vr 6 b, vi (μ 10 b (Int32.toNatClampNeg l2))] q3.2) (fun q4 => (Option.bind (f_X5_addShaft [vr 5 0, vi q2.1, vi q3.1, vi q4.1] q4.2) (fun q5 => r_X5_read_7 b (l2 + 1) (vi (μ 10 b (Int32.toNatClampNeg l2))) q5.2))))))))) else (wr (mm_up μ 5 0 9 0) (fun m6 => r_X5_read_53 b 0 x3 m6))) := by
  refine (show r_X5_read_7 b l2 x3 μ = mm_run E_X5_read 5 0 cX5_read (7, [vr 5 0, vr 6 b, vi l2, x3], [], μ) from rfl).trans ?_
  refine (R_iload_n dX5_read_7 rfl).trans ?_
  refine (R_aload_n dX5_read_8 rfl (by decide)).trans ?_
  refine (gi_5_43 dX5_read_9).trans ?_
  refine (R_icmp 46 dX5_read_12 rfl).trans (c_ge (fun h1 => ?_) (fun h1 => ?_))
  · refine (R_aload_n dX5_read_15 rfl (by decide)).trans ?_
    refine (gr_5_48 dX5_read_16).trans ?_
    refine (R_iload_n dX5_read_19 rfl).trans ?_
    refine (R_iaload dX5_read_20 as_10).trans (ck_congr ?_)
    refine (R_istore_n (ls' := [vr 5 0, vr 6 b, vi l2, vi (μ 10 b (Int32.toNatClampNeg l2))]) dX5_read_21 (Nat.le_of_ble_eq_true rfl) (by decide) rfl).trans ?_
    refine (R_aload_n dX5_read_22 rfl (by decide)).trans ?_
    refine (R_iload_n dX5_read_23 rfl).trans ?_
    refine (R_cs_i (as := [vi (μ 10 b (Int32.toNatClampNeg l2))]) (rest := [vr 5 0]) dX5_read_24 mt_5_50 (by decide) qp_78 qr_78 (E_X5_read_78) (Nat.le_of_ble_eq_true rfl) rfl rfl (Nat.le_of_ble_eq_true rfl)).trans (mm_bind (fun q2 => ?_))
    refine (R_aload_n dX5_read_27 rfl (by decide)).trans ?_
    refine (R_iload_n dX5_read_28 rfl).trans ?_
    refine (R_cv_i (as := [vi (μ 10 b (Int32.toNatClampNeg l2))]) (rest := [vi q2.1, vr 5 0]) dX5_read_29 mt_5_54 qp_47 qr_47 (E_X5_read_47) rfl rfl rfl (Nat.le_of_ble_eq_true rfl)).trans (mm_bind (fun q3 => ?_))
    refine (R_aload_n dX5_read_32 rfl (by decide)).trans ?_
    refine (R_iload_n dX5_read_33 rfl).trans ?_
    refine (R_cv_i (as := [vi (μ 10 b (Int32.toNatClampNeg l2))]) (rest := [vi q3.1, vi q2.1, vr 5 0]) dX5_read_34 mt_5_56 qp_48 qr_48 (E_X5_read_48) rfl rfl rfl (Nat.le_of_ble_eq_true rfl)).trans (mm_bind (fun q4 => ?_))
    refine (R_cv_v (as := [vi q2.1, vi q3.1, vi q4.1]) (rest := []) dX5_read_37 mt_5_58 qp_22 qr_22 (E_X5_read_22) rfl rfl rfl (Nat.le_of_ble_eq_true rfl)).trans (mm_bind (fun q5 => ?_))
    refine (R_iinc (ls' := [vr 5 0, vr 6 b, vi (l2 + 1), vi (μ 10 b (Int32.toNatClampNeg l2))]) 1 dX5_read_40 rfl iconst_1 (by decide) rfl).trans ?_
    refine (R_goto 7 dX5_read_43 rfl).trans ?_
    exact rfl
  · refine (R_aload_n dX5_read_46 rfl (by decide)).trans ?_
    refine (R_iconst 0 dX5_read_47 iconst_0).trans ?_
    refine (R_pi dX5_read_48 ft_5_40 fs_5_9).trans ?_
    refine wr_intro (g := fun m => mm_run E_X5_read 5 0 cX5_read (51, [vr 5 0, vr 6 b, vi l2, x3], [], m)) (fun m6 => ?_)
    refine (R_iconst 0 dX5_read_51 iconst_0).trans ?_
    refine (R_istore_n (ls' := [vr 5 0, vr 6 b, vi 0, x3]) dX5_read_52 (Nat.le_of_ble_eq_true rfl) (by decide) rfl).trans ?_
    exact rfl
set_option maxRecDepth 100000 in
set_option maxHeartbeats 4000000 in
theorem e_X5_read_53 (b : Nat) (l2 : Int32) (x3 : mV) (μ : mM) : r_X5_read_53 b l2 x3 μ = (if l2 < μ 6 b 7 then (ck 24 l2 (Option.bind (f_X7_sizeOf [vi (μ 11 b (Int32.toNatClampNeg l2))] μ) (fun q2 => (Option.bind (f_X5_addBore [vr 5 0, vi q2.1] q2.2) (fun q3 => r_X5_read_53 b (l2 + 1) x3 q3.2))))) else some (0, μ)) := by
  refine (show r_X5_read_53 b l2 x3 μ = mm_run E_X5_read 5 0 cX5_read (53, [vr 5 0, vr 6 b, vi l2, x3], [], μ) from rfl).trans ?_
  refine (R_iload_n dX5_read_53 rfl).trans ?_
  refine (R_aload_n dX5_read_54 rfl (by decide)).trans ?_
  refine (gi_5_62 dX5_read_55).trans ?_
  refine (R_icmp 80 dX5_read_58 rfl).trans (c_ge (fun h1 => ?_) (fun h1 => ?_))
  · refine (R_aload_n dX5_read_61 rfl (by decide)).trans ?_
    refine (R_aload_n dX5_read_62 rfl (by decide)).trans ?_
    refine (gr_5_65 dX5_read_63).trans ?_
    refine (R_iload_n dX5_read_66 rfl).trans ?_
    refine (R_iaload dX5_read_67 as_11).trans (ck_congr ?_)
    refine (R_cs_i (as := [vi (μ 11 b (Int32.toNatClampNeg l2))]) (rest := [vr 5 0]) dX5_read_68 mt_5_50 (by decide) qp_78 qr_78 (E_X5_read_78) (Nat.le_of_ble_eq_true rfl) rfl rfl (Nat.le_of_ble_eq_true rfl)).trans (mm_bind (fun q2 => ?_))
    refine (R_cv_v (as := [vi q2.1]) (rest := []) dX5_read_71 mt_5_67 qp_24 qr_24 (E_X5_read_24) rfl rfl rfl (Nat.le_of_ble_eq_true rfl)).trans (mm_bind (fun q3 => ?_))
    refine (R_iinc (ls' := [vr 5 0, vr 6 b, vi (l2 + 1), x3]) 1 dX5_read_74 rfl iconst_1 (by decide) rfl).trans ?_
    refine (R_goto 53 dX5_read_77 rfl).trans ?_
    exact rfl
  · exact R_return dX5_read_80 rfl
noncomputable def E_X5_ease : mE := fun k => if k = 26 then f_X5_pair else fun _ _ => none
theorem E_X5_ease_26 : E_X5_ease 26 = f_X5_pair := if_pos rfl
noncomputable def f_X5_ease : List mV → mM → Option mR := mm_fn E_X5_ease 5 1 4 cX5_ease
theorem k_X5_ease (l : Launch) : mm_OK l 31 f_X5_ease := mm_fn_ok l 31 5 E_X5_ease (by decide) rfl (by decide) (by
  intro k as μ q h
  by_cases h0 : k = 26
  · subst h0
    exact ⟨by rw [E_X5_ease_26]; exact k_X5_pair l, by decide, by decide, by decide⟩
  have e : E_X5_ease k = fun _ _ => none := (if_neg h0).trans (rfl)
  rw [e] at h
  cases h)
noncomputable def r_X5_ease_6 (l1 : Int32) (l2 : Int32) (x3 : mV) (μ : mM) : Option mR := mm_run E_X5_ease 5 1 cX5_ease (6, [vr 5 0, vi l1, vi l2, x3], [], μ)
set_option maxRecDepth 100000 in
set_option maxHeartbeats 4000000 in
theorem e_X5_ease (μ : mM) : f_X5_ease [vr 5 0] μ = r_X5_ease_6 (-1) 512 vu μ := by
  refine (show f_X5_ease [vr 5 0] μ = mm_run E_X5_ease 5 1 cX5_ease (0, [vr 5 0, vu, vu, vu], [], μ) from rfl).trans ?_
  refine (R_iconst (-1) dX5_ease_0 iconst_m1).trans ?_
  refine (R_istore_n (ls' := [vr 5 0, vi (-1), vu, vu]) dX5_ease_1 (Nat.le_of_ble_eq_true rfl) (by decide) rfl).trans ?_
  refine (R_sipush 512 dX5_ease_2 sipush_512).trans ?_
  refine (R_istore_n (ls' := [vr 5 0, vi (-1), vi 512, vu]) dX5_ease_5 (Nat.le_of_ble_eq_true rfl) (by decide) rfl).trans ?_
  exact rfl
set_option maxRecDepth 100000 in
set_option maxHeartbeats 4000000 in
theorem e_X5_ease_6 (l1 : Int32) (l2 : Int32) (x3 : mV) (μ : mM) : r_X5_ease_6 l1 l2 x3 μ = (if 0 < l2 then (if l1 + l2 < 1000 then (Option.bind (f_X5_pair [vr 5 0, vi (l1 + l2)] μ) (fun q3 => (if q3.1 < q3.2 5 0 8 then r_X5_ease_6 (l1 + l2) (l2 / 2) (vi (l1 + l2)) q3.2 else r_X5_ease_6 l1 (l2 / 2) (vi (l1 + l2)) q3.2))) else r_X5_ease_6 l1 (l2 / 2) (vi (l1 + l2)) μ) else (if l1 + 1 < 1000 then some (l1 + 1, μ) else some ((-1), μ))) := by
  refine (show r_X5_ease_6 l1 l2 x3 μ = mm_run E_X5_ease 5 1 cX5_ease (6, [vr 5 0, vi l1, vi l2, x3], [], μ) from rfl).trans ?_
  refine (R_iload_n dX5_ease_6 rfl).trans ?_
  refine (R_ifc 42 dX5_ease_7 rfl).trans (c_le (fun h1 => ?_) (fun h1 => ?_))
  · refine (R_iload_n dX5_ease_10 rfl).trans ?_
    refine (R_iload_n dX5_ease_11 rfl).trans ?_
    refine (R_iadd dX5_ease_12).trans ?_
    refine (R_istore_n (ls' := [vr 5 0, vi l1, vi l2, vi (l1 + l2)]) dX5_ease_13 (Nat.le_of_ble_eq_true rfl) (by decide) rfl).trans ?_
    refine (R_iload_n dX5_ease_14 rfl).trans ?_
    refine (R_sipush 1000 dX5_ease_15 sipush_1000).trans ?_
    refine (R_icmp 35 dX5_ease_18 rfl).trans (c_ge (fun h2 => ?_) (fun h2 => ?_))
    · refine (R_aload_n dX5_ease_21 rfl (by decide)).trans ?_
      refine (R_iload_n dX5_ease_22 rfl).trans ?_
      refine (R_cv_i (as := [vi (l1 + l2)]) (rest := []) dX5_ease_23 mt_5_82 qp_26 qr_26 (E_X5_ease_26) rfl rfl rfl (Nat.le_of_ble_eq_true rfl)).trans (mm_bind (fun q3 => ?_))
      refine (R_aload_n dX5_ease_26 rfl (by decide)).trans ?_
      refine (gi_5_36 dX5_ease_27).trans ?_
      refine (R_icmp 35 dX5_ease_30 rfl).trans (c_ge (fun h4 => ?_) (fun h4 => ?_))
      · refine (R_iload_n dX5_ease_33 rfl).trans ?_
        refine (R_istore_n (ls' := [vr 5 0, vi (l1 + l2), vi l2, vi (l1 + l2)]) dX5_ease_34 (Nat.le_of_ble_eq_true rfl) (by decide) rfl).trans ?_
        refine (R_iload_n dX5_ease_35 rfl).trans ?_
        refine (R_iconst 2 dX5_ease_36 iconst_2).trans ?_
        refine (R_idiv dX5_ease_37).trans ?_
        refine (if_neg (by decide)).trans ?_
        refine (R_istore_n (ls' := [vr 5 0, vi (l1 + l2), vi (l2 / 2), vi (l1 + l2)]) dX5_ease_38 (Nat.le_of_ble_eq_true rfl) (by decide) rfl).trans ?_
        refine (R_goto 6 dX5_ease_39 rfl).trans ?_
        exact rfl
      · refine (R_iload_n dX5_ease_35 rfl).trans ?_
        refine (R_iconst 2 dX5_ease_36 iconst_2).trans ?_
        refine (R_idiv dX5_ease_37).trans ?_
        refine (if_neg (by decide)).trans ?_
        refine (R_istore_n (ls' := [vr 5 0, vi l1, vi (l2 / 2), vi (l1 + l2)]) dX5_ease_38 (Nat.le_of_ble_eq_true rfl) (by decide) rfl).trans ?_
        refine (R_goto 6 dX5_ease_39 rfl).trans ?_
        exact rfl
    · refine (R_iload_n dX5_ease_35 rfl).trans ?_
      refine (R_iconst 2 dX5_ease_36 iconst_2).trans ?_
      refine (R_idiv dX5_ease_37).trans ?_
      refine (if_neg (by decide)).trans ?_
      refine (R_istore_n (ls' := [vr 5 0, vi l1, vi (l2 / 2), vi (l1 + l2)]) dX5_ease_38 (Nat.le_of_ble_eq_true rfl) (by decide) rfl).trans ?_
      refine (R_goto 6 dX5_ease_39 rfl).trans ?_
      exact rfl
  · refine (R_iload_n dX5_ease_42 rfl).trans ?_
    refine (R_iconst 1 dX5_ease_43 iconst_1).trans ?_
    refine (R_iadd dX5_ease_44).trans ?_
    refine (R_sipush 1000 dX5_ease_45 sipush_1000).trans ?_
    refine (R_icmp 57 dX5_ease_48 rfl).trans (c_ge (fun h5 => ?_) (fun h5 => ?_))
    · refine (R_iload_n dX5_ease_51 rfl).trans ?_
      refine (R_iconst 1 dX5_ease_52 iconst_1).trans ?_
      refine (R_iadd dX5_ease_53).trans ?_
      refine (R_goto 58 dX5_ease_54 rfl).trans ?_
      exact R_ireturn dX5_ease_58 rfl
    · refine (R_iconst (-1) dX5_ease_57 iconst_m1).trans ?_
      exact R_ireturn dX5_ease_58 rfl
