noncomputable def E_X5_sizeOfOneMore : mE := fun k => if k = 26 then f_X5_pair else if k = 33 then f_X5_pairsWith else fun _ _ => none
theorem E_X5_sizeOfOneMore_26 : E_X5_sizeOfOneMore 26 = f_X5_pair := if_pos rfl
theorem E_X5_sizeOfOneMore_33 : E_X5_sizeOfOneMore 33 = f_X5_pairsWith := (if_neg (by decide)).trans (if_pos rfl)
noncomputable def f_X5_sizeOfOneMore : List mV → mM → Option mR := mm_fn E_X5_sizeOfOneMore 5 1 5 cX5_sizeOfOneMore
theorem k_X5_sizeOfOneMore (l : Launch) : mm_OK l 32 f_X5_sizeOfOneMore := mm_fn_ok l 32 5 E_X5_sizeOfOneMore (by decide) rfl (by decide) (by
  intro k as μ q h
  by_cases h0 : k = 26
  · subst h0
    exact ⟨by rw [E_X5_sizeOfOneMore_26]; exact k_X5_pair l, by decide, by decide, by decide⟩
  by_cases h1 : k = 33
  · subst h1
    exact ⟨by rw [E_X5_sizeOfOneMore_33]; exact k_X5_pairsWith l, by decide, by decide, by decide⟩
  have e : E_X5_sizeOfOneMore k = fun _ _ => none := (if_neg h0).trans ((if_neg h1).trans (rfl))
  rw [e] at h
  cases h)
noncomputable def r_X5_sizeOfOneMore_20 (l1 : Int32) (l2 : Int32) (l3 : Int32) (x4 : mV) (μ : mM) : Option mR := mm_run E_X5_sizeOfOneMore 5 1 cX5_sizeOfOneMore (20, [vr 5 0, vi l1, vi l2, vi l3, x4], [], μ)
set_option maxRecDepth 100000 in
set_option maxHeartbeats 4000000 in
theorem e_X5_sizeOfOneMore (μ : mM) : f_X5_sizeOfOneMore [vr 5 0] μ = (Option.bind (f_X5_pair [vr 5 0, vi 0] μ) (fun q1 => (if q1.1 = q1.2 5 0 8 then some ((-1), q1.2) else r_X5_sizeOfOneMore_20 q1.1 (-1) 0 vu q1.2))) := by
  refine (show f_X5_sizeOfOneMore [vr 5 0] μ = mm_run E_X5_sizeOfOneMore 5 1 cX5_sizeOfOneMore (0, [vr 5 0, vu, vu, vu, vu], [], μ) from rfl).trans ?_
  refine (R_aload_n dX5_sizeOfOneMore_0 rfl (by decide)).trans ?_
  refine (R_iconst 0 dX5_sizeOfOneMore_1 iconst_0).trans ?_
  refine (R_cv_i (as := [vi 0]) (rest := []) dX5_sizeOfOneMore_2 mt_5_82 qp_26 qr_26 (E_X5_sizeOfOneMore_26) rfl rfl rfl (Nat.le_of_ble_eq_true rfl)).trans (mm_bind (fun q1 => ?_))
  refine (R_istore_n (ls' := [vr 5 0, vi q1.1, vu, vu, vu]) dX5_sizeOfOneMore_5 (Nat.le_of_ble_eq_true rfl) (by decide) rfl).trans ?_
  refine (R_iconst (-1) dX5_sizeOfOneMore_6 iconst_m1).trans ?_
  refine (R_istore_n (ls' := [vr 5 0, vi q1.1, vi (-1), vu, vu]) dX5_sizeOfOneMore_7 (Nat.le_of_ble_eq_true rfl) (by decide) rfl).trans ?_
  refine (R_iload_n dX5_sizeOfOneMore_8 rfl).trans ?_
  refine (R_aload_n dX5_sizeOfOneMore_9 rfl (by decide)).trans ?_
  refine (gi_5_36 dX5_sizeOfOneMore_10).trans ?_
  refine (R_icmp 18 dX5_sizeOfOneMore_13 rfl).trans (c_ne (fun h2 => ?_) (fun h2 => ?_))
  · refine (R_iconst (-1) dX5_sizeOfOneMore_16 iconst_m1).trans ?_
    exact R_ireturn dX5_sizeOfOneMore_17 rfl
  · refine (R_iconst 0 dX5_sizeOfOneMore_18 iconst_0).trans ?_
    refine (R_istore_n (ls' := [vr 5 0, vi q1.1, vi (-1), vi 0, vu]) dX5_sizeOfOneMore_19 (Nat.le_of_ble_eq_true rfl) (by decide) rfl).trans ?_
    exact rfl
set_option maxRecDepth 100000 in
set_option maxHeartbeats 4000000 in
theorem e_X5_sizeOfOneMore_20 (l1 : Int32) (l2 : Int32) (l3 : Int32) (x4 : mV) (μ : mM) : r_X5_sizeOfOneMore_20 l1 l2 l3 x4 μ = (if l3 < μ 5 0 8 then (ck 24 l3 (if μ 21 0 (Int32.toNatClampNeg l3) < 10000 then (if l2 = (-1) then (ck 24 l3 (Option.bind (f_X5_pairsWith [vr 5 0, vi (μ 21 0 (Int32.toNatClampNeg l3))] μ) (fun q4 => (if l1 < q4.1 then (ck 24 l3 (r_X5_sizeOfOneMore_20 l1 (q4.2 21 0 (Int32.toNatClampNeg l3)) (l3 + 1) (vi 1) q4.2)) else r_X5_sizeOfOneMore_20 l1 l2 (l3 + 1) (vi 1) q4.2)))) else (ck 24 l3 (if μ 21 0 (Int32.toNatClampNeg l3) < l2 then (ck 24 l3 (Option.bind (f_X5_pairsWith [vr 5 0, vi (μ 21 0 (Int32.toNatClampNeg l3))] μ) (fun q7 => (if l1 < q7.1 then (ck 24 l3 (r_X5_sizeOfOneMore_20 l1 (q7.2 21 0 (Int32.toNatClampNeg l3)) (l3 + 1) (vi 1) q7.2)) else r_X5_sizeOfOneMore_20 l1 l2 (l3 + 1) (vi 1) q7.2)))) else r_X5_sizeOfOneMore_20 l1 l2 (l3 + 1) (vi 0) μ))) else r_X5_sizeOfOneMore_20 l1 l2 (l3 + 1) (vi 0) μ)) else some (l2, μ)) := by
  refine (show r_X5_sizeOfOneMore_20 l1 l2 l3 x4 μ = mm_run E_X5_sizeOfOneMore 5 1 cX5_sizeOfOneMore (20, [vr 5 0, vi l1, vi l2, vi l3, x4], [], μ) from rfl).trans ?_
  refine (R_iload_n dX5_sizeOfOneMore_20 rfl).trans ?_
  refine (R_aload_n dX5_sizeOfOneMore_21 rfl (by decide)).trans ?_
  refine (gi_5_36 dX5_sizeOfOneMore_22).trans ?_
  refine (R_icmp 94 dX5_sizeOfOneMore_25 rfl).trans (c_ge (fun h1 => ?_) (fun h1 => ?_))
  · refine (R_aload_n dX5_sizeOfOneMore_28 rfl (by decide)).trans ?_
    refine (gr_5_15 dX5_sizeOfOneMore_29).trans ?_
    refine (R_iload_n dX5_sizeOfOneMore_32 rfl).trans ?_
    refine (R_iaload dX5_sizeOfOneMore_33 as_21).trans (ck_congr ?_)
    refine (R_sipush 10000 dX5_sizeOfOneMore_34 sipush_10000).trans ?_
    refine (R_icmp 59 dX5_sizeOfOneMore_37 rfl).trans (c_ge (fun h2 => ?_) (fun h2 => ?_))
    · refine (R_iload_n dX5_sizeOfOneMore_40 rfl).trans ?_
      refine (R_iconst (-1) dX5_sizeOfOneMore_41 iconst_m1).trans ?_
      refine (R_icmp 55 dX5_sizeOfOneMore_42 rfl).trans (c_eq (fun h3 => ?_) (fun h3 => ?_))
      · refine (R_iconst 1 dX5_sizeOfOneMore_55 iconst_1).trans ?_
        refine (R_goto 60 dX5_sizeOfOneMore_56 rfl).trans ?_
        refine (R_istore (ls' := [vr 5 0, vi l1, vi l2, vi l3, vi 1]) dX5_sizeOfOneMore_60 (Nat.le_of_ble_eq_true rfl) (by decide) rfl).trans ?_
        refine (R_iload dX5_sizeOfOneMore_62 rfl).trans ?_
        refine (R_ifc 88 dX5_sizeOfOneMore_64 rfl).trans ((p_eq_f (by decide)).trans ?_)
        refine (R_aload_n dX5_sizeOfOneMore_67 rfl (by decide)).trans ?_
        refine (R_aload_n dX5_sizeOfOneMore_68 rfl (by decide)).trans ?_
        refine (gr_5_15 dX5_sizeOfOneMore_69).trans ?_
        refine (R_iload_n dX5_sizeOfOneMore_72 rfl).trans ?_
        refine (R_iaload dX5_sizeOfOneMore_73 as_21).trans (ck_congr ?_)
        refine (R_cv_i (as := [vi (μ 21 0 (Int32.toNatClampNeg l3))]) (rest := []) dX5_sizeOfOneMore_74 mt_5_85 qp_33 qr_33 (E_X5_sizeOfOneMore_33) rfl rfl rfl (Nat.le_of_ble_eq_true rfl)).trans (mm_bind (fun q4 => ?_))
        refine (R_iload_n dX5_sizeOfOneMore_77 rfl).trans ?_
        refine (R_icmp 88 dX5_sizeOfOneMore_78 rfl).trans (c_le (fun h5 => ?_) (fun h5 => ?_))
        · refine (R_aload_n dX5_sizeOfOneMore_81 rfl (by decide)).trans ?_
          refine (gr_5_15 dX5_sizeOfOneMore_82).trans ?_
          refine (R_iload_n dX5_sizeOfOneMore_85 rfl).trans ?_
          refine (R_iaload dX5_sizeOfOneMore_86 as_21).trans (ck_congr ?_)
          refine (R_istore_n (ls' := [vr 5 0, vi l1, vi (q4.2 21 0 (Int32.toNatClampNeg l3)), vi l3, vi 1]) dX5_sizeOfOneMore_87 (Nat.le_of_ble_eq_true rfl) (by decide) rfl).trans ?_
          refine (R_iinc (ls' := [vr 5 0, vi l1, vi (q4.2 21 0 (Int32.toNatClampNeg l3)), vi (l3 + 1), vi 1]) 1 dX5_sizeOfOneMore_88 rfl iconst_1 (by decide) rfl).trans ?_
          refine (R_goto 20 dX5_sizeOfOneMore_91 rfl).trans ?_
          exact rfl
        · refine (R_iinc (ls' := [vr 5 0, vi l1, vi l2, vi (l3 + 1), vi 1]) 1 dX5_sizeOfOneMore_88 rfl iconst_1 (by decide) rfl).trans ?_
          refine (R_goto 20 dX5_sizeOfOneMore_91 rfl).trans ?_
          exact rfl
      · refine (R_aload_n dX5_sizeOfOneMore_45 rfl (by decide)).trans ?_
        refine (gr_5_15 dX5_sizeOfOneMore_46).trans ?_
        refine (R_iload_n dX5_sizeOfOneMore_49 rfl).trans ?_
        refine (R_iaload dX5_sizeOfOneMore_50 as_21).trans (ck_congr ?_)
        refine (R_iload_n dX5_sizeOfOneMore_51 rfl).trans ?_
        refine (R_icmp 59 dX5_sizeOfOneMore_52 rfl).trans (c_ge (fun h6 => ?_) (fun h6 => ?_))
        · refine (R_iconst 1 dX5_sizeOfOneMore_55 iconst_1).trans ?_
          refine (R_goto 60 dX5_sizeOfOneMore_56 rfl).trans ?_
          refine (R_istore (ls' := [vr 5 0, vi l1, vi l2, vi l3, vi 1]) dX5_sizeOfOneMore_60 (Nat.le_of_ble_eq_true rfl) (by decide) rfl).trans ?_
          refine (R_iload dX5_sizeOfOneMore_62 rfl).trans ?_
          refine (R_ifc 88 dX5_sizeOfOneMore_64 rfl).trans ((p_eq_f (by decide)).trans ?_)
          refine (R_aload_n dX5_sizeOfOneMore_67 rfl (by decide)).trans ?_
          refine (R_aload_n dX5_sizeOfOneMore_68 rfl (by decide)).trans ?_
          refine (gr_5_15 dX5_sizeOfOneMore_69).trans ?_
          refine (R_iload_n dX5_sizeOfOneMore_72 rfl).trans ?_
          refine (R_iaload dX5_sizeOfOneMore_73 as_21).trans (ck_congr ?_)
          refine (R_cv_i (as := [vi (μ 21 0 (Int32.toNatClampNeg l3))]) (rest := []) dX5_sizeOfOneMore_74 mt_5_85 qp_33 qr_33 (E_X5_sizeOfOneMore_33) rfl rfl rfl (Nat.le_of_ble_eq_true rfl)).trans (mm_bind (fun q7 => ?_))
          refine (R_iload_n dX5_sizeOfOneMore_77 rfl).trans ?_
          refine (R_icmp 88 dX5_sizeOfOneMore_78 rfl).trans (c_le (fun h8 => ?_) (fun h8 => ?_))
          · refine (R_aload_n dX5_sizeOfOneMore_81 rfl (by decide)).trans ?_
            refine (gr_5_15 dX5_sizeOfOneMore_82).trans ?_
            refine (R_iload_n dX5_sizeOfOneMore_85 rfl).trans ?_
            refine (R_iaload dX5_sizeOfOneMore_86 as_21).trans (ck_congr ?_)
            refine (R_istore_n (ls' := [vr 5 0, vi l1, vi (q7.2 21 0 (Int32.toNatClampNeg l3)), vi l3, vi 1]) dX5_sizeOfOneMore_87 (Nat.le_of_ble_eq_true rfl) (by decide) rfl).trans ?_
            refine (R_iinc (ls' := [vr 5 0, vi l1, vi (q7.2 21 0 (Int32.toNatClampNeg l3)), vi (l3 + 1), vi 1]) 1 dX5_sizeOfOneMore_88 rfl iconst_1 (by decide) rfl).trans ?_
            refine (R_goto 20 dX5_sizeOfOneMore_91 rfl).trans ?_
            exact rfl
          · refine (R_iinc (ls' := [vr 5 0, vi l1, vi l2, vi (l3 + 1), vi 1]) 1 dX5_sizeOfOneMore_88 rfl iconst_1 (by decide) rfl).trans ?_
            refine (R_goto 20 dX5_sizeOfOneMore_91 rfl).trans ?_
            exact rfl
        · refine (R_iconst 0 dX5_sizeOfOneMore_59 iconst_0).trans ?_
          refine (R_istore (ls' := [vr 5 0, vi l1, vi l2, vi l3, vi 0]) dX5_sizeOfOneMore_60 (Nat.le_of_ble_eq_true rfl) (by decide) rfl).trans ?_
          refine (R_iload dX5_sizeOfOneMore_62 rfl).trans ?_
          refine (R_ifc 88 dX5_sizeOfOneMore_64 rfl).trans ((p_eq_t (by decide)).trans ?_)
          refine (R_iinc (ls' := [vr 5 0, vi l1, vi l2, vi (l3 + 1), vi 0]) 1 dX5_sizeOfOneMore_88 rfl iconst_1 (by decide) rfl).trans ?_
          refine (R_goto 20 dX5_sizeOfOneMore_91 rfl).trans ?_
          exact rfl
    · refine (R_iconst 0 dX5_sizeOfOneMore_59 iconst_0).trans ?_
      refine (R_istore (ls' := [vr 5 0, vi l1, vi l2, vi l3, vi 0]) dX5_sizeOfOneMore_60 (Nat.le_of_ble_eq_true rfl) (by decide) rfl).trans ?_
      refine (R_iload dX5_sizeOfOneMore_62 rfl).trans ?_
      refine (R_ifc 88 dX5_sizeOfOneMore_64 rfl).trans ((p_eq_t (by decide)).trans ?_)
      refine (R_iinc (ls' := [vr 5 0, vi l1, vi l2, vi (l3 + 1), vi 0]) 1 dX5_sizeOfOneMore_88 rfl iconst_1 (by decide) rfl).trans ?_
      refine (R_goto 20 dX5_sizeOfOneMore_91 rfl).trans ?_
      exact rfl
  · refine (R_iload_n dX5_sizeOfOneMore_94 rfl).trans ?_
    exact R_ireturn dX5_sizeOfOneMore_95 rfl
noncomputable def E_X7_batch : mE := fun k => if k = 9 then f_X3_note else if k = 74 then f_X7_draw else if k = 76 then f_X7_kindOf else if k = 38 then f_X6_put else fun _ _ => none
theorem E_X7_batch_9 : E_X7_batch 9 = f_X3_note := if_pos rfl
theorem E_X7_batch_74 : E_X7_batch 74 = f_X7_draw := (if_neg (by decide)).trans (if_pos rfl)
theorem E_X7_batch_76 : E_X7_batch 76 = f_X7_kindOf := (if_neg (by decide)).trans ((if_neg (by decide)).trans (if_pos rfl))
theorem E_X7_batch_38 : E_X7_batch 38 = f_X6_put := (if_neg (by decide)).trans ((if_neg (by decide)).trans ((if_neg (by decide)).trans (if_pos rfl)))
noncomputable def f_X7_batch : List mV → mM → Option mR := mm_fn E_X7_batch 7 1 6 cX7_batch
theorem k_X7_batch (l : Launch) : mm_OK l 61 f_X7_batch := mm_fn_ok l 61 7 E_X7_batch (by decide) rfl (by decide) (by
  intro k as μ q h
  by_cases h0 : k = 9
  · subst h0
    exact ⟨by rw [E_X7_batch_9]; exact k_X3_note l, by decide, by decide, by decide⟩
  by_cases h1 : k = 74
  · subst h1
    exact ⟨by rw [E_X7_batch_74]; exact k_X7_draw l, by decide, by decide, by decide⟩
  by_cases h2 : k = 76
  · subst h2
    exact ⟨by rw [E_X7_batch_76]; exact k_X7_kindOf l, by decide, by decide, by decide⟩
  by_cases h3 : k = 38
  · subst h3
    exact ⟨by rw [E_X7_batch_38]; exact k_X6_put l, by decide, by decide, by decide⟩
  have e : E_X7_batch k = fun _ _ => none := (if_neg h0).trans ((if_neg h1).trans ((if_neg h2).trans ((if_neg h3).trans (rfl))))
  rw [e] at h
  cases h)
noncomputable def r_X7_batch_29 (l1 : Int32) (l2 : Int32) (l3 : Int32) (x4 : mV) (x5 : mV) (μ : mM) : Option mR := mm_run E_X7_batch 7 1 cX7_batch (29, [vr 7 0, vi l1, vi l2, vi l3, x4, x5], [], μ)
set_option maxRecDepth 100000 in
set_option maxHeartbeats 4000000 in
theorem e_X7_batch (l1 : Int32) (μ : mM) : f_X7_batch [vr 7 0, vi l1] μ = (if l1 < 1 then some ((-1000000002), μ) else (if 20 < l1 then some ((-1000000002), μ) else (Option.bind (f_X3_note [vr 3 0, vr 6 0] μ) (fun q3 => r_X7_batch_29 l1 0 0 vu vu q3.2)))) := by
  refine (show f_X7_batch [vr 7 0, vi l1] μ = mm_run E_X7_batch 7 1 cX7_batch (0, [vr 7 0, vi l1, vu, vu, vu, vu], [], μ) from rfl).trans ?_
  refine (R_iload_n dX7_batch_0 rfl).trans ?_
  refine (R_iconst 1 dX7_batch_1 iconst_1).trans ?_
  refine (R_icmp 11 dX7_batch_2 rfl).trans (c_lt (fun h1 => ?_) (fun h1 => ?_))
  · refine (R_ldc dX7_batch_11 kt_7_113).trans ?_
    exact R_ireturn dX7_batch_13 rfl
  · refine (R_iload_n dX7_batch_5 rfl).trans ?_
    refine (R_bipush 20 dX7_batch_6 bipush_20).trans ?_
    refine (R_icmp 14 dX7_batch_8 rfl).trans (c_le (fun h2 => ?_) (fun h2 => ?_))
    · refine (R_ldc dX7_batch_11 kt_7_113).trans ?_
      exact R_ireturn dX7_batch_13 rfl
    · refine (R_aload_n dX7_batch_14 rfl (by decide)).trans ?_
      refine (gr_7_19 dX7_batch_15).trans ?_
      refine (R_aload_n dX7_batch_18 rfl (by decide)).trans ?_
      refine (gr_7_10 dX7_batch_19).trans ?_
      refine (R_cv_v (as := [vr 6 0]) (rest := []) dX7_batch_22 mt_7_176 qp_9 qr_9 (E_X7_batch_9) rfl rfl rfl (Nat.le_of_ble_eq_true rfl)).trans (mm_bind (fun q3 => ?_))
      refine (R_iconst 0 dX7_batch_25 iconst_0).trans ?_
      refine (R_istore_n (ls' := [vr 7 0, vi l1, vi 0, vu, vu, vu]) dX7_batch_26 (Nat.le_of_ble_eq_true rfl) (by decide) rfl).trans ?_
      refine (R_iconst 0 dX7_batch_27 iconst_0).trans ?_
      refine (R_istore_n (ls' := [vr 7 0, vi l1, vi 0, vi 0, vu, vu]) dX7_batch_28 (Nat.le_of_ble_eq_true rfl) (by decide) rfl).trans ?_
      exact rfl
set_option maxRecDepth 100000 in
set_option maxHeartbeats 4000000 in
theorem e_X7_batch_29 (l1 : Int32) (l2 : Int32) (l3 : Int32) (x4 : mV) (x5 : mV) (μ : mM) : r_X7_batch_29 l1 l2 l3 x4 x5 μ = (if l3 < l1 then (Option.bind (f_X7_draw [vr 7 0, vi 5] μ) (fun q2 => (Option.bind (f_X7_draw [vr 7 0, vi 100] q2.2) (fun q3 => (Option.bind (f_X7_kindOf [vi q2.1, vi (q3.1 + 1000)] q3.2) (fun q4 => (Option.bind (f_X6_put [vr 6 0, vi q4.1] q4.2) (fun q5 => (if q5.1 = (-1000000004) then r_X7_batch_29 l1 l2 (l3 + 1) (vi q2.1) (vi (q3.1 + 1000)) q5.2 else r_X7_batch_29 l1 (l2 + 1) (l3 + 1) (vi q2.1) (vi (q3.1 + 1000)) q5.2))))))))) else some (l2, μ)) := by
  refine (show r_X7_batch_29 l1 l2 l3 x4 x5 μ = mm_run E_X7_batch 7 1 cX7_batch (29, [vr 7 0, vi l1, vi l2, vi l3, x4, x5], [], μ) from rfl).trans ?_
  refine (R_iload_n dX7_batch_29 rfl).trans ?_
  refine (R_iload_n dX7_batch_30 rfl).trans ?_
  refine (R_icmp 81 dX7_batch_31 rfl).trans (c_ge (fun h1 => ?_) (fun h1 => ?_))
  · refine (R_aload_n dX7_batch_34 rfl (by decide)).trans ?_
    refine (R_iconst 5 dX7_batch_35 iconst_5).trans ?_
    refine (R_cv_i (as := [vi 5]) (rest := []) dX7_batch_36 mt_7_187 qp_74 qr_74 (E_X7_batch_74) rfl rfl rfl (Nat.le_of_ble_eq_true rfl)).trans (mm_bind (fun q2 => ?_))
    refine (R_istore (ls' := [vr 7 0, vi l1, vi l2, vi l3, vi q2.1, x5]) dX7_batch_39 (Nat.le_of_ble_eq_true rfl) (by decide) rfl).trans ?_
    refine (R_aload_n dX7_batch_41 rfl (by decide)).trans ?_
    refine (R_bipush 100 dX7_batch_42 bipush_100).trans ?_
    refine (R_cv_i (as := [vi 100]) (rest := []) dX7_batch_44 mt_7_187 qp_74 qr_74 (E_X7_batch_74) rfl rfl rfl (Nat.le_of_ble_eq_true rfl)).trans (mm_bind (fun q3 => ?_))
    refine (R_sipush 1000 dX7_batch_47 sipush_1000).trans ?_
    refine (R_iadd dX7_batch_50).trans ?_
    refine (R_istore (ls' := [vr 7 0, vi l1, vi l2, vi l3, vi q2.1, vi (q3.1 + 1000)]) dX7_batch_51 (Nat.le_of_ble_eq_true rfl) (by decide) rfl).trans ?_
    refine (R_aload_n dX7_batch_53 rfl (by decide)).trans ?_
    refine (gr_7_10 dX7_batch_54).trans ?_
    refine (R_iload dX7_batch_57 rfl).trans ?_
    refine (R_iload dX7_batch_59 rfl).trans ?_
    refine (R_cs_i (as := [vi q2.1, vi (q3.1 + 1000)]) (rest := [vr 6 0]) dX7_batch_61 mt_7_169 (by decide) qp_76 qr_76 (E_X7_batch_76) (Nat.le_of_ble_eq_true rfl) rfl rfl (Nat.le_of_ble_eq_true rfl)).trans (mm_bind (fun q4 => ?_))
    refine (R_cv_i (as := [vi q4.1]) (rest := []) dX7_batch_64 mt_7_190 qp_38 qr_38 (E_X7_batch_38) rfl rfl rfl (Nat.le_of_ble_eq_true rfl)).trans (mm_bind (fun q5 => ?_))
    refine (R_ldc dX7_batch_67 kt_7_193).trans ?_
    refine (R_icmp 75 dX7_batch_69 rfl).trans (c_eq (fun h6 => ?_) (fun h6 => ?_))
    · refine (R_iinc (ls' := [vr 7 0, vi l1, vi l2, vi (l3 + 1), vi q2.1, vi (q3.1 + 1000)]) 1 dX7_batch_75 rfl iconst_1 (by decide) rfl).trans ?_
      refine (R_goto 29 dX7_batch_78 rfl).trans ?_
      exact rfl
    · refine (R_iinc (ls' := [vr 7 0, vi l1, vi (l2 + 1), vi l3, vi q2.1, vi (q3.1 + 1000)]) 1 dX7_batch_72 rfl iconst_1 (by decide) rfl).trans ?_
      refine (R_iinc (ls' := [vr 7 0, vi l1, vi (l2 + 1), vi (l3 + 1), vi q2.1, vi (q3.1 + 1000)]) 1 dX7_batch_75 rfl iconst_1 (by decide) rfl).trans ?_
      refine (R_goto 29 dX7_batch_78 rfl).trans ?_
      exact rfl
  · refine (R_iload_n dX7_batch_81 rfl).trans ?_
    exact R_ireturn dX7_batch_82 rfl
noncomputable def E_X7_crowd : mE := fun k => if k = 75 then f_X7_isIn else if k = 21 then f_X5_read else if k = 5 then f_X1_seek else fun _ _ => none
theorem E_X7_crowd_75 : E_X7_crowd 75 = f_X7_isIn := if_pos rfl
theorem E_X7_crowd_21 : E_X7_crowd 21 = f_X5_read := (if_neg (by decide)).trans (if_pos rfl)
theorem E_X7_crowd_5 : E_X7_crowd 5 = f_X1_seek := (if_neg (by decide)).trans ((if_neg (by decide)).trans (if_pos rfl))
noncomputable def f_X7_crowd : List mV → mM → Option mR := mm_fn E_X7_crowd 7 1 2 cX7_crowd
theorem k_X7_crowd (l : Launch) : mm_OK l 64 f_X7_crowd := mm_fn_ok l 64 7 E_X7_crowd (by decide) rfl (by decide) (by
  intro k as μ q h
  by_cases h0 : k = 75
  · subst h0
    exact ⟨by rw [E_X7_crowd_75]; exact k_X7_isIn l, by decide, by decide, by decide⟩
  by_cases h1 : k = 21
  · subst h1
    exact ⟨by rw [E_X7_crowd_21]; exact k_X5_read l, by decide, by decide, by decide⟩
  by_cases h2 : k = 5
  · subst h2
    exact ⟨by rw [E_X7_crowd_5]; exact k_X1_seek l, by decide, by decide, by decide⟩
  have e : E_X7_crowd k = fun _ _ => none := (if_neg h0).trans ((if_neg h1).trans ((if_neg h2).trans (rfl)))
  rw [e] at h
  cases h)
set_option maxRecDepth 100000 in
set_option maxHeartbeats 4000000 in
theorem e_X7_crowd (l1 : Int32) (μ : mM) : f_X7_crowd [vr 7 0, vi l1] μ = (Option.bind (f_X7_isIn [vi l1, vi 4] μ) (fun q1 => (if q1.1 = 0 then some ((-1000000002), q1.2) else (Option.bind (f_X5_read [vr 5 0, vr 6 0] q1.2) (fun q3 => (Option.bind (f_X1_seek [vr 1 0, vr 5 0] q3.2) (fun q4 => (if q4.2 1 0 4 = 0 then some ((-1), q4.2) else (if l1 = 0 then some (q4.2 1 0 0, q4.2) else (if l1 = 1 then some (q4.2 1 0 1, q4.2) else (if l1 = 2 then some (q4.2 1 0 2, q4.2) else some (q4.2 1 0 3, q4.2)))))))))))) := by
  refine (show f_X7_crowd [vr 7 0, vi l1] μ = mm_run E_X7_crowd 7 1 cX7_crowd (0, [vr 7 0, vi l1], [], μ) from rfl).trans ?_
  refine (R_iload_n dX7_crowd_0 rfl).trans ?_
  refine (R_iconst 4 dX7_crowd_1 iconst_4).trans ?_
  refine (R_cs_i (as := [vi l1, vi 4]) (rest := []) dX7_crowd_2 mt_7_114 (by decide) qp_75 qr_75 (E_X7_crowd_75) (Nat.le_of_ble_eq_true rfl) rfl rfl (Nat.le_of_ble_eq_true rfl)).trans (mm_bind (fun q1 => ?_))
  refine (R_ifc 11 dX7_crowd_5 rfl).trans (c_ne (fun h2 => ?_) (fun h2 => ?_))
  · refine (R_ldc dX7_crowd_8 kt_7_113).trans ?_
    exact R_ireturn dX7_crowd_10 rfl
  · refine (R_aload_n dX7_crowd_11 rfl (by decide)).trans ?_
    refine (gr_7_26 dX7_crowd_12).trans ?_
    refine (R_aload_n dX7_crowd_15 rfl (by decide)).trans ?_
    refine (gr_7_10 dX7_crowd_16).trans ?_
    refine (R_cv_v (as := [vr 6 0]) (rest := []) dX7_crowd_19 mt_7_81 qp_21 qr_21 (E_X7_crowd_21) rfl rfl rfl (Nat.le_of_ble_eq_true rfl)).trans (mm_bind (fun q3 => ?_))
    refine (R_aload_n dX7_crowd_22 rfl (by decide)).trans ?_
    refine (gr_7_33 dX7_crowd_23).trans ?_
    refine (R_aload_n dX7_crowd_26 rfl (by decide)).trans ?_
    refine (gr_7_26 dX7_crowd_27).trans ?_
    refine (R_cv_v (as := [vr 5 0]) (rest := []) dX7_crowd_30 mt_7_204 qp_5 qr_5 (E_X7_crowd_5) rfl rfl rfl (Nat.le_of_ble_eq_true rfl)).trans (mm_bind (fun q4 => ?_))
    refine (R_aload_n dX7_crowd_33 rfl (by decide)).trans ?_
    refine (gr_7_33 dX7_crowd_34).trans ?_
    refine (gi_7_208 dX7_crowd_37).trans ?_
    refine (R_ifc 45 dX7_crowd_40 rfl).trans (c_ne (fun h5 => ?_) (fun h5 => ?_))
    · refine (R_iconst (-1) dX7_crowd_43 iconst_m1).trans ?_
      exact R_ireturn dX7_crowd_44 rfl
    · refine (R_iload_n dX7_crowd_45 rfl).trans ?_
      refine mm_ite (c := l1 = 0) (fun h6 => ?_) (fun h6 => ?_)
      · refine (R_switch dX7_crowd_46 (sw_in 72 h6 rfl rfl rfl rfl)).trans ?_
        refine (R_aload_n dX7_crowd_72 rfl (by decide)).trans ?_
        refine (gr_7_33 dX7_crowd_73).trans ?_
        refine (gi_7_211 dX7_crowd_76).trans ?_
        exact R_ireturn dX7_crowd_79 rfl
      refine mm_ite (c := l1 = 1) (fun h7 => ?_) (fun h7 => ?_)
      · refine (R_switch dX7_crowd_46 (sw_in 80 h7 rfl rfl rfl rfl)).trans ?_
        refine (R_aload_n dX7_crowd_80 rfl (by decide)).trans ?_
        refine (gr_7_33 dX7_crowd_81).trans ?_
        refine (gi_7_214 dX7_crowd_84).trans ?_
        exact R_ireturn dX7_crowd_87 rfl
      refine mm_ite (c := l1 = 2) (fun h8 => ?_) (fun h8 => ?_)
      · refine (R_switch dX7_crowd_46 (sw_in 88 h8 rfl rfl rfl rfl)).trans ?_
        refine (R_aload_n dX7_crowd_88 rfl (by decide)).trans ?_
        refine (gr_7_33 dX7_crowd_89).trans ?_
        refine (gi_7_217 dX7_crowd_92).trans ?_
        exact R_ireturn dX7_crowd_95 rfl
      refine (R_switch dX7_crowd_46 (sw_out 96 (sw_n3 h6 h7 h8) rfl)).trans ?_
      refine (R_aload_n dX7_crowd_96 rfl (by decide)).trans ?_
      refine (gr_7_33 dX7_crowd_97).trans ?_
      refine (gi_7_219 dX7_crowd_100).trans ?_
      exact R_ireturn dX7_crowd_103 rfl
noncomputable def E_X7_withBore : mE := fun k => if k = 75 then f_X7_isIn else if k = 21 then f_X5_read else if k = 33 then f_X5_pairsWith else fun _ _ => none
theorem E_X7_withBore_75 : E_X7_withBore 75 = f_X7_isIn := if_pos rfl
theorem E_X7_withBore_21 : E_X7_withBore 21 = f_X5_read := (if_neg (by decide)).trans (if_pos rfl)
theorem E_X7_withBore_33 : E_X7_withBore 33 = f_X5_pairsWith := (if_neg (by decide)).trans ((if_neg (by decide)).trans (if_pos rfl))
noncomputable def f_X7_withBore : List mV → mM → Option mR := mm_fn E_X7_withBore 7 1 2 cX7_withBore
theorem k_X7_withBore (l : Launch) : mm_OK l 66 f_X7_withBore := mm_fn_ok l 66 7 E_X7_withBore (by decide) rfl (by decide) (by
  intro k as μ q h
  by_cases h0 : k = 75
  · subst h0
    exact ⟨by rw [E_X7_withBore_75]; exact k_X7_isIn l, by decide, by decide, by decide⟩
  by_cases h1 : k = 21
  · subst h1
    exact ⟨by rw [E_X7_withBore_21]; exact k_X5_read l, by decide, by decide, by decide⟩
  by_cases h2 : k = 33
  · subst h2
    exact ⟨by rw [E_X7_withBore_33]; exact k_X5_pairsWith l, by decide, by decide, by decide⟩
  have e : E_X7_withBore k = fun _ _ => none := (if_neg h0).trans ((if_neg h1).trans ((if_neg h2).trans (rfl)))
  rw [e] at h
  cases h)
set_option maxRecDepth 100000 in
set_option maxHeartbeats 4000000 in
theorem e_X7_withBore (l1 : Int32) (μ : mM) : f_X7_withBore [vr 7 0, vi l1] μ = (Option.bind (f_X7_isIn [vi l1, vi 10000] μ) (fun q1 => (if q1.1 = 0 then some ((-1000000002), q1.2) else (Option.bind (f_X5_read [vr 5 0, vr 6 0] q1.2) (fun q3 => (Option.bind (f_X5_pairsWith [vr 5 0, vi l1] q3.2) (fun q4 => some (q4.1, q4.2)))))))) := by
  refine (show f_X7_withBore [vr 7 0, vi l1] μ = mm_run E_X7_withBore 7 1 cX7_withBore (0, [vr 7 0, vi l1], [], μ) from rfl).trans ?_
  refine (R_iload_n dX7_withBore_0 rfl).trans ?_
  refine (R_sipush 10000 dX7_withBore_1 sipush_10000).trans ?_
  refine (R_cs_i (as := [vi l1, vi 10000]) (rest := []) dX7_withBore_4 mt_7_114 (by decide) qp_75 qr_75 (E_X7_withBore_75) (Nat.le_of_ble_eq_true rfl) rfl rfl (Nat.le_of_ble_eq_true rfl)).trans (mm_bind (fun q1 => ?_))
  refine (R_ifc 13 dX7_withBore_7 rfl).trans (c_ne (fun h2 => ?_) (fun h2 => ?_))
  · refine (R_ldc dX7_withBore_10 kt_7_113).trans ?_
    exact R_ireturn dX7_withBore_12 rfl
  · refine (R_aload_n dX7_withBore_13 rfl (by decide)).trans ?_
    refine (gr_7_26 dX7_withBore_14).trans ?_
    refine (R_aload_n dX7_withBore_17 rfl (by decide)).trans ?_
    refine (gr_7_10 dX7_withBore_18).trans ?_
    refine (R_cv_v (as := [vr 6 0]) (rest := []) dX7_withBore_21 mt_7_81 qp_21 qr_21 (E_X7_withBore_21) rfl rfl rfl (Nat.le_of_ble_eq_true rfl)).trans (mm_bind (fun q3 => ?_))
    refine (R_aload_n dX7_withBore_24 rfl (by decide)).trans ?_
    refine (gr_7_26 dX7_withBore_25).trans ?_
    refine (R_iload_n dX7_withBore_28 rfl).trans ?_
    refine (R_cv_i (as := [vi l1]) (rest := []) dX7_withBore_29 mt_7_225 qp_33 qr_33 (E_X7_withBore_33) rfl rfl rfl (Nat.le_of_ble_eq_true rfl)).trans (mm_bind (fun q4 => ?_))
    exact R_ireturn dX7_withBore_32 rfl
noncomputable def E_X7_goBack : mE := fun k => if k = 75 then f_X7_isIn else if k = 34 then f_X6_copyFrom else if k = 40 then f_X6_sortAnew else fun _ _ => none
theorem E_X7_goBack_75 : E_X7_goBack 75 = f_X7_isIn := if_pos rfl
theorem E_X7_goBack_34 : E_X7_goBack 34 = f_X6_copyFrom := (if_neg (by decide)).trans (if_pos rfl)
theorem E_X7_goBack_40 : E_X7_goBack 40 = f_X6_sortAnew := (if_neg (by decide)).trans ((if_neg (by decide)).trans (if_pos rfl))
noncomputable def f_X7_goBack : List mV → mM → Option mR := mm_fn E_X7_goBack 7 1 2 cX7_goBack
theorem k_X7_goBack (l : Launch) : mm_OK l 71 f_X7_goBack := mm_fn_ok l 71 7 E_X7_goBack (by decide) rfl (by decide) (by
  intro k as μ q h
  by_cases h0 : k = 75
  · subst h0
    exact ⟨by rw [E_X7_goBack_75]; exact k_X7_isIn l, by decide, by decide, by decide⟩
  by_cases h1 : k = 34
  · subst h1
    exact ⟨by rw [E_X7_goBack_34]; exact k_X6_copyFrom l, by decide, by decide, by decide⟩
  by_cases h2 : k = 40
  · subst h2
    exact ⟨by rw [E_X7_goBack_40]; exact k_X6_sortAnew l, by decide, by decide, by decide⟩
  have e : E_X7_goBack k = fun _ _ => none := (if_neg h0).trans ((if_neg h1).trans ((if_neg h2).trans (rfl)))
  rw [e] at h
  cases h)
set_option maxRecDepth 100000 in
set_option maxHeartbeats 4000000 in
theorem e_X7_goBack (l1 : Int32) (μ : mM) : f_X7_goBack [vr 7 0, vi l1] μ = (Option.bind (f_X7_isIn [vi l1, vi 2] μ) (fun q1 => (if q1.1 = 0 then some ((-1000000001), q1.2) else (ck 2 l1 (if q1.2 2 ((Int32.toNatClampNeg l1) + 0) 2 = 0 then some ((-1000000003), q1.2) else (ck 2 l1 (Option.bind (f_X6_copyFrom [vr 6 0, vr 6 ((Int32.toNatClampNeg l1) + 0 + 17)] q1.2) (fun q4 => (Option.bind (f_X6_sortAnew [vr 6 0] q4.2) (fun q5 => (ck 2 l1 (wr (mm_up q5.2 7 0 7 (q5.2 2 ((Int32.toNatClampNeg l1) + 0) 1)) (fun m6 => (wr (mm_up m6 3 0 2 0) (fun m7 => some (1, m7)))))))))))))))) := by
  refine (show f_X7_goBack [vr 7 0, vi l1] μ = mm_run E_X7_goBack 7 1 cX7_goBack (0, [vr 7 0, vi l1], [], μ) from rfl).trans ?_
  refine (R_iload_n dX7_goBack_0 rfl).trans ?_
  refine (R_iconst 2 dX7_goBack_1 iconst_2).trans ?_
  refine (R_cs_i (as := [vi l1, vi 2]) (rest := []) dX7_goBack_2 mt_7_114 (by decide) qp_75 qr_75 (E_X7_goBack_75) (Nat.le_of_ble_eq_true rfl) rfl rfl (Nat.le_of_ble_eq_true rfl)).trans (mm_bind (fun q1 => ?_))
  refine (R_ifc 11 dX7_goBack_5 rfl).trans (c_ne (fun h2 => ?_) (fun h2 => ?_))
  · refine (R_ldc dX7_goBack_8 kt_7_118).trans ?_
    exact R_ireturn dX7_goBack_10 rfl
  · refine (R_aload_n dX7_goBack_11 rfl (by decide)).trans ?_
    refine (gr_7_53 dX7_goBack_12).trans ?_
    refine (R_iload_n dX7_goBack_15 rfl).trans ?_
    refine (R_aaload dX7_goBack_16 as_17).trans (ck_congr ?_)
    refine (gi_7_238 dX7_goBack_17).trans ?_
    refine (R_ifc 26 dX7_goBack_20 rfl).trans (c_ne (fun h3 => ?_) (fun h3 => ?_))
    · refine (R_ldc dX7_goBack_23 kt_7_186).trans ?_
      exact R_ireturn dX7_goBack_25 rfl
    · refine (R_aload_n dX7_goBack_26 rfl (by decide)).trans ?_
      refine (gr_7_10 dX7_goBack_27).trans ?_
      refine (R_aload_n dX7_goBack_30 rfl (by decide)).trans ?_
      refine (gr_7_53 dX7_goBack_31).trans ?_
      refine (R_iload_n dX7_goBack_34 rfl).trans ?_
      refine (R_aaload dX7_goBack_35 as_17).trans (ck_congr ?_)
      refine (gr_7_231 dX7_goBack_36).trans ?_
      refine (R_cv_v (as := [vr 6 ((Int32.toNatClampNeg l1) + 0 + 17)]) (rest := []) dX7_goBack_39 mt_7_232 qp_34 qr_34 (E_X7_goBack_34) rfl rfl rfl (Nat.le_of_ble_eq_true rfl)).trans (mm_bind (fun q4 => ?_))
      refine (R_aload_n dX7_goBack_42 rfl (by decide)).trans ?_
      refine (gr_7_10 dX7_goBack_43).trans ?_
      refine (R_cv_v (as := []) (rest := []) dX7_goBack_46 mt_7_242 qp_40 qr_40 (E_X7_goBack_40) rfl rfl rfl (Nat.le_of_ble_eq_true rfl)).trans (mm_bind (fun q5 => ?_))
      refine (R_aload_n dX7_goBack_49 rfl (by decide)).trans ?_
      refine (R_aload_n dX7_goBack_50 rfl (by decide)).trans ?_
      refine (gr_7_53 dX7_goBack_51).trans ?_
      refine (R_iload_n dX7_goBack_54 rfl).trans ?_
      refine (R_aaload dX7_goBack_55 as_17).trans (ck_congr ?_)
      refine (gi_7_235 dX7_goBack_56).trans ?_
      refine (R_pi dX7_goBack_59 ft_7_57 fs_7_7).trans ?_
      refine wr_intro (g := fun m => mm_run E_X7_goBack 7 1 cX7_goBack (62, [vr 7 0, vi l1], [], m)) (fun m6 => ?_)
      refine (R_aload_n dX7_goBack_62 rfl (by decide)).trans ?_
      refine (gr_7_19 dX7_goBack_63).trans ?_
      refine (R_iconst 0 dX7_goBack_66 iconst_0).trans ?_
      refine (R_pi dX7_goBack_67 ft_7_110 fs_3_2).trans ?_
      refine wr_intro (g := fun m => mm_run E_X7_goBack 7 1 cX7_goBack (70, [vr 7 0, vi l1], [], m)) (fun m7 => ?_)
      refine (R_iconst 1 dX7_goBack_70 iconst_1).trans ?_
      exact R_ireturn dX7_goBack_71 rfl
noncomputable def E_X7_pairUp : mE := fun k => if k = 21 then f_X5_read else if k = 26 then f_X5_pair else fun _ _ => none
theorem E_X7_pairUp_21 : E_X7_pairUp 21 = f_X5_read := if_pos rfl
theorem E_X7_pairUp_26 : E_X7_pairUp 26 = f_X5_pair := (if_neg (by decide)).trans (if_pos rfl)
noncomputable def f_X7_pairUp : List mV → mM → Option mR := mm_fn E_X7_pairUp 7 1 1 cX7_pairUp
theorem k_X7_pairUp (l : Launch) : mm_OK l 72 f_X7_pairUp := mm_fn_ok l 72 7 E_X7_pairUp (by decide) rfl (by decide) (by
  intro k as μ q h
  by_cases h0 : k = 21
  · subst h0
    exact ⟨by rw [E_X7_pairUp_21]; exact k_X5_read l, by decide, by decide, by decide⟩
  by_cases h1 : k = 26
  · subst h1
    exact ⟨by rw [E_X7_pairUp_26]; exact k_X5_pair l, by decide, by decide, by decide⟩
  have e : E_X7_pairUp k = fun _ _ => none := (if_neg h0).trans ((if_neg h1).trans (rfl))
  rw [e] at h
  cases h)
set_option maxRecDepth 100000 in
set_option maxHeartbeats 4000000 in
theorem e_X7_pairUp (μ : mM) : f_X7_pairUp [vr 7 0] μ = (Option.bind (f_X5_read [vr 5 0, vr 6 0] μ) (fun q1 => (Option.bind (f_X5_pair [vr 5 0, vi 0] q1.2) (fun q2 => some (q2.1, q2.2))))) := by
  refine (show f_X7_pairUp [vr 7 0] μ = mm_run E_X7_pairUp 7 1 cX7_pairUp (0, [vr 7 0], [], μ) from rfl).trans ?_
  refine (R_aload_n dX7_pairUp_0 rfl (by decide)).trans ?_
  refine (gr_7_26 dX7_pairUp_1).trans ?_
  refine (R_aload_n dX7_pairUp_4 rfl (by decide)).trans ?_
  refine (gr_7_10 dX7_pairUp_5).trans ?_
  refine (R_cv_v (as := [vr 6 0]) (rest := []) dX7_pairUp_8 mt_7_81 qp_21 qr_21 (E_X7_pairUp_21) rfl rfl rfl (Nat.le_of_ble_eq_true rfl)).trans (mm_bind (fun q1 => ?_))
  refine (R_aload_n dX7_pairUp_11 rfl (by decide)).trans ?_
  refine (gr_7_26 dX7_pairUp_12).trans ?_
  refine (R_iconst 0 dX7_pairUp_15 iconst_0).trans ?_
  refine (R_cv_i (as := [vi 0]) (rest := []) dX7_pairUp_16 mt_7_245 qp_26 qr_26 (E_X7_pairUp_26) rfl rfl rfl (Nat.le_of_ble_eq_true rfl)).trans (mm_bind (fun q2 => ?_))
  exact R_ireturn dX7_pairUp_19 rfl
noncomputable def E_X7_putAsDeed : mE := fun k => if k = 37 then f_X6_hasRoom else if k = 9 then f_X3_note else if k = 38 then f_X6_put else fun _ _ => none
theorem E_X7_putAsDeed_37 : E_X7_putAsDeed 37 = f_X6_hasRoom := if_pos rfl
theorem E_X7_putAsDeed_9 : E_X7_putAsDeed 9 = f_X3_note := (if_neg (by decide)).trans (if_pos rfl)
theorem E_X7_putAsDeed_38 : E_X7_putAsDeed 38 = f_X6_put := (if_neg (by decide)).trans ((if_neg (by decide)).trans (if_pos rfl))
noncomputable def f_X7_putAsDeed : List mV → mM → Option mR := mm_fn E_X7_putAsDeed 7 1 2 cX7_putAsDeed
theorem k_X7_putAsDeed (l : Launch) : mm_OK l 73 f_X7_putAsDeed := mm_fn_ok l 73 7 E_X7_putAsDeed (by decide) rfl (by decide) (by
  intro k as μ q h
  by_cases h0 : k = 37
  · subst h0
    exact ⟨by rw [E_X7_putAsDeed_37]; exact k_X6_hasRoom l, by decide, by decide, by decide⟩
  by_cases h1 : k = 9
  · subst h1
    exact ⟨by rw [E_X7_putAsDeed_9]; exact k_X3_note l, by decide, by decide, by decide⟩
  by_cases h2 : k = 38
  · subst h2
    exact ⟨by rw [E_X7_putAsDeed_38]; exact k_X6_put l, by decide, by decide, by decide⟩
  have e : E_X7_putAsDeed k = fun _ _ => none := (if_neg h0).trans ((if_neg h1).trans ((if_neg h2).trans (rfl)))
  rw [e] at h
  cases h)
set_option maxRecDepth 100000 in
set_option maxHeartbeats 4000000 in
theorem e_X7_putAsDeed (l1 : Int32) (μ : mM) : f_X7_putAsDeed [vr 7 0, vi l1] μ = (Option.bind (f_X6_hasRoom [vr 6 0, vi l1] μ) (fun q1 => (if q1.1 = 0 then some ((-1000000004), q1.2) else (Option.bind (f_X3_note [vr 3 0, vr 6 0] q1.2) (fun q3 => (Option.bind (f_X6_put [vr 6 0, vi l1] q3.2) (fun q4 => some (q4.1, q4.2)))))))) := by
  refine (show f_X7_putAsDeed [vr 7 0, vi l1] μ = mm_run E_X7_putAsDeed 7 1 cX7_putAsDeed (0, [vr 7 0, vi l1], [], μ) from rfl).trans ?_
  refine (R_aload_n dX7_putAsDeed_0 rfl (by decide)).trans ?_
  refine (gr_7_10 dX7_putAsDeed_1).trans ?_
  refine (R_iload_n dX7_putAsDeed_4 rfl).trans ?_
  refine (R_cv_i (as := [vi l1]) (rest := []) dX7_putAsDeed_5 mt_7_248 qp_37 qr_37 (E_X7_putAsDeed_37) rfl rfl rfl (Nat.le_of_ble_eq_true rfl)).trans (mm_bind (fun q1 => ?_))
  refine (R_ifc 14 dX7_putAsDeed_8 rfl).trans (c_ne (fun h2 => ?_) (fun h2 => ?_))
  · refine (R_ldc dX7_putAsDeed_11 kt_7_193).trans ?_
    exact R_ireturn dX7_putAsDeed_13 rfl
  · refine (R_aload_n dX7_putAsDeed_14 rfl (by decide)).trans ?_
    refine (gr_7_19 dX7_putAsDeed_15).trans ?_
    refine (R_aload_n dX7_putAsDeed_18 rfl (by decide)).trans ?_
    refine (gr_7_10 dX7_putAsDeed_19).trans ?_
    refine (R_cv_v (as := [vr 6 0]) (rest := []) dX7_putAsDeed_22 mt_7_176 qp_9 qr_9 (E_X7_putAsDeed_9) rfl rfl rfl (Nat.le_of_ble_eq_true rfl)).trans (mm_bind (fun q3 => ?_))
    refine (R_aload_n dX7_putAsDeed_25 rfl (by decide)).trans ?_
    refine (gr_7_10 dX7_putAsDeed_26).trans ?_
    refine (R_iload_n dX7_putAsDeed_29 rfl).trans ?_
    refine (R_cv_i (as := [vi l1]) (rest := []) dX7_putAsDeed_30 mt_7_190 qp_38 qr_38 (E_X7_putAsDeed_38) rfl rfl rfl (Nat.le_of_ble_eq_true rfl)).trans (mm_bind (fun q4 => ?_))
    exact R_ireturn dX7_putAsDeed_33 rfl
noncomputable def E_X8_now : mE := fun k => if k = 89 then f_X8_pairs else fun _ _ => none
theorem E_X8_now_89 : E_X8_now 89 = f_X8_pairs := if_pos rfl
noncomputable def f_X8_now : List mV → mM → Option mR := mm_fn E_X8_now 8 1 1 cX8_now
theorem k_X8_now (l : Launch) : mm_OK l 90 f_X8_now := mm_fn_ok l 90 8 E_X8_now (by decide) rfl (by decide) (by
  intro k as μ q h
  by_cases h0 : k = 89
  · subst h0
    exact ⟨by rw [E_X8_now_89]; exact k_X8_pairs l, by decide, by decide, by decide⟩
  have e : E_X8_now k = fun _ _ => none := (if_neg h0).trans (rfl)
  rw [e] at h
  cases h)
set_option maxRecDepth 100000 in
set_option maxHeartbeats 4000000 in
theorem e_X8_now (μ : mM) : f_X8_now [vr 8 0] μ = (Option.bind (f_X8_pairs [vr 8 0, vi 0, vi (-1)] μ) (fun q1 => some (q1.1, q1.2))) := by
  refine (show f_X8_now [vr 8 0] μ = mm_run E_X8_now 8 1 cX8_now (0, [vr 8 0], [], μ) from rfl).trans ?_
  refine (R_aload_n dX8_now_0 rfl (by decide)).trans ?_
  refine (R_iconst 0 dX8_now_1 iconst_0).trans ?_
  refine (R_iconst (-1) dX8_now_2 iconst_m1).trans ?_
  refine (R_cv_i (as := [vi 0, vi (-1)]) (rest := []) dX8_now_3 mt_8_67 qp_89 qr_89 (E_X8_now_89) rfl rfl rfl (Nat.le_of_ble_eq_true rfl)).trans (mm_bind (fun q1 => ?_))
  exact R_ireturn dX8_now_6 rfl
noncomputable def E_X8_ease : mE := fun k => if k = 89 then f_X8_pairs else fun _ _ => none
theorem E_X8_ease_89 : E_X8_ease 89 = f_X8_pairs := if_pos rfl
noncomputable def f_X8_ease : List mV → mM → Option mR := mm_fn E_X8_ease 8 1 4 cX8_ease
theorem k_X8_ease (l : Launch) : mm_OK l 92 f_X8_ease := mm_fn_ok l 92 8 E_X8_ease (by decide) rfl (by decide) (by
  intro k as μ q h
  by_cases h0 : k = 89
  · subst h0
    exact ⟨by rw [E_X8_ease_89]; exact k_X8_pairs l, by decide, by decide, by decide⟩
  have e : E_X8_ease k = fun _ _ => none := (if_neg h0).trans (rfl)
  rw [e] at h
  cases h)
noncomputable def r_X8_ease_26 (l1 : Int32) (l2 : Int32) (x3 : mV) (μ : mM) : Option mR := mm_run E_X8_ease 8 1 cX8_ease (26, [vr 8 0, vi l1, vi l2, x3], [], μ)
set_option maxRecDepth 100000 in
set_option maxHeartbeats 4000000 in
theorem e_X8_ease (μ : mM) : f_X8_ease [vr 8 0] μ = (Option.bind (f_X8_pairs [vr 8 0, vi 999, vi (-1)] μ) (fun q1 => (ck 5225 8 (if q1.1 < q1.2 50 0 (Int32.toNatClampNeg 8) then some ((-1), q1.2) else r_X8_ease_26 0 999 vu q1.2)))) := by
  refine (show f_X8_ease [vr 8 0] μ = mm_run E_X8_ease 8 1 cX8_ease (0, [vr 8 0, vu, vu, vu], [], μ) from rfl).trans ?_
  refine (R_aload_n dX8_ease_0 rfl (by decide)).trans ?_
  refine (R_sipush 999 dX8_ease_1 sipush_999).trans ?_
  refine (R_iconst (-1) dX8_ease_4 iconst_m1).trans ?_
  refine (R_cv_i (as := [vi 999, vi (-1)]) (rest := []) dX8_ease_5 mt_8_67 qp_89 qr_89 (E_X8_ease_89) rfl rfl rfl (Nat.le_of_ble_eq_true rfl)).trans (mm_bind (fun q1 => ?_))
  refine (R_aload_n dX8_ease_8 rfl (by decide)).trans ?_
  refine (gr_8_7 dX8_ease_9).trans ?_
  refine (R_bipush 8 dX8_ease_12 bipush_8).trans ?_
  refine (R_iaload dX8_ease_14 as_50).trans (ck_congr ?_)
  refine (R_icmp 20 dX8_ease_15 rfl).trans (c_ge (fun h2 => ?_) (fun h2 => ?_))
  · refine (R_iconst (-1) dX8_ease_18 iconst_m1).trans ?_
    exact R_ireturn dX8_ease_19 rfl
  · refine (R_iconst 0 dX8_ease_20 iconst_0).trans ?_
    refine (R_istore_n (ls' := [vr 8 0, vi 0, vu, vu]) dX8_ease_21 (Nat.le_of_ble_eq_true rfl) (by decide) rfl).trans ?_
    refine (R_sipush 999 dX8_ease_22 sipush_999).trans ?_
    refine (R_istore_n (ls' := [vr 8 0, vi 0, vi 999, vu]) dX8_ease_25 (Nat.le_of_ble_eq_true rfl) (by decide) rfl).trans ?_
    exact rfl
set_option maxRecDepth 100000 in
set_option maxHeartbeats 4000000 in
theorem e_X8_ease_26 (l1 : Int32) (l2 : Int32) (x3 : mV) (μ : mM) : r_X8_ease_26 l1 l2 x3 μ = (if l1 < l2 then (Option.bind (f_X8_pairs [vr 8 0, vi ((l1 + l2) / 2), vi (-1)] μ) (fun q2 => (ck 5225 8 (if q2.1 = q2.2 50 0 (Int32.toNatClampNeg 8) then r_X8_ease_26 l1 ((l1 + l2) / 2) (vi ((l1 + l2) / 2)) q2.2 else r_X8_ease_26 (((l1 + l2) / 2) + 1) l2 (vi ((l1 + l2) / 2)) q2.2)))) else some (l1, μ)) := by
  refine (show r_X8_ease_26 l1 l2 x3 μ = mm_run E_X8_ease 8 1 cX8_ease (26, [vr 8 0, vi l1, vi l2, x3], [], μ) from rfl).trans ?_
  refine (R_iload_n dX8_ease_26 rfl).trans ?_
  refine (R_iload_n dX8_ease_27 rfl).trans ?_
  refine (R_icmp 65 dX8_ease_28 rfl).trans (c_ge (fun h1 => ?_) (fun h1 => ?_))
  · refine (R_iload_n dX8_ease_31 rfl).trans ?_
    refine (R_iload_n dX8_ease_32 rfl).trans ?_
    refine (R_iadd dX8_ease_33).trans ?_
    refine (R_iconst 2 dX8_ease_34 iconst_2).trans ?_
    refine (R_idiv dX8_ease_35).trans ?_
    refine (if_neg (by decide)).trans ?_
    refine (R_istore_n (ls' := [vr 8 0, vi l1, vi l2, vi ((l1 + l2) / 2)]) dX8_ease_36 (Nat.le_of_ble_eq_true rfl) (by decide) rfl).trans ?_
    refine (R_aload_n dX8_ease_37 rfl (by decide)).trans ?_
    refine (R_iload_n dX8_ease_38 rfl).trans ?_
    refine (R_iconst (-1) dX8_ease_39 iconst_m1).trans ?_
    refine (R_cv_i (as := [vi ((l1 + l2) / 2), vi (-1)]) (rest := []) dX8_ease_40 mt_8_67 qp_89 qr_89 (E_X8_ease_89) rfl rfl rfl (Nat.le_of_ble_eq_true rfl)).trans (mm_bind (fun q2 => ?_))
    refine (R_aload_n dX8_ease_43 rfl (by decide)).trans ?_
    refine (gr_8_7 dX8_ease_44).trans ?_
    refine (R_bipush 8 dX8_ease_47 bipush_8).trans ?_
    refine (R_iaload dX8_ease_49 as_50).trans (ck_congr ?_)
    refine (R_icmp 58 dX8_ease_50 rfl).trans (c_ne (fun h3 => ?_) (fun h3 => ?_))
    · refine (R_iload_n dX8_ease_53 rfl).trans ?_
      refine (R_istore_n (ls' := [vr 8 0, vi l1, vi ((l1 + l2) / 2), vi ((l1 + l2) / 2)]) dX8_ease_54 (Nat.le_of_ble_eq_true rfl) (by decide) rfl).trans ?_
      refine (R_goto 62 dX8_ease_55 rfl).trans ?_
      refine (R_goto 26 dX8_ease_62 rfl).trans ?_
      exact rfl
    · refine (R_iload_n dX8_ease_58 rfl).trans ?_
      refine (R_iconst 1 dX8_ease_59 iconst_1).trans ?_
      refine (R_iadd dX8_ease_60).trans ?_
      refine (R_istore_n (ls' := [vr 8 0, vi (((l1 + l2) / 2) + 1), vi l2, vi ((l1 + l2) / 2)]) dX8_ease_61 (Nat.le_of_ble_eq_true rfl) (by decide) rfl).trans ?_
      refine (R_goto 26 dX8_ease_62 rfl).trans ?_
      exact rfl
  · refine (R_iload_n dX8_ease_65 rfl).trans ?_
    exact R_ireturn dX8_ease_66 rfl
noncomputable def E_X8_tryNext : mE := fun k => if k = 95 then f_X8_laySizes else if k = 96 then f_X8_fitting else fun _ _ => none
theorem E_X8_tryNext_95 : E_X8_tryNext 95 = f_X8_laySizes := if_pos rfl
theorem E_X8_tryNext_96 : E_X8_tryNext 96 = f_X8_fitting := (if_neg (by decide)).trans (if_pos rfl)
noncomputable def f_X8_tryNext : List mV → mM → Option mR := mm_fn E_X8_tryNext 8 1 6 cX8_tryNext
theorem k_X8_tryNext (l : Launch) : mm_OK l 97 f_X8_tryNext := mm_fn_ok l 97 8 E_X8_tryNext (by decide) rfl (by decide) (by
  intro k as μ q h
  by_cases h0 : k = 95
  · subst h0
    exact ⟨by rw [E_X8_tryNext_95]; exact k_X8_laySizes l, by decide, by decide, by decide⟩
  by_cases h1 : k = 96
  · subst h1
    exact ⟨by rw [E_X8_tryNext_96]; exact k_X8_fitting l, by decide, by decide, by decide⟩
  have e : E_X8_tryNext k = fun _ _ => none := (if_neg h0).trans ((if_neg h1).trans (rfl))
  rw [e] at h
  cases h)
noncomputable def r_X8_tryNext_13 (l1 : Int32) (l2 : Int32) (l3 : Int32) (x4 : mV) (x5 : mV) (μ : mM) : Option mR := mm_run E_X8_tryNext 8 1 cX8_tryNext (13, [vr 8 0, vi l1, vi l2, vi l3, x4, x5], [], μ)
set_option maxRecDepth 100000 in
set_option maxHeartbeats 4000000 in
theorem e_X8_tryNext (μ : mM) : f_X8_tryNext [vr 8 0] μ = (Option.bind (f_X8_laySizes [vr 8 0] μ) (fun q1 => r_X8_tryNext_13 (-1) (q1.2 8 0 12) 0 vu vu q1.2)) := by
  refine (show f_X8_tryNext [vr 8 0] μ = mm_run E_X8_tryNext 8 1 cX8_tryNext (0, [vr 8 0, vu, vu, vu, vu, vu], [], μ) from rfl).trans ?_
  refine (R_aload_n dX8_tryNext_0 rfl (by decide)).trans ?_
  refine (R_cv_v (as := []) (rest := []) dX8_tryNext_1 mt_8_93 qp_95 qr_95 (E_X8_tryNext_95) rfl rfl rfl (Nat.le_of_ble_eq_true rfl)).trans (mm_bind (fun q1 => ?_))
  refine (R_iconst (-1) dX8_tryNext_4 iconst_m1).trans ?_
  refine (R_istore_n (ls' := [vr 8 0, vi (-1), vu, vu, vu, vu]) dX8_tryNext_5 (Nat.le_of_ble_eq_true rfl) (by decide) rfl).trans ?_
  refine (R_aload_n dX8_tryNext_6 rfl (by decide)).trans ?_
  refine (gi_8_81 dX8_tryNext_7).trans ?_
  refine (R_istore_n (ls' := [vr 8 0, vi (-1), vi (q1.2 8 0 12), vu, vu, vu]) dX8_tryNext_10 (Nat.le_of_ble_eq_true rfl) (by decide) rfl).trans ?_
  refine (R_iconst 0 dX8_tryNext_11 iconst_0).trans ?_
  refine (R_istore_n (ls' := [vr 8 0, vi (-1), vi (q1.2 8 0 12), vi 0, vu, vu]) dX8_tryNext_12 (Nat.le_of_ble_eq_true rfl) (by decide) rfl).trans ?_
  exact rfl
set_option maxRecDepth 100000 in
set_option maxHeartbeats 4000000 in
theorem e_X8_tryNext_13 (l1 : Int32) (l2 : Int32) (l3 : Int32) (x4 : mV) (x5 : mV) (μ : mM) : r_X8_tryNext_13 l1 l2 l3 x4 x5 μ = (ck 5225 8 (if l3 < μ 50 0 (Int32.toNatClampNeg 8) then (Option.bind (f_X8_fitting [vr 8 0, vi l3] μ) (fun q2 => (if (q2.2 8 0 12) - q2.1 < q2.1 then (if q2.1 < l2 then r_X8_tryNext_13 l3 q2.1 (l3 + 1) (vi q2.1) (vi q2.1) q2.2 else r_X8_tryNext_13 l1 l2 (l3 + 1) (vi q2.1) (vi q2.1) q2.2) else (if (q2.2 8 0 12) - q2.1 < l2 then r_X8_tryNext_13 l3 ((q2.2 8 0 12) - q2.1) (l3 + 1) (vi q2.1) (vi ((q2.2 8 0 12) - q2.1)) q2.2 else r_X8_tryNext_13 l1 l2 (l3 + 1) (vi q2.1) (vi ((q2.2 8 0 12) - q2.1)) q2.2)))) else some (l1, μ))) := by
  refine (show r_X8_tryNext_13 l1 l2 l3 x4 x5 μ = mm_run E_X8_tryNext 8 1 cX8_tryNext (13, [vr 8 0, vi l1, vi l2, vi l3, x4, x5], [], μ) from rfl).trans ?_
  refine (R_iload_n dX8_tryNext_13 rfl).trans ?_
  refine (R_aload_n dX8_tryNext_14 rfl (by decide)).trans ?_
  refine (gr_8_7 dX8_tryNext_15).trans ?_
  refine (R_bipush 8 dX8_tryNext_18 bipush_8).trans ?_
  refine (R_iaload dX8_tryNext_20 as_50).trans (ck_congr ?_)
  refine (R_icmp 88 dX8_tryNext_21 rfl).trans (c_ge (fun h1 => ?_) (fun h1 => ?_))
  · refine (R_aload_n dX8_tryNext_24 rfl (by decide)).trans ?_
    refine (R_iload_n dX8_tryNext_25 rfl).trans ?_
    refine (R_cv_i (as := [vi l3]) (rest := []) dX8_tryNext_26 mt_8_96 qp_96 qr_96 (E_X8_tryNext_96) rfl rfl rfl (Nat.le_of_ble_eq_true rfl)).trans (mm_bind (fun q2 => ?_))
    refine (R_istore (ls' := [vr 8 0, vi l1, vi l2, vi l3, vi q2.1, x5]) dX8_tryNext_29 (Nat.le_of_ble_eq_true rfl) (by decide) rfl).trans ?_
    refine (R_iload dX8_tryNext_31 rfl).trans ?_
    refine (R_aload_n dX8_tryNext_33 rfl (by decide)).trans ?_
    refine (gi_8_81 dX8_tryNext_34).trans ?_
    refine (R_iload dX8_tryNext_37 rfl).trans ?_
    refine (R_isub dX8_tryNext_39).trans ?_
    refine (R_icmp 48 dX8_tryNext_40 rfl).trans (c_le (fun h3 => ?_) (fun h3 => ?_))
    · refine (R_iload dX8_tryNext_43 rfl).trans ?_
      refine (R_goto 55 dX8_tryNext_45 rfl).trans ?_
      refine (R_istore (ls' := [vr 8 0, vi l1, vi l2, vi l3, vi q2.1, vi q2.1]) dX8_tryNext_55 (Nat.le_of_ble_eq_true rfl) (by decide) rfl).trans ?_
      refine (R_iload dX8_tryNext_57 rfl).trans ?_
      refine (R_iload_n dX8_tryNext_59 rfl).trans ?_
      refine (R_icmp 67 dX8_tryNext_60 rfl).trans (c_ge (fun h4 => ?_) (fun h4 => ?_))
      · refine (R_iload_n dX8_tryNext_63 rfl).trans ?_
        refine (R_goto 68 dX8_tryNext_64 rfl).trans ?_
        refine (R_istore_n (ls' := [vr 8 0, vi l3, vi l2, vi l3, vi q2.1, vi q2.1]) dX8_tryNext_68 (Nat.le_of_ble_eq_true rfl) (by decide) rfl).trans ?_
        refine (R_iload dX8_tryNext_69 rfl).trans ?_
        refine (R_iload_n dX8_tryNext_71 rfl).trans ?_
        refine (R_icmp 80 dX8_tryNext_72 rfl).trans ((p_ge_t h4).trans ?_)
        refine (R_iload dX8_tryNext_75 rfl).trans ?_
        refine (R_goto 81 dX8_tryNext_77 rfl).trans ?_
        refine (R_istore_n (ls' := [vr 8 0, vi l3, vi q2.1, vi l3, vi q2.1, vi q2.1]) dX8_tryNext_81 (Nat.le_of_ble_eq_true rfl) (by decide) rfl).trans ?_
        refine (R_iinc (ls' := [vr 8 0, vi l3, vi q2.1, vi (l3 + 1), vi q2.1, vi q2.1]) 1 dX8_tryNext_82 rfl iconst_1 (by decide) rfl).trans ?_
        refine (R_goto 13 dX8_tryNext_85 rfl).trans ?_
        exact rfl
      · refine (R_iload_n dX8_tryNext_67 rfl).trans ?_
        refine (R_istore_n (ls' := [vr 8 0, vi l1, vi l2, vi l3, vi q2.1, vi q2.1]) dX8_tryNext_68 (Nat.le_of_ble_eq_true rfl) (by decide) rfl).trans ?_
        refine (R_iload dX8_tryNext_69 rfl).trans ?_
        refine (R_iload_n dX8_tryNext_71 rfl).trans ?_
        refine (R_icmp 80 dX8_tryNext_72 rfl).trans ((p_ge_f h4).trans ?_)
        refine (R_iload_n dX8_tryNext_80 rfl).trans ?_
        refine (R_istore_n (ls' := [vr 8 0, vi l1, vi l2, vi l3, vi q2.1, vi q2.1]) dX8_tryNext_81 (Nat.le_of_ble_eq_true rfl) (by decide) rfl).trans ?_
        refine (R_iinc (ls' := [vr 8 0, vi l1, vi l2, vi (l3 + 1), vi q2.1, vi q2.1]) 1 dX8_tryNext_82 rfl iconst_1 (by decide) rfl).trans ?_
        refine (R_goto 13 dX8_tryNext_85 rfl).trans ?_
        exact rfl
    · refine (R_aload_n dX8_tryNext_48 rfl (by decide)).trans ?_
      refine (gi_8_81 dX8_tryNext_49).trans ?_
      refine (R_iload dX8_tryNext_52 rfl).trans ?_
      refine (R_isub dX8_tryNext_54).trans ?_
      refine (R_istore (ls' := [vr 8 0, vi l1, vi l2, vi l3, vi q2.1, vi ((q2.2 8 0 12) - q2.1)]) dX8_tryNext_55 (Nat.le_of_ble_eq_true rfl) (by decide) rfl).trans ?_
      refine (R_iload dX8_tryNext_57 rfl).trans ?_
      refine (R_iload_n dX8_tryNext_59 rfl).trans ?_
      refine (R_icmp 67 dX8_tryNext_60 rfl).trans (c_ge (fun h5 => ?_) (fun h5 => ?_))
      · refine (R_iload_n dX8_tryNext_63 rfl).trans ?_
        refine (R_goto 68 dX8_tryNext_64 rfl).trans ?_
        refine (R_istore_n (ls' := [vr 8 0, vi l3, vi l2, vi l3, vi q2.1, vi ((q2.2 8 0 12) - q2.1)]) dX8_tryNext_68 (Nat.le_of_ble_eq_true rfl) (by decide) rfl).trans ?_
        refine (R_iload dX8_tryNext_69 rfl).trans ?_
        refine (R_iload_n dX8_tryNext_71 rfl).trans ?_
        refine (R_icmp 80 dX8_tryNext_72 rfl).trans ((p_ge_t h5).trans ?_)
        refine (R_iload dX8_tryNext_75 rfl).trans ?_
        refine (R_goto 81 dX8_tryNext_77 rfl).trans ?_
        refine (R_istore_n (ls' := [vr 8 0, vi l3, vi ((q2.2 8 0 12) - q2.1), vi l3, vi q2.1, vi ((q2.2 8 0 12) - q2.1)]) dX8_tryNext_81 (Nat.le_of_ble_eq_true rfl) (by decide) rfl).trans ?_
        refine (R_iinc (ls' := [vr 8 0, vi l3, vi ((q2.2 8 0 12) - q2.1), vi (l3 + 1), vi q2.1, vi ((q2.2 8 0 12) - q2.1)]) 1 dX8_tryNext_82 rfl iconst_1 (by decide) rfl).trans ?_
        refine (R_goto 13 dX8_tryNext_85 rfl).trans ?_
        exact rfl
      · refine (R_iload_n dX8_tryNext_67 rfl).trans ?_
        refine (R_istore_n (ls' := [vr 8 0, vi l1, vi l2, vi l3, vi q2.1, vi ((q2.2 8 0 12) - q2.1)]) dX8_tryNext_68 (Nat.le_of_ble_eq_true rfl) (by decide) rfl).trans ?_
        refine (R_iload dX8_tryNext_69 rfl).trans ?_
        refine (R_iload_n dX8_tryNext_71 rfl).trans ?_
        refine (R_icmp 80 dX8_tryNext_72 rfl).trans ((p_ge_f h5).trans ?_)
        refine (R_iload_n dX8_tryNext_80 rfl).trans ?_
        refine (R_istore_n (ls' := [vr 8 0, vi l1, vi l2, vi l3, vi q2.1, vi ((q2.2 8 0 12) - q2.1)]) dX8_tryNext_81 (Nat.le_of_ble_eq_true rfl) (by decide) rfl).trans ?_
        refine (R_iinc (ls' := [vr 8 0, vi l1, vi l2, vi (l3 + 1), vi q2.1, vi ((q2.2 8 0 12) - q2.1)]) 1 dX8_tryNext_82 rfl iconst_1 (by decide) rfl).trans ?_
        refine (R_goto 13 dX8_tryNext_85 rfl).trans ?_
        exact rfl
  · refine (R_iload_n dX8_tryNext_88 rfl).trans ?_
    exact R_ireturn dX8_tryNext_89 rfl
noncomputable def E_X8_sizesTell : mE := fun k => if k = 95 then f_X8_laySizes else fun _ _ => none
theorem E_X8_sizesTell_95 : E_X8_sizesTell 95 = f_X8_laySizes := if_pos rfl
noncomputable def f_X8_sizesTell : List mV → mM → Option mR := mm_fn E_X8_sizesTell 8 1 2 cX8_sizesTell
theorem k_X8_sizesTell (l : Launch) : mm_OK l 98 f_X8_sizesTell := mm_fn_ok l 98 8 E_X8_sizesTell (by decide) rfl (by decide) (by
  intro k as μ q h
  by_cases h0 : k = 95
  · subst h0
    exact ⟨by rw [E_X8_sizesTell_95]; exact k_X8_laySizes l, by decide, by decide, by decide⟩
  have e : E_X8_sizesTell k = fun _ _ => none := (if_neg h0).trans (rfl)
  rw [e] at h
  cases h)
set_option maxRecDepth 100000 in
set_option maxHeartbeats 4000000 in
theorem e_X8_sizesTell (l1 : Int32) (μ : mM) : f_X8_sizesTell [vr 8 0, vi l1] μ = (Option.bind (f_X8_laySizes [vr 8 0] μ) (fun q1 => (if l1 = 0 then some (q1.2 8 0 12, q1.2) else (if l1 = 1 then some (q1.2 8 0 13, q1.2) else some (q1.2 8 0 14, q1.2))))) := by
  refine (show f_X8_sizesTell [vr 8 0, vi l1] μ = mm_run E_X8_sizesTell 8 1 cX8_sizesTell (0, [vr 8 0, vi l1], [], μ) from rfl).trans ?_
  refine (R_aload_n dX8_sizesTell_0 rfl (by decide)).trans ?_
  refine (R_cv_v (as := []) (rest := []) dX8_sizesTell_1 mt_8_93 qp_95 qr_95 (E_X8_sizesTell_95) rfl rfl rfl (Nat.le_of_ble_eq_true rfl)).trans (mm_bind (fun q1 => ?_))
  refine (R_iload_n dX8_sizesTell_4 rfl).trans ?_
  refine (R_ifc 15 dX8_sizesTell_5 rfl).trans (c_ne (fun h2 => ?_) (fun h2 => ?_))
  · refine (R_aload_n dX8_sizesTell_8 rfl (by decide)).trans ?_
    refine (gi_8_81 dX8_sizesTell_9).trans ?_
    refine (R_goto 31 dX8_sizesTell_12 rfl).trans ?_
    exact R_ireturn dX8_sizesTell_31 rfl
  · refine (R_iload_n dX8_sizesTell_15 rfl).trans ?_
    refine (R_iconst 1 dX8_sizesTell_16 iconst_1).trans ?_
    refine (R_icmp 27 dX8_sizesTell_17 rfl).trans (c_ne (fun h3 => ?_) (fun h3 => ?_))
    · refine (R_aload_n dX8_sizesTell_20 rfl (by decide)).trans ?_
      refine (gi_8_84 dX8_sizesTell_21).trans ?_
      refine (R_goto 31 dX8_sizesTell_24 rfl).trans ?_
      exact R_ireturn dX8_sizesTell_31 rfl
    · refine (R_aload_n dX8_sizesTell_27 rfl (by decide)).trans ?_
      refine (gi_8_87 dX8_sizesTell_28).trans ?_
      exact R_ireturn dX8_sizesTell_31 rfl
noncomputable def E_X8_shaft : mE := fun k => if k = 81 then f_X8_isGrade else if k = 82 then f_X8_isSize else if k = 111 then f_X8_isRoomFor else if k = 110 then f_X8_remember else if k = 113 then f_X8_comes else fun _ _ => none
theorem E_X8_shaft_81 : E_X8_shaft 81 = f_X8_isGrade := if_pos rfl
theorem E_X8_shaft_82 : E_X8_shaft 82 = f_X8_isSize := (if_neg (by decide)).trans (if_pos rfl)
theorem E_X8_shaft_111 : E_X8_shaft 111 = f_X8_isRoomFor := (if_neg (by decide)).trans ((if_neg (by decide)).trans (if_pos rfl))
theorem E_X8_shaft_110 : E_X8_shaft 110 = f_X8_remember := (if_neg (by decide)).trans ((if_neg (by decide)).trans ((if_neg (by decide)).trans (if_pos rfl)))
theorem E_X8_shaft_113 : E_X8_shaft 113 = f_X8_comes := (if_neg (by decide)).trans ((if_neg (by decide)).trans ((if_neg (by decide)).trans ((if_neg (by decide)).trans (if_pos rfl))))
noncomputable def f_X8_shaft : List mV → mM → Option mR := mm_fn E_X8_shaft 8 1 3 cX8_shaft
theorem k_X8_shaft (l : Launch) : mm_OK l 114 f_X8_shaft := mm_fn_ok l 114 8 E_X8_shaft (by decide) rfl (by decide) (by
  intro k as μ q h
  by_cases h0 : k = 81
  · subst h0
    exact ⟨by rw [E_X8_shaft_81]; exact k_X8_isGrade l, by decide, by decide, by decide⟩
  by_cases h1 : k = 82
  · subst h1
    exact ⟨by rw [E_X8_shaft_82]; exact k_X8_isSize l, by decide, by decide, by decide⟩
  by_cases h2 : k = 111
  · subst h2
    exact ⟨by rw [E_X8_shaft_111]; exact k_X8_isRoomFor l, by decide, by decide, by decide⟩
  by_cases h3 : k = 110
  · subst h3
    exact ⟨by rw [E_X8_shaft_110]; exact k_X8_remember l, by decide, by decide, by decide⟩
  by_cases h4 : k = 113
  · subst h4
    exact ⟨by rw [E_X8_shaft_113]; exact k_X8_comes l, by decide, by decide, by decide⟩
  have e : E_X8_shaft k = fun _ _ => none := (if_neg h0).trans ((if_neg h1).trans ((if_neg h2).trans ((if_neg h3).trans ((if_neg h4).trans (rfl)))))
  rw [e] at h
  cases h)
set_option maxRecDepth 100000 in
set_option maxHeartbeats 4000000 in
theorem e_X8_shaft (l1 : Int32) (l2 : Int32) (μ : mM) : f_X8_shaft [vr 8 0, vi l1, vi l2] μ = (Option.bind (f_X8_isGrade [vi l1] μ) (fun q1 => (if q1.1 = 0 then some ((-1000000001), q1.2) else (Option.bind (f_X8_isSize [vi l2] q1.2) (fun q3 => (if q3.1 = 0 then some ((-1000000002), q3.2) else (Option.bind (f_X8_isRoomFor [vr 8 0, vi l1, vi l2] q3.2) (fun q5 => (if q5.1 = 0 then some ((-1000000004), q5.2) else (Option.bind (f_X8_remember [vr 8 0] q5.2) (fun q7 => (Option.bind (f_X8_comes [vr 8 0, vi l1, vi l2] q7.2) (fun q8 => (ck 5225 8 (some ((q8.2 50 0 (Int32.toNatClampNeg 8)) - 1, q8.2)))))))))))))))) := by
  refine (show f_X8_shaft [vr 8 0, vi l1, vi l2] μ = mm_run E_X8_shaft 8 1 cX8_shaft (0, [vr 8 0, vi l1, vi l2], [], μ) from rfl).trans ?_
  refine (R_iload_n dX8_shaft_0 rfl).trans ?_
  refine (R_cs_i (as := [vi l1]) (rest := []) dX8_shaft_1 mt_8_142 (by decide) qp_81 qr_81 (E_X8_shaft_81) (Nat.le_of_ble_eq_true rfl) rfl rfl (Nat.le_of_ble_eq_true rfl)).trans (mm_bind (fun q1 => ?_))
  refine (R_ifc 10 dX8_shaft_4 rfl).trans (c_ne (fun h2 => ?_) (fun h2 => ?_))
  · refine (R_ldc dX8_shaft_7 kt_8_128).trans ?_
    exact R_ireturn dX8_shaft_9 rfl
  · refine (R_iload_n dX8_shaft_10 rfl).trans ?_
    refine (R_cs_i (as := [vi l2]) (rest := []) dX8_shaft_11 mt_8_74 (by decide) qp_82 qr_82 (E_X8_shaft_82) (Nat.le_of_ble_eq_true rfl) rfl rfl (Nat.le_of_ble_eq_true rfl)).trans (mm_bind (fun q3 => ?_))
    refine (R_ifc 20 dX8_shaft_14 rfl).trans (c_ne (fun h4 => ?_) (fun h4 => ?_))
    · refine (R_ldc dX8_shaft_17 kt_8_118).trans ?_
      exact R_ireturn dX8_shaft_19 rfl
    · refine (R_aload_n dX8_shaft_20 rfl (by decide)).trans ?_
      refine (R_iload_n dX8_shaft_21 rfl).trans ?_
      refine (R_iload_n dX8_shaft_22 rfl).trans ?_
      refine (R_cv_i (as := [vi l1, vi l2]) (rest := []) dX8_shaft_23 mt_8_157 qp_111 qr_111 (E_X8_shaft_111) rfl rfl rfl (Nat.le_of_ble_eq_true rfl)).trans (mm_bind (fun q5 => ?_))
      refine (R_ifc 32 dX8_shaft_26 rfl).trans (c_ne (fun h6 => ?_) (fun h6 => ?_))
      · refine (R_ldc dX8_shaft_29 kt_8_160).trans ?_
        exact R_ireturn dX8_shaft_31 rfl
      · refine (R_aload_n dX8_shaft_32 rfl (by decide)).trans ?_
        refine (R_cv_v (as := []) (rest := []) dX8_shaft_33 mt_8_161 qp_110 qr_110 (E_X8_shaft_110) rfl rfl rfl (Nat.le_of_ble_eq_true rfl)).trans (mm_bind (fun q7 => ?_))
        refine (R_aload_n dX8_shaft_36 rfl (by decide)).trans ?_
        refine (R_iload_n dX8_shaft_37 rfl).trans ?_
        refine (R_iload_n dX8_shaft_38 rfl).trans ?_
        refine (R_cv_v (as := [vi l1, vi l2]) (rest := []) dX8_shaft_39 mt_8_164 qp_113 qr_113 (E_X8_shaft_113) rfl rfl rfl (Nat.le_of_ble_eq_true rfl)).trans (mm_bind (fun q8 => ?_))
        refine (R_aload_n dX8_shaft_42 rfl (by decide)).trans ?_
        refine (gr_8_7 dX8_shaft_43).trans ?_
        refine (R_bipush 8 dX8_shaft_46 bipush_8).trans ?_
        refine (R_iaload dX8_shaft_48 as_50).trans (ck_congr ?_)
        refine (R_iconst 1 dX8_shaft_49 iconst_1).trans ?_
        refine (R_isub dX8_shaft_50).trans ?_
        exact R_ireturn dX8_shaft_51 rfl
noncomputable def E_X8_bore : mE := fun k => if k = 82 then f_X8_isSize else if k = 111 then f_X8_isRoomFor else if k = 110 then f_X8_remember else if k = 113 then f_X8_comes else fun _ _ => none
theorem E_X8_bore_82 : E_X8_bore 82 = f_X8_isSize := if_pos rfl
theorem E_X8_bore_111 : E_X8_bore 111 = f_X8_isRoomFor := (if_neg (by decide)).trans (if_pos rfl)
theorem E_X8_bore_110 : E_X8_bore 110 = f_X8_remember := (if_neg (by decide)).trans ((if_neg (by decide)).trans (if_pos rfl))
theorem E_X8_bore_113 : E_X8_bore 113 = f_X8_comes := (if_neg (by decide)).trans ((if_neg (by decide)).trans ((if_neg (by decide)).trans (if_pos rfl)))
noncomputable def f_X8_bore : List mV → mM → Option mR := mm_fn E_X8_bore 8 1 2 cX8_bore
theorem k_X8_bore (l : Launch) : mm_OK l 115 f_X8_bore := mm_fn_ok l 115 8 E_X8_bore (by decide) rfl (by decide) (by
  intro k as μ q h
  by_cases h0 : k = 82
  · subst h0
    exact ⟨by rw [E_X8_bore_82]; exact k_X8_isSize l, by decide, by decide, by decide⟩
  by_cases h1 : k = 111
  · subst h1
    exact ⟨by rw [E_X8_bore_111]; exact k_X8_isRoomFor l, by decide, by decide, by decide⟩
  by_cases h2 : k = 110
  · subst h2
    exact ⟨by rw [E_X8_bore_110]; exact k_X8_remember l, by decide, by decide, by decide⟩
  by_cases h3 : k = 113
  · subst h3
    exact ⟨by rw [E_X8_bore_113]; exact k_X8_comes l, by decide, by decide, by decide⟩
  have e : E_X8_bore k = fun _ _ => none := (if_neg h0).trans ((if_neg h1).trans ((if_neg h2).trans ((if_neg h3).trans (rfl))))
  rw [e] at h
  cases h)
set_option maxRecDepth 100000 in
set_option maxHeartbeats 4000000 in
theorem e_X8_bore (l1 : Int32) (μ : mM) : f_X8_bore [vr 8 0, vi l1] μ = (Option.bind (f_X8_isSize [vi l1] μ) (fun q1 => (if q1.1 = 0 then some ((-1000000002), q1.2) else (Option.bind (f_X8_isRoomFor [vr 8 0, vi 4, vi l1] q1.2) (fun q3 => (if q3.1 = 0 then some ((-1000000004), q3.2) else (Option.bind (f_X8_remember [vr 8 0] q3.2) (fun q5 => (Option.bind (f_X8_comes [vr 8 0, vi 4, vi l1] q5.2) (fun q6 => (ck 5225 57 (some ((q6.2 50 0 (Int32.toNatClampNeg 57)) - 1, q6.2))))))))))))) := by
  refine (show f_X8_bore [vr 8 0, vi l1] μ = mm_run E_X8_bore 8 1 cX8_bore (0, [vr 8 0, vi l1], [], μ) from rfl).trans ?_
  refine (R_iload_n dX8_bore_0 rfl).trans ?_
  refine (R_cs_i (as := [vi l1]) (rest := []) dX8_bore_1 mt_8_74 (by decide) qp_82 qr_82 (E_X8_bore_82) (Nat.le_of_ble_eq_true rfl) rfl rfl (Nat.le_of_ble_eq_true rfl)).trans (mm_bind (fun q1 => ?_))
  refine (R_ifc 10 dX8_bore_4 rfl).trans (c_ne (fun h2 => ?_) (fun h2 => ?_))
  · refine (R_ldc dX8_bore_7 kt_8_118).trans ?_
    exact R_ireturn dX8_bore_9 rfl
  · refine (R_aload_n dX8_bore_10 rfl (by decide)).trans ?_
    refine (R_iconst 4 dX8_bore_11 iconst_4).trans ?_
    refine (R_iload_n dX8_bore_12 rfl).trans ?_
    refine (R_cv_i (as := [vi 4, vi l1]) (rest := []) dX8_bore_13 mt_8_157 qp_111 qr_111 (E_X8_bore_111) rfl rfl rfl (Nat.le_of_ble_eq_true rfl)).trans (mm_bind (fun q3 => ?_))
    refine (R_ifc 22 dX8_bore_16 rfl).trans (c_ne (fun h4 => ?_) (fun h4 => ?_))
    · refine (R_ldc dX8_bore_19 kt_8_160).trans ?_
      exact R_ireturn dX8_bore_21 rfl
    · refine (R_aload_n dX8_bore_22 rfl (by decide)).trans ?_
      refine (R_cv_v (as := []) (rest := []) dX8_bore_23 mt_8_161 qp_110 qr_110 (E_X8_bore_110) rfl rfl rfl (Nat.le_of_ble_eq_true rfl)).trans (mm_bind (fun q5 => ?_))
      refine (R_aload_n dX8_bore_26 rfl (by decide)).trans ?_
      refine (R_iconst 4 dX8_bore_27 iconst_4).trans ?_
      refine (R_iload_n dX8_bore_28 rfl).trans ?_
      refine (R_cv_v (as := [vi 4, vi l1]) (rest := []) dX8_bore_29 mt_8_164 qp_113 qr_113 (E_X8_bore_113) rfl rfl rfl (Nat.le_of_ble_eq_true rfl)).trans (mm_bind (fun q6 => ?_))
      refine (R_aload_n dX8_bore_32 rfl (by decide)).trans ?_
      refine (gr_8_7 dX8_bore_33).trans ?_
      refine (R_bipush 57 dX8_bore_36 bipush_57).trans ?_
      refine (R_iaload dX8_bore_38 as_50).trans (ck_congr ?_)
      refine (R_iconst 1 dX8_bore_39 iconst_1).trans ?_
      refine (R_isub dX8_bore_40).trans ?_
      exact R_ireturn dX8_bore_41 rfl
noncomputable def E_X8_batch : mE := fun k => if k = 79 then f_X8_in else if k = 110 then f_X8_remember else if k = 122 then f_X8_draw else if k = 111 then f_X8_isRoomFor else if k = 113 then f_X8_comes else fun _ _ => none
theorem E_X8_batch_79 : E_X8_batch 79 = f_X8_in := if_pos rfl
theorem E_X8_batch_110 : E_X8_batch 110 = f_X8_remember := (if_neg (by decide)).trans (if_pos rfl)
theorem E_X8_batch_122 : E_X8_batch 122 = f_X8_draw := (if_neg (by decide)).trans ((if_neg (by decide)).trans (if_pos rfl))
theorem E_X8_batch_111 : E_X8_batch 111 = f_X8_isRoomFor := (if_neg (by decide)).trans ((if_neg (by decide)).trans ((if_neg (by decide)).trans (if_pos rfl)))
theorem E_X8_batch_113 : E_X8_batch 113 = f_X8_comes := (if_neg (by decide)).trans ((if_neg (by decide)).trans ((if_neg (by decide)).trans ((if_neg (by decide)).trans (if_pos rfl))))
noncomputable def f_X8_batch : List mV → mM → Option mR := mm_fn E_X8_batch 8 1 6 cX8_batch
theorem k_X8_batch (l : Launch) : mm_OK l 123 f_X8_batch := mm_fn_ok l 123 8 E_X8_batch (by decide) rfl (by decide) (by
  intro k as μ q h
  by_cases h0 : k = 79
  · subst h0
    exact ⟨by rw [E_X8_batch_79]; exact k_X8_in l, by decide, by decide, by decide⟩
  by_cases h1 : k = 110
  · subst h1
    exact ⟨by rw [E_X8_batch_110]; exact k_X8_remember l, by decide, by decide, by decide⟩
  by_cases h2 : k = 122
  · subst h2
    exact ⟨by rw [E_X8_batch_122]; exact k_X8_draw l, by decide, by decide, by decide⟩
  by_cases h3 : k = 111
  · subst h3
    exact ⟨by rw [E_X8_batch_111]; exact k_X8_isRoomFor l, by decide, by decide, by decide⟩
  by_cases h4 : k = 113
  · subst h4
    exact ⟨by rw [E_X8_batch_113]; exact k_X8_comes l, by decide, by decide, by decide⟩
  have e : E_X8_batch k = fun _ _ => none := (if_neg h0).trans ((if_neg h1).trans ((if_neg h2).trans ((if_neg h3).trans ((if_neg h4).trans (rfl)))))
  rw [e] at h
  cases h)
noncomputable def r_X8_batch_23 (l1 : Int32) (l2 : Int32) (l3 : Int32) (x4 : mV) (x5 : mV) (μ : mM) : Option mR := mm_run E_X8_batch 8 1 cX8_batch (23, [vr 8 0, vi l1, vi l2, vi l3, x4, x5], [], μ)
set_option maxRecDepth 100000 in
set_option maxHeartbeats 4000000 in
theorem e_X8_batch (l1 : Int32) (μ : mM) : f_X8_batch [vr 8 0, vi l1] μ = (Option.bind (f_X8_in [vl (Int32.toInt64 l1), vl 1, vl 20] μ) (fun q1 => (if q1.1 = 0 then some ((-1000000002), q1.2) else (Option.bind (f_X8_remember [vr 8 0] q1.2) (fun q3 => r_X8_batch_23 l1 0 0 vu vu q3.2))))) := by
  refine (show f_X8_batch [vr 8 0, vi l1] μ = mm_run E_X8_batch 8 1 cX8_batch (0, [vr 8 0, vi l1, vu, vu, vu, vu], [], μ) from rfl).trans ?_
  refine (R_iload_n dX8_batch_0 rfl).trans ?_
  refine (R_i2l dX8_batch_1).trans ?_
  refine (R_lconst 1 dX8_batch_2 lconst_1).trans ?_
  refine (R_ldc2_w dX8_batch_3 lt_8_184).trans ?_
  refine (R_cs_i (as := [vl (Int32.toInt64 l1), vl 1, vl 20]) (rest := []) dX8_batch_6 mt_8_50 (by decide) qp_79 qr_79 (E_X8_batch_79) (Nat.le_of_ble_eq_true rfl) rfl rfl (Nat.le_of_ble_eq_true rfl)).trans (mm_bind (fun q1 => ?_))
  refine (R_ifc 15 dX8_batch_9 rfl).trans (c_ne (fun h2 => ?_) (fun h2 => ?_))
  · refine (R_ldc dX8_batch_12 kt_8_118).trans ?_
    exact R_ireturn dX8_batch_14 rfl
  · refine (R_aload_n dX8_batch_15 rfl (by decide)).trans ?_
    refine (R_cv_v (as := []) (rest := []) dX8_batch_16 mt_8_161 qp_110 qr_110 (E_X8_batch_110) rfl rfl rfl (Nat.le_of_ble_eq_true rfl)).trans (mm_bind (fun q3 => ?_))
    refine (R_iconst 0 dX8_batch_19 iconst_0).trans ?_
    refine (R_istore_n (ls' := [vr 8 0, vi l1, vi 0, vu, vu, vu]) dX8_batch_20 (Nat.le_of_ble_eq_true rfl) (by decide) rfl).trans ?_
    refine (R_iconst 0 dX8_batch_21 iconst_0).trans ?_
    refine (R_istore_n (ls' := [vr 8 0, vi l1, vi 0, vi 0, vu, vu]) dX8_batch_22 (Nat.le_of_ble_eq_true rfl) (by decide) rfl).trans ?_
    exact rfl
set_option maxRecDepth 100000 in
set_option maxHeartbeats 4000000 in
theorem e_X8_batch_23 (l1 : Int32) (l2 : Int32) (l3 : Int32) (x4 : mV) (x5 : mV) (μ : mM) : r_X8_batch_23 l1 l2 l3 x4 x5 μ = (if l3 < l1 then (Option.bind (f_X8_draw [vr 8 0, vi 5] μ) (fun q2 => (Option.bind (f_X8_draw [vr 8 0, vi 100] q2.2) (fun q3 => (Option.bind (f_X8_isRoomFor [vr 8 0, vi q2.1, vi (1000 + q3.1)] q3.2) (fun q4 => (if q4.1 = 0 then r_X8_batch_23 l1 l2 (l3 + 1) (vi q2.1) (vi (1000 + q3.1)) q4.2 else (Option.bind (f_X8_comes [vr 8 0, vi q2.1, vi (1000 + q3.1)] q4.2) (fun q6 => r_X8_batch_23 l1 (l2 + 1) (l3 + 1) (vi q2.1) (vi (1000 + q3.1)) q6.2))))))))) else some (l2, μ)) := by
  refine (show r_X8_batch_23 l1 l2 l3 x4 x5 μ = mm_run E_X8_batch 8 1 cX8_batch (23, [vr 8 0, vi l1, vi l2, vi l3, x4, x5], [], μ) from rfl).trans ?_
  refine (R_iload_n dX8_batch_23 rfl).trans ?_
  refine (R_iload_n dX8_batch_24 rfl).trans ?_
  refine (R_icmp 75 dX8_batch_25 rfl).trans (c_ge (fun h1 => ?_) (fun h1 => ?_))
  · refine (R_aload_n dX8_batch_28 rfl (by decide)).trans ?_
    refine (R_iconst 5 dX8_batch_29 iconst_5).trans ?_
    refine (R_cv_i (as := [vi 5]) (rest := []) dX8_batch_30 mt_8_186 qp_122 qr_122 (E_X8_batch_122) rfl rfl rfl (Nat.le_of_ble_eq_true rfl)).trans (mm_bind (fun q2 => ?_))
    refine (R_istore (ls' := [vr 8 0, vi l1, vi l2, vi l3, vi q2.1, x5]) dX8_batch_33 (Nat.le_of_ble_eq_true rfl) (by decide) rfl).trans ?_
    refine (R_sipush 1000 dX8_batch_35 sipush_1000).trans ?_
    refine (R_aload_n dX8_batch_38 rfl (by decide)).trans ?_
    refine (R_bipush 100 dX8_batch_39 bipush_100).trans ?_
    refine (R_cv_i (as := [vi 100]) (rest := [vi 1000]) dX8_batch_41 mt_8_186 qp_122 qr_122 (E_X8_batch_122) rfl rfl rfl (Nat.le_of_ble_eq_true rfl)).trans (mm_bind (fun q3 => ?_))
    refine (R_iadd dX8_batch_44).trans ?_
    refine (R_istore (ls' := [vr 8 0, vi l1, vi l2, vi l3, vi q2.1, vi (1000 + q3.1)]) dX8_batch_45 (Nat.le_of_ble_eq_true rfl) (by decide) rfl).trans ?_
    refine (R_aload_n dX8_batch_47 rfl (by decide)).trans ?_
    refine (R_iload dX8_batch_48 rfl).trans ?_
    refine (R_iload dX8_batch_50 rfl).trans ?_
    refine (R_cv_i (as := [vi q2.1, vi (1000 + q3.1)]) (rest := []) dX8_batch_52 mt_8_157 qp_111 qr_111 (E_X8_batch_111) rfl rfl rfl (Nat.le_of_ble_eq_true rfl)).trans (mm_bind (fun q4 => ?_))
    refine (R_ifc 69 dX8_batch_55 rfl).trans (c_eq (fun h5 => ?_) (fun h5 => ?_))
    · refine (R_iinc (ls' := [vr 8 0, vi l1, vi l2, vi (l3 + 1), vi q2.1, vi (1000 + q3.1)]) 1 dX8_batch_69 rfl iconst_1 (by decide) rfl).trans ?_
      refine (R_goto 23 dX8_batch_72 rfl).trans ?_
      exact rfl
    · refine (R_aload_n dX8_batch_58 rfl (by decide)).trans ?_
      refine (R_iload dX8_batch_59 rfl).trans ?_
      refine (R_iload dX8_batch_61 rfl).trans ?_
      refine (R_cv_v (as := [vi q2.1, vi (1000 + q3.1)]) (rest := []) dX8_batch_63 mt_8_164 qp_113 qr_113 (E_X8_batch_113) rfl rfl rfl (Nat.le_of_ble_eq_true rfl)).trans (mm_bind (fun q6 => ?_))
      refine (R_iinc (ls' := [vr 8 0, vi l1, vi (l2 + 1), vi l3, vi q2.1, vi (1000 + q3.1)]) 1 dX8_batch_66 rfl iconst_1 (by decide) rfl).trans ?_
      refine (R_iinc (ls' := [vr 8 0, vi l1, vi (l2 + 1), vi (l3 + 1), vi q2.1, vi (1000 + q3.1)]) 1 dX8_batch_69 rfl iconst_1 (by decide) rfl).trans ?_
      refine (R_goto 23 dX8_batch_72 rfl).trans ?_
      exact rfl
  · refine (R_iload_n dX8_batch_75 rfl).trans ?_
    exact R_ireturn dX8_batch_76 rfl
noncomputable def E_X8_lines : mE := fun k => if k = 130 then f_X8_isAhead else fun _ _ => none
theorem E_X8_lines_130 : E_X8_lines 130 = f_X8_isAhead := if_pos rfl
noncomputable def f_X8_lines : List mV → mM → Option mR := mm_fn E_X8_lines 8 1 5 cX8_lines
theorem k_X8_lines (l : Launch) : mm_OK l 131 f_X8_lines := mm_fn_ok l 131 8 E_X8_lines (by decide) rfl (by decide) (by
  intro k as μ q h
  by_cases h0 : k = 130
  · subst h0
    exact ⟨by rw [E_X8_lines_130]; exact k_X8_isAhead l, by decide, by decide, by decide⟩
  have e : E_X8_lines k = fun _ _ => none := (if_neg h0).trans (rfl)
  rw [e] at h
  cases h)
noncomputable def r_X8_lines_4 (l1 : Int32) (l2 : Int32) (x3 : mV) (x4 : mV) (μ : mM) : Option mR := mm_run E_X8_lines 8 1 cX8_lines (4, [vr 8 0, vi l1, vi l2, x3, x4], [], μ)
noncomputable def r_X8_lines_54 (l1 : Int32) (l2 : Int32) (l3 : Int32) (l4 : Int32) (μ : mM) : Option mR := mm_run E_X8_lines 8 1 cX8_lines (54, [vr 8 0, vi l1, vi l2, vi l3, vi l4], [], μ)
set_option maxRecDepth 100000 in
set_option maxHeartbeats 4000000 in
theorem e_X8_lines (μ : mM) : f_X8_lines [vr 8 0] μ = r_X8_lines_4 0 0 vu vu μ := by
  refine (show f_X8_lines [vr 8 0] μ = mm_run E_X8_lines 8 1 cX8_lines (0, [vr 8 0, vu, vu, vu, vu], [], μ) from rfl).trans ?_
  refine (R_iconst 0 dX8_lines_0 iconst_0).trans ?_
  refine (R_istore_n (ls' := [vr 8 0, vi 0, vu, vu, vu]) dX8_lines_1 (Nat.le_of_ble_eq_true rfl) (by decide) rfl).trans ?_
  refine (R_iconst 0 dX8_lines_2 iconst_0).trans ?_
  refine (R_istore_n (ls' := [vr 8 0, vi 0, vi 0, vu, vu]) dX8_lines_3 (Nat.le_of_ble_eq_true rfl) (by decide) rfl).trans ?_
  exact rfl
set_option maxRecDepth 100000 in
set_option maxHeartbeats 4000000 in
theorem e_X8_lines_4 (l1 : Int32) (l2 : Int32) (x3 : mV) (x4 : mV) (μ : mM) : r_X8_lines_4 l1 l2 x3 x4 μ = (ck 5225 8 (ck 5225 57 (if l2 < (μ 50 0 (Int32.toNatClampNeg 8)) + (μ 50 0 (Int32.toNatClampNeg 57)) then (ck 5225 8 (if l2 < μ 50 0 (Int32.toNatClampNeg 8) then r_X8_lines_54 l1 l2 l2 l1 μ else (ck 5225 8 (r_X8_lines_54 l1 l2 ((24 + l2) - (μ 50 0 (Int32.toNatClampNeg 8))) l1 μ)))) else some (l1, μ)))) := by
  refine (show r_X8_lines_4 l1 l2 x3 x4 μ = mm_run E_X8_lines 8 1 cX8_lines (4, [vr 8 0, vi l1, vi l2, x3, x4], [], μ) from rfl).trans ?_
  refine (R_iload_n dX8_lines_4 rfl).trans ?_
  refine (R_aload_n dX8_lines_5 rfl (by decide)).trans ?_
  refine (gr_8_7 dX8_lines_6).trans ?_
  refine (R_bipush 8 dX8_lines_9 bipush_8).trans ?_
  refine (R_iaload dX8_lines_11 as_50).trans (ck_congr ?_)
  refine (R_aload_n dX8_lines_12 rfl (by decide)).trans ?_
  refine (gr_8_7 dX8_lines_13).trans ?_
  refine (R_bipush 57 dX8_lines_16 bipush_57).trans ?_
  refine (R_iaload dX8_lines_18 as_50).trans (ck_congr ?_)
  refine (R_iadd dX8_lines_19).trans ?_
  refine (R_icmp 115 dX8_lines_20 rfl).trans (c_ge (fun h1 => ?_) (fun h1 => ?_))
  · refine (R_iload_n dX8_lines_23 rfl).trans ?_
    refine (R_aload_n dX8_lines_24 rfl (by decide)).trans ?_
    refine (gr_8_7 dX8_lines_25).trans ?_
    refine (R_bipush 8 dX8_lines_28 bipush_8).trans ?_
    refine (R_iaload dX8_lines_30 as_50).trans (ck_congr ?_)
    refine (R_icmp 38 dX8_lines_31 rfl).trans (c_ge (fun h2 => ?_) (fun h2 => ?_))
    · refine (R_iload_n dX8_lines_34 rfl).trans ?_
      refine (R_goto 50 dX8_lines_35 rfl).trans ?_
      refine (R_istore_n (ls' := [vr 8 0, vi l1, vi l2, vi l2, x4]) dX8_lines_50 (Nat.le_of_ble_eq_true rfl) (by decide) rfl).trans ?_
      refine (R_iload_n dX8_lines_51 rfl).trans ?_
      refine (R_istore (ls' := [vr 8 0, vi l1, vi l2, vi l2, vi l1]) dX8_lines_52 (Nat.le_of_ble_eq_true rfl) (by decide) rfl).trans ?_
      exact rfl
    · refine (R_bipush 24 dX8_lines_38 bipush_24).trans ?_
      refine (R_iload_n dX8_lines_40 rfl).trans ?_
      refine (R_iadd dX8_lines_41).trans ?_
      refine (R_aload_n dX8_lines_42 rfl (by decide)).trans ?_
      refine (gr_8_7 dX8_lines_43).trans ?_
      refine (R_bipush 8 dX8_lines_46 bipush_8).trans ?_
      refine (R_iaload dX8_lines_48 as_50).trans (ck_congr ?_)
      refine (R_isub dX8_lines_49).trans ?_
      refine (R_istore_n (ls' := [vr 8 0, vi l1, vi l2, vi ((24 + l2) - (μ 50 0 (Int32.toNatClampNeg 8))), x4]) dX8_lines_50 (Nat.le_of_ble_eq_true rfl) (by decide) rfl).trans ?_
      refine (R_iload_n dX8_lines_51 rfl).trans ?_
      refine (R_istore (ls' := [vr 8 0, vi l1, vi l2, vi ((24 + l2) - (μ 50 0 (Int32.toNatClampNeg 8))), vi l1]) dX8_lines_52 (Nat.le_of_ble_eq_true rfl) (by decide) rfl).trans ?_
      exact rfl
  · refine (R_iload_n dX8_lines_115 rfl).trans ?_
    exact R_ireturn dX8_lines_116 rfl
set_option maxRecDepth 100000 in
set_option maxHeartbeats 4000000 in
theorem e_X8_lines_54 (l1 : Int32) (l2 : Int32) (l3 : Int32) (l4 : Int32) (μ : mM) : r_X8_lines_54 l1 l2 l3 l4 μ = (if 0 < l4 then (ck 48 (l4 - 1) (Option.bind (f_X8_isAhead [vr 8 0, vi l3, vi (μ 59 0 (Int32.toNatClampNeg (l4 - 1)))] μ) (fun q2 => (if q2.1 = 0 then (ck 48 l4 (wr (mm_up q2.2 59 0 (Int32.toNatClampNeg l4) l3) (fun m4 => r_X8_lines_4 (l1 + 1) (l2 + 1) (vi l3) (vi l4) m4))) else (ck 48 (l4 - 1) (ck 48 l4 (wr (mm_up q2.2 59 0 (Int32.toNatClampNeg l4) (q2.2 59 0 (Int32.toNatClampNeg (l4 - 1)))) (fun m5 => r_X8_lines_54 l1 l2 l3 (l4 + (-1)) m5)))))))) else (ck 48 l4 (wr (mm_up μ 59 0 (Int32.toNatClampNeg l4) l3) (fun m6 => r_X8_lines_4 (l1 + 1) (l2 + 1) (vi l3) (vi l4) m6)))) := by
  refine (show r_X8_lines_54 l1 l2 l3 l4 μ = mm_run E_X8_lines 8 1 cX8_lines (54, [vr 8 0, vi l1, vi l2, vi l3, vi l4], [], μ) from rfl).trans ?_
  refine (R_iload dX8_lines_54 rfl).trans ?_
  refine (R_ifc 98 dX8_lines_56 rfl).trans (c_le (fun h1 => ?_) (fun h1 => ?_))
  · refine (R_aload_n dX8_lines_59 rfl (by decide)).trans ?_
    refine (R_iload_n dX8_lines_60 rfl).trans ?_
    refine (R_aload_n dX8_lines_61 rfl (by decide)).trans ?_
    refine (gr_8_38 dX8_lines_62).trans ?_
    refine (R_iload dX8_lines_65 rfl).trans ?_
    refine (R_iconst 1 dX8_lines_67 iconst_1).trans ?_
    refine (R_isub dX8_lines_68).trans ?_
    refine (R_iaload dX8_lines_69 as_59).trans (ck_congr ?_)
    refine (R_cv_i (as := [vi l3, vi (μ 59 0 (Int32.toNatClampNeg (l4 - 1)))]) (rest := []) dX8_lines_70 mt_8_200 qp_130 qr_130 (E_X8_lines_130) rfl rfl rfl (Nat.le_of_ble_eq_true rfl)).trans (mm_bind (fun q2 => ?_))
    refine (R_ifc 98 dX8_lines_73 rfl).trans (c_eq (fun h3 => ?_) (fun h3 => ?_))
    · refine (R_aload_n dX8_lines_98 rfl (by decide)).trans ?_
      refine (gr_8_38 dX8_lines_99).trans ?_
      refine (R_iload dX8_lines_102 rfl).trans ?_
      refine (R_iload_n dX8_lines_104 rfl).trans ?_
      refine (R_iastore dX8_lines_105 as_59).trans (ck_congr ?_)
      refine wr_intro (g := fun m => mm_run E_X8_lines 8 1 cX8_lines (106, [vr 8 0, vi l1, vi l2, vi l3, vi l4], [], m)) (fun m4 => ?_)
      refine (R_iinc (ls' := [vr 8 0, vi (l1 + 1), vi l2, vi l3, vi l4]) 1 dX8_lines_106 rfl iconst_1 (by decide) rfl).trans ?_
      refine (R_iinc (ls' := [vr 8 0, vi (l1 + 1), vi (l2 + 1), vi l3, vi l4]) 1 dX8_lines_109 rfl iconst_1 (by decide) rfl).trans ?_
      refine (R_goto 4 dX8_lines_112 rfl).trans ?_
      exact rfl
    · refine (R_aload_n dX8_lines_76 rfl (by decide)).trans ?_
      refine (gr_8_38 dX8_lines_77).trans ?_
      refine (R_iload dX8_lines_80 rfl).trans ?_
      refine (R_aload_n dX8_lines_82 rfl (by decide)).trans ?_
      refine (gr_8_38 dX8_lines_83).trans ?_
      refine (R_iload dX8_lines_86 rfl).trans ?_
      refine (R_iconst 1 dX8_lines_88 iconst_1).trans ?_
      refine (R_isub dX8_lines_89).trans ?_
      refine (R_iaload dX8_lines_90 as_59).trans (ck_congr ?_)
      refine (R_iastore dX8_lines_91 as_59).trans (ck_congr ?_)
      refine wr_intro (g := fun m => mm_run E_X8_lines 8 1 cX8_lines (92, [vr 8 0, vi l1, vi l2, vi l3, vi l4], [], m)) (fun m5 => ?_)
      refine (R_iinc (ls' := [vr 8 0, vi l1, vi l2, vi l3, vi (l4 + (-1))]) (-1) dX8_lines_92 rfl iconst_m1 (by decide) rfl).trans ?_
      refine (R_goto 54 dX8_lines_95 rfl).trans ?_
      exact rfl
  · refine (R_aload_n dX8_lines_98 rfl (by decide)).trans ?_
    refine (gr_8_38 dX8_lines_99).trans ?_
    refine (R_iload dX8_lines_102 rfl).trans ?_
    refine (R_iload_n dX8_lines_104 rfl).trans ?_
    refine (R_iastore dX8_lines_105 as_59).trans (ck_congr ?_)
    refine wr_intro (g := fun m => mm_run E_X8_lines 8 1 cX8_lines (106, [vr 8 0, vi l1, vi l2, vi l3, vi l4], [], m)) (fun m6 => ?_)
    refine (R_iinc (ls' := [vr 8 0, vi (l1 + 1), vi l2, vi l3, vi l4]) 1 dX8_lines_106 rfl iconst_1 (by decide) rfl).trans ?_
    refine (R_iinc (ls' := [vr 8 0, vi (l1 + 1), vi (l2 + 1), vi l3, vi l4]) 1 dX8_lines_109 rfl iconst_1 (by decide) rfl).trans ?_
    refine (R_goto 4 dX8_lines_112 rfl).trans ?_
    exact rfl
noncomputable def E_X8_withBore : mE := fun k => if k = 82 then f_X8_isSize else if k = 89 then f_X8_pairs else fun _ _ => none
theorem E_X8_withBore_82 : E_X8_withBore 82 = f_X8_isSize := if_pos rfl
theorem E_X8_withBore_89 : E_X8_withBore 89 = f_X8_pairs := (if_neg (by decide)).trans (if_pos rfl)
noncomputable def f_X8_withBore : List mV → mM → Option mR := mm_fn E_X8_withBore 8 1 2 cX8_withBore
theorem k_X8_withBore (l : Launch) : mm_OK l 134 f_X8_withBore := mm_fn_ok l 134 8 E_X8_withBore (by decide) rfl (by decide) (by
  intro k as μ q h
  by_cases h0 : k = 82
  · subst h0
    exact ⟨by rw [E_X8_withBore_82]; exact k_X8_isSize l, by decide, by decide, by decide⟩
  by_cases h1 : k = 89
  · subst h1
    exact ⟨by rw [E_X8_withBore_89]; exact k_X8_pairs l, by decide, by decide, by decide⟩
  have e : E_X8_withBore k = fun _ _ => none := (if_neg h0).trans ((if_neg h1).trans (rfl))
  rw [e] at h
  cases h)
set_option maxRecDepth 100000 in
set_option maxHeartbeats 4000000 in
theorem e_X8_withBore (l1 : Int32) (μ : mM) : f_X8_withBore [vr 8 0, vi l1] μ = (Option.bind (f_X8_isSize [vi l1] μ) (fun q1 => (if q1.1 = 0 then some ((-1000000002), q1.2) else (Option.bind (f_X8_pairs [vr 8 0, vi 0, vi l1] q1.2) (fun q3 => some (q3.1, q3.2)))))) := by
  refine (show f_X8_withBore [vr 8 0, vi l1] μ = mm_run E_X8_withBore 8 1 cX8_withBore (0, [vr 8 0, vi l1], [], μ) from rfl).trans ?_
  refine (R_iload_n dX8_withBore_0 rfl).trans ?_
  refine (R_cs_i (as := [vi l1]) (rest := []) dX8_withBore_1 mt_8_74 (by decide) qp_82 qr_82 (E_X8_withBore_82) (Nat.le_of_ble_eq_true rfl) rfl rfl (Nat.le_of_ble_eq_true rfl)).trans (mm_bind (fun q1 => ?_))
  refine (R_ifc 16 dX8_withBore_4 rfl).trans (c_eq (fun h2 => ?_) (fun h2 => ?_))
  · refine (R_ldc dX8_withBore_16 kt_8_118).trans ?_
    exact R_ireturn dX8_withBore_18 rfl
  · refine (R_aload_n dX8_withBore_7 rfl (by decide)).trans ?_
    refine (R_iconst 0 dX8_withBore_8 iconst_0).trans ?_
    refine (R_iload_n dX8_withBore_9 rfl).trans ?_
    refine (R_cv_i (as := [vi 0, vi l1]) (rest := []) dX8_withBore_10 mt_8_67 qp_89 qr_89 (E_X8_withBore_89) rfl rfl rfl (Nat.le_of_ble_eq_true rfl)).trans (mm_bind (fun q3 => ?_))
    refine (R_goto 18 dX8_withBore_13 rfl).trans ?_
    exact R_ireturn dX8_withBore_18 rfl
