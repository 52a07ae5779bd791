noncomputable def E_X5_pairsWith : mE := fun k => if k = 24 then f_X5_addBore else if k = 26 then f_X5_pair else if k = 25 then f_X5_dropLatestBore else fun _ _ => none
theorem E_X5_pairsWith_24 : E_X5_pairsWith 24 = f_X5_addBore := if_pos rfl
theorem E_X5_pairsWith_26 : E_X5_pairsWith 26 = f_X5_pair := (if_neg (by decide)).trans (if_pos rfl)
theorem E_X5_pairsWith_25 : E_X5_pairsWith 25 = f_X5_dropLatestBore := (if_neg (by decide)).trans ((if_neg (by decide)).trans (if_pos rfl))
noncomputable def f_X5_pairsWith : List mV → mM → Option mR := mm_fn E_X5_pairsWith 5 1 3 cX5_pairsWith
theorem k_X5_pairsWith (l : Launch) : mm_OK l 33 f_X5_pairsWith := mm_fn_ok l 33 5 E_X5_pairsWith (by decide) rfl (by decide) (by
  intro k as μ q h
  by_cases h0 : k = 24
  · subst h0
    exact ⟨by rw [E_X5_pairsWith_24]; exact k_X5_addBore l, by decide, by decide, by decide⟩
  by_cases h1 : k = 26
  · subst h1
    exact ⟨by rw [E_X5_pairsWith_26]; exact k_X5_pair l, by decide, by decide, by decide⟩
  by_cases h2 : k = 25
  · subst h2
    exact ⟨by rw [E_X5_pairsWith_25]; exact k_X5_dropLatestBore l, by decide, by decide, by decide⟩
  have e : E_X5_pairsWith k = fun _ _ => none := (if_neg h0).trans ((if_neg h1).trans ((if_neg h2).trans (rfl)))
  rw [e] at h
  cases h)
set_option maxRecDepth 100000 in
set_option maxHeartbeats 4000000 in
theorem e_X5_pairsWith (l1 : Int32) (μ : mM) : f_X5_pairsWith [vr 5 0, vi l1] μ = (Option.bind (f_X5_addBore [vr 5 0, vi l1] μ) (fun q1 => (Option.bind (f_X5_pair [vr 5 0, vi 0] q1.2) (fun q2 => (Option.bind (f_X5_dropLatestBore [vr 5 0] q2.2) (fun q3 => some (q2.1, q3.2))))))) := by
  refine (show f_X5_pairsWith [vr 5 0, vi l1] μ = mm_run E_X5_pairsWith 5 1 cX5_pairsWith (0, [vr 5 0, vi l1, vu], [], μ) from rfl).trans ?_
  refine (R_aload_n dX5_pairsWith_0 rfl (by decide)).trans ?_
  refine (R_iload_n dX5_pairsWith_1 rfl).trans ?_
  refine (R_cv_v (as := [vi l1]) (rest := []) dX5_pairsWith_2 mt_5_67 qp_24 qr_24 (E_X5_pairsWith_24) rfl rfl rfl (Nat.le_of_ble_eq_true rfl)).trans (mm_bind (fun q1 => ?_))
  refine (R_aload_n dX5_pairsWith_5 rfl (by decide)).trans ?_
  refine (R_iconst 0 dX5_pairsWith_6 iconst_0).trans ?_
  refine (R_cv_i (as := [vi 0]) (rest := []) dX5_pairsWith_7 mt_5_82 qp_26 qr_26 (E_X5_pairsWith_26) rfl rfl rfl (Nat.le_of_ble_eq_true rfl)).trans (mm_bind (fun q2 => ?_))
  refine (R_istore_n (ls' := [vr 5 0, vi l1, vi q2.1]) dX5_pairsWith_10 (Nat.le_of_ble_eq_true rfl) (by decide) rfl).trans ?_
  refine (R_aload_n dX5_pairsWith_11 rfl (by decide)).trans ?_
  refine (R_cv_v (as := []) (rest := []) dX5_pairsWith_12 mt_5_88 qp_25 qr_25 (E_X5_pairsWith_25) rfl rfl rfl (Nat.le_of_ble_eq_true rfl)).trans (mm_bind (fun q3 => ?_))
  refine (R_iload_n dX5_pairsWith_15 rfl).trans ?_
  exact R_ireturn dX5_pairsWith_16 rfl
noncomputable def E_X6_put : mE := fun k => if k = 37 then f_X6_hasRoom else if k = 39 then f_X6_countInSort else if k = 77 then f_X7_gradeOf else fun _ _ => none
theorem E_X6_put_37 : E_X6_put 37 = f_X6_hasRoom := if_pos rfl
theorem E_X6_put_39 : E_X6_put 39 = f_X6_countInSort := (if_neg (by decide)).trans (if_pos rfl)
theorem E_X6_put_77 : E_X6_put 77 = f_X7_gradeOf := (if_neg (by decide)).trans ((if_neg (by decide)).trans (if_pos rfl))
noncomputable def f_X6_put : List mV → mM → Option mR := mm_fn E_X6_put 6 1 2 cX6_put
theorem k_X6_put (l : Launch) : mm_OK l 38 f_X6_put := mm_fn_ok l 38 6 E_X6_put (by decide) rfl (by decide) (by
  intro k as μ q h
  by_cases h0 : k = 37
  · subst h0
    exact ⟨by rw [E_X6_put_37]; exact k_X6_hasRoom l, by decide, by decide, by decide⟩
  by_cases h1 : k = 39
  · subst h1
    exact ⟨by rw [E_X6_put_39]; exact k_X6_countInSort l, by decide, by decide, by decide⟩
  by_cases h2 : k = 77
  · subst h2
    exact ⟨by rw [E_X6_put_77]; exact k_X7_gradeOf l, by decide, by decide, by decide⟩
  have e : E_X6_put k = fun _ _ => none := (if_neg h0).trans ((if_neg h1).trans ((if_neg h2).trans (rfl)))
  rw [e] at h
  cases h)
set_option maxRecDepth 100000 in
set_option maxHeartbeats 4000000 in
theorem e_X6_put (a : Nat) (l1 : Int32) (μ : mM) : f_X6_put [vr 6 a, vi l1] μ = (Option.bind (f_X6_hasRoom [vr 6 a, vi l1] μ) (fun q1 => (if q1.1 = 0 then some ((-1000000004), q1.2) else (Option.bind (f_X6_countInSort [vr 6 a, vi l1] q1.2) (fun q3 => (Option.bind (f_X7_gradeOf [vi l1] q3.2) (fun q4 => (if q4.1 = 4 then (ck 24 (q4.2 6 a 7) (wr (mm_up q4.2 11 a (Int32.toNatClampNeg (q4.2 6 a 7)) l1) (fun m6 => (wr (mm_up m6 6 a 7 ((m6 6 a 7) + 1)) (fun m7 => some (m6 6 a 7, m7)))))) else (ck 24 (q4.2 6 a 6) (wr (mm_up q4.2 10 a (Int32.toNatClampNeg (q4.2 6 a 6)) l1) (fun m8 => (wr (mm_up m8 6 a 6 ((m8 6 a 6) + 1)) (fun m9 => some (m8 6 a 6, m9)))))))))))))) := by
  refine (show f_X6_put [vr 6 a, vi l1] μ = mm_run E_X6_put 6 1 cX6_put (0, [vr 6 a, vi l1], [], μ) from rfl).trans ?_
  refine (R_aload_n dX6_put_0 rfl (by decide)).trans ?_
  refine (R_iload_n dX6_put_1 rfl).trans ?_
  refine (R_cv_i (as := [vi l1]) (rest := []) dX6_put_2 mt_6_53 qp_37 qr_37 (E_X6_put_37) rfl rfl rfl (Nat.le_of_ble_eq_true rfl)).trans (mm_bind (fun q1 => ?_))
  refine (R_ifc 11 dX6_put_5 rfl).trans (c_ne (fun h2 => ?_) (fun h2 => ?_))
  · refine (R_ldc dX6_put_8 kt_6_57).trans ?_
    exact R_ireturn dX6_put_10 rfl
  · refine (R_aload_n dX6_put_11 rfl (by decide)).trans ?_
    refine (R_iload_n dX6_put_12 rfl).trans ?_
    refine (R_cv_v (as := [vi l1]) (rest := []) dX6_put_13 mt_6_58 qp_39 qr_39 (E_X6_put_39) rfl rfl rfl (Nat.le_of_ble_eq_true rfl)).trans (mm_bind (fun q3 => ?_))
    refine (R_iload_n dX6_put_16 rfl).trans ?_
    refine (R_cs_i (as := [vi l1]) (rest := []) dX6_put_17 mt_6_46 (by decide) qp_77 qr_77 (E_X6_put_77) (Nat.le_of_ble_eq_true rfl) rfl rfl (Nat.le_of_ble_eq_true rfl)).trans (mm_bind (fun q4 => ?_))
    refine (R_iconst 4 dX6_put_20 iconst_4).trans ?_
    refine (R_icmp 46 dX6_put_21 rfl).trans (c_ne (fun h5 => ?_) (fun h5 => ?_))
    · refine (R_aload_n dX6_put_24 rfl (by decide)).trans ?_
      refine (gr_6_15 dX6_put_25).trans ?_
      refine (R_aload_n dX6_put_28 rfl (by decide)).trans ?_
      refine (gi_6_34 dX6_put_29).trans ?_
      refine (R_iload_n dX6_put_32 rfl).trans ?_
      refine (R_iastore dX6_put_33 as_11).trans (ck_congr ?_)
      refine wr_intro (g := fun m => mm_run E_X6_put 6 1 cX6_put (34, [vr 6 a, vi l1], [], m)) (fun m6 => ?_)
      refine (R_aload_n dX6_put_34 rfl (by decide)).trans ?_
      refine (R_dup dX6_put_35 rfl).trans ?_
      refine (gi_6_34 dX6_put_36).trans ?_
      refine (R_dup_x1 dX6_put_39 rfl rfl).trans ?_
      refine (R_iconst 1 dX6_put_40 iconst_1).trans ?_
      refine (R_iadd dX6_put_41).trans ?_
      refine (R_pi dX6_put_42 ft_6_34 fs_6_7).trans ?_
      refine wr_intro (g := fun m => mm_run E_X6_put 6 1 cX6_put (45, [vr 6 a, vi l1], [vi (m6 6 a 7)], m)) (fun m7 => ?_)
      exact R_ireturn dX6_put_45 rfl
    · refine (R_aload_n dX6_put_46 rfl (by decide)).trans ?_
      refine (gr_6_9 dX6_put_47).trans ?_
      refine (R_aload_n dX6_put_50 rfl (by decide)).trans ?_
      refine (gi_6_30 dX6_put_51).trans ?_
      refine (R_iload_n dX6_put_54 rfl).trans ?_
      refine (R_iastore dX6_put_55 as_10).trans (ck_congr ?_)
      refine wr_intro (g := fun m => mm_run E_X6_put 6 1 cX6_put (56, [vr 6 a, vi l1], [], m)) (fun m8 => ?_)
      refine (R_aload_n dX6_put_56 rfl (by decide)).trans ?_
      refine (R_dup dX6_put_57 rfl).trans ?_
      refine (gi_6_30 dX6_put_58).trans ?_
      refine (R_dup_x1 dX6_put_61 rfl rfl).trans ?_
      refine (R_iconst 1 dX6_put_62 iconst_1).trans ?_
      refine (R_iadd dX6_put_63).trans ?_
      refine (R_pi dX6_put_64 ft_6_30 fs_6_6).trans ?_
      refine wr_intro (g := fun m => mm_run E_X6_put 6 1 cX6_put (67, [vr 6 a, vi l1], [vi (m8 6 a 6)], m)) (fun m9 => ?_)
      exact R_ireturn dX6_put_67 rfl
noncomputable def E_X6_sortAnew : mE := fun k => if k = 39 then f_X6_countInSort else fun _ _ => none
theorem E_X6_sortAnew_39 : E_X6_sortAnew 39 = f_X6_countInSort := if_pos rfl
noncomputable def f_X6_sortAnew : List mV → mM → Option mR := mm_fn E_X6_sortAnew 6 0 2 cX6_sortAnew
theorem k_X6_sortAnew (l : Launch) : mm_OK l 40 f_X6_sortAnew := mm_fn_ok l 40 6 E_X6_sortAnew (by decide) rfl (by decide) (by
  intro k as μ q h
  by_cases h0 : k = 39
  · subst h0
    exact ⟨by rw [E_X6_sortAnew_39]; exact k_X6_countInSort l, by decide, by decide, by decide⟩
  have e : E_X6_sortAnew k = fun _ _ => none := (if_neg h0).trans (rfl)
  rw [e] at h
  cases h)
noncomputable def r_X6_sortAnew_7 (a : Nat) (l1 : Int32) (μ : mM) : Option mR := mm_run E_X6_sortAnew 6 0 cX6_sortAnew (7, [vr 6 a, vi l1], [], μ)
noncomputable def r_X6_sortAnew_33 (a : Nat) (l1 : Int32) (μ : mM) : Option mR := mm_run E_X6_sortAnew 6 0 cX6_sortAnew (33, [vr 6 a, vi l1], [], μ)
set_option maxRecDepth 100000 in
set_option maxHeartbeats 4000000 in
theorem e_X6_sortAnew (a : Nat) (μ : mM) : f_X6_sortAnew [vr 6 a] μ = (wr (mm_up μ 6 a 8 0) (fun m1 => r_X6_sortAnew_7 a 0 m1)) := by
  refine (show f_X6_sortAnew [vr 6 a] μ = mm_run E_X6_sortAnew 6 0 cX6_sortAnew (0, [vr 6 a, vu], [], μ) from rfl).trans ?_
  refine (R_aload_n dX6_sortAnew_0 rfl (by decide)).trans ?_
  refine (R_iconst 0 dX6_sortAnew_1 iconst_0).trans ?_
  refine (R_pi dX6_sortAnew_2 ft_6_37 fs_6_8).trans ?_
  refine wr_intro (g := fun m => mm_run E_X6_sortAnew 6 0 cX6_sortAnew (5, [vr 6 a, vu], [], m)) (fun m1 => ?_)
  refine (R_iconst 0 dX6_sortAnew_5 iconst_0).trans ?_
  refine (R_istore_n (ls' := [vr 6 a, vi 0]) dX6_sortAnew_6 (Nat.le_of_ble_eq_true rfl) (by decide) rfl).trans ?_
  exact rfl
set_option maxRecDepth 100000 in
set_option maxHeartbeats 4000000 in
theorem e_X6_sortAnew_7 (a : Nat) (l1 : Int32) (μ : mM) : r_X6_sortAnew_7 a l1 μ = (if l1 < μ 6 a 6 then (ck 24 l1 (Option.bind (f_X6_countInSort [vr 6 a, vi (μ 10 a (Int32.toNatClampNeg l1))] μ) (fun q2 => r_X6_sortAnew_7 a (l1 + 1) q2.2))) else r_X6_sortAnew_33 a 0 μ) := by
  refine (show r_X6_sortAnew_7 a l1 μ = mm_run E_X6_sortAnew 6 0 cX6_sortAnew (7, [vr 6 a, vi l1], [], μ) from rfl).trans ?_
  refine (R_iload_n dX6_sortAnew_7 rfl).trans ?_
  refine (R_aload_n dX6_sortAnew_8 rfl (by decide)).trans ?_
  refine (gi_6_30 dX6_sortAnew_9).trans ?_
  refine (R_icmp 31 dX6_sortAnew_12 rfl).trans (c_ge (fun h1 => ?_) (fun h1 => ?_))
  · refine (R_aload_n dX6_sortAnew_15 rfl (by decide)).trans ?_
    refine (R_aload_n dX6_sortAnew_16 rfl (by decide)).trans ?_
    refine (gr_6_9 dX6_sortAnew_17).trans ?_
    refine (R_iload_n dX6_sortAnew_20 rfl).trans ?_
    refine (R_iaload dX6_sortAnew_21 as_10).trans (ck_congr ?_)
    refine (R_cv_v (as := [vi (μ 10 a (Int32.toNatClampNeg l1))]) (rest := []) dX6_sortAnew_22 mt_6_58 qp_39 qr_39 (E_X6_sortAnew_39) rfl rfl rfl (Nat.le_of_ble_eq_true rfl)).trans (mm_bind (fun q2 => ?_))
    refine (R_iinc (ls' := [vr 6 a, vi (l1 + 1)]) 1 dX6_sortAnew_25 rfl iconst_1 (by decide) rfl).trans ?_
    refine (R_goto 7 dX6_sortAnew_28 rfl).trans ?_
    exact rfl
  · refine (R_iconst 0 dX6_sortAnew_31 iconst_0).trans ?_
    refine (R_istore_n (ls' := [vr 6 a, vi 0]) dX6_sortAnew_32 (Nat.le_of_ble_eq_true rfl) (by decide) rfl).trans ?_
    exact rfl
set_option maxRecDepth 100000 in
set_option maxHeartbeats 4000000 in
theorem e_X6_sortAnew_33 (a : Nat) (l1 : Int32) (μ : mM) : r_X6_sortAnew_33 a l1 μ = (if l1 < μ 6 a 7 then (ck 24 l1 (Option.bind (f_X6_countInSort [vr 6 a, vi (μ 11 a (Int32.toNatClampNeg l1))] μ) (fun q2 => r_X6_sortAnew_33 a (l1 + 1) q2.2))) else some (0, μ)) := by
  refine (show r_X6_sortAnew_33 a l1 μ = mm_run E_X6_sortAnew 6 0 cX6_sortAnew (33, [vr 6 a, vi l1], [], μ) from rfl).trans ?_
  refine (R_iload_n dX6_sortAnew_33 rfl).trans ?_
  refine (R_aload_n dX6_sortAnew_34 rfl (by decide)).trans ?_
  refine (gi_6_34 dX6_sortAnew_35).trans ?_
  refine (R_icmp 57 dX6_sortAnew_38 rfl).trans (c_ge (fun h1 => ?_) (fun h1 => ?_))
  · refine (R_aload_n dX6_sortAnew_41 rfl (by decide)).trans ?_
    refine (R_aload_n dX6_sortAnew_42 rfl (by decide)).trans ?_
    refine (gr_6_15 dX6_sortAnew_43).trans ?_
    refine (R_iload_n dX6_sortAnew_46 rfl).trans ?_
    refine (R_iaload dX6_sortAnew_47 as_11).trans (ck_congr ?_)
    refine (R_cv_v (as := [vi (μ 11 a (Int32.toNatClampNeg l1))]) (rest := []) dX6_sortAnew_48 mt_6_58 qp_39 qr_39 (E_X6_sortAnew_39) rfl rfl rfl (Nat.le_of_ble_eq_true rfl)).trans (mm_bind (fun q2 => ?_))
    refine (R_iinc (ls' := [vr 6 a, vi (l1 + 1)]) 1 dX6_sortAnew_51 rfl iconst_1 (by decide) rfl).trans ?_
    refine (R_goto 33 dX6_sortAnew_54 rfl).trans ?_
    exact rfl
  · exact R_return dX6_sortAnew_57 rfl
noncomputable def E_X6_shaftsFittedBy : mE := fun k => if k = 47 then f_X6_begin else if k = 48 then f_X6_end else fun _ _ => none
theorem E_X6_shaftsFittedBy_47 : E_X6_shaftsFittedBy 47 = f_X6_begin := if_pos rfl
theorem E_X6_shaftsFittedBy_48 : E_X6_shaftsFittedBy 48 = f_X6_end := (if_neg (by decide)).trans (if_pos rfl)
noncomputable def f_X6_shaftsFittedBy : List mV → mM → Option mR := mm_fn E_X6_shaftsFittedBy 6 1 4 cX6_shaftsFittedBy
theorem k_X6_shaftsFittedBy (l : Launch) : mm_OK l 46 f_X6_shaftsFittedBy := mm_fn_ok l 46 6 E_X6_shaftsFittedBy (by decide) rfl (by decide) (by
  intro k as μ q h
  by_cases h0 : k = 47
  · subst h0
    exact ⟨by rw [E_X6_shaftsFittedBy_47]; exact k_X6_begin l, by decide, by decide, by decide⟩
  by_cases h1 : k = 48
  · subst h1
    exact ⟨by rw [E_X6_shaftsFittedBy_48]; exact k_X6_end l, by decide, by decide, by decide⟩
  have e : E_X6_shaftsFittedBy k = fun _ _ => none := (if_neg h0).trans ((if_neg h1).trans (rfl))
  rw [e] at h
  cases h)
noncomputable def r_X6_shaftsFittedBy_4 (a : Nat) (l1 : Int32) (l2 : Int32) (l3 : Int32) (μ : mM) : Option mR := mm_run E_X6_shaftsFittedBy 6 1 cX6_shaftsFittedBy (4, [vr 6 a, vi l1, vi l2, vi l3], [], μ)
set_option maxRecDepth 100000 in
set_option maxHeartbeats 4000000 in
theorem e_X6_shaftsFittedBy (a : Nat) (l1 : Int32) (μ : mM) : f_X6_shaftsFittedBy [vr 6 a, vi l1] μ = r_X6_shaftsFittedBy_4 a l1 0 0 μ := by
  refine (show f_X6_shaftsFittedBy [vr 6 a, vi l1] μ = mm_run E_X6_shaftsFittedBy 6 1 cX6_shaftsFittedBy (0, [vr 6 a, vi l1, vu, vu], [], μ) from rfl).trans ?_
  refine (R_iconst 0 dX6_shaftsFittedBy_0 iconst_0).trans ?_
  refine (R_istore_n (ls' := [vr 6 a, vi l1, vi 0, vu]) dX6_shaftsFittedBy_1 (Nat.le_of_ble_eq_true rfl) (by decide) rfl).trans ?_
  refine (R_iconst 0 dX6_shaftsFittedBy_2 iconst_0).trans ?_
  refine (R_istore_n (ls' := [vr 6 a, vi l1, vi 0, vi 0]) dX6_shaftsFittedBy_3 (Nat.le_of_ble_eq_true rfl) (by decide) rfl).trans ?_
  exact rfl
set_option maxRecDepth 100000 in
set_option maxHeartbeats 4000000 in
theorem e_X6_shaftsFittedBy_4 (a : Nat) (l1 : Int32) (l2 : Int32) (l3 : Int32) (μ : mM) : r_X6_shaftsFittedBy_4 a l1 l2 l3 μ = (if l3 < μ 6 a 6 then (ck 24 l3 (Option.bind (f_X6_begin [vr 6 a, vi (μ 10 a (Int32.toNatClampNeg l3))] μ) (fun q2 => (if l1 < q2.1 then r_X6_shaftsFittedBy_4 a l1 (l2 + 0) (l3 + 1) q2.2 else (ck 24 l3 (Option.bind (f_X6_end [vr 6 a, vi (q2.2 10 a (Int32.toNatClampNeg l3))] q2.2) (fun q4 => (if q4.1 < l1 then r_X6_shaftsFittedBy_4 a l1 (l2 + 0) (l3 + 1) q4.2 else r_X6_shaftsFittedBy_4 a l1 (l2 + 1) (l3 + 1) q4.2)))))))) else some (l2, μ)) := by
  refine (show r_X6_shaftsFittedBy_4 a l1 l2 l3 μ = mm_run E_X6_shaftsFittedBy 6 1 cX6_shaftsFittedBy (4, [vr 6 a, vi l1, vi l2, vi l3], [], μ) from rfl).trans ?_
  refine (R_iload_n dX6_shaftsFittedBy_4 rfl).trans ?_
  refine (R_aload_n dX6_shaftsFittedBy_5 rfl (by decide)).trans ?_
  refine (gi_6_30 dX6_shaftsFittedBy_6).trans ?_
  refine (R_icmp 54 dX6_shaftsFittedBy_9 rfl).trans (c_ge (fun h1 => ?_) (fun h1 => ?_))
  · refine (R_iload_n dX6_shaftsFittedBy_12 rfl).trans ?_
    refine (R_aload_n dX6_shaftsFittedBy_13 rfl (by decide)).trans ?_
    refine (R_aload_n dX6_shaftsFittedBy_14 rfl (by decide)).trans ?_
    refine (gr_6_9 dX6_shaftsFittedBy_15).trans ?_
    refine (R_iload_n dX6_shaftsFittedBy_18 rfl).trans ?_
    refine (R_iaload dX6_shaftsFittedBy_19 as_10).trans (ck_congr ?_)
    refine (R_cv_i (as := [vi (μ 10 a (Int32.toNatClampNeg l3))]) (rest := [vi l2]) dX6_shaftsFittedBy_20 mt_6_66 qp_47 qr_47 (E_X6_shaftsFittedBy_47) rfl rfl rfl (Nat.le_of_ble_eq_true rfl)).trans (mm_bind (fun q2 => ?_))
    refine (R_iload_n dX6_shaftsFittedBy_23 rfl).trans ?_
    refine (R_icmp 45 dX6_shaftsFittedBy_24 rfl).trans (c_gt (fun h3 => ?_) (fun h3 => ?_))
    · refine (R_iconst 0 dX6_shaftsFittedBy_45 iconst_0).trans ?_
      refine (R_iadd dX6_shaftsFittedBy_46).trans ?_
      refine (R_istore_n (ls' := [vr 6 a, vi l1, vi (l2 + 0), vi l3]) dX6_shaftsFittedBy_47 (Nat.le_of_ble_eq_true rfl) (by decide) rfl).trans ?_
      refine (R_iinc (ls' := [vr 6 a, vi l1, vi (l2 + 0), vi (l3 + 1)]) 1 dX6_shaftsFittedBy_48 rfl iconst_1 (by decide) rfl).trans ?_
      refine (R_goto 4 dX6_shaftsFittedBy_51 rfl).trans ?_
      exact rfl
    · refine (R_iload_n dX6_shaftsFittedBy_27 rfl).trans ?_
      refine (R_aload_n dX6_shaftsFittedBy_28 rfl (by decide)).trans ?_
      refine (R_aload_n dX6_shaftsFittedBy_29 rfl (by decide)).trans ?_
      refine (gr_6_9 dX6_shaftsFittedBy_30).trans ?_
      refine (R_iload_n dX6_shaftsFittedBy_33 rfl).trans ?_
      refine (R_iaload dX6_shaftsFittedBy_34 as_10).trans (ck_congr ?_)
      refine (R_cv_i (as := [vi (q2.2 10 a (Int32.toNatClampNeg l3))]) (rest := [vi l1, vi l2]) dX6_shaftsFittedBy_35 mt_6_69 qp_48 qr_48 (E_X6_shaftsFittedBy_48) rfl rfl rfl (Nat.le_of_ble_eq_true rfl)).trans (mm_bind (fun q4 => ?_))
      refine (R_icmp 45 dX6_shaftsFittedBy_38 rfl).trans (c_gt (fun h5 => ?_) (fun h5 => ?_))
      · refine (R_iconst 0 dX6_shaftsFittedBy_45 iconst_0).trans ?_
        refine (R_iadd dX6_shaftsFittedBy_46).trans ?_
        refine (R_istore_n (ls' := [vr 6 a, vi l1, vi (l2 + 0), vi l3]) dX6_shaftsFittedBy_47 (Nat.le_of_ble_eq_true rfl) (by decide) rfl).trans ?_
        refine (R_iinc (ls' := [vr 6 a, vi l1, vi (l2 + 0), vi (l3 + 1)]) 1 dX6_shaftsFittedBy_48 rfl iconst_1 (by decide) rfl).trans ?_
        refine (R_goto 4 dX6_shaftsFittedBy_51 rfl).trans ?_
        exact rfl
      · refine (R_iconst 1 dX6_shaftsFittedBy_41 iconst_1).trans ?_
        refine (R_goto 46 dX6_shaftsFittedBy_42 rfl).trans ?_
        refine (R_iadd dX6_shaftsFittedBy_46).trans ?_
        refine (R_istore_n (ls' := [vr 6 a, vi l1, vi (l2 + 1), vi l3]) dX6_shaftsFittedBy_47 (Nat.le_of_ble_eq_true rfl) (by decide) rfl).trans ?_
        refine (R_iinc (ls' := [vr 6 a, vi l1, vi (l2 + 1), vi (l3 + 1)]) 1 dX6_shaftsFittedBy_48 rfl iconst_1 (by decide) rfl).trans ?_
        refine (R_goto 4 dX6_shaftsFittedBy_51 rfl).trans ?_
        exact rfl
  · refine (R_iload_n dX6_shaftsFittedBy_54 rfl).trans ?_
    exact R_ireturn dX6_shaftsFittedBy_55 rfl
noncomputable def E_X7_gradeAt : mE := fun k => if k = 75 then f_X7_isIn else if k = 45 then f_X6_shaftsOfGrade else fun _ _ => none
theorem E_X7_gradeAt_75 : E_X7_gradeAt 75 = f_X7_isIn := if_pos rfl
theorem E_X7_gradeAt_45 : E_X7_gradeAt 45 = f_X6_shaftsOfGrade := (if_neg (by decide)).trans (if_pos rfl)
noncomputable def f_X7_gradeAt : List mV → mM → Option mR := mm_fn E_X7_gradeAt 7 1 3 cX7_gradeAt
theorem k_X7_gradeAt (l : Launch) : mm_OK l 52 f_X7_gradeAt := mm_fn_ok l 52 7 E_X7_gradeAt (by decide) rfl (by decide) (by
  intro k as μ q h
  by_cases h0 : k = 75
  · subst h0
    exact ⟨by rw [E_X7_gradeAt_75]; exact k_X7_isIn l, by decide, by decide, by decide⟩
  by_cases h1 : k = 45
  · subst h1
    exact ⟨by rw [E_X7_gradeAt_45]; exact k_X6_shaftsOfGrade l, by decide, by decide, by decide⟩
  have e : E_X7_gradeAt k = fun _ _ => none := (if_neg h0).trans ((if_neg h1).trans (rfl))
  rw [e] at h
  cases h)
set_option maxRecDepth 100000 in
set_option maxHeartbeats 4000000 in
theorem e_X7_gradeAt (l1 : Int32) (l2 : Int32) (μ : mM) : f_X7_gradeAt [vr 7 0, vi l1, vi l2] μ = (Option.bind (f_X7_isIn [vi l1, vi 4] μ) (fun q1 => (if q1.1 = 0 then some ((-1000000001), q1.2) else (if l2 = 0 then (ck 4 l1 (some (q1.2 12 0 (Int32.toNatClampNeg l1), q1.2))) else (if l2 = 1 then (ck 4 l1 (some (q1.2 13 0 (Int32.toNatClampNeg l1), q1.2))) else (if l2 = 2 then (Option.bind (f_X6_shaftsOfGrade [vr 6 0, vi l1] q1.2) (fun q6 => some (q6.1, q6.2))) else some ((-1000000002), q1.2))))))) := by
  refine (show f_X7_gradeAt [vr 7 0, vi l1, vi l2] μ = mm_run E_X7_gradeAt 7 1 cX7_gradeAt (0, [vr 7 0, vi l1, vi l2], [], μ) from rfl).trans ?_
  refine (R_iload_n dX7_gradeAt_0 rfl).trans ?_
  refine (R_iconst 4 dX7_gradeAt_1 iconst_4).trans ?_
  refine (R_cs_i (as := [vi l1, vi 4]) (rest := []) dX7_gradeAt_2 mt_7_114 (by decide) qp_75 qr_75 (E_X7_gradeAt_75) (Nat.le_of_ble_eq_true rfl) rfl rfl (Nat.le_of_ble_eq_true rfl)).trans (mm_bind (fun q1 => ?_))
  refine (R_ifc 11 dX7_gradeAt_5 rfl).trans (c_ne (fun h2 => ?_) (fun h2 => ?_))
  · refine (R_ldc dX7_gradeAt_8 kt_7_118).trans ?_
    exact R_ireturn dX7_gradeAt_10 rfl
  · refine (R_iload_n dX7_gradeAt_11 rfl).trans ?_
    refine mm_ite (c := l2 = 0) (fun h3 => ?_) (fun h3 => ?_)
    · refine (R_switch dX7_gradeAt_12 (sw_in 40 h3 rfl rfl rfl rfl)).trans ?_
      refine (R_aload_n dX7_gradeAt_40 rfl (by decide)).trans ?_
      refine (gr_7_10 dX7_gradeAt_41).trans ?_
      refine (gr_7_151 dX7_gradeAt_44).trans ?_
      refine (R_iload_n dX7_gradeAt_47 rfl).trans ?_
      refine (R_iaload dX7_gradeAt_48 as_12).trans (ck_congr ?_)
      exact R_ireturn dX7_gradeAt_49 rfl
    refine mm_ite (c := l2 = 1) (fun h4 => ?_) (fun h4 => ?_)
    · refine (R_switch dX7_gradeAt_12 (sw_in 50 h4 rfl rfl rfl rfl)).trans ?_
      refine (R_aload_n dX7_gradeAt_50 rfl (by decide)).trans ?_
      refine (gr_7_10 dX7_gradeAt_51).trans ?_
      refine (gr_7_154 dX7_gradeAt_54).trans ?_
      refine (R_iload_n dX7_gradeAt_57 rfl).trans ?_
      refine (R_iaload dX7_gradeAt_58 as_13).trans (ck_congr ?_)
      exact R_ireturn dX7_gradeAt_59 rfl
    refine mm_ite (c := l2 = 2) (fun h5 => ?_) (fun h5 => ?_)
    · refine (R_switch dX7_gradeAt_12 (sw_in 60 h5 rfl rfl rfl rfl)).trans ?_
      refine (R_aload_n dX7_gradeAt_60 rfl (by decide)).trans ?_
      refine (gr_7_10 dX7_gradeAt_61).trans ?_
      refine (R_iload_n dX7_gradeAt_64 rfl).trans ?_
      refine (R_cv_i (as := [vi l1]) (rest := []) dX7_gradeAt_65 mt_7_157 qp_45 qr_45 (E_X7_gradeAt_45) rfl rfl rfl (Nat.le_of_ble_eq_true rfl)).trans (mm_bind (fun q6 => ?_))
      exact R_ireturn dX7_gradeAt_68 rfl
    refine (R_switch dX7_gradeAt_12 (sw_out 69 (sw_n3 h3 h4 h5) rfl)).trans ?_
    refine (R_ldc dX7_gradeAt_69 kt_7_113).trans ?_
    exact R_ireturn dX7_gradeAt_71 rfl
noncomputable def E_X7_takeShaft : mE := fun k => if k = 75 then f_X7_isIn else if k = 9 then f_X3_note else if k = 78 then f_X7_sizeOf else if k = 41 then f_X6_dropShaft else fun _ _ => none
theorem E_X7_takeShaft_75 : E_X7_takeShaft 75 = f_X7_isIn := if_pos rfl
theorem E_X7_takeShaft_9 : E_X7_takeShaft 9 = f_X3_note := (if_neg (by decide)).trans (if_pos rfl)
theorem E_X7_takeShaft_78 : E_X7_takeShaft 78 = f_X7_sizeOf := (if_neg (by decide)).trans ((if_neg (by decide)).trans (if_pos rfl))
theorem E_X7_takeShaft_41 : E_X7_takeShaft 41 = f_X6_dropShaft := (if_neg (by decide)).trans ((if_neg (by decide)).trans ((if_neg (by decide)).trans (if_pos rfl)))
noncomputable def f_X7_takeShaft : List mV → mM → Option mR := mm_fn E_X7_takeShaft 7 1 3 cX7_takeShaft
theorem k_X7_takeShaft (l : Launch) : mm_OK l 57 f_X7_takeShaft := mm_fn_ok l 57 7 E_X7_takeShaft (by decide) rfl (by decide) (by
  intro k as μ q h
  by_cases h0 : k = 75
  · subst h0
    exact ⟨by rw [E_X7_takeShaft_75]; exact k_X7_isIn l, by decide, by decide, by decide⟩
  by_cases h1 : k = 9
  · subst h1
    exact ⟨by rw [E_X7_takeShaft_9]; exact k_X3_note l, by decide, by decide, by decide⟩
  by_cases h2 : k = 78
  · subst h2
    exact ⟨by rw [E_X7_takeShaft_78]; exact k_X7_sizeOf l, by decide, by decide, by decide⟩
  by_cases h3 : k = 41
  · subst h3
    exact ⟨by rw [E_X7_takeShaft_41]; exact k_X6_dropShaft l, by decide, by decide, by decide⟩
  have e : E_X7_takeShaft k = fun _ _ => none := (if_neg h0).trans ((if_neg h1).trans ((if_neg h2).trans ((if_neg h3).trans (rfl))))
  rw [e] at h
  cases h)
set_option maxRecDepth 100000 in
set_option maxHeartbeats 4000000 in
theorem e_X7_takeShaft (l1 : Int32) (μ : mM) : f_X7_takeShaft [vr 7 0, vi l1] μ = (Option.bind (f_X7_isIn [vi l1, vi (μ 6 0 6)] μ) (fun q1 => (if q1.1 = 0 then some ((-1000000001), q1.2) else (Option.bind (f_X3_note [vr 3 0, vr 6 0] q1.2) (fun q3 => (ck 24 l1 (Option.bind (f_X7_sizeOf [vi (q3.2 10 0 (Int32.toNatClampNeg l1))] q3.2) (fun q4 => (Option.bind (f_X6_dropShaft [vr 6 0, vi l1] q4.2) (fun q5 => some (q4.1, q5.2))))))))))) := by
  refine (show f_X7_takeShaft [vr 7 0, vi l1] μ = mm_run E_X7_takeShaft 7 1 cX7_takeShaft (0, [vr 7 0, vi l1, vu], [], μ) from rfl).trans ?_
  refine (R_iload_n dX7_takeShaft_0 rfl).trans ?_
  refine (R_aload_n dX7_takeShaft_1 rfl (by decide)).trans ?_
  refine (gr_7_10 dX7_takeShaft_2).trans ?_
  refine (gi_7_62 dX7_takeShaft_5).trans ?_
  refine (R_cs_i (as := [vi l1, vi (μ 6 0 6)]) (rest := []) dX7_takeShaft_8 mt_7_114 (by decide) qp_75 qr_75 (E_X7_takeShaft_75) (Nat.le_of_ble_eq_true rfl) rfl rfl (Nat.le_of_ble_eq_true rfl)).trans (mm_bind (fun q1 => ?_))
  refine (R_ifc 17 dX7_takeShaft_11 rfl).trans (c_ne (fun h2 => ?_) (fun h2 => ?_))
  · refine (R_ldc dX7_takeShaft_14 kt_7_118).trans ?_
    exact R_ireturn dX7_takeShaft_16 rfl
  · refine (R_aload_n dX7_takeShaft_17 rfl (by decide)).trans ?_
    refine (gr_7_19 dX7_takeShaft_18).trans ?_
    refine (R_aload_n dX7_takeShaft_21 rfl (by decide)).trans ?_
    refine (gr_7_10 dX7_takeShaft_22).trans ?_
    refine (R_cv_v (as := [vr 6 0]) (rest := []) dX7_takeShaft_25 mt_7_176 qp_9 qr_9 (E_X7_takeShaft_9) rfl rfl rfl (Nat.le_of_ble_eq_true rfl)).trans (mm_bind (fun q3 => ?_))
    refine (R_aload_n dX7_takeShaft_28 rfl (by decide)).trans ?_
    refine (gr_7_10 dX7_takeShaft_29).trans ?_
    refine (gr_7_119 dX7_takeShaft_32).trans ?_
    refine (R_iload_n dX7_takeShaft_35 rfl).trans ?_
    refine (R_iaload dX7_takeShaft_36 as_10).trans (ck_congr ?_)
    refine (R_cs_i (as := [vi (q3.2 10 0 (Int32.toNatClampNeg l1))]) (rest := []) dX7_takeShaft_37 mt_7_127 (by decide) qp_78 qr_78 (E_X7_takeShaft_78) (Nat.le_of_ble_eq_true rfl) rfl rfl (Nat.le_of_ble_eq_true rfl)).trans (mm_bind (fun q4 => ?_))
    refine (R_istore_n (ls' := [vr 7 0, vi l1, vi q4.1]) dX7_takeShaft_40 (Nat.le_of_ble_eq_true rfl) (by decide) rfl).trans ?_
    refine (R_aload_n dX7_takeShaft_41 rfl (by decide)).trans ?_
    refine (gr_7_10 dX7_takeShaft_42).trans ?_
    refine (R_iload_n dX7_takeShaft_45 rfl).trans ?_
    refine (R_cv_v (as := [vi l1]) (rest := []) dX7_takeShaft_46 mt_7_179 qp_41 qr_41 (E_X7_takeShaft_41) rfl rfl rfl (Nat.le_of_ble_eq_true rfl)).trans (mm_bind (fun q5 => ?_))
    refine (R_iload_n dX7_takeShaft_49 rfl).trans ?_
    exact R_ireturn dX7_takeShaft_50 rfl
noncomputable def E_X7_takeBore : mE := fun k => if k = 75 then f_X7_isIn else if k = 9 then f_X3_note else if k = 78 then f_X7_sizeOf else if k = 42 then f_X6_dropBore else fun _ _ => none
theorem E_X7_takeBore_75 : E_X7_takeBore 75 = f_X7_isIn := if_pos rfl
theorem E_X7_takeBore_9 : E_X7_takeBore 9 = f_X3_note := (if_neg (by decide)).trans (if_pos rfl)
theorem E_X7_takeBore_78 : E_X7_takeBore 78 = f_X7_sizeOf := (if_neg (by decide)).trans ((if_neg (by decide)).trans (if_pos rfl))
theorem E_X7_takeBore_42 : E_X7_takeBore 42 = f_X6_dropBore := (if_neg (by decide)).trans ((if_neg (by decide)).trans ((if_neg (by decide)).trans (if_pos rfl)))
noncomputable def f_X7_takeBore : List mV → mM → Option mR := mm_fn E_X7_takeBore 7 1 3 cX7_takeBore
theorem k_X7_takeBore (l : Launch) : mm_OK l 58 f_X7_takeBore := mm_fn_ok l 58 7 E_X7_takeBore (by decide) rfl (by decide) (by
  intro k as μ q h
  by_cases h0 : k = 75
  · subst h0
    exact ⟨by rw [E_X7_takeBore_75]; exact k_X7_isIn l, by decide, by decide, by decide⟩
  by_cases h1 : k = 9
  · subst h1
    exact ⟨by rw [E_X7_takeBore_9]; exact k_X3_note l, by decide, by decide, by decide⟩
  by_cases h2 : k = 78
  · subst h2
    exact ⟨by rw [E_X7_takeBore_78]; exact k_X7_sizeOf l, by decide, by decide, by decide⟩
  by_cases h3 : k = 42
  · subst h3
    exact ⟨by rw [E_X7_takeBore_42]; exact k_X6_dropBore l, by decide, by decide, by decide⟩
  have e : E_X7_takeBore k = fun _ _ => none := (if_neg h0).trans ((if_neg h1).trans ((if_neg h2).trans ((if_neg h3).trans (rfl))))
  rw [e] at h
  cases h)
set_option maxRecDepth 100000 in
set_option maxHeartbeats 4000000 in
theorem e_X7_takeBore (l1 : Int32) (μ : mM) : f_X7_takeBore [vr 7 0, vi l1] μ = (Option.bind (f_X7_isIn [vi l1, vi (μ 6 0 7)] μ) (fun q1 => (if q1.1 = 0 then some ((-1000000001), q1.2) else (Option.bind (f_X3_note [vr 3 0, vr 6 0] q1.2) (fun q3 => (ck 24 l1 (Option.bind (f_X7_sizeOf [vi (q3.2 11 0 (Int32.toNatClampNeg l1))] q3.2) (fun q4 => (Option.bind (f_X6_dropBore [vr 6 0, vi l1] q4.2) (fun q5 => some (q4.1, q5.2))))))))))) := by
  refine (show f_X7_takeBore [vr 7 0, vi l1] μ = mm_run E_X7_takeBore 7 1 cX7_takeBore (0, [vr 7 0, vi l1, vu], [], μ) from rfl).trans ?_
  refine (R_iload_n dX7_takeBore_0 rfl).trans ?_
  refine (R_aload_n dX7_takeBore_1 rfl (by decide)).trans ?_
  refine (gr_7_10 dX7_takeBore_2).trans ?_
  refine (gi_7_65 dX7_takeBore_5).trans ?_
  refine (R_cs_i (as := [vi l1, vi (μ 6 0 7)]) (rest := []) dX7_takeBore_8 mt_7_114 (by decide) qp_75 qr_75 (E_X7_takeBore_75) (Nat.le_of_ble_eq_true rfl) rfl rfl (Nat.le_of_ble_eq_true rfl)).trans (mm_bind (fun q1 => ?_))
  refine (R_ifc 17 dX7_takeBore_11 rfl).trans (c_ne (fun h2 => ?_) (fun h2 => ?_))
  · refine (R_ldc dX7_takeBore_14 kt_7_118).trans ?_
    exact R_ireturn dX7_takeBore_16 rfl
  · refine (R_aload_n dX7_takeBore_17 rfl (by decide)).trans ?_
    refine (gr_7_19 dX7_takeBore_18).trans ?_
    refine (R_aload_n dX7_takeBore_21 rfl (by decide)).trans ?_
    refine (gr_7_10 dX7_takeBore_22).trans ?_
    refine (R_cv_v (as := [vr 6 0]) (rest := []) dX7_takeBore_25 mt_7_176 qp_9 qr_9 (E_X7_takeBore_9) rfl rfl rfl (Nat.le_of_ble_eq_true rfl)).trans (mm_bind (fun q3 => ?_))
    refine (R_aload_n dX7_takeBore_28 rfl (by decide)).trans ?_
    refine (gr_7_10 dX7_takeBore_29).trans ?_
    refine (gr_7_142 dX7_takeBore_32).trans ?_
    refine (R_iload_n dX7_takeBore_35 rfl).trans ?_
    refine (R_iaload dX7_takeBore_36 as_11).trans (ck_congr ?_)
    refine (R_cs_i (as := [vi (q3.2 11 0 (Int32.toNatClampNeg l1))]) (rest := []) dX7_takeBore_37 mt_7_127 (by decide) qp_78 qr_78 (E_X7_takeBore_78) (Nat.le_of_ble_eq_true rfl) rfl rfl (Nat.le_of_ble_eq_true rfl)).trans (mm_bind (fun q4 => ?_))
    refine (R_istore_n (ls' := [vr 7 0, vi l1, vi q4.1]) dX7_takeBore_40 (Nat.le_of_ble_eq_true rfl) (by decide) rfl).trans ?_
    refine (R_aload_n dX7_takeBore_41 rfl (by decide)).trans ?_
    refine (gr_7_10 dX7_takeBore_42).trans ?_
    refine (R_iload_n dX7_takeBore_45 rfl).trans ?_
    refine (R_cv_v (as := [vi l1]) (rest := []) dX7_takeBore_46 mt_7_183 qp_42 qr_42 (E_X7_takeBore_42) rfl rfl rfl (Nat.le_of_ble_eq_true rfl)).trans (mm_bind (fun q5 => ?_))
    refine (R_iload_n dX7_takeBore_49 rfl).trans ?_
    exact R_ireturn dX7_takeBore_50 rfl
noncomputable def E_X7_clear : mE := fun k => if k = 9 then f_X3_note else if k = 35 then f_X6_parts else if k = 43 then f_X6_empty else fun _ _ => none
theorem E_X7_clear_9 : E_X7_clear 9 = f_X3_note := if_pos rfl
theorem E_X7_clear_35 : E_X7_clear 35 = f_X6_parts := (if_neg (by decide)).trans (if_pos rfl)
theorem E_X7_clear_43 : E_X7_clear 43 = f_X6_empty := (if_neg (by decide)).trans ((if_neg (by decide)).trans (if_pos rfl))
noncomputable def f_X7_clear : List mV → mM → Option mR := mm_fn E_X7_clear 7 1 2 cX7_clear
theorem k_X7_clear (l : Launch) : mm_OK l 62 f_X7_clear := mm_fn_ok l 62 7 E_X7_clear (by decide) rfl (by decide) (by
  intro k as μ q h
  by_cases h0 : k = 9
  · subst h0
    exact ⟨by rw [E_X7_clear_9]; exact k_X3_note l, by decide, by decide, by decide⟩
  by_cases h1 : k = 35
  · subst h1
    exact ⟨by rw [E_X7_clear_35]; exact k_X6_parts l, by decide, by decide, by decide⟩
  by_cases h2 : k = 43
  · subst h2
    exact ⟨by rw [E_X7_clear_43]; exact k_X6_empty l, by decide, by decide, by decide⟩
  have e : E_X7_clear k = fun _ _ => none := (if_neg h0).trans ((if_neg h1).trans ((if_neg h2).trans (rfl)))
  rw [e] at h
  cases h)
set_option maxRecDepth 100000 in
set_option maxHeartbeats 4000000 in
theorem e_X7_clear (μ : mM) : f_X7_clear [vr 7 0] μ = (Option.bind (f_X3_note [vr 3 0, vr 6 0] μ) (fun q1 => (Option.bind (f_X6_parts [vr 6 0] q1.2) (fun q2 => (Option.bind (f_X6_empty [vr 6 0] q2.2) (fun q3 => some (q2.1, q3.2))))))) := by
  refine (show f_X7_clear [vr 7 0] μ = mm_run E_X7_clear 7 1 cX7_clear (0, [vr 7 0, vu], [], μ) from rfl).trans ?_
  refine (R_aload_n dX7_clear_0 rfl (by decide)).trans ?_
  refine (gr_7_19 dX7_clear_1).trans ?_
  refine (R_aload_n dX7_clear_4 rfl (by decide)).trans ?_
  refine (gr_7_10 dX7_clear_5).trans ?_
  refine (R_cv_v (as := [vr 6 0]) (rest := []) dX7_clear_8 mt_7_176 qp_9 qr_9 (E_X7_clear_9) rfl rfl rfl (Nat.le_of_ble_eq_true rfl)).trans (mm_bind (fun q1 => ?_))
  refine (R_aload_n dX7_clear_11 rfl (by decide)).trans ?_
  refine (gr_7_10 dX7_clear_12).trans ?_
  refine (R_cv_i (as := []) (rest := []) dX7_clear_15 mt_7_194 qp_35 qr_35 (E_X7_clear_35) rfl rfl rfl (Nat.le_of_ble_eq_true rfl)).trans (mm_bind (fun q2 => ?_))
  refine (R_istore_n (ls' := [vr 7 0, vi q2.1]) dX7_clear_18 (Nat.le_of_ble_eq_true rfl) (by decide) rfl).trans ?_
  refine (R_aload_n dX7_clear_19 rfl (by decide)).trans ?_
  refine (gr_7_10 dX7_clear_20).trans ?_
  refine (R_cv_v (as := []) (rest := []) dX7_clear_23 mt_7_197 qp_43 qr_43 (E_X7_clear_43) rfl rfl rfl (Nat.le_of_ble_eq_true rfl)).trans (mm_bind (fun q3 => ?_))
  refine (R_iload_n dX7_clear_26 rfl).trans ?_
  exact R_ireturn dX7_clear_27 rfl
noncomputable def E_X7_undo : mE := fun k => if k = 10 then f_X3_giveBack else if k = 35 then f_X6_parts else fun _ _ => none
theorem E_X7_undo_10 : E_X7_undo 10 = f_X3_giveBack := if_pos rfl
theorem E_X7_undo_35 : E_X7_undo 35 = f_X6_parts := (if_neg (by decide)).trans (if_pos rfl)
noncomputable def f_X7_undo : List mV → mM → Option mR := mm_fn E_X7_undo 7 1 2 cX7_undo
theorem k_X7_undo (l : Launch) : mm_OK l 63 f_X7_undo := mm_fn_ok l 63 7 E_X7_undo (by decide) rfl (by decide) (by
  intro k as μ q h
  by_cases h0 : k = 10
  · subst h0
    exact ⟨by rw [E_X7_undo_10]; exact k_X3_giveBack l, by decide, by decide, by decide⟩
  by_cases h1 : k = 35
  · subst h1
    exact ⟨by rw [E_X7_undo_35]; exact k_X6_parts l, by decide, by decide, by decide⟩
  have e : E_X7_undo k = fun _ _ => none := (if_neg h0).trans ((if_neg h1).trans (rfl))
  rw [e] at h
  cases h)
set_option maxRecDepth 100000 in
set_option maxHeartbeats 4000000 in
theorem e_X7_undo (l1 : Int32) (μ : mM) : f_X7_undo [vr 7 0, vi l1] μ = (if l1 < 1 then some ((-1000000002), μ) else (if 16 < l1 then some ((-1000000002), μ) else (if μ 3 0 2 < l1 then some ((-1000000003), μ) else (Option.bind (f_X3_giveBack [vr 3 0, vr 6 0, vi l1] μ) (fun q4 => (Option.bind (f_X6_parts [vr 6 0] q4.2) (fun q5 => some (q5.1, q5.2)))))))) := by
  refine (show f_X7_undo [vr 7 0, vi l1] μ = mm_run E_X7_undo 7 1 cX7_undo (0, [vr 7 0, vi l1], [], μ) from rfl).trans ?_
  refine (R_iload_n dX7_undo_0 rfl).trans ?_
  refine (R_iconst 1 dX7_undo_1 iconst_1).trans ?_
  refine (R_icmp 11 dX7_undo_2 rfl).trans (c_lt (fun h1 => ?_) (fun h1 => ?_))
  · refine (R_ldc dX7_undo_11 kt_7_113).trans ?_
    exact R_ireturn dX7_undo_13 rfl
  · refine (R_iload_n dX7_undo_5 rfl).trans ?_
    refine (R_bipush 16 dX7_undo_6 bipush_16).trans ?_
    refine (R_icmp 14 dX7_undo_8 rfl).trans (c_le (fun h2 => ?_) (fun h2 => ?_))
    · refine (R_ldc dX7_undo_11 kt_7_113).trans ?_
      exact R_ireturn dX7_undo_13 rfl
    · refine (R_iload_n dX7_undo_14 rfl).trans ?_
      refine (R_aload_n dX7_undo_15 rfl (by decide)).trans ?_
      refine (gr_7_19 dX7_undo_16).trans ?_
      refine (gi_7_110 dX7_undo_19).trans ?_
      refine (R_icmp 28 dX7_undo_22 rfl).trans (c_le (fun h3 => ?_) (fun h3 => ?_))
      · refine (R_ldc dX7_undo_25 kt_7_186).trans ?_
        exact R_ireturn dX7_undo_27 rfl
      · refine (R_aload_n dX7_undo_28 rfl (by decide)).trans ?_
        refine (gr_7_19 dX7_undo_29).trans ?_
        refine (R_aload_n dX7_undo_32 rfl (by decide)).trans ?_
        refine (gr_7_10 dX7_undo_33).trans ?_
        refine (R_iload_n dX7_undo_36 rfl).trans ?_
        refine (R_cv_v (as := [vr 6 0, vi l1]) (rest := []) dX7_undo_37 mt_7_200 qp_10 qr_10 (E_X7_undo_10) rfl rfl rfl (Nat.le_of_ble_eq_true rfl)).trans (mm_bind (fun q4 => ?_))
        refine (R_aload_n dX7_undo_40 rfl (by decide)).trans ?_
        refine (gr_7_10 dX7_undo_41).trans ?_
        refine (R_cv_i (as := []) (rest := []) dX7_undo_44 mt_7_194 qp_35 qr_35 (E_X7_undo_35) rfl rfl rfl (Nat.le_of_ble_eq_true rfl)).trans (mm_bind (fun q5 => ?_))
        exact R_ireturn dX7_undo_47 rfl
noncomputable def E_X8_pairs : mE := fun k => if k = 88 then f_X8_closesFirst else fun _ _ => none
theorem E_X8_pairs_88 : E_X8_pairs 88 = f_X8_closesFirst := if_pos rfl
noncomputable def f_X8_pairs : List mV → mM → Option mR := mm_fn E_X8_pairs 8 1 11 cX8_pairs
theorem k_X8_pairs (l : Launch) : mm_OK l 89 f_X8_pairs := mm_fn_ok l 89 8 E_X8_pairs (by decide) rfl (by decide) (by
  intro k as μ q h
  by_cases h0 : k = 88
  · subst h0
    exact ⟨by rw [E_X8_pairs_88]; exact k_X8_closesFirst l, by decide, by decide, by decide⟩
  have e : E_X8_pairs k = fun _ _ => none := (if_neg h0).trans (rfl)
  rw [e] at h
  cases h)
noncomputable def r_X8_pairs_11 (l1 : Int32) (l2 : Int32) (l3 : Int32) (l4 : Int32) (μ : mM) : Option mR := mm_run E_X8_pairs 8 1 cX8_pairs (11, [vr 8 0, vi l1, vi l2, vi l3, vi l4, vu, vu, vu, vu, vu, vu], [], μ)
noncomputable def r_X8_pairs_58 (l1 : Int32) (x2 : mV) (l3 : Int32) (l4 : Int32) (μ : mM) : Option mR := mm_run E_X8_pairs 8 1 cX8_pairs (58, [vr 8 0, vi l1, x2, vi l3, vi l4, vu, vu, vu, vu, vu, vu], [], μ)
noncomputable def r_X8_pairs_82 (l1 : Int32) (x2 : mV) (l3 : Int32) (l4 : Int32) (μ : mM) : Option mR := mm_run E_X8_pairs 8 1 cX8_pairs (82, [vr 8 0, vi l1, x2, vi l3, vi l4, vu, vu, vu, vu, vu, vu], [], μ)
noncomputable def r_X8_pairs_115 (l1 : Int32) (x2 : mV) (l3 : Int32) (l4 : Int32) (l5 : Int32) (l6 : Int32) (l7 : Int32) (x8 : mV) (x9 : mV) (x10 : mV) (μ : mM) : Option mR := mm_run E_X8_pairs 8 1 cX8_pairs (115, [vr 8 0, vi l1, x2, vi l3, vi l4, vi l5, vi l6, vi l7, x8, x9, x10], [], μ)
noncomputable def r_X8_pairs_129 (l1 : Int32) (x2 : mV) (l3 : Int32) (l4 : Int32) (l5 : Int32) (l6 : Int32) (l7 : Int32) (l8 : Int32) (l9 : Int32) (x10 : mV) (μ : mM) : Option mR := mm_run E_X8_pairs 8 1 cX8_pairs (129, [vr 8 0, vi l1, x2, vi l3, vi l4, vi l5, vi l6, vi l7, vi l8, vi l9, x10], [], μ)
set_option maxRecDepth 100000 in
set_option maxHeartbeats 4000000 in
theorem e_X8_pairs (l1 : Int32) (l2 : Int32) (μ : mM) : f_X8_pairs [vr 8 0, vi l1, vi l2] μ = (ck 5225 57 (r_X8_pairs_11 l1 l2 (μ 50 0 (Int32.toNatClampNeg 57)) 0 μ)) := by
  refine (show f_X8_pairs [vr 8 0, vi l1, vi l2] μ = mm_run E_X8_pairs 8 1 cX8_pairs (0, [vr 8 0, vi l1, vi l2, vu, vu, vu, vu, vu, vu, vu, vu], [], μ) from rfl).trans ?_
  refine (R_aload_n dX8_pairs_0 rfl (by decide)).trans ?_
  refine (gr_8_7 dX8_pairs_1).trans ?_
  refine (R_bipush 57 dX8_pairs_4 bipush_57).trans ?_
  refine (R_iaload dX8_pairs_6 as_50).trans (ck_congr ?_)
  refine (R_istore_n (ls' := [vr 8 0, vi l1, vi l2, vi (μ 50 0 (Int32.toNatClampNeg 57)), vu, vu, vu, vu, vu, vu, vu]) dX8_pairs_7 (Nat.le_of_ble_eq_true rfl) (by decide) rfl).trans ?_
  refine (R_iconst 0 dX8_pairs_8 iconst_0).trans ?_
  refine (R_istore (ls' := [vr 8 0, vi l1, vi l2, vi (μ 50 0 (Int32.toNatClampNeg 57)), vi 0, vu, vu, vu, vu, vu, vu]) dX8_pairs_9 (Nat.le_of_ble_eq_true rfl) (by decide) rfl).trans ?_
  exact rfl
set_option maxRecDepth 100000 in
set_option maxHeartbeats 4000000 in
theorem e_X8_pairs_11 (l1 : Int32) (l2 : Int32) (l3 : Int32) (l4 : Int32) (μ : mM) : r_X8_pairs_11 l1 l2 l3 l4 μ = (if l4 < l3 then (ck 5225 (58 + l4) (ck 25 l4 (wr (mm_up μ 55 0 (Int32.toNatClampNeg l4) (μ 50 0 (Int32.toNatClampNeg (58 + l4)))) (fun m2 => r_X8_pairs_11 l1 l2 l3 (l4 + 1) m2)))) else (if l2 = (-1) then r_X8_pairs_58 l1 (vi l2) l3 0 μ else (ck 25 l3 (wr (mm_up μ 55 0 (Int32.toNatClampNeg l3) l2) (fun m4 => r_X8_pairs_58 l1 (vi l2) (l3 + 1) 0 m4))))) := by
  refine (show r_X8_pairs_11 l1 l2 l3 l4 μ = mm_run E_X8_pairs 8 1 cX8_pairs (11, [vr 8 0, vi l1, vi l2, vi l3, vi l4, vu, vu, vu, vu, vu, vu], [], μ) from rfl).trans ?_
  refine (R_iload dX8_pairs_11 rfl).trans ?_
  refine (R_iload_n dX8_pairs_13 rfl).trans ?_
  refine (R_icmp 40 dX8_pairs_14 rfl).trans (c_ge (fun h1 => ?_) (fun h1 => ?_))
  · refine (R_aload_n dX8_pairs_17 rfl (by decide)).trans ?_
    refine (gr_8_26 dX8_pairs_18).trans ?_
    refine (R_iload dX8_pairs_21 rfl).trans ?_
    refine (R_aload_n dX8_pairs_23 rfl (by decide)).trans ?_
    refine (gr_8_7 dX8_pairs_24).trans ?_
    refine (R_bipush 58 dX8_pairs_27 bipush_58).trans ?_
    refine (R_iload dX8_pairs_29 rfl).trans ?_
    refine (R_iadd dX8_pairs_31).trans ?_
    refine (R_iaload dX8_pairs_32 as_50).trans (ck_congr ?_)
    refine (R_iastore dX8_pairs_33 as_55).trans (ck_congr ?_)
    refine wr_intro (g := fun m => mm_run E_X8_pairs 8 1 cX8_pairs (34, [vr 8 0, vi l1, vi l2, vi l3, vi l4, vu, vu, vu, vu, vu, vu], [], m)) (fun m2 => ?_)
    refine (R_iinc (ls' := [vr 8 0, vi l1, vi l2, vi l3, vi (l4 + 1), vu, vu, vu, vu, vu, vu]) 1 dX8_pairs_34 rfl iconst_1 (by decide) rfl).trans ?_
    refine (R_goto 11 dX8_pairs_37 rfl).trans ?_
    exact rfl
  · refine (R_iload_n dX8_pairs_40 rfl).trans ?_
    refine (R_iconst (-1) dX8_pairs_41 iconst_m1).trans ?_
    refine (R_icmp 55 dX8_pairs_42 rfl).trans (c_eq (fun h3 => ?_) (fun h3 => ?_))
    · refine (R_iconst 0 dX8_pairs_55 iconst_0).trans ?_
      refine (R_istore (ls' := [vr 8 0, vi l1, vi l2, vi l3, vi 0, vu, vu, vu, vu, vu, vu]) dX8_pairs_56 (Nat.le_of_ble_eq_true rfl) (by decide) rfl).trans ?_
      exact rfl
    · refine (R_aload_n dX8_pairs_45 rfl (by decide)).trans ?_
      refine (gr_8_26 dX8_pairs_46).trans ?_
      refine (R_iload_n dX8_pairs_49 rfl).trans ?_
      refine (R_iload_n dX8_pairs_50 rfl).trans ?_
      refine (R_iastore dX8_pairs_51 as_55).trans (ck_congr ?_)
      refine wr_intro (g := fun m => mm_run E_X8_pairs 8 1 cX8_pairs (52, [vr 8 0, vi l1, vi l2, vi l3, vi l4, vu, vu, vu, vu, vu, vu], [], m)) (fun m4 => ?_)
      refine (R_iinc (ls' := [vr 8 0, vi l1, vi l2, vi (l3 + 1), vi l4, vu, vu, vu, vu, vu, vu]) 1 dX8_pairs_52 rfl iconst_1 (by decide) rfl).trans ?_
      refine (R_iconst 0 dX8_pairs_55 iconst_0).trans ?_
      refine (R_istore (ls' := [vr 8 0, vi l1, vi l2, vi (l3 + 1), vi 0, vu, vu, vu, vu, vu, vu]) dX8_pairs_56 (Nat.le_of_ble_eq_true rfl) (by decide) rfl).trans ?_
      exact rfl
set_option maxRecDepth 100000 in
set_option maxHeartbeats 4000000 in
theorem e_X8_pairs_58 (l1 : Int32) (x2 : mV) (l3 : Int32) (l4 : Int32) (μ : mM) : r_X8_pairs_58 l1 x2 l3 l4 μ = (if l4 < 24 then (ck 24 l4 (wr (mm_up μ 53 0 (Int32.toNatClampNeg l4) (-1)) (fun m2 => r_X8_pairs_58 l1 x2 l3 (l4 + 1) m2))) else r_X8_pairs_82 l1 x2 l3 0 μ) := by
  refine (show r_X8_pairs_58 l1 x2 l3 l4 μ = mm_run E_X8_pairs 8 1 cX8_pairs (58, [vr 8 0, vi l1, x2, vi l3, vi l4, vu, vu, vu, vu, vu, vu], [], μ) from rfl).trans ?_
  refine (R_iload dX8_pairs_58 rfl).trans ?_
  refine (R_bipush 24 dX8_pairs_60 bipush_24).trans ?_
  refine (R_icmp 79 dX8_pairs_62 rfl).trans (c_ge (fun h1 => ?_) (fun h1 => ?_))
  · refine (R_aload_n dX8_pairs_65 rfl (by decide)).trans ?_
    refine (gr_8_20 dX8_pairs_66).trans ?_
    refine (R_iload dX8_pairs_69 rfl).trans ?_
    refine (R_iconst (-1) dX8_pairs_71 iconst_m1).trans ?_
    refine (R_iastore dX8_pairs_72 as_53).trans (ck_congr ?_)
    refine wr_intro (g := fun m => mm_run E_X8_pairs 8 1 cX8_pairs (73, [vr 8 0, vi l1, x2, vi l3, vi l4, vu, vu, vu, vu, vu, vu], [], m)) (fun m2 => ?_)
    refine (R_iinc (ls' := [vr 8 0, vi l1, x2, vi l3, vi (l4 + 1), vu, vu, vu, vu, vu, vu]) 1 dX8_pairs_73 rfl iconst_1 (by decide) rfl).trans ?_
    refine (R_goto 58 dX8_pairs_76 rfl).trans ?_
    exact rfl
  · refine (R_iconst 0 dX8_pairs_79 iconst_0).trans ?_
    refine (R_istore (ls' := [vr 8 0, vi l1, x2, vi l3, vi 0, vu, vu, vu, vu, vu, vu]) dX8_pairs_80 (Nat.le_of_ble_eq_true rfl) (by decide) rfl).trans ?_
    exact rfl
set_option maxRecDepth 100000 in
set_option maxHeartbeats 4000000 in
theorem e_X8_pairs_82 (l1 : Int32) (x2 : mV) (l3 : Int32) (l4 : Int32) (μ : mM) : r_X8_pairs_82 l1 x2 l3 l4 μ = (if 24 < l4 then r_X8_pairs_115 l1 x2 l3 0 (-1) (-1) 0 vu vu vu μ else (ck 25 l4 (wr (mm_up μ 54 0 (Int32.toNatClampNeg l4) (-1)) (fun m2 => r_X8_pairs_82 l1 x2 l3 (l4 + 1) m2)))) := by
  refine (show r_X8_pairs_82 l1 x2 l3 l4 μ = mm_run E_X8_pairs 8 1 cX8_pairs (82, [vr 8 0, vi l1, x2, vi l3, vi l4, vu, vu, vu, vu, vu, vu], [], μ) from rfl).trans ?_
  refine (R_iload dX8_pairs_82 rfl).trans ?_
  refine (R_bipush 24 dX8_pairs_84 bipush_24).trans ?_
  refine (R_icmp 103 dX8_pairs_86 rfl).trans (c_gt (fun h1 => ?_) (fun h1 => ?_))
  · refine (R_iconst 0 dX8_pairs_103 iconst_0).trans ?_
    refine (R_istore (ls' := [vr 8 0, vi l1, x2, vi l3, vi 0, vu, vu, vu, vu, vu, vu]) dX8_pairs_104 (Nat.le_of_ble_eq_true rfl) (by decide) rfl).trans ?_
    refine (R_iconst (-1) dX8_pairs_106 iconst_m1).trans ?_
    refine (R_istore (ls' := [vr 8 0, vi l1, x2, vi l3, vi 0, vi (-1), vu, vu, vu, vu, vu]) dX8_pairs_107 (Nat.le_of_ble_eq_true rfl) (by decide) rfl).trans ?_
    refine (R_iconst (-1) dX8_pairs_109 iconst_m1).trans ?_
    refine (R_istore (ls' := [vr 8 0, vi l1, x2, vi l3, vi 0, vi (-1), vi (-1), vu, vu, vu, vu]) dX8_pairs_110 (Nat.le_of_ble_eq_true rfl) (by decide) rfl).trans ?_
    refine (R_iconst 0 dX8_pairs_112 iconst_0).trans ?_
    refine (R_istore (ls' := [vr 8 0, vi l1, x2, vi l3, vi 0, vi (-1), vi (-1), vi 0, vu, vu, vu]) dX8_pairs_113 (Nat.le_of_ble_eq_true rfl) (by decide) rfl).trans ?_
    exact rfl
  · refine (R_aload_n dX8_pairs_89 rfl (by decide)).trans ?_
    refine (gr_8_23 dX8_pairs_90).trans ?_
    refine (R_iload dX8_pairs_93 rfl).trans ?_
    refine (R_iconst (-1) dX8_pairs_95 iconst_m1).trans ?_
    refine (R_iastore dX8_pairs_96 as_54).trans (ck_congr ?_)
    refine wr_intro (g := fun m => mm_run E_X8_pairs 8 1 cX8_pairs (97, [vr 8 0, vi l1, x2, vi l3, vi l4, vu, vu, vu, vu, vu, vu], [], m)) (fun m2 => ?_)
    refine (R_iinc (ls' := [vr 8 0, vi l1, x2, vi l3, vi (l4 + 1), vu, vu, vu, vu, vu, vu]) 1 dX8_pairs_97 rfl iconst_1 (by decide) rfl).trans ?_
    refine (R_goto 82 dX8_pairs_100 rfl).trans ?_
    exact rfl
set_option maxRecDepth 100000 in
set_option maxHeartbeats 4000000 in
theorem e_X8_pairs_115 (l1 : Int32) (x2 : mV) (l3 : Int32) (l4 : Int32) (l5 : Int32) (l6 : Int32) (l7 : Int32) (x8 : mV) (x9 : mV) (x10 : mV) (μ : mM) : r_X8_pairs_115 l1 x2 l3 l4 l5 l6 l7 x8 x9 x10 μ = (if l7 < l3 then r_X8_pairs_129 l1 x2 l3 l4 l5 l6 l7 (-1) (l3 - 1) x10 μ else some (l4, μ)) := by
  refine (show r_X8_pairs_115 l1 x2 l3 l4 l5 l6 l7 x8 x9 x10 μ = mm_run E_X8_pairs 8 1 cX8_pairs (115, [vr 8 0, vi l1, x2, vi l3, vi l4, vi l5, vi l6, vi l7, x8, x9, x10], [], μ) from rfl).trans ?_
  refine (R_iload dX8_pairs_115 rfl).trans ?_
  refine (R_iload_n dX8_pairs_117 rfl).trans ?_
  refine (R_icmp 270 dX8_pairs_118 rfl).trans (c_ge (fun h1 => ?_) (fun h1 => ?_))
  · refine (R_iconst (-1) dX8_pairs_121 iconst_m1).trans ?_
    refine (R_istore (ls' := [vr 8 0, vi l1, x2, vi l3, vi l4, vi l5, vi l6, vi l7, vi (-1), x9, x10]) dX8_pairs_122 (Nat.le_of_ble_eq_true rfl) (by decide) rfl).trans ?_
    refine (R_iload_n dX8_pairs_124 rfl).trans ?_
    refine (R_iconst 1 dX8_pairs_125 iconst_1).trans ?_
    refine (R_isub dX8_pairs_126).trans ?_
    refine (R_istore (ls' := [vr 8 0, vi l1, x2, vi l3, vi l4, vi l5, vi l6, vi l7, vi (-1), vi (l3 - 1), x10]) dX8_pairs_127 (Nat.le_of_ble_eq_true rfl) (by decide) rfl).trans ?_
    exact rfl
  · refine (R_iload dX8_pairs_270 rfl).trans ?_
    exact R_ireturn dX8_pairs_272 rfl
set_option maxRecDepth 100000 in
set_option maxHeartbeats 4000000 in
theorem e_X8_pairs_129 (l1 : Int32) (x2 : mV) (l3 : Int32) (l4 : Int32) (l5 : Int32) (l6 : Int32) (l7 : Int32) (l8 : Int32) (l9 : Int32) (x10 : mV) (μ : mM) : r_X8_pairs_129 l1 x2 l3 l4 l5 l6 l7 l8 l9 x10 μ = (if l9 < 0 then (ck 25 l8 (Option.bind (f_X8_closesFirst [vr 8 0, vi (μ 55 0 (Int32.toNatClampNeg l8)), vi l1] μ) (fun q2 => (ck 25 l8 (wr (mm_up q2.2 54 0 (Int32.toNatClampNeg l8) q2.1) (fun m3 => (if q2.1 = (-1) then r_X8_pairs_115 l1 x2 l3 l4 l8 (μ 55 0 (Int32.toNatClampNeg l8)) (l7 + 1) (vi l8) (vi q2.1) x10 m3 else (ck 24 q2.1 (wr (mm_up m3 53 0 (Int32.toNatClampNeg q2.1) l8) (fun m5 => r_X8_pairs_115 l1 x2 l3 (l4 + 1) l8 (μ 55 0 (Int32.toNatClampNeg l8)) (l7 + 1) (vi l8) (vi q2.1) x10 m5)))))))))) else (ck 25 l9 (if l6 < μ 55 0 (Int32.toNatClampNeg l9) then (if l8 = (-1) then r_X8_pairs_129 l1 x2 l3 l4 l5 l6 l7 l9 (l9 + (-1)) (vi 1) μ else (ck 25 l9 (ck 25 l8 (if μ 55 0 (Int32.toNatClampNeg l8) < μ 55 0 (Int32.toNatClampNeg l9) then r_X8_pairs_129 l1 x2 l3 l4 l5 l6 l7 l8 (l9 + (-1)) (vi 1) μ else r_X8_pairs_129 l1 x2 l3 l4 l5 l6 l7 l9 (l9 + (-1)) (vi 1) μ)))) else (ck 25 l9 (if μ 55 0 (Int32.toNatClampNeg l9) = l6 then (if l5 < l9 then (if l8 = (-1) then r_X8_pairs_129 l1 x2 l3 l4 l5 l6 l7 l9 (l9 + (-1)) (vi 1) μ else (ck 25 l9 (ck 25 l8 (if μ 55 0 (Int32.toNatClampNeg l8) < μ 55 0 (Int32.toNatClampNeg l9) then r_X8_pairs_129 l1 x2 l3 l4 l5 l6 l7 l8 (l9 + (-1)) (vi 1) μ else r_X8_pairs_129 l1 x2 l3 l4 l5 l6 l7 l9 (l9 + (-1)) (vi 1) μ)))) else r_X8_pairs_129 l1 x2 l3 l4 l5 l6 l7 l8 (l9 + (-1)) (vi 0) μ) else r_X8_pairs_129 l1 x2 l3 l4 l5 l6 l7 l8 (l9 + (-1)) (vi 0) μ))))) := by
  refine (show r_X8_pairs_129 l1 x2 l3 l4 l5 l6 l7 l8 l9 x10 μ = mm_run E_X8_pairs 8 1 cX8_pairs (129, [vr 8 0, vi l1, x2, vi l3, vi l4, vi l5, vi l6, vi l7, vi l8, vi l9, x10], [], μ) from rfl).trans ?_
  refine (R_iload dX8_pairs_129 rfl).trans ?_
  refine (R_ifc 215 dX8_pairs_131 rfl).trans (c_lt (fun h1 => ?_) (fun h1 => ?_))
  · refine (R_iload dX8_pairs_215 rfl).trans ?_
    refine (R_istore (ls' := [vr 8 0, vi l1, x2, vi l3, vi l4, vi l8, vi l6, vi l7, vi l8, vi l9, x10]) dX8_pairs_217 (Nat.le_of_ble_eq_true rfl) (by decide) rfl).trans ?_
    refine (R_aload_n dX8_pairs_219 rfl (by decide)).trans ?_
    refine (gr_8_26 dX8_pairs_220).trans ?_
    refine (R_iload dX8_pairs_223 rfl).trans ?_
    refine (R_iaload dX8_pairs_225 as_55).trans (ck_congr ?_)
    refine (R_istore (ls' := [vr 8 0, vi l1, x2, vi l3, vi l4, vi l8, vi (μ 55 0 (Int32.toNatClampNeg l8)), vi l7, vi l8, vi l9, x10]) dX8_pairs_226 (Nat.le_of_ble_eq_true rfl) (by decide) rfl).trans ?_
    refine (R_aload_n dX8_pairs_228 rfl (by decide)).trans ?_
    refine (R_iload dX8_pairs_229 rfl).trans ?_
    refine (R_iload_n dX8_pairs_231 rfl).trans ?_
    refine (R_cv_i (as := [vi (μ 55 0 (Int32.toNatClampNeg l8)), vi l1]) (rest := []) dX8_pairs_232 mt_8_63 qp_88 qr_88 (E_X8_pairs_88) rfl rfl rfl (Nat.le_of_ble_eq_true rfl)).trans (mm_bind (fun q2 => ?_))
    refine (R_istore (ls' := [vr 8 0, vi l1, x2, vi l3, vi l4, vi l8, vi (μ 55 0 (Int32.toNatClampNeg l8)), vi l7, vi l8, vi q2.1, x10]) dX8_pairs_235 (Nat.le_of_ble_eq_true rfl) (by decide) rfl).trans ?_
    refine (R_aload_n dX8_pairs_237 rfl (by decide)).trans ?_
    refine (gr_8_23 dX8_pairs_238).trans ?_
    refine (R_iload dX8_pairs_241 rfl).trans ?_
    refine (R_iload dX8_pairs_243 rfl).trans ?_
    refine (R_iastore dX8_pairs_245 as_54).trans (ck_congr ?_)
    refine wr_intro (g := fun m => mm_run E_X8_pairs 8 1 cX8_pairs (246, [vr 8 0, vi l1, x2, vi l3, vi l4, vi l8, vi (μ 55 0 (Int32.toNatClampNeg l8)), vi l7, vi l8, vi q2.1, x10], [], m)) (fun m3 => ?_)
    refine (R_iload dX8_pairs_246 rfl).trans ?_
    refine (R_iconst (-1) dX8_pairs_248 iconst_m1).trans ?_
    refine (R_icmp 264 dX8_pairs_249 rfl).trans (c_eq (fun h4 => ?_) (fun h4 => ?_))
    · refine (R_iinc (ls' := [vr 8 0, vi l1, x2, vi l3, vi l4, vi l8, vi (μ 55 0 (Int32.toNatClampNeg l8)), vi (l7 + 1), vi l8, vi q2.1, x10]) 1 dX8_pairs_264 rfl iconst_1 (by decide) rfl).trans ?_
      refine (R_goto 115 dX8_pairs_267 rfl).trans ?_
      exact rfl
    · refine (R_aload_n dX8_pairs_252 rfl (by decide)).trans ?_
      refine (gr_8_20 dX8_pairs_253).trans ?_
      refine (R_iload dX8_pairs_256 rfl).trans ?_
      refine (R_iload dX8_pairs_258 rfl).trans ?_
      refine (R_iastore dX8_pairs_260 as_53).trans (ck_congr ?_)
      refine wr_intro (g := fun m => mm_run E_X8_pairs 8 1 cX8_pairs (261, [vr 8 0, vi l1, x2, vi l3, vi l4, vi l8, vi (μ 55 0 (Int32.toNatClampNeg l8)), vi l7, vi l8, vi q2.1, x10], [], m)) (fun m5 => ?_)
      refine (R_iinc (ls' := [vr 8 0, vi l1, x2, vi l3, vi (l4 + 1), vi l8, vi (μ 55 0 (Int32.toNatClampNeg l8)), vi l7, vi l8, vi q2.1, x10]) 1 dX8_pairs_261 rfl iconst_1 (by decide) rfl).trans ?_
      refine (R_iinc (ls' := [vr 8 0, vi l1, x2, vi l3, vi (l4 + 1), vi l8, vi (μ 55 0 (Int32.toNatClampNeg l8)), vi (l7 + 1), vi l8, vi q2.1, x10]) 1 dX8_pairs_264 rfl iconst_1 (by decide) rfl).trans ?_
      refine (R_goto 115 dX8_pairs_267 rfl).trans ?_
      exact rfl
  · refine (R_aload_n dX8_pairs_134 rfl (by decide)).trans ?_
    refine (gr_8_26 dX8_pairs_135).trans ?_
    refine (R_iload dX8_pairs_138 rfl).trans ?_
    refine (R_iaload dX8_pairs_140 as_55).trans (ck_congr ?_)
    refine (R_iload dX8_pairs_141 rfl).trans ?_
    refine (R_icmp 165 dX8_pairs_143 rfl).trans (c_gt (fun h6 => ?_) (fun h6 => ?_))
    · refine (R_iconst 1 dX8_pairs_165 iconst_1).trans ?_
      refine (R_goto 170 dX8_pairs_166 rfl).trans ?_
      refine (R_istore (ls' := [vr 8 0, vi l1, x2, vi l3, vi l4, vi l5, vi l6, vi l7, vi l8, vi l9, vi 1]) dX8_pairs_170 (Nat.le_of_ble_eq_true rfl) (by decide) rfl).trans ?_
      refine (R_iload dX8_pairs_172 rfl).trans ?_
      refine (R_ifc 205 dX8_pairs_174 rfl).trans ((p_eq_f (by decide)).trans ?_)
      refine (R_iload dX8_pairs_177 rfl).trans ?_
      refine (R_iconst (-1) dX8_pairs_179 iconst_m1).trans ?_
      refine (R_icmp 200 dX8_pairs_180 rfl).trans (c_eq (fun h7 => ?_) (fun h7 => ?_))
      · refine (R_iload dX8_pairs_200 rfl).trans ?_
        refine (R_goto 207 dX8_pairs_202 rfl).trans ?_
        refine (R_istore (ls' := [vr 8 0, vi l1, x2, vi l3, vi l4, vi l5, vi l6, vi l7, vi l9, vi l9, vi 1]) dX8_pairs_207 (Nat.le_of_ble_eq_true rfl) (by decide) rfl).trans ?_
        refine (R_iinc (ls' := [vr 8 0, vi l1, x2, vi l3, vi l4, vi l5, vi l6, vi l7, vi l9, vi (l9 + (-1)), vi 1]) (-1) dX8_pairs_209 rfl iconst_m1 (by decide) rfl).trans ?_
        refine (R_goto 129 dX8_pairs_212 rfl).trans ?_
        exact rfl
      · refine (R_aload_n dX8_pairs_183 rfl (by decide)).trans ?_
        refine (gr_8_26 dX8_pairs_184).trans ?_
        refine (R_iload dX8_pairs_187 rfl).trans ?_
        refine (R_iaload dX8_pairs_189 as_55).trans (ck_congr ?_)
        refine (R_aload_n dX8_pairs_190 rfl (by decide)).trans ?_
        refine (gr_8_26 dX8_pairs_191).trans ?_
        refine (R_iload dX8_pairs_194 rfl).trans ?_
        refine (R_iaload dX8_pairs_196 as_55).trans (ck_congr ?_)
        refine (R_icmp 205 dX8_pairs_197 rfl).trans (c_gt (fun h8 => ?_) (fun h8 => ?_))
        · refine (R_iload dX8_pairs_205 rfl).trans ?_
          refine (R_istore (ls' := [vr 8 0, vi l1, x2, vi l3, vi l4, vi l5, vi l6, vi l7, vi l8, vi l9, vi 1]) dX8_pairs_207 (Nat.le_of_ble_eq_true rfl) (by decide) rfl).trans ?_
          refine (R_iinc (ls' := [vr 8 0, vi l1, x2, vi l3, vi l4, vi l5, vi l6, vi l7, vi l8, vi (l9 + (-1)), vi 1]) (-1) dX8_pairs_209 rfl iconst_m1 (by decide) rfl).trans ?_
          refine (R_goto 129 dX8_pairs_212 rfl).trans ?_
          exact rfl
        · refine (R_iload dX8_pairs_200 rfl).trans ?_
          refine (R_goto 207 dX8_pairs_202 rfl).trans ?_
          refine (R_istore (ls' := [vr 8 0, vi l1, x2, vi l3, vi l4, vi l5, vi l6, vi l7, vi l9, vi l9, vi 1]) dX8_pairs_207 (Nat.le_of_ble_eq_true rfl) (by decide) rfl).trans ?_
          refine (R_iinc (ls' := [vr 8 0, vi l1, x2, vi l3, vi l4, vi l5, vi l6, vi l7, vi l9, vi (l9 + (-1)), vi 1]) (-1) dX8_pairs_209 rfl iconst_m1 (by decide) rfl).trans ?_
          refine (R_goto 129 dX8_pairs_212 rfl).trans ?_
          exact rfl
    · refine (R_aload_n dX8_pairs_146 rfl (by decide)).trans ?_
      refine (gr_8_26 dX8_pairs_147).trans ?_
      refine (R_iload dX8_pairs_150 rfl).trans ?_
      refine (R_iaload dX8_pairs_152 as_55).trans (ck_congr ?_)
      refine (R_iload dX8_pairs_153 rfl).trans ?_
      refine (R_icmp 169 dX8_pairs_155 rfl).trans (c_ne (fun h9 => ?_) (fun h9 => ?_))
      · refine (R_iload dX8_pairs_158 rfl).trans ?_
        refine (R_iload dX8_pairs_160 rfl).trans ?_
        refine (R_icmp 169 dX8_pairs_162 rfl).trans (c_le (fun h10 => ?_) (fun h10 => ?_))
        · refine (R_iconst 1 dX8_pairs_165 iconst_1).trans ?_
          refine (R_goto 170 dX8_pairs_166 rfl).trans ?_
          refine (R_istore (ls' := [vr 8 0, vi l1, x2, vi l3, vi l4, vi l5, vi l6, vi l7, vi l8, vi l9, vi 1]) dX8_pairs_170 (Nat.le_of_ble_eq_true rfl) (by decide) rfl).trans ?_
          refine (R_iload dX8_pairs_172 rfl).trans ?_
          refine (R_ifc 205 dX8_pairs_174 rfl).trans ((p_eq_f (by decide)).trans ?_)
          refine (R_iload dX8_pairs_177 rfl).trans ?_
          refine (R_iconst (-1) dX8_pairs_179 iconst_m1).trans ?_
          refine (R_icmp 200 dX8_pairs_180 rfl).trans (c_eq (fun h11 => ?_) (fun h11 => ?_))
          · refine (R_iload dX8_pairs_200 rfl).trans ?_
            refine (R_goto 207 dX8_pairs_202 rfl).trans ?_
            refine (R_istore (ls' := [vr 8 0, vi l1, x2, vi l3, vi l4, vi l5, vi l6, vi l7, vi l9, vi l9, vi 1]) dX8_pairs_207 (Nat.le_of_ble_eq_true rfl) (by decide) rfl).trans ?_
            refine (R_iinc (ls' := [vr 8 0, vi l1, x2, vi l3, vi l4, vi l5, vi l6, vi l7, vi l9, vi (l9 + (-1)), vi 1]) (-1) dX8_pairs_209 rfl iconst_m1 (by decide) rfl).trans ?_
            refine (R_goto 129 dX8_pairs_212 rfl).trans ?_
            exact rfl
          · refine (R_aload_n dX8_pairs_183 rfl (by decide)).trans ?_
            refine (gr_8_26 dX8_pairs_184).trans ?_
            refine (R_iload dX8_pairs_187 rfl).trans ?_
            refine (R_iaload dX8_pairs_189 as_55).trans (ck_congr ?_)
            refine (R_aload_n dX8_pairs_190 rfl (by decide)).trans ?_
            refine (gr_8_26 dX8_pairs_191).trans ?_
            refine (R_iload dX8_pairs_194 rfl).trans ?_
            refine (R_iaload dX8_pairs_196 as_55).trans (ck_congr ?_)
            refine (R_icmp 205 dX8_pairs_197 rfl).trans (c_gt (fun h12 => ?_) (fun h12 => ?_))
            · refine (R_iload dX8_pairs_205 rfl).trans ?_
              refine (R_istore (ls' := [vr 8 0, vi l1, x2, vi l3, vi l4, vi l5, vi l6, vi l7, vi l8, vi l9, vi 1]) dX8_pairs_207 (Nat.le_of_ble_eq_true rfl) (by decide) rfl).trans ?_
              refine (R_iinc (ls' := [vr 8 0, vi l1, x2, vi l3, vi l4, vi l5, vi l6, vi l7, vi l8, vi (l9 + (-1)), vi 1]) (-1) dX8_pairs_209 rfl iconst_m1 (by decide) rfl).trans ?_
              refine (R_goto 129 dX8_pairs_212 rfl).trans ?_
              exact rfl
            · refine (R_iload dX8_pairs_200 rfl).trans ?_
              refine (R_goto 207 dX8_pairs_202 rfl).trans ?_
              refine (R_istore (ls' := [vr 8 0, vi l1, x2, vi l3, vi l4, vi l5, vi l6, vi l7, vi l9, vi l9, vi 1]) dX8_pairs_207 (Nat.le_of_ble_eq_true rfl) (by decide) rfl).trans ?_
              refine (R_iinc (ls' := [vr 8 0, vi l1, x2, vi l3, vi l4, vi l5, vi l6, vi l7, vi l9, vi (l9 + (-1)), vi 1]) (-1) dX8_pairs_209 rfl iconst_m1 (by decide) rfl).trans ?_
              refine (R_goto 129 dX8_pairs_212 rfl).trans ?_
              exact rfl
        · refine (R_iconst 0 dX8_pairs_169 iconst_0).trans ?_
          refine (R_istore (ls' := [vr 8 0, vi l1, x2, vi l3, vi l4, vi l5, vi l6, vi l7, vi l8, vi l9, vi 0]) dX8_pairs_170 (Nat.le_of_ble_eq_true rfl) (by decide) rfl).trans ?_
          refine (R_iload dX8_pairs_172 rfl).trans ?_
          refine (R_ifc 205 dX8_pairs_174 rfl).trans ((p_eq_t (by decide)).trans ?_)
          refine (R_iload dX8_pairs_205 rfl).trans ?_
          refine (R_istore (ls' := [vr 8 0, vi l1, x2, vi l3, vi l4, vi l5, vi l6, vi l7, vi l8, vi l9, vi 0]) dX8_pairs_207 (Nat.le_of_ble_eq_true rfl) (by decide) rfl).trans ?_
          refine (R_iinc (ls' := [vr 8 0, vi l1, x2, vi l3, vi l4, vi l5, vi l6, vi l7, vi l8, vi (l9 + (-1)), vi 0]) (-1) dX8_pairs_209 rfl iconst_m1 (by decide) rfl).trans ?_
          refine (R_goto 129 dX8_pairs_212 rfl).trans ?_
          exact rfl
      · refine (R_iconst 0 dX8_pairs_169 iconst_0).trans ?_
        refine (R_istore (ls' := [vr 8 0, vi l1, x2, vi l3, vi l4, vi l5, vi l6, vi l7, vi l8, vi l9, vi 0]) dX8_pairs_170 (Nat.le_of_ble_eq_true rfl) (by decide) rfl).trans ?_
        refine (R_iload dX8_pairs_172 rfl).trans ?_
        refine (R_ifc 205 dX8_pairs_174 rfl).trans ((p_eq_t (by decide)).trans ?_)
        refine (R_iload dX8_pairs_205 rfl).trans ?_
        refine (R_istore (ls' := [vr 8 0, vi l1, x2, vi l3, vi l4, vi l5, vi l6, vi l7, vi l8, vi l9, vi 0]) dX8_pairs_207 (Nat.le_of_ble_eq_true rfl) (by decide) rfl).trans ?_
        refine (R_iinc (ls' := [vr 8 0, vi l1, x2, vi l3, vi l4, vi l5, vi l6, vi l7, vi l8, vi (l9 + (-1)), vi 0]) (-1) dX8_pairs_209 rfl iconst_m1 (by decide) rfl).trans ?_
        refine (R_goto 129 dX8_pairs_212 rfl).trans ?_
        exact rfl
noncomputable def E_X8_laySizes : mE := fun k => if k = 94 then f_X8_isSo else fun _ _ => none
theorem E_X8_laySizes_94 : E_X8_laySizes 94 = f_X8_isSo := if_pos rfl
noncomputable def f_X8_laySizes : List mV → mM → Option mR := mm_fn E_X8_laySizes 8 0 3 cX8_laySizes
theorem k_X8_laySizes (l : Launch) : mm_OK l 95 f_X8_laySizes := mm_fn_ok l 95 8 E_X8_laySizes (by decide) rfl (by decide) (by
  intro k as μ q h
  by_cases h0 : k = 94
  · subst h0
    exact ⟨by rw [E_X8_laySizes_94]; exact k_X8_isSo l, by decide, by decide, by decide⟩
  have e : E_X8_laySizes k = fun _ _ => none := (if_neg h0).trans (rfl)
  rw [e] at h
  cases h)
noncomputable def r_X8_laySizes_17 (l1 : Int32) (x2 : mV) (μ : mM) : Option mR := mm_run E_X8_laySizes 8 0 cX8_laySizes (17, [vr 8 0, vi l1, x2], [], μ)
set_option maxRecDepth 100000 in
set_option maxHeartbeats 4000000 in
theorem e_X8_laySizes (μ : mM) : f_X8_laySizes [vr 8 0] μ = (wr (mm_up μ 8 0 12 0) (fun m1 => (wr (mm_up m1 8 0 13 (-1)) (fun m2 => (wr (mm_up m2 8 0 14 (-1)) (fun m3 => r_X8_laySizes_17 0 vu m3)))))) := by
  refine (show f_X8_laySizes [vr 8 0] μ = mm_run E_X8_laySizes 8 0 cX8_laySizes (0, [vr 8 0, vu, vu], [], μ) from rfl).trans ?_
  refine (R_aload_n dX8_laySizes_0 rfl (by decide)).trans ?_
  refine (R_iconst 0 dX8_laySizes_1 iconst_0).trans ?_
  refine (R_pi dX8_laySizes_2 ft_8_81 fs_8_12).trans ?_
  refine wr_intro (g := fun m => mm_run E_X8_laySizes 8 0 cX8_laySizes (5, [vr 8 0, vu, vu], [], m)) (fun m1 => ?_)
  refine (R_aload_n dX8_laySizes_5 rfl (by decide)).trans ?_
  refine (R_iconst (-1) dX8_laySizes_6 iconst_m1).trans ?_
  refine (R_pi dX8_laySizes_7 ft_8_84 fs_8_13).trans ?_
  refine wr_intro (g := fun m => mm_run E_X8_laySizes 8 0 cX8_laySizes (10, [vr 8 0, vu, vu], [], m)) (fun m2 => ?_)
  refine (R_aload_n dX8_laySizes_10 rfl (by decide)).trans ?_
  refine (R_iconst (-1) dX8_laySizes_11 iconst_m1).trans ?_
  refine (R_pi dX8_laySizes_12 ft_8_87 fs_8_14).trans ?_
  refine wr_intro (g := fun m => mm_run E_X8_laySizes 8 0 cX8_laySizes (15, [vr 8 0, vu, vu], [], m)) (fun m3 => ?_)
  refine (R_iconst 0 dX8_laySizes_15 iconst_0).trans ?_
  refine (R_istore_n (ls' := [vr 8 0, vi 0, vu]) dX8_laySizes_16 (Nat.le_of_ble_eq_true rfl) (by decide) rfl).trans ?_
  exact rfl
set_option maxRecDepth 100000 in
set_option maxHeartbeats 4000000 in
theorem e_X8_laySizes_17 (l1 : Int32) (x2 : mV) (μ : mM) : r_X8_laySizes_17 l1 x2 μ = (if 9999 < l1 then some (0, μ) else (Option.bind (f_X8_isSo [vr 8 0, vi l1] μ) (fun q2 => (if q2.1 = 0 then (wr (mm_up q2.2 8 0 13 (q2.2 8 0 13)) (fun m4 => (wr (mm_up m4 8 0 14 (m4 8 0 14)) (fun m5 => (wr (mm_up m5 8 0 12 ((m5 8 0 12) + 0)) (fun m6 => r_X8_laySizes_17 (l1 + 1) (vi q2.1) m6)))))) else (if q2.2 8 0 12 = 0 then (wr (mm_up q2.2 8 0 13 l1) (fun m8 => (wr (mm_up m8 8 0 14 l1) (fun m9 => (wr (mm_up m9 8 0 12 ((m9 8 0 12) + 1)) (fun m10 => r_X8_laySizes_17 (l1 + 1) (vi q2.1) m10)))))) else (wr (mm_up q2.2 8 0 13 (q2.2 8 0 13)) (fun m11 => (wr (mm_up m11 8 0 14 l1) (fun m12 => (wr (mm_up m12 8 0 12 ((m12 8 0 12) + 1)) (fun m13 => r_X8_laySizes_17 (l1 + 1) (vi q2.1) m13))))))))))) := by
  refine (show r_X8_laySizes_17 l1 x2 μ = mm_run E_X8_laySizes 8 0 cX8_laySizes (17, [vr 8 0, vi l1, x2], [], μ) from rfl).trans ?_
  refine (R_iload_n dX8_laySizes_17 rfl).trans ?_
  refine (R_sipush 9999 dX8_laySizes_18 sipush_9999).trans ?_
  refine (R_icmp 93 dX8_laySizes_21 rfl).trans (c_gt (fun h1 => ?_) (fun h1 => ?_))
  · exact R_return dX8_laySizes_93 rfl
  · refine (R_aload_n dX8_laySizes_24 rfl (by decide)).trans ?_
    refine (R_iload_n dX8_laySizes_25 rfl).trans ?_
    refine (R_cv_i (as := [vi l1]) (rest := []) dX8_laySizes_26 mt_8_90 qp_94 qr_94 (E_X8_laySizes_94) rfl rfl rfl (Nat.le_of_ble_eq_true rfl)).trans (mm_bind (fun q2 => ?_))
    refine (R_istore_n (ls' := [vr 8 0, vi l1, vi q2.1]) dX8_laySizes_29 (Nat.le_of_ble_eq_true rfl) (by decide) rfl).trans ?_
    refine (R_aload_n dX8_laySizes_30 rfl (by decide)).trans ?_
    refine (R_iload_n dX8_laySizes_31 rfl).trans ?_
    refine (R_ifc 46 dX8_laySizes_32 rfl).trans (c_eq (fun h3 => ?_) (fun h3 => ?_))
    · refine (R_aload_n dX8_laySizes_46 rfl (by decide)).trans ?_
      refine (gi_8_84 dX8_laySizes_47).trans ?_
      refine (R_pi dX8_laySizes_50 ft_8_84 fs_8_13).trans ?_
      refine wr_intro (g := fun m => mm_run E_X8_laySizes 8 0 cX8_laySizes (53, [vr 8 0, vi l1, vi q2.1], [], m)) (fun m4 => ?_)
      refine (R_aload_n dX8_laySizes_53 rfl (by decide)).trans ?_
      refine (R_iload_n dX8_laySizes_54 rfl).trans ?_
      refine (R_ifc 62 dX8_laySizes_55 rfl).trans ((p_eq_t h3).trans ?_)
      refine (R_aload_n dX8_laySizes_62 rfl (by decide)).trans ?_
      refine (gi_8_87 dX8_laySizes_63).trans ?_
      refine (R_pi dX8_laySizes_66 ft_8_87 fs_8_14).trans ?_
      refine wr_intro (g := fun m => mm_run E_X8_laySizes 8 0 cX8_laySizes (69, [vr 8 0, vi l1, vi q2.1], [], m)) (fun m5 => ?_)
      refine (R_aload_n dX8_laySizes_69 rfl (by decide)).trans ?_
      refine (R_dup dX8_laySizes_70 rfl).trans ?_
      refine (gi_8_81 dX8_laySizes_71).trans ?_
      refine (R_iload_n dX8_laySizes_74 rfl).trans ?_
      refine (R_ifc 82 dX8_laySizes_75 rfl).trans ((p_eq_t h3).trans ?_)
      refine (R_iconst 0 dX8_laySizes_82 iconst_0).trans ?_
      refine (R_iadd dX8_laySizes_83).trans ?_
      refine (R_pi dX8_laySizes_84 ft_8_81 fs_8_12).trans ?_
      refine wr_intro (g := fun m => mm_run E_X8_laySizes 8 0 cX8_laySizes (87, [vr 8 0, vi l1, vi q2.1], [], m)) (fun m6 => ?_)
      refine (R_iinc (ls' := [vr 8 0, vi (l1 + 1), vi q2.1]) 1 dX8_laySizes_87 rfl iconst_1 (by decide) rfl).trans ?_
      refine (R_goto 17 dX8_laySizes_90 rfl).trans ?_
      exact rfl
    · refine (R_aload_n dX8_laySizes_35 rfl (by decide)).trans ?_
      refine (gi_8_81 dX8_laySizes_36).trans ?_
      refine (R_ifc 46 dX8_laySizes_39 rfl).trans (c_ne (fun h7 => ?_) (fun h7 => ?_))
      · refine (R_iload_n dX8_laySizes_42 rfl).trans ?_
        refine (R_goto 50 dX8_laySizes_43 rfl).trans ?_
        refine (R_pi dX8_laySizes_50 ft_8_84 fs_8_13).trans ?_
        refine wr_intro (g := fun m => mm_run E_X8_laySizes 8 0 cX8_laySizes (53, [vr 8 0, vi l1, vi q2.1], [], m)) (fun m8 => ?_)
        refine (R_aload_n dX8_laySizes_53 rfl (by decide)).trans ?_
        refine (R_iload_n dX8_laySizes_54 rfl).trans ?_
        refine (R_ifc 62 dX8_laySizes_55 rfl).trans ((p_eq_f h3).trans ?_)
        refine (R_iload_n dX8_laySizes_58 rfl).trans ?_
        refine (R_goto 66 dX8_laySizes_59 rfl).trans ?_
        refine (R_pi dX8_laySizes_66 ft_8_87 fs_8_14).trans ?_
        refine wr_intro (g := fun m => mm_run E_X8_laySizes 8 0 cX8_laySizes (69, [vr 8 0, vi l1, vi q2.1], [], m)) (fun m9 => ?_)
        refine (R_aload_n dX8_laySizes_69 rfl (by decide)).trans ?_
        refine (R_dup dX8_laySizes_70 rfl).trans ?_
        refine (gi_8_81 dX8_laySizes_71).trans ?_
        refine (R_iload_n dX8_laySizes_74 rfl).trans ?_
        refine (R_ifc 82 dX8_laySizes_75 rfl).trans ((p_eq_f h3).trans ?_)
        refine (R_iconst 1 dX8_laySizes_78 iconst_1).trans ?_
        refine (R_goto 83 dX8_laySizes_79 rfl).trans ?_
        refine (R_iadd dX8_laySizes_83).trans ?_
        refine (R_pi dX8_laySizes_84 ft_8_81 fs_8_12).trans ?_
        refine wr_intro (g := fun m => mm_run E_X8_laySizes 8 0 cX8_laySizes (87, [vr 8 0, vi l1, vi q2.1], [], m)) (fun m10 => ?_)
        refine (R_iinc (ls' := [vr 8 0, vi (l1 + 1), vi q2.1]) 1 dX8_laySizes_87 rfl iconst_1 (by decide) rfl).trans ?_
        refine (R_goto 17 dX8_laySizes_90 rfl).trans ?_
        exact rfl
      · refine (R_aload_n dX8_laySizes_46 rfl (by decide)).trans ?_
        refine (gi_8_84 dX8_laySizes_47).trans ?_
        refine (R_pi dX8_laySizes_50 ft_8_84 fs_8_13).trans ?_
        refine wr_intro (g := fun m => mm_run E_X8_laySizes 8 0 cX8_laySizes (53, [vr 8 0, vi l1, vi q2.1], [], m)) (fun m11 => ?_)
        refine (R_aload_n dX8_laySizes_53 rfl (by decide)).trans ?_
        refine (R_iload_n dX8_laySizes_54 rfl).trans ?_
        refine (R_ifc 62 dX8_laySizes_55 rfl).trans ((p_eq_f h3).trans ?_)
        refine (R_iload_n dX8_laySizes_58 rfl).trans ?_
        refine (R_goto 66 dX8_laySizes_59 rfl).trans ?_
        refine (R_pi dX8_laySizes_66 ft_8_87 fs_8_14).trans ?_
        refine wr_intro (g := fun m => mm_run E_X8_laySizes 8 0 cX8_laySizes (69, [vr 8 0, vi l1, vi q2.1], [], m)) (fun m12 => ?_)
        refine (R_aload_n dX8_laySizes_69 rfl (by decide)).trans ?_
        refine (R_dup dX8_laySizes_70 rfl).trans ?_
        refine (gi_8_81 dX8_laySizes_71).trans ?_
        refine (R_iload_n dX8_laySizes_74 rfl).trans ?_
        refine (R_ifc 82 dX8_laySizes_75 rfl).trans ((p_eq_f h3).trans ?_)
        refine (R_iconst 1 dX8_laySizes_78 iconst_1).trans ?_
        refine (R_goto 83 dX8_laySizes_79 rfl).trans ?_
        refine (R_iadd dX8_laySizes_83).trans ?_
        refine (R_pi dX8_laySizes_84 ft_8_81 fs_8_12).trans ?_
        refine wr_intro (g := fun m => mm_run E_X8_laySizes 8 0 cX8_laySizes (87, [vr 8 0, vi l1, vi q2.1], [], m)) (fun m13 => ?_)
        refine (R_iinc (ls' := [vr 8 0, vi (l1 + 1), vi q2.1]) 1 dX8_laySizes_87 rfl iconst_1 (by decide) rfl).trans ?_
        refine (R_goto 17 dX8_laySizes_90 rfl).trans ?_
        exact rfl
noncomputable def E_X8_fitting : mE := fun k => if k = 85 then f_X8_begin else if k = 86 then f_X8_end else if k = 94 then f_X8_isSo else fun _ _ => none
theorem E_X8_fitting_85 : E_X8_fitting 85 = f_X8_begin := if_pos rfl
theorem E_X8_fitting_86 : E_X8_fitting 86 = f_X8_end := (if_neg (by decide)).trans (if_pos rfl)
theorem E_X8_fitting_94 : E_X8_fitting 94 = f_X8_isSo := (if_neg (by decide)).trans ((if_neg (by decide)).trans (if_pos rfl))
noncomputable def f_X8_fitting : List mV → mM → Option mR := mm_fn E_X8_fitting 8 1 4 cX8_fitting
theorem k_X8_fitting (l : Launch) : mm_OK l 96 f_X8_fitting := mm_fn_ok l 96 8 E_X8_fitting (by decide) rfl (by decide) (by
  intro k as μ q h
  by_cases h0 : k = 85
  · subst h0
    exact ⟨by rw [E_X8_fitting_85]; exact k_X8_begin l, by decide, by decide, by decide⟩
  by_cases h1 : k = 86
  · subst h1
    exact ⟨by rw [E_X8_fitting_86]; exact k_X8_end l, by decide, by decide, by decide⟩
  by_cases h2 : k = 94
  · subst h2
    exact ⟨by rw [E_X8_fitting_94]; exact k_X8_isSo l, by decide, by decide, by decide⟩
  have e : E_X8_fitting k = fun _ _ => none := (if_neg h0).trans ((if_neg h1).trans ((if_neg h2).trans (rfl)))
  rw [e] at h
  cases h)
noncomputable def r_X8_fitting_8 (l1 : Int32) (l2 : Int32) (l3 : Int32) (μ : mM) : Option mR := mm_run E_X8_fitting 8 1 cX8_fitting (8, [vr 8 0, vi l1, vi l2, vi l3], [], μ)
set_option maxRecDepth 100000 in
set_option maxHeartbeats 4000000 in
theorem e_X8_fitting (l1 : Int32) (μ : mM) : f_X8_fitting [vr 8 0, vi l1] μ = (Option.bind (f_X8_begin [vr 8 0, vi l1] μ) (fun q1 => r_X8_fitting_8 l1 0 q1.1 q1.2)) := by
  refine (show f_X8_fitting [vr 8 0, vi l1] μ = mm_run E_X8_fitting 8 1 cX8_fitting (0, [vr 8 0, vi l1, vu, vu], [], μ) from rfl).trans ?_
  refine (R_iconst 0 dX8_fitting_0 iconst_0).trans ?_
  refine (R_istore_n (ls' := [vr 8 0, vi l1, vi 0, vu]) dX8_fitting_1 (Nat.le_of_ble_eq_true rfl) (by decide) rfl).trans ?_
  refine (R_aload_n dX8_fitting_2 rfl (by decide)).trans ?_
  refine (R_iload_n dX8_fitting_3 rfl).trans ?_
  refine (R_cv_i (as := [vi l1]) (rest := []) dX8_fitting_4 mt_8_56 qp_85 qr_85 (E_X8_fitting_85) rfl rfl rfl (Nat.le_of_ble_eq_true rfl)).trans (mm_bind (fun q1 => ?_))
  refine (R_istore_n (ls' := [vr 8 0, vi l1, vi 0, vi q1.1]) dX8_fitting_7 (Nat.le_of_ble_eq_true rfl) (by decide) rfl).trans ?_
  exact rfl
set_option maxRecDepth 100000 in
set_option maxHeartbeats 4000000 in
theorem e_X8_fitting_8 (l1 : Int32) (l2 : Int32) (l3 : Int32) (μ : mM) : r_X8_fitting_8 l1 l2 l3 μ = (Option.bind (f_X8_end [vr 8 0, vi l1] μ) (fun q1 => (if q1.1 < l3 then some (l2, q1.2) else (if 9999 < l3 then some (l2, q1.2) else (Option.bind (f_X8_isSo [vr 8 0, vi l3] q1.2) (fun q4 => (if q4.1 = 0 then r_X8_fitting_8 l1 (l2 + 0) (l3 + 1) q4.2 else r_X8_fitting_8 l1 (l2 + 1) (l3 + 1) q4.2))))))) := by
  refine (show r_X8_fitting_8 l1 l2 l3 μ = mm_run E_X8_fitting 8 1 cX8_fitting (8, [vr 8 0, vi l1, vi l2, vi l3], [], μ) from rfl).trans ?_
  refine (R_iload_n dX8_fitting_8 rfl).trans ?_
  refine (R_aload_n dX8_fitting_9 rfl (by decide)).trans ?_
  refine (R_iload_n dX8_fitting_10 rfl).trans ?_
  refine (R_cv_i (as := [vi l1]) (rest := [vi l3]) dX8_fitting_11 mt_8_60 qp_86 qr_86 (E_X8_fitting_86) rfl rfl rfl (Nat.le_of_ble_eq_true rfl)).trans (mm_bind (fun q1 => ?_))
  refine (R_icmp 46 dX8_fitting_14 rfl).trans (c_gt (fun h2 => ?_) (fun h2 => ?_))
  · refine (R_iload_n dX8_fitting_46 rfl).trans ?_
    exact R_ireturn dX8_fitting_47 rfl
  · refine (R_iload_n dX8_fitting_17 rfl).trans ?_
    refine (R_sipush 9999 dX8_fitting_18 sipush_9999).trans ?_
    refine (R_icmp 46 dX8_fitting_21 rfl).trans (c_gt (fun h3 => ?_) (fun h3 => ?_))
    · refine (R_iload_n dX8_fitting_46 rfl).trans ?_
      exact R_ireturn dX8_fitting_47 rfl
    · refine (R_iload_n dX8_fitting_24 rfl).trans ?_
      refine (R_aload_n dX8_fitting_25 rfl (by decide)).trans ?_
      refine (R_iload_n dX8_fitting_26 rfl).trans ?_
      refine (R_cv_i (as := [vi l3]) (rest := [vi l2]) dX8_fitting_27 mt_8_90 qp_94 qr_94 (E_X8_fitting_94) rfl rfl rfl (Nat.le_of_ble_eq_true rfl)).trans (mm_bind (fun q4 => ?_))
      refine (R_ifc 37 dX8_fitting_30 rfl).trans (c_eq (fun h5 => ?_) (fun h5 => ?_))
      · refine (R_iconst 0 dX8_fitting_37 iconst_0).trans ?_
        refine (R_iadd dX8_fitting_38).trans ?_
        refine (R_istore_n (ls' := [vr 8 0, vi l1, vi (l2 + 0), vi l3]) dX8_fitting_39 (Nat.le_of_ble_eq_true rfl) (by decide) rfl).trans ?_
        refine (R_iinc (ls' := [vr 8 0, vi l1, vi (l2 + 0), vi (l3 + 1)]) 1 dX8_fitting_40 rfl iconst_1 (by decide) rfl).trans ?_
        refine (R_goto 8 dX8_fitting_43 rfl).trans ?_
        exact rfl
      · refine (R_iconst 1 dX8_fitting_33 iconst_1).trans ?_
        refine (R_goto 38 dX8_fitting_34 rfl).trans ?_
        refine (R_iadd dX8_fitting_38).trans ?_
        refine (R_istore_n (ls' := [vr 8 0, vi l1, vi (l2 + 1), vi l3]) dX8_fitting_39 (Nat.le_of_ble_eq_true rfl) (by decide) rfl).trans ?_
        refine (R_iinc (ls' := [vr 8 0, vi l1, vi (l2 + 1), vi (l3 + 1)]) 1 dX8_fitting_40 rfl iconst_1 (by decide) rfl).trans ?_
        refine (R_goto 8 dX8_fitting_43 rfl).trans ?_
        exact rfl
noncomputable def E_X8_fitsMany : mE := fun k => if k = 87 then f_X8_fits else fun _ _ => none
theorem E_X8_fitsMany_87 : E_X8_fitsMany 87 = f_X8_fits := if_pos rfl
noncomputable def f_X8_fitsMany : List mV → mM → Option mR := mm_fn E_X8_fitsMany 8 1 4 cX8_fitsMany
theorem k_X8_fitsMany (l : Launch) : mm_OK l 103 f_X8_fitsMany := mm_fn_ok l 103 8 E_X8_fitsMany (by decide) rfl (by decide) (by
  intro k as μ q h
  by_cases h0 : k = 87
  · subst h0
    exact ⟨by rw [E_X8_fitsMany_87]; exact k_X8_fits l, by decide, by decide, by decide⟩
  have e : E_X8_fitsMany k = fun _ _ => none := (if_neg h0).trans (rfl)
  rw [e] at h
  cases h)
noncomputable def r_X8_fitsMany_4 (l1 : Int32) (l2 : Int32) (l3 : Int32) (μ : mM) : Option mR := mm_run E_X8_fitsMany 8 1 cX8_fitsMany (4, [vr 8 0, vi l1, vi l2, vi l3], [], μ)
set_option maxRecDepth 100000 in
set_option maxHeartbeats 4000000 in
theorem e_X8_fitsMany (l1 : Int32) (μ : mM) : f_X8_fitsMany [vr 8 0, vi l1] μ = r_X8_fitsMany_4 l1 0 0 μ := by
  refine (show f_X8_fitsMany [vr 8 0, vi l1] μ = mm_run E_X8_fitsMany 8 1 cX8_fitsMany (0, [vr 8 0, vi l1, vu, vu], [], μ) from rfl).trans ?_
  refine (R_iconst 0 dX8_fitsMany_0 iconst_0).trans ?_
  refine (R_istore_n (ls' := [vr 8 0, vi l1, vi 0, vu]) dX8_fitsMany_1 (Nat.le_of_ble_eq_true rfl) (by decide) rfl).trans ?_
  refine (R_iconst 0 dX8_fitsMany_2 iconst_0).trans ?_
  refine (R_istore_n (ls' := [vr 8 0, vi l1, vi 0, vi 0]) dX8_fitsMany_3 (Nat.le_of_ble_eq_true rfl) (by decide) rfl).trans ?_
  exact rfl
set_option maxRecDepth 100000 in
set_option maxHeartbeats 4000000 in
theorem e_X8_fitsMany_4 (l1 : Int32) (l2 : Int32) (l3 : Int32) (μ : mM) : r_X8_fitsMany_4 l1 l2 l3 μ = (ck 5225 8 (if l3 < μ 50 0 (Int32.toNatClampNeg 8) then (Option.bind (f_X8_fits [vr 8 0, vi l3, vi l1] μ) (fun q2 => (if q2.1 = 0 then r_X8_fitsMany_4 l1 (l2 + 0) (l3 + 1) q2.2 else r_X8_fitsMany_4 l1 (l2 + 1) (l3 + 1) q2.2))) else some (l2, μ))) := by
  refine (show r_X8_fitsMany_4 l1 l2 l3 μ = mm_run E_X8_fitsMany 8 1 cX8_fitsMany (4, [vr 8 0, vi l1, vi l2, vi l3], [], μ) from rfl).trans ?_
  refine (R_iload_n dX8_fitsMany_4 rfl).trans ?_
  refine (R_aload_n dX8_fitsMany_5 rfl (by decide)).trans ?_
  refine (gr_8_7 dX8_fitsMany_6).trans ?_
  refine (R_bipush 8 dX8_fitsMany_9 bipush_8).trans ?_
  refine (R_iaload dX8_fitsMany_11 as_50).trans (ck_congr ?_)
  refine (R_icmp 38 dX8_fitsMany_12 rfl).trans (c_ge (fun h1 => ?_) (fun h1 => ?_))
  · refine (R_iload_n dX8_fitsMany_15 rfl).trans ?_
    refine (R_aload_n dX8_fitsMany_16 rfl (by decide)).trans ?_
    refine (R_iload_n dX8_fitsMany_17 rfl).trans ?_
    refine (R_iload_n dX8_fitsMany_18 rfl).trans ?_
    refine (R_cv_i (as := [vi l3, vi l1]) (rest := [vi l2]) dX8_fitsMany_19 mt_8_129 qp_87 qr_87 (E_X8_fitsMany_87) rfl rfl rfl (Nat.le_of_ble_eq_true rfl)).trans (mm_bind (fun q2 => ?_))
    refine (R_ifc 29 dX8_fitsMany_22 rfl).trans (c_eq (fun h3 => ?_) (fun h3 => ?_))
    · refine (R_iconst 0 dX8_fitsMany_29 iconst_0).trans ?_
      refine (R_iadd dX8_fitsMany_30).trans ?_
      refine (R_istore_n (ls' := [vr 8 0, vi l1, vi (l2 + 0), vi l3]) dX8_fitsMany_31 (Nat.le_of_ble_eq_true rfl) (by decide) rfl).trans ?_
      refine (R_iinc (ls' := [vr 8 0, vi l1, vi (l2 + 0), vi (l3 + 1)]) 1 dX8_fitsMany_32 rfl iconst_1 (by decide) rfl).trans ?_
      refine (R_goto 4 dX8_fitsMany_35 rfl).trans ?_
      exact rfl
    · refine (R_iconst 1 dX8_fitsMany_25 iconst_1).trans ?_
      refine (R_goto 30 dX8_fitsMany_26 rfl).trans ?_
      refine (R_iadd dX8_fitsMany_30).trans ?_
      refine (R_istore_n (ls' := [vr 8 0, vi l1, vi (l2 + 1), vi l3]) dX8_fitsMany_31 (Nat.le_of_ble_eq_true rfl) (by decide) rfl).trans ?_
      refine (R_iinc (ls' := [vr 8 0, vi l1, vi (l2 + 1), vi (l3 + 1)]) 1 dX8_fitsMany_32 rfl iconst_1 (by decide) rfl).trans ?_
      refine (R_goto 4 dX8_fitsMany_35 rfl).trans ?_
      exact rfl
  · refine (R_iload_n dX8_fitsMany_38 rfl).trans ?_
    exact R_ireturn dX8_fitsMany_39 rfl
noncomputable def E_X8_gradeAt : mE := fun k => if k = 81 then f_X8_isGrade else if k = 106 then f_X8_ofGrade else fun _ _ => none
theorem E_X8_gradeAt_81 : E_X8_gradeAt 81 = f_X8_isGrade := if_pos rfl
theorem E_X8_gradeAt_106 : E_X8_gradeAt 106 = f_X8_ofGrade := (if_neg (by decide)).trans (if_pos rfl)
noncomputable def f_X8_gradeAt : List mV → mM → Option mR := mm_fn E_X8_gradeAt 8 1 3 cX8_gradeAt
theorem k_X8_gradeAt (l : Launch) : mm_OK l 107 f_X8_gradeAt := mm_fn_ok l 107 8 E_X8_gradeAt (by decide) rfl (by decide) (by
  intro k as μ q h
  by_cases h0 : k = 81
  · subst h0
    exact ⟨by rw [E_X8_gradeAt_81]; exact k_X8_isGrade l, by decide, by decide, by decide⟩
  by_cases h1 : k = 106
  · subst h1
    exact ⟨by rw [E_X8_gradeAt_106]; exact k_X8_ofGrade l, by decide, by decide, by decide⟩
  have e : E_X8_gradeAt k = fun _ _ => none := (if_neg h0).trans ((if_neg h1).trans (rfl))
  rw [e] at h
  cases h)
set_option maxRecDepth 100000 in
set_option maxHeartbeats 4000000 in
theorem e_X8_gradeAt (l1 : Int32) (l2 : Int32) (μ : mM) : f_X8_gradeAt [vr 8 0, vi l1, vi l2] μ = (Option.bind (f_X8_isGrade [vi l1] μ) (fun q1 => (if q1.1 = 0 then some ((-1000000001), q1.2) else (if l2 = 0 then (ck 5225 (0 + l1) (some (q1.2 50 0 (Int32.toNatClampNeg (0 + l1)), q1.2))) else (if l2 = 1 then (ck 5225 (4 + l1) (some (q1.2 50 0 (Int32.toNatClampNeg (4 + l1)), q1.2))) else (if l2 = 2 then (Option.bind (f_X8_ofGrade [vr 8 0, vi l1] q1.2) (fun q6 => some (q6.1, q6.2))) else some ((-1000000002), q1.2))))))) := by
  refine (show f_X8_gradeAt [vr 8 0, vi l1, vi l2] μ = mm_run E_X8_gradeAt 8 1 cX8_gradeAt (0, [vr 8 0, vi l1, vi l2], [], μ) from rfl).trans ?_
  refine (R_iload_n dX8_gradeAt_0 rfl).trans ?_
  refine (R_cs_i (as := [vi l1]) (rest := []) dX8_gradeAt_1 mt_8_142 (by decide) qp_81 qr_81 (E_X8_gradeAt_81) (Nat.le_of_ble_eq_true rfl) rfl rfl (Nat.le_of_ble_eq_true rfl)).trans (mm_bind (fun q1 => ?_))
  refine (R_ifc 10 dX8_gradeAt_4 rfl).trans (c_ne (fun h2 => ?_) (fun h2 => ?_))
  · refine (R_ldc dX8_gradeAt_7 kt_8_128).trans ?_
    exact R_ireturn dX8_gradeAt_9 rfl
  · refine (R_iload_n dX8_gradeAt_10 rfl).trans ?_
    refine (R_ifc 25 dX8_gradeAt_11 rfl).trans (c_ne (fun h3 => ?_) (fun h3 => ?_))
    · refine (R_aload_n dX8_gradeAt_14 rfl (by decide)).trans ?_
      refine (gr_8_7 dX8_gradeAt_15).trans ?_
      refine (R_iconst 0 dX8_gradeAt_18 iconst_0).trans ?_
      refine (R_iload_n dX8_gradeAt_19 rfl).trans ?_
      refine (R_iadd dX8_gradeAt_20).trans ?_
      refine (R_iaload dX8_gradeAt_21 as_50).trans (ck_congr ?_)
      refine (R_goto 56 dX8_gradeAt_22 rfl).trans ?_
      exact R_ireturn dX8_gradeAt_56 rfl
    · refine (R_iload_n dX8_gradeAt_25 rfl).trans ?_
      refine (R_iconst 1 dX8_gradeAt_26 iconst_1).trans ?_
      refine (R_icmp 41 dX8_gradeAt_27 rfl).trans (c_ne (fun h4 => ?_) (fun h4 => ?_))
      · refine (R_aload_n dX8_gradeAt_30 rfl (by decide)).trans ?_
        refine (gr_8_7 dX8_gradeAt_31).trans ?_
        refine (R_iconst 4 dX8_gradeAt_34 iconst_4).trans ?_
        refine (R_iload_n dX8_gradeAt_35 rfl).trans ?_
        refine (R_iadd dX8_gradeAt_36).trans ?_
        refine (R_iaload dX8_gradeAt_37 as_50).trans (ck_congr ?_)
        refine (R_goto 56 dX8_gradeAt_38 rfl).trans ?_
        exact R_ireturn dX8_gradeAt_56 rfl
      · refine (R_iload_n dX8_gradeAt_41 rfl).trans ?_
        refine (R_iconst 2 dX8_gradeAt_42 iconst_2).trans ?_
        refine (R_icmp 54 dX8_gradeAt_43 rfl).trans (c_ne (fun h5 => ?_) (fun h5 => ?_))
        · refine (R_aload_n dX8_gradeAt_46 rfl (by decide)).trans ?_
          refine (R_iload_n dX8_gradeAt_47 rfl).trans ?_
          refine (R_cv_i (as := [vi l1]) (rest := []) dX8_gradeAt_48 mt_8_145 qp_106 qr_106 (E_X8_gradeAt_106) rfl rfl rfl (Nat.le_of_ble_eq_true rfl)).trans (mm_bind (fun q6 => ?_))
          refine (R_goto 56 dX8_gradeAt_51 rfl).trans ?_
          exact R_ireturn dX8_gradeAt_56 rfl
        · refine (R_ldc dX8_gradeAt_54 kt_8_118).trans ?_
          exact R_ireturn dX8_gradeAt_56 rfl
noncomputable def E_X8_find : mE := fun k => if k = 79 then f_X8_in else if k = 82 then f_X8_isSize else if k = 100 then f_X8_sortOf else fun _ _ => none
theorem E_X8_find_79 : E_X8_find 79 = f_X8_in := if_pos rfl
theorem E_X8_find_82 : E_X8_find 82 = f_X8_isSize := (if_neg (by decide)).trans (if_pos rfl)
theorem E_X8_find_100 : E_X8_find 100 = f_X8_sortOf := (if_neg (by decide)).trans ((if_neg (by decide)).trans (if_pos rfl))
noncomputable def f_X8_find : List mV → mM → Option mR := mm_fn E_X8_find 8 1 3 cX8_find
theorem k_X8_find (l : Launch) : mm_OK l 109 f_X8_find := mm_fn_ok l 109 8 E_X8_find (by decide) rfl (by decide) (by
  intro k as μ q h
  by_cases h0 : k = 79
  · subst h0
    exact ⟨by rw [E_X8_find_79]; exact k_X8_in l, by decide, by decide, by decide⟩
  by_cases h1 : k = 82
  · subst h1
    exact ⟨by rw [E_X8_find_82]; exact k_X8_isSize l, by decide, by decide, by decide⟩
  by_cases h2 : k = 100
  · subst h2
    exact ⟨by rw [E_X8_find_100]; exact k_X8_sortOf l, by decide, by decide, by decide⟩
  have e : E_X8_find k = fun _ _ => none := (if_neg h0).trans ((if_neg h1).trans ((if_neg h2).trans (rfl)))
  rw [e] at h
  cases h)
set_option maxRecDepth 100000 in
set_option maxHeartbeats 4000000 in
theorem e_X8_find (l1 : Int32) (l2 : Int32) (μ : mM) : f_X8_find [vr 8 0, vi l1, vi l2] μ = (Option.bind (f_X8_in [vl (Int32.toInt64 l1), vl 0, vl 4] μ) (fun q1 => (if q1.1 = 0 then some ((-1000000002), q1.2) else (Option.bind (f_X8_isSize [vi l2] q1.2) (fun q3 => (if q3.1 = 0 then some ((-1000000002), q3.2) else (Option.bind (f_X8_sortOf [vr 8 0, vi l1, vi l2] q3.2) (fun q5 => some (q5.1, q5.2))))))))) := by
  refine (show f_X8_find [vr 8 0, vi l1, vi l2] μ = mm_run E_X8_find 8 1 cX8_find (0, [vr 8 0, vi l1, vi l2], [], μ) from rfl).trans ?_
  refine (R_iload_n dX8_find_0 rfl).trans ?_
  refine (R_i2l dX8_find_1).trans ?_
  refine (R_lconst 0 dX8_find_2 lconst_0).trans ?_
  refine (R_ldc2_w dX8_find_3 lt_8_148).trans ?_
  refine (R_cs_i (as := [vl (Int32.toInt64 l1), vl 0, vl 4]) (rest := []) dX8_find_6 mt_8_50 (by decide) qp_79 qr_79 (E_X8_find_79) (Nat.le_of_ble_eq_true rfl) rfl rfl (Nat.le_of_ble_eq_true rfl)).trans (mm_bind (fun q1 => ?_))
  refine (R_ifc 28 dX8_find_9 rfl).trans (c_eq (fun h2 => ?_) (fun h2 => ?_))
  · refine (R_ldc dX8_find_28 kt_8_118).trans ?_
    exact R_ireturn dX8_find_30 rfl
  · refine (R_iload_n dX8_find_12 rfl).trans ?_
    refine (R_cs_i (as := [vi l2]) (rest := []) dX8_find_13 mt_8_74 (by decide) qp_82 qr_82 (E_X8_find_82) (Nat.le_of_ble_eq_true rfl) rfl rfl (Nat.le_of_ble_eq_true rfl)).trans (mm_bind (fun q3 => ?_))
    refine (R_ifc 28 dX8_find_16 rfl).trans (c_eq (fun h4 => ?_) (fun h4 => ?_))
    · refine (R_ldc dX8_find_28 kt_8_118).trans ?_
      exact R_ireturn dX8_find_30 rfl
    · refine (R_aload_n dX8_find_19 rfl (by decide)).trans ?_
      refine (R_iload_n dX8_find_20 rfl).trans ?_
      refine (R_iload_n dX8_find_21 rfl).trans ?_
      refine (R_cv_i (as := [vi l1, vi l2]) (rest := []) dX8_find_22 mt_8_119 qp_100 qr_100 (E_X8_find_100) rfl rfl rfl (Nat.le_of_ble_eq_true rfl)).trans (mm_bind (fun q5 => ?_))
      refine (R_goto 30 dX8_find_25 rfl).trans ?_
      exact R_ireturn dX8_find_30 rfl
