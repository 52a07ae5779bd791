noncomputable def E_X6_dropShaft : mE := fun k => if k = 75 then f_X7_isIn else fun _ _ => none
theorem E_X6_dropShaft_75 : E_X6_dropShaft 75 = f_X7_isIn := if_pos rfl
noncomputable def f_X6_dropShaft : List mV → mM → Option mR := mm_fn E_X6_dropShaft 6 0 3 cX6_dropShaft
theorem k_X6_dropShaft (l : Launch) : mm_OK l 41 f_X6_dropShaft := mm_fn_ok l 41 6 E_X6_dropShaft (by decide) rfl (by decide) (by
  intro k as μ q h
  by_cases h0 : k = 75
  · subst h0
    exact ⟨by rw [E_X6_dropShaft_75]; exact k_X7_isIn l, by decide, by decide, by decide⟩
  have e : E_X6_dropShaft k = fun _ _ => none := (if_neg h0).trans (rfl)
  rw [e] at h
  cases h)
noncomputable def r_X6_dropShaft_24 (a : Nat) (x1 : mV) (l2 : Int32) (μ : mM) : Option mR := mm_run E_X6_dropShaft 6 0 cX6_dropShaft (24, [vr 6 a, x1, vi l2], [], μ)
set_option maxRecDepth 100000 in
set_option maxHeartbeats 4000000 in
theorem e_X6_dropShaft (a : Nat) (l1 : Int32) (μ : mM) : f_X6_dropShaft [vr 6 a, vi l1] μ = (Option.bind (f_X7_isIn [vi l1, vi (μ 6 a 6)] μ) (fun q1 => (if q1.1 = 0 then some (0, q1.2) else (wr (mm_up q1.2 6 a 6 ((q1.2 6 a 6) - 1)) (fun m3 => r_X6_dropShaft_24 a (vi l1) l1 m3))))) := by
  refine (show f_X6_dropShaft [vr 6 a, vi l1] μ = mm_run E_X6_dropShaft 6 0 cX6_dropShaft (0, [vr 6 a, vi l1, vu], [], μ) from rfl).trans ?_
  refine (R_iload_n dX6_dropShaft_0 rfl).trans ?_
  refine (R_aload_n dX6_dropShaft_1 rfl (by decide)).trans ?_
  refine (gi_6_30 dX6_dropShaft_2).trans ?_
  refine (R_cs_i (as := [vi l1, vi (μ 6 a 6)]) (rest := []) dX6_dropShaft_5 mt_6_62 (by decide) qp_75 qr_75 (E_X6_dropShaft_75) (Nat.le_of_ble_eq_true rfl) rfl rfl (Nat.le_of_ble_eq_true rfl)).trans (mm_bind (fun q1 => ?_))
  refine (R_ifc 12 dX6_dropShaft_8 rfl).trans (c_ne (fun h2 => ?_) (fun h2 => ?_))
  · exact R_return dX6_dropShaft_11 rfl
  · refine (R_aload_n dX6_dropShaft_12 rfl (by decide)).trans ?_
    refine (R_dup dX6_dropShaft_13 rfl).trans ?_
    refine (gi_6_30 dX6_dropShaft_14).trans ?_
    refine (R_iconst 1 dX6_dropShaft_17 iconst_1).trans ?_
    refine (R_isub dX6_dropShaft_18).trans ?_
    refine (R_pi dX6_dropShaft_19 ft_6_30 fs_6_6).trans ?_
    refine wr_intro (g := fun m => mm_run E_X6_dropShaft 6 0 cX6_dropShaft (22, [vr 6 a, vi l1, vu], [], m)) (fun m3 => ?_)
    refine (R_iload_n dX6_dropShaft_22 rfl).trans ?_
    refine (R_istore_n (ls' := [vr 6 a, vi l1, vi l1]) dX6_dropShaft_23 (Nat.le_of_ble_eq_true rfl) (by decide) rfl).trans ?_
    exact rfl
set_option maxRecDepth 100000 in
set_option maxHeartbeats 4000000 in
theorem e_X6_dropShaft_24 (a : Nat) (x1 : mV) (l2 : Int32) (μ : mM) : r_X6_dropShaft_24 a x1 l2 μ = (if l2 < μ 6 a 6 then (ck 24 (l2 + 1) (ck 24 l2 (wr (mm_up μ 10 a (Int32.toNatClampNeg l2) (μ 10 a (Int32.toNatClampNeg (l2 + 1)))) (fun m2 => r_X6_dropShaft_24 a x1 (l2 + 1) m2)))) else some (0, μ)) := by
  refine (show r_X6_dropShaft_24 a x1 l2 μ = mm_run E_X6_dropShaft 6 0 cX6_dropShaft (24, [vr 6 a, x1, vi l2], [], μ) from rfl).trans ?_
  refine (R_iload_n dX6_dropShaft_24 rfl).trans ?_
  refine (R_aload_n dX6_dropShaft_25 rfl (by decide)).trans ?_
  refine (gi_6_30 dX6_dropShaft_26).trans ?_
  refine (R_icmp 52 dX6_dropShaft_29 rfl).trans (c_ge (fun h1 => ?_) (fun h1 => ?_))
  · refine (R_aload_n dX6_dropShaft_32 rfl (by decide)).trans ?_
    refine (gr_6_9 dX6_dropShaft_33).trans ?_
    refine (R_iload_n dX6_dropShaft_36 rfl).trans ?_
    refine (R_aload_n dX6_dropShaft_37 rfl (by decide)).trans ?_
    refine (gr_6_9 dX6_dropShaft_38).trans ?_
    refine (R_iload_n dX6_dropShaft_41 rfl).trans ?_
    refine (R_iconst 1 dX6_dropShaft_42 iconst_1).trans ?_
    refine (R_iadd dX6_dropShaft_43).trans ?_
    refine (R_iaload dX6_dropShaft_44 as_10).trans (ck_congr ?_)
    refine (R_iastore dX6_dropShaft_45 as_10).trans (ck_congr ?_)
    refine wr_intro (g := fun m => mm_run E_X6_dropShaft 6 0 cX6_dropShaft (46, [vr 6 a, x1, vi l2], [], m)) (fun m2 => ?_)
    refine (R_iinc (ls' := [vr 6 a, x1, vi (l2 + 1)]) 1 dX6_dropShaft_46 rfl iconst_1 (by decide) rfl).trans ?_
    refine (R_goto 24 dX6_dropShaft_49 rfl).trans ?_
    exact rfl
  · exact R_return dX6_dropShaft_52 rfl
noncomputable def E_X6_dropBore : mE := fun k => if k = 75 then f_X7_isIn else fun _ _ => none
theorem E_X6_dropBore_75 : E_X6_dropBore 75 = f_X7_isIn := if_pos rfl
noncomputable def f_X6_dropBore : List mV → mM → Option mR := mm_fn E_X6_dropBore 6 0 3 cX6_dropBore
theorem k_X6_dropBore (l : Launch) : mm_OK l 42 f_X6_dropBore := mm_fn_ok l 42 6 E_X6_dropBore (by decide) rfl (by decide) (by
  intro k as μ q h
  by_cases h0 : k = 75
  · subst h0
    exact ⟨by rw [E_X6_dropBore_75]; exact k_X7_isIn l, by decide, by decide, by decide⟩
  have e : E_X6_dropBore k = fun _ _ => none := (if_neg h0).trans (rfl)
  rw [e] at h
  cases h)
noncomputable def r_X6_dropBore_24 (a : Nat) (x1 : mV) (l2 : Int32) (μ : mM) : Option mR := mm_run E_X6_dropBore 6 0 cX6_dropBore (24, [vr 6 a, x1, vi l2], [], μ)
set_option maxRecDepth 100000 in
set_option maxHeartbeats 4000000 in
theorem e_X6_dropBore (a : Nat) (l1 : Int32) (μ : mM) : f_X6_dropBore [vr 6 a, vi l1] μ = (Option.bind (f_X7_isIn [vi l1, vi (μ 6 a 7)] μ) (fun q1 => (if q1.1 = 0 then some (0, q1.2) else (wr (mm_up q1.2 6 a 7 ((q1.2 6 a 7) - 1)) (fun m3 => r_X6_dropBore_24 a (vi l1) l1 m3))))) := by
  refine (show f_X6_dropBore [vr 6 a, vi l1] μ = mm_run E_X6_dropBore 6 0 cX6_dropBore (0, [vr 6 a, vi l1, vu], [], μ) from rfl).trans ?_
  refine (R_iload_n dX6_dropBore_0 rfl).trans ?_
  refine (R_aload_n dX6_dropBore_1 rfl (by decide)).trans ?_
  refine (gi_6_34 dX6_dropBore_2).trans ?_
  refine (R_cs_i (as := [vi l1, vi (μ 6 a 7)]) (rest := []) dX6_dropBore_5 mt_6_62 (by decide) qp_75 qr_75 (E_X6_dropBore_75) (Nat.le_of_ble_eq_true rfl) rfl rfl (Nat.le_of_ble_eq_true rfl)).trans (mm_bind (fun q1 => ?_))
  refine (R_ifc 12 dX6_dropBore_8 rfl).trans (c_ne (fun h2 => ?_) (fun h2 => ?_))
  · exact R_return dX6_dropBore_11 rfl
  · refine (R_aload_n dX6_dropBore_12 rfl (by decide)).trans ?_
    refine (R_dup dX6_dropBore_13 rfl).trans ?_
    refine (gi_6_34 dX6_dropBore_14).trans ?_
    refine (R_iconst 1 dX6_dropBore_17 iconst_1).trans ?_
    refine (R_isub dX6_dropBore_18).trans ?_
    refine (R_pi dX6_dropBore_19 ft_6_34 fs_6_7).trans ?_
    refine wr_intro (g := fun m => mm_run E_X6_dropBore 6 0 cX6_dropBore (22, [vr 6 a, vi l1, vu], [], m)) (fun m3 => ?_)
    refine (R_iload_n dX6_dropBore_22 rfl).trans ?_
    refine (R_istore_n (ls' := [vr 6 a, vi l1, vi l1]) dX6_dropBore_23 (Nat.le_of_ble_eq_true rfl) (by decide) rfl).trans ?_
    exact rfl
set_option maxRecDepth 100000 in
set_option maxHeartbeats 4000000 in
theorem e_X6_dropBore_24 (a : Nat) (x1 : mV) (l2 : Int32) (μ : mM) : r_X6_dropBore_24 a x1 l2 μ = (if l2 < μ 6 a 7 then (ck 24 (l2 + 1) (ck 24 l2 (wr (mm_up μ 11 a (Int32.toNatClampNeg l2) (μ 11 a (Int32.toNatClampNeg (l2 + 1)))) (fun m2 => r_X6_dropBore_24 a x1 (l2 + 1) m2)))) else some (0, μ)) := by
  refine (show r_X6_dropBore_24 a x1 l2 μ = mm_run E_X6_dropBore 6 0 cX6_dropBore (24, [vr 6 a, x1, vi l2], [], μ) from rfl).trans ?_
  refine (R_iload_n dX6_dropBore_24 rfl).trans ?_
  refine (R_aload_n dX6_dropBore_25 rfl (by decide)).trans ?_
  refine (gi_6_34 dX6_dropBore_26).trans ?_
  refine (R_icmp 52 dX6_dropBore_29 rfl).trans (c_ge (fun h1 => ?_) (fun h1 => ?_))
  · refine (R_aload_n dX6_dropBore_32 rfl (by decide)).trans ?_
    refine (gr_6_15 dX6_dropBore_33).trans ?_
    refine (R_iload_n dX6_dropBore_36 rfl).trans ?_
    refine (R_aload_n dX6_dropBore_37 rfl (by decide)).trans ?_
    refine (gr_6_15 dX6_dropBore_38).trans ?_
    refine (R_iload_n dX6_dropBore_41 rfl).trans ?_
    refine (R_iconst 1 dX6_dropBore_42 iconst_1).trans ?_
    refine (R_iadd dX6_dropBore_43).trans ?_
    refine (R_iaload dX6_dropBore_44 as_11).trans (ck_congr ?_)
    refine (R_iastore dX6_dropBore_45 as_11).trans (ck_congr ?_)
    refine wr_intro (g := fun m => mm_run E_X6_dropBore 6 0 cX6_dropBore (46, [vr 6 a, x1, vi l2], [], m)) (fun m2 => ?_)
    refine (R_iinc (ls' := [vr 6 a, x1, vi (l2 + 1)]) 1 dX6_dropBore_46 rfl iconst_1 (by decide) rfl).trans ?_
    refine (R_goto 24 dX6_dropBore_49 rfl).trans ?_
    exact rfl
  · exact R_return dX6_dropBore_52 rfl
noncomputable def E_X6_shaftsOfGrade : mE := fun k => if k = 77 then f_X7_gradeOf else fun _ _ => none
theorem E_X6_shaftsOfGrade_77 : E_X6_shaftsOfGrade 77 = f_X7_gradeOf := if_pos rfl
noncomputable def f_X6_shaftsOfGrade : List mV → mM → Option mR := mm_fn E_X6_shaftsOfGrade 6 1 4 cX6_shaftsOfGrade
theorem k_X6_shaftsOfGrade (l : Launch) : mm_OK l 45 f_X6_shaftsOfGrade := mm_fn_ok l 45 6 E_X6_shaftsOfGrade (by decide) rfl (by decide) (by
  intro k as μ q h
  by_cases h0 : k = 77
  · subst h0
    exact ⟨by rw [E_X6_shaftsOfGrade_77]; exact k_X7_gradeOf l, by decide, by decide, by decide⟩
  have e : E_X6_shaftsOfGrade k = fun _ _ => none := (if_neg h0).trans (rfl)
  rw [e] at h
  cases h)
noncomputable def r_X6_shaftsOfGrade_4 (a : Nat) (l1 : Int32) (l2 : Int32) (l3 : Int32) (μ : mM) : Option mR := mm_run E_X6_shaftsOfGrade 6 1 cX6_shaftsOfGrade (4, [vr 6 a, vi l1, vi l2, vi l3], [], μ)
set_option maxRecDepth 100000 in
set_option maxHeartbeats 4000000 in
theorem e_X6_shaftsOfGrade (a : Nat) (l1 : Int32) (μ : mM) : f_X6_shaftsOfGrade [vr 6 a, vi l1] μ = r_X6_shaftsOfGrade_4 a l1 0 0 μ := by
  refine (show f_X6_shaftsOfGrade [vr 6 a, vi l1] μ = mm_run E_X6_shaftsOfGrade 6 1 cX6_shaftsOfGrade (0, [vr 6 a, vi l1, vu, vu], [], μ) from rfl).trans ?_
  refine (R_iconst 0 dX6_shaftsOfGrade_0 iconst_0).trans ?_
  refine (R_istore_n (ls' := [vr 6 a, vi l1, vi 0, vu]) dX6_shaftsOfGrade_1 (Nat.le_of_ble_eq_true rfl) (by decide) rfl).trans ?_
  refine (R_iconst 0 dX6_shaftsOfGrade_2 iconst_0).trans ?_
  refine (R_istore_n (ls' := [vr 6 a, vi l1, vi 0, vi 0]) dX6_shaftsOfGrade_3 (Nat.le_of_ble_eq_true rfl) (by decide) rfl).trans ?_
  exact rfl
set_option maxRecDepth 100000 in
set_option maxHeartbeats 4000000 in
theorem e_X6_shaftsOfGrade_4 (a : Nat) (l1 : Int32) (l2 : Int32) (l3 : Int32) (μ : mM) : r_X6_shaftsOfGrade_4 a l1 l2 l3 μ = (if l3 < μ 6 a 6 then (ck 24 l3 (Option.bind (f_X7_gradeOf [vi (μ 10 a (Int32.toNatClampNeg l3))] μ) (fun q2 => (if q2.1 = l1 then r_X6_shaftsOfGrade_4 a l1 (l2 + 1) (l3 + 1) q2.2 else r_X6_shaftsOfGrade_4 a l1 (l2 + 0) (l3 + 1) q2.2)))) else some (l2, μ)) := by
  refine (show r_X6_shaftsOfGrade_4 a l1 l2 l3 μ = mm_run E_X6_shaftsOfGrade 6 1 cX6_shaftsOfGrade (4, [vr 6 a, vi l1, vi l2, vi l3], [], μ) from rfl).trans ?_
  refine (R_iload_n dX6_shaftsOfGrade_4 rfl).trans ?_
  refine (R_aload_n dX6_shaftsOfGrade_5 rfl (by decide)).trans ?_
  refine (gi_6_30 dX6_shaftsOfGrade_6).trans ?_
  refine (R_icmp 39 dX6_shaftsOfGrade_9 rfl).trans (c_ge (fun h1 => ?_) (fun h1 => ?_))
  · refine (R_iload_n dX6_shaftsOfGrade_12 rfl).trans ?_
    refine (R_aload_n dX6_shaftsOfGrade_13 rfl (by decide)).trans ?_
    refine (gr_6_9 dX6_shaftsOfGrade_14).trans ?_
    refine (R_iload_n dX6_shaftsOfGrade_17 rfl).trans ?_
    refine (R_iaload dX6_shaftsOfGrade_18 as_10).trans (ck_congr ?_)
    refine (R_cs_i (as := [vi (μ 10 a (Int32.toNatClampNeg l3))]) (rest := [vi l2]) dX6_shaftsOfGrade_19 mt_6_46 (by decide) qp_77 qr_77 (E_X6_shaftsOfGrade_77) (Nat.le_of_ble_eq_true rfl) rfl rfl (Nat.le_of_ble_eq_true rfl)).trans (mm_bind (fun q2 => ?_))
    refine (R_iload_n dX6_shaftsOfGrade_22 rfl).trans ?_
    refine (R_icmp 30 dX6_shaftsOfGrade_23 rfl).trans (c_ne (fun h3 => ?_) (fun h3 => ?_))
    · refine (R_iconst 1 dX6_shaftsOfGrade_26 iconst_1).trans ?_
      refine (R_goto 31 dX6_shaftsOfGrade_27 rfl).trans ?_
      refine (R_iadd dX6_shaftsOfGrade_31).trans ?_
      refine (R_istore_n (ls' := [vr 6 a, vi l1, vi (l2 + 1), vi l3]) dX6_shaftsOfGrade_32 (Nat.le_of_ble_eq_true rfl) (by decide) rfl).trans ?_
      refine (R_iinc (ls' := [vr 6 a, vi l1, vi (l2 + 1), vi (l3 + 1)]) 1 dX6_shaftsOfGrade_33 rfl iconst_1 (by decide) rfl).trans ?_
      refine (R_goto 4 dX6_shaftsOfGrade_36 rfl).trans ?_
      exact rfl
    · refine (R_iconst 0 dX6_shaftsOfGrade_30 iconst_0).trans ?_
      refine (R_iadd dX6_shaftsOfGrade_31).trans ?_
      refine (R_istore_n (ls' := [vr 6 a, vi l1, vi (l2 + 0), vi l3]) dX6_shaftsOfGrade_32 (Nat.le_of_ble_eq_true rfl) (by decide) rfl).trans ?_
      refine (R_iinc (ls' := [vr 6 a, vi l1, vi (l2 + 0), vi (l3 + 1)]) 1 dX6_shaftsOfGrade_33 rfl iconst_1 (by decide) rfl).trans ?_
      refine (R_goto 4 dX6_shaftsOfGrade_36 rfl).trans ?_
      exact rfl
  · refine (R_iload_n dX6_shaftsOfGrade_39 rfl).trans ?_
    exact R_ireturn dX6_shaftsOfGrade_40 rfl
noncomputable def E_X6_begin : mE := fun k => if k = 77 then f_X7_gradeOf else if k = 75 then f_X7_isIn else if k = 78 then f_X7_sizeOf else fun _ _ => none
theorem E_X6_begin_77 : E_X6_begin 77 = f_X7_gradeOf := if_pos rfl
theorem E_X6_begin_75 : E_X6_begin 75 = f_X7_isIn := (if_neg (by decide)).trans (if_pos rfl)
theorem E_X6_begin_78 : E_X6_begin 78 = f_X7_sizeOf := (if_neg (by decide)).trans ((if_neg (by decide)).trans (if_pos rfl))
noncomputable def f_X6_begin : List mV → mM → Option mR := mm_fn E_X6_begin 6 1 3 cX6_begin
theorem k_X6_begin (l : Launch) : mm_OK l 47 f_X6_begin := mm_fn_ok l 47 6 E_X6_begin (by decide) rfl (by decide) (by
  intro k as μ q h
  by_cases h0 : k = 77
  · subst h0
    exact ⟨by rw [E_X6_begin_77]; exact k_X7_gradeOf l, by decide, by decide, by decide⟩
  by_cases h1 : k = 75
  · subst h1
    exact ⟨by rw [E_X6_begin_75]; exact k_X7_isIn l, by decide, by decide, by decide⟩
  by_cases h2 : k = 78
  · subst h2
    exact ⟨by rw [E_X6_begin_78]; exact k_X7_sizeOf l, by decide, by decide, by decide⟩
  have e : E_X6_begin k = fun _ _ => none := (if_neg h0).trans ((if_neg h1).trans ((if_neg h2).trans (rfl)))
  rw [e] at h
  cases h)
set_option maxRecDepth 100000 in
set_option maxHeartbeats 4000000 in
theorem e_X6_begin (a : Nat) (l1 : Int32) (μ : mM) : f_X6_begin [vr 6 a, vi l1] μ = (Option.bind (f_X7_gradeOf [vi l1] μ) (fun q1 => (Option.bind (f_X7_isIn [vi q1.1, vi 4] q1.2) (fun q2 => (if q2.1 = 0 then (Option.bind (f_X7_sizeOf [vi l1] q2.2) (fun q4 => some (q4.1, q4.2))) else (Option.bind (f_X7_sizeOf [vi l1] q2.2) (fun q5 => (ck 4 q1.1 (some (q5.1 + (q5.2 12 a (Int32.toNatClampNeg q1.1)), q5.2)))))))))) := by
  refine (show f_X6_begin [vr 6 a, vi l1] μ = mm_run E_X6_begin 6 1 cX6_begin (0, [vr 6 a, vi l1, vu], [], μ) from rfl).trans ?_
  refine (R_iload_n dX6_begin_0 rfl).trans ?_
  refine (R_cs_i (as := [vi l1]) (rest := []) dX6_begin_1 mt_6_46 (by decide) qp_77 qr_77 (E_X6_begin_77) (Nat.le_of_ble_eq_true rfl) rfl rfl (Nat.le_of_ble_eq_true rfl)).trans (mm_bind (fun q1 => ?_))
  refine (R_istore_n (ls' := [vr 6 a, vi l1, vi q1.1]) dX6_begin_4 (Nat.le_of_ble_eq_true rfl) (by decide) rfl).trans ?_
  refine (R_iload_n dX6_begin_5 rfl).trans ?_
  refine (R_iconst 4 dX6_begin_6 iconst_4).trans ?_
  refine (R_cs_i (as := [vi q1.1, vi 4]) (rest := []) dX6_begin_7 mt_6_62 (by decide) qp_75 qr_75 (E_X6_begin_75) (Nat.le_of_ble_eq_true rfl) rfl rfl (Nat.le_of_ble_eq_true rfl)).trans (mm_bind (fun q2 => ?_))
  refine (R_ifc 27 dX6_begin_10 rfl).trans (c_eq (fun h3 => ?_) (fun h3 => ?_))
  · refine (R_iload_n dX6_begin_27 rfl).trans ?_
    refine (R_cs_i (as := [vi l1]) (rest := []) dX6_begin_28 mt_6_72 (by decide) qp_78 qr_78 (E_X6_begin_78) (Nat.le_of_ble_eq_true rfl) rfl rfl (Nat.le_of_ble_eq_true rfl)).trans (mm_bind (fun q4 => ?_))
    exact R_ireturn dX6_begin_31 rfl
  · refine (R_iload_n dX6_begin_13 rfl).trans ?_
    refine (R_cs_i (as := [vi l1]) (rest := []) dX6_begin_14 mt_6_72 (by decide) qp_78 qr_78 (E_X6_begin_78) (Nat.le_of_ble_eq_true rfl) rfl rfl (Nat.le_of_ble_eq_true rfl)).trans (mm_bind (fun q5 => ?_))
    refine (R_aload_n dX6_begin_17 rfl (by decide)).trans ?_
    refine (gr_6_18 dX6_begin_18).trans ?_
    refine (R_iload_n dX6_begin_21 rfl).trans ?_
    refine (R_iaload dX6_begin_22 as_12).trans (ck_congr ?_)
    refine (R_iadd dX6_begin_23).trans ?_
    refine (R_goto 31 dX6_begin_24 rfl).trans ?_
    exact R_ireturn dX6_begin_31 rfl
noncomputable def E_X6_end : mE := fun k => if k = 77 then f_X7_gradeOf else if k = 75 then f_X7_isIn else if k = 78 then f_X7_sizeOf else fun _ _ => none
theorem E_X6_end_77 : E_X6_end 77 = f_X7_gradeOf := if_pos rfl
theorem E_X6_end_75 : E_X6_end 75 = f_X7_isIn := (if_neg (by decide)).trans (if_pos rfl)
theorem E_X6_end_78 : E_X6_end 78 = f_X7_sizeOf := (if_neg (by decide)).trans ((if_neg (by decide)).trans (if_pos rfl))
noncomputable def f_X6_end : List mV → mM → Option mR := mm_fn E_X6_end 6 1 3 cX6_end
theorem k_X6_end (l : Launch) : mm_OK l 48 f_X6_end := mm_fn_ok l 48 6 E_X6_end (by decide) rfl (by decide) (by
  intro k as μ q h
  by_cases h0 : k = 77
  · subst h0
    exact ⟨by rw [E_X6_end_77]; exact k_X7_gradeOf l, by decide, by decide, by decide⟩
  by_cases h1 : k = 75
  · subst h1
    exact ⟨by rw [E_X6_end_75]; exact k_X7_isIn l, by decide, by decide, by decide⟩
  by_cases h2 : k = 78
  · subst h2
    exact ⟨by rw [E_X6_end_78]; exact k_X7_sizeOf l, by decide, by decide, by decide⟩
  have e : E_X6_end k = fun _ _ => none := (if_neg h0).trans ((if_neg h1).trans ((if_neg h2).trans (rfl)))
  rw [e] at h
  cases h)
set_option maxRecDepth 100000 in
set_option maxHeartbeats 4000000 in
theorem e_X6_end (a : Nat) (l1 : Int32) (μ : mM) : f_X6_end [vr 6 a, vi l1] μ = (Option.bind (f_X7_gradeOf [vi l1] μ) (fun q1 => (Option.bind (f_X7_isIn [vi q1.1, vi 4] q1.2) (fun q2 => (if q2.1 = 0 then (Option.bind (f_X7_sizeOf [vi l1] q2.2) (fun q4 => some (q4.1, q4.2))) else (Option.bind (f_X7_sizeOf [vi l1] q2.2) (fun q5 => (ck 4 q1.1 (some (q5.1 + (q5.2 13 a (Int32.toNatClampNeg q1.1)), q5.2)))))))))) := by
  refine (show f_X6_end [vr 6 a, vi l1] μ = mm_run E_X6_end 6 1 cX6_end (0, [vr 6 a, vi l1, vu], [], μ) from rfl).trans ?_
  refine (R_iload_n dX6_end_0 rfl).trans ?_
  refine (R_cs_i (as := [vi l1]) (rest := []) dX6_end_1 mt_6_46 (by decide) qp_77 qr_77 (E_X6_end_77) (Nat.le_of_ble_eq_true rfl) rfl rfl (Nat.le_of_ble_eq_true rfl)).trans (mm_bind (fun q1 => ?_))
  refine (R_istore_n (ls' := [vr 6 a, vi l1, vi q1.1]) dX6_end_4 (Nat.le_of_ble_eq_true rfl) (by decide) rfl).trans ?_
  refine (R_iload_n dX6_end_5 rfl).trans ?_
  refine (R_iconst 4 dX6_end_6 iconst_4).trans ?_
  refine (R_cs_i (as := [vi q1.1, vi 4]) (rest := []) dX6_end_7 mt_6_62 (by decide) qp_75 qr_75 (E_X6_end_75) (Nat.le_of_ble_eq_true rfl) rfl rfl (Nat.le_of_ble_eq_true rfl)).trans (mm_bind (fun q2 => ?_))
  refine (R_ifc 27 dX6_end_10 rfl).trans (c_eq (fun h3 => ?_) (fun h3 => ?_))
  · refine (R_iload_n dX6_end_27 rfl).trans ?_
    refine (R_cs_i (as := [vi l1]) (rest := []) dX6_end_28 mt_6_72 (by decide) qp_78 qr_78 (E_X6_end_78) (Nat.le_of_ble_eq_true rfl) rfl rfl (Nat.le_of_ble_eq_true rfl)).trans (mm_bind (fun q4 => ?_))
    exact R_ireturn dX6_end_31 rfl
  · refine (R_iload_n dX6_end_13 rfl).trans ?_
    refine (R_cs_i (as := [vi l1]) (rest := []) dX6_end_14 mt_6_72 (by decide) qp_78 qr_78 (E_X6_end_78) (Nat.le_of_ble_eq_true rfl) rfl rfl (Nat.le_of_ble_eq_true rfl)).trans (mm_bind (fun q5 => ?_))
    refine (R_aload_n dX6_end_17 rfl (by decide)).trans ?_
    refine (gr_6_21 dX6_end_18).trans ?_
    refine (R_iload_n dX6_end_21 rfl).trans ?_
    refine (R_iaload dX6_end_22 as_13).trans (ck_congr ?_)
    refine (R_iadd dX6_end_23).trans ?_
    refine (R_goto 31 dX6_end_24 rfl).trans ?_
    exact R_ireturn dX6_end_31 rfl
noncomputable def E_X7_sort : mE := fun k => if k = 75 then f_X7_isIn else if k = 77 then f_X7_gradeOf else if k = 78 then f_X7_sizeOf else if k = 44 then f_X6_partsOfKind else fun _ _ => none
theorem E_X7_sort_75 : E_X7_sort 75 = f_X7_isIn := if_pos rfl
theorem E_X7_sort_77 : E_X7_sort 77 = f_X7_gradeOf := (if_neg (by decide)).trans (if_pos rfl)
theorem E_X7_sort_78 : E_X7_sort 78 = f_X7_sizeOf := (if_neg (by decide)).trans ((if_neg (by decide)).trans (if_pos rfl))
theorem E_X7_sort_44 : E_X7_sort 44 = f_X6_partsOfKind := (if_neg (by decide)).trans ((if_neg (by decide)).trans ((if_neg (by decide)).trans (if_pos rfl)))
noncomputable def f_X7_sort : List mV → mM → Option mR := mm_fn E_X7_sort 7 1 3 cX7_sort
theorem k_X7_sort (l : Launch) : mm_OK l 53 f_X7_sort := mm_fn_ok l 53 7 E_X7_sort (by decide) rfl (by decide) (by
  intro k as μ q h
  by_cases h0 : k = 75
  · subst h0
    exact ⟨by rw [E_X7_sort_75]; exact k_X7_isIn l, by decide, by decide, by decide⟩
  by_cases h1 : k = 77
  · subst h1
    exact ⟨by rw [E_X7_sort_77]; exact k_X7_gradeOf l, by decide, by decide, by decide⟩
  by_cases h2 : k = 78
  · subst h2
    exact ⟨by rw [E_X7_sort_78]; exact k_X7_sizeOf l, by decide, by decide, by decide⟩
  by_cases h3 : k = 44
  · subst h3
    exact ⟨by rw [E_X7_sort_44]; exact k_X6_partsOfKind l, by decide, by decide, by decide⟩
  have e : E_X7_sort k = fun _ _ => none := (if_neg h0).trans ((if_neg h1).trans ((if_neg h2).trans ((if_neg h3).trans (rfl))))
  rw [e] at h
  cases h)
set_option maxRecDepth 100000 in
set_option maxHeartbeats 4000000 in
theorem e_X7_sort (l1 : Int32) (l2 : Int32) (μ : mM) : f_X7_sort [vr 7 0, vi l1, vi l2] μ = (Option.bind (f_X7_isIn [vi l1, vi (μ 6 0 8)] μ) (fun q1 => (if q1.1 = 0 then some ((-1000000001), q1.2) else (if l2 = 0 then (ck 48 l1 (Option.bind (f_X7_gradeOf [vi (q1.2 14 0 (Int32.toNatClampNeg l1))] q1.2) (fun q4 => some (q4.1, q4.2)))) else (if l2 = 1 then (ck 48 l1 (Option.bind (f_X7_sizeOf [vi (q1.2 14 0 (Int32.toNatClampNeg l1))] q1.2) (fun q6 => some (q6.1, q6.2)))) else (if l2 = 2 then (ck 48 l1 (Option.bind (f_X6_partsOfKind [vr 6 0, vi (q1.2 14 0 (Int32.toNatClampNeg l1))] q1.2) (fun q8 => some (q8.1, q8.2)))) else (if l2 = 3 then (ck 48 l1 (some (q1.2 15 0 (Int32.toNatClampNeg l1), q1.2))) else some ((-1000000002), q1.2)))))))) := by
  refine (show f_X7_sort [vr 7 0, vi l1, vi l2] μ = mm_run E_X7_sort 7 1 cX7_sort (0, [vr 7 0, vi l1, vi l2], [], μ) from rfl).trans ?_
  refine (R_iload_n dX7_sort_0 rfl).trans ?_
  refine (R_aload_n dX7_sort_1 rfl (by decide)).trans ?_
  refine (gr_7_10 dX7_sort_2).trans ?_
  refine (gi_7_68 dX7_sort_5).trans ?_
  refine (R_cs_i (as := [vi l1, vi (μ 6 0 8)]) (rest := []) dX7_sort_8 mt_7_114 (by decide) qp_75 qr_75 (E_X7_sort_75) (Nat.le_of_ble_eq_true rfl) rfl rfl (Nat.le_of_ble_eq_true rfl)).trans (mm_bind (fun q1 => ?_))
  refine (R_ifc 17 dX7_sort_11 rfl).trans (c_ne (fun h2 => ?_) (fun h2 => ?_))
  · refine (R_ldc dX7_sort_14 kt_7_118).trans ?_
    exact R_ireturn dX7_sort_16 rfl
  · refine (R_iload_n dX7_sort_17 rfl).trans ?_
    refine mm_ite (c := l2 = 0) (fun h3 => ?_) (fun h3 => ?_)
    · refine (R_switch dX7_sort_18 (sw_in 48 h3 rfl rfl rfl rfl)).trans ?_
      refine (R_aload_n dX7_sort_48 rfl (by decide)).trans ?_
      refine (gr_7_10 dX7_sort_49).trans ?_
      refine (gr_7_160 dX7_sort_52).trans ?_
      refine (R_iload_n dX7_sort_55 rfl).trans ?_
      refine (R_iaload dX7_sort_56 as_14).trans (ck_congr ?_)
      refine (R_cs_i (as := [vi (q1.2 14 0 (Int32.toNatClampNeg l1))]) (rest := []) dX7_sort_57 mt_7_123 (by decide) qp_77 qr_77 (E_X7_sort_77) (Nat.le_of_ble_eq_true rfl) rfl rfl (Nat.le_of_ble_eq_true rfl)).trans (mm_bind (fun q4 => ?_))
      exact R_ireturn dX7_sort_60 rfl
    refine mm_ite (c := l2 = 1) (fun h5 => ?_) (fun h5 => ?_)
    · refine (R_switch dX7_sort_18 (sw_in 61 h5 rfl rfl rfl rfl)).trans ?_
      refine (R_aload_n dX7_sort_61 rfl (by decide)).trans ?_
      refine (gr_7_10 dX7_sort_62).trans ?_
      refine (gr_7_160 dX7_sort_65).trans ?_
      refine (R_iload_n dX7_sort_68 rfl).trans ?_
      refine (R_iaload dX7_sort_69 as_14).trans (ck_congr ?_)
      refine (R_cs_i (as := [vi (q1.2 14 0 (Int32.toNatClampNeg l1))]) (rest := []) dX7_sort_70 mt_7_127 (by decide) qp_78 qr_78 (E_X7_sort_78) (Nat.le_of_ble_eq_true rfl) rfl rfl (Nat.le_of_ble_eq_true rfl)).trans (mm_bind (fun q6 => ?_))
      exact R_ireturn dX7_sort_73 rfl
    refine mm_ite (c := l2 = 2) (fun h7 => ?_) (fun h7 => ?_)
    · refine (R_switch dX7_sort_18 (sw_in 74 h7 rfl rfl rfl rfl)).trans ?_
      refine (R_aload_n dX7_sort_74 rfl (by decide)).trans ?_
      refine (gr_7_10 dX7_sort_75).trans ?_
      refine (R_aload_n dX7_sort_78 rfl (by decide)).trans ?_
      refine (gr_7_10 dX7_sort_79).trans ?_
      refine (gr_7_160 dX7_sort_82).trans ?_
      refine (R_iload_n dX7_sort_85 rfl).trans ?_
      refine (R_iaload dX7_sort_86 as_14).trans (ck_congr ?_)
      refine (R_cv_i (as := [vi (q1.2 14 0 (Int32.toNatClampNeg l1))]) (rest := []) dX7_sort_87 mt_7_163 qp_44 qr_44 (E_X7_sort_44) rfl rfl rfl (Nat.le_of_ble_eq_true rfl)).trans (mm_bind (fun q8 => ?_))
      exact R_ireturn dX7_sort_90 rfl
    refine mm_ite (c := l2 = 3) (fun h9 => ?_) (fun h9 => ?_)
    · refine (R_switch dX7_sort_18 (sw_in 91 h9 rfl rfl rfl rfl)).trans ?_
      refine (R_aload_n dX7_sort_91 rfl (by decide)).trans ?_
      refine (gr_7_10 dX7_sort_92).trans ?_
      refine (gr_7_166 dX7_sort_95).trans ?_
      refine (R_iload_n dX7_sort_98 rfl).trans ?_
      refine (R_iaload dX7_sort_99 as_15).trans (ck_congr ?_)
      exact R_ireturn dX7_sort_100 rfl
    refine (R_switch dX7_sort_18 (sw_out 101 (sw_n4 h3 h5 h7 h9) rfl)).trans ?_
    refine (R_ldc dX7_sort_101 kt_7_113).trans ?_
    exact R_ireturn dX7_sort_103 rfl
noncomputable def E_X7_find : mE := fun k => if k = 75 then f_X7_isIn else if k = 76 then f_X7_kindOf else if k = 36 then f_X6_sortOf else fun _ _ => none
theorem E_X7_find_75 : E_X7_find 75 = f_X7_isIn := if_pos rfl
theorem E_X7_find_76 : E_X7_find 76 = f_X7_kindOf := (if_neg (by decide)).trans (if_pos rfl)
theorem E_X7_find_36 : E_X7_find 36 = f_X6_sortOf := (if_neg (by decide)).trans ((if_neg (by decide)).trans (if_pos rfl))
noncomputable def f_X7_find : List mV → mM → Option mR := mm_fn E_X7_find 7 1 3 cX7_find
theorem k_X7_find (l : Launch) : mm_OK l 54 f_X7_find := mm_fn_ok l 54 7 E_X7_find (by decide) rfl (by decide) (by
  intro k as μ q h
  by_cases h0 : k = 75
  · subst h0
    exact ⟨by rw [E_X7_find_75]; exact k_X7_isIn l, by decide, by decide, by decide⟩
  by_cases h1 : k = 76
  · subst h1
    exact ⟨by rw [E_X7_find_76]; exact k_X7_kindOf l, by decide, by decide, by decide⟩
  by_cases h2 : k = 36
  · subst h2
    exact ⟨by rw [E_X7_find_36]; exact k_X6_sortOf l, by decide, by decide, by decide⟩
  have e : E_X7_find k = fun _ _ => none := (if_neg h0).trans ((if_neg h1).trans ((if_neg h2).trans (rfl)))
  rw [e] at h
  cases h)
set_option maxRecDepth 100000 in
set_option maxHeartbeats 4000000 in
theorem e_X7_find (l1 : Int32) (l2 : Int32) (μ : mM) : f_X7_find [vr 7 0, vi l1, vi l2] μ = (Option.bind (f_X7_isIn [vi l1, vi 5] μ) (fun q1 => (if q1.1 = 0 then some ((-1000000002), q1.2) else (Option.bind (f_X7_isIn [vi l2, vi 10000] q1.2) (fun q3 => (if q3.1 = 0 then some ((-1000000002), q3.2) else (Option.bind (f_X7_kindOf [vi l1, vi l2] q3.2) (fun q5 => (Option.bind (f_X6_sortOf [vr 6 0, vi q5.1] q5.2) (fun q6 => some (q6.1, q6.2))))))))))) := by
  refine (show f_X7_find [vr 7 0, vi l1, vi l2] μ = mm_run E_X7_find 7 1 cX7_find (0, [vr 7 0, vi l1, vi l2], [], μ) from rfl).trans ?_
  refine (R_iload_n dX7_find_0 rfl).trans ?_
  refine (R_iconst 5 dX7_find_1 iconst_5).trans ?_
  refine (R_cs_i (as := [vi l1, vi 5]) (rest := []) dX7_find_2 mt_7_114 (by decide) qp_75 qr_75 (E_X7_find_75) (Nat.le_of_ble_eq_true rfl) rfl rfl (Nat.le_of_ble_eq_true rfl)).trans (mm_bind (fun q1 => ?_))
  refine (R_ifc 18 dX7_find_5 rfl).trans (c_eq (fun h2 => ?_) (fun h2 => ?_))
  · refine (R_ldc dX7_find_18 kt_7_113).trans ?_
    exact R_ireturn dX7_find_20 rfl
  · refine (R_iload_n dX7_find_8 rfl).trans ?_
    refine (R_sipush 10000 dX7_find_9 sipush_10000).trans ?_
    refine (R_cs_i (as := [vi l2, vi 10000]) (rest := []) dX7_find_12 mt_7_114 (by decide) qp_75 qr_75 (E_X7_find_75) (Nat.le_of_ble_eq_true rfl) rfl rfl (Nat.le_of_ble_eq_true rfl)).trans (mm_bind (fun q3 => ?_))
    refine (R_ifc 21 dX7_find_15 rfl).trans (c_ne (fun h4 => ?_) (fun h4 => ?_))
    · refine (R_ldc dX7_find_18 kt_7_113).trans ?_
      exact R_ireturn dX7_find_20 rfl
    · refine (R_aload_n dX7_find_21 rfl (by decide)).trans ?_
      refine (gr_7_10 dX7_find_22).trans ?_
      refine (R_iload_n dX7_find_25 rfl).trans ?_
      refine (R_iload_n dX7_find_26 rfl).trans ?_
      refine (R_cs_i (as := [vi l1, vi l2]) (rest := [vr 6 0]) dX7_find_27 mt_7_169 (by decide) qp_76 qr_76 (E_X7_find_76) (Nat.le_of_ble_eq_true rfl) rfl rfl (Nat.le_of_ble_eq_true rfl)).trans (mm_bind (fun q5 => ?_))
      refine (R_cv_i (as := [vi q5.1]) (rest := []) dX7_find_30 mt_7_139 qp_36 qr_36 (E_X7_find_36) rfl rfl rfl (Nat.le_of_ble_eq_true rfl)).trans (mm_bind (fun q6 => ?_))
      exact R_ireturn dX7_find_33 rfl
noncomputable def E_X7_see : mE := fun k => if k = 75 then f_X7_isIn else if k = 76 then f_X7_kindOf else if k = 11 then f_X4_note else fun _ _ => none
theorem E_X7_see_75 : E_X7_see 75 = f_X7_isIn := if_pos rfl
theorem E_X7_see_76 : E_X7_see 76 = f_X7_kindOf := (if_neg (by decide)).trans (if_pos rfl)
theorem E_X7_see_11 : E_X7_see 11 = f_X4_note := (if_neg (by decide)).trans ((if_neg (by decide)).trans (if_pos rfl))
noncomputable def f_X7_see : List mV → mM → Option mR := mm_fn E_X7_see 7 1 4 cX7_see
theorem k_X7_see (l : Launch) : mm_OK l 67 f_X7_see := mm_fn_ok l 67 7 E_X7_see (by decide) rfl (by decide) (by
  intro k as μ q h
  by_cases h0 : k = 75
  · subst h0
    exact ⟨by rw [E_X7_see_75]; exact k_X7_isIn l, by decide, by decide, by decide⟩
  by_cases h1 : k = 76
  · subst h1
    exact ⟨by rw [E_X7_see_76]; exact k_X7_kindOf l, by decide, by decide, by decide⟩
  by_cases h2 : k = 11
  · subst h2
    exact ⟨by rw [E_X7_see_11]; exact k_X4_note l, by decide, by decide, by decide⟩
  have e : E_X7_see k = fun _ _ => none := (if_neg h0).trans ((if_neg h1).trans ((if_neg h2).trans (rfl)))
  rw [e] at h
  cases h)
set_option maxRecDepth 100000 in
set_option maxHeartbeats 4000000 in
theorem e_X7_see (l1 : Int32) (l2 : Int32) (l3 : Int32) (μ : mM) : f_X7_see [vr 7 0, vi l1, vi l2, vi l3] μ = (Option.bind (f_X7_isIn [vi l1, vi 4] μ) (fun q1 => (if q1.1 = 0 then some ((-1000000001), q1.2) else (Option.bind (f_X7_isIn [vi l2, vi 10000] q1.2) (fun q3 => (if q3.1 = 0 then some ((-1000000002), q3.2) else (Option.bind (f_X7_kindOf [vi l1, vi l2] q3.2) (fun q5 => (Option.bind (f_X4_note [vr 4 0, vi q5.1, vi l3] q5.2) (fun q6 => some (q6.1, q6.2))))))))))) := by
  refine (show f_X7_see [vr 7 0, vi l1, vi l2, vi l3] μ = mm_run E_X7_see 7 1 cX7_see (0, [vr 7 0, vi l1, vi l2, vi l3], [], μ) from rfl).trans ?_
  refine (R_iload_n dX7_see_0 rfl).trans ?_
  refine (R_iconst 4 dX7_see_1 iconst_4).trans ?_
  refine (R_cs_i (as := [vi l1, vi 4]) (rest := []) dX7_see_2 mt_7_114 (by decide) qp_75 qr_75 (E_X7_see_75) (Nat.le_of_ble_eq_true rfl) rfl rfl (Nat.le_of_ble_eq_true rfl)).trans (mm_bind (fun q1 => ?_))
  refine (R_ifc 11 dX7_see_5 rfl).trans (c_ne (fun h2 => ?_) (fun h2 => ?_))
  · refine (R_ldc dX7_see_8 kt_7_118).trans ?_
    exact R_ireturn dX7_see_10 rfl
  · refine (R_iload_n dX7_see_11 rfl).trans ?_
    refine (R_sipush 10000 dX7_see_12 sipush_10000).trans ?_
    refine (R_cs_i (as := [vi l2, vi 10000]) (rest := []) dX7_see_15 mt_7_114 (by decide) qp_75 qr_75 (E_X7_see_75) (Nat.le_of_ble_eq_true rfl) rfl rfl (Nat.le_of_ble_eq_true rfl)).trans (mm_bind (fun q3 => ?_))
    refine (R_ifc 24 dX7_see_18 rfl).trans (c_ne (fun h4 => ?_) (fun h4 => ?_))
    · refine (R_ldc dX7_see_21 kt_7_113).trans ?_
      exact R_ireturn dX7_see_23 rfl
    · refine (R_aload_n dX7_see_24 rfl (by decide)).trans ?_
      refine (gr_7_47 dX7_see_25).trans ?_
      refine (R_iload_n dX7_see_28 rfl).trans ?_
      refine (R_iload_n dX7_see_29 rfl).trans ?_
      refine (R_cs_i (as := [vi l1, vi l2]) (rest := [vr 4 0]) dX7_see_30 mt_7_169 (by decide) qp_76 qr_76 (E_X7_see_76) (Nat.le_of_ble_eq_true rfl) rfl rfl (Nat.le_of_ble_eq_true rfl)).trans (mm_bind (fun q5 => ?_))
      refine (R_iload_n dX7_see_33 rfl).trans ?_
      refine (R_cv_i (as := [vi q5.1, vi l3]) (rest := []) dX7_see_34 mt_7_228 qp_11 qr_11 (E_X7_see_11) rfl rfl rfl (Nat.le_of_ble_eq_true rfl)).trans (mm_bind (fun q6 => ?_))
      exact R_ireturn dX7_see_37 rfl
noncomputable def E_X7_keep : mE := fun k => if k = 75 then f_X7_isIn else if k = 34 then f_X6_copyFrom else fun _ _ => none
theorem E_X7_keep_75 : E_X7_keep 75 = f_X7_isIn := if_pos rfl
theorem E_X7_keep_34 : E_X7_keep 34 = f_X6_copyFrom := (if_neg (by decide)).trans (if_pos rfl)
noncomputable def f_X7_keep : List mV → mM → Option mR := mm_fn E_X7_keep 7 1 2 cX7_keep
theorem k_X7_keep (l : Launch) : mm_OK l 70 f_X7_keep := mm_fn_ok l 70 7 E_X7_keep (by decide) rfl (by decide) (by
  intro k as μ q h
  by_cases h0 : k = 75
  · subst h0
    exact ⟨by rw [E_X7_keep_75]; exact k_X7_isIn l, by decide, by decide, by decide⟩
  by_cases h1 : k = 34
  · subst h1
    exact ⟨by rw [E_X7_keep_34]; exact k_X6_copyFrom l, by decide, by decide, by decide⟩
  have e : E_X7_keep k = fun _ _ => none := (if_neg h0).trans ((if_neg h1).trans (rfl))
  rw [e] at h
  cases h)
set_option maxRecDepth 100000 in
set_option maxHeartbeats 4000000 in
theorem e_X7_keep (l1 : Int32) (μ : mM) : f_X7_keep [vr 7 0, vi l1] μ = (Option.bind (f_X7_isIn [vi l1, vi 2] μ) (fun q1 => (if q1.1 = 0 then some ((-1000000001), q1.2) else (ck 2 l1 (Option.bind (f_X6_copyFrom [vr 6 ((Int32.toNatClampNeg l1) + 0 + 17), vr 6 0] q1.2) (fun q3 => (ck 2 l1 (wr (mm_up q3.2 2 ((Int32.toNatClampNeg l1) + 0) 1 (q3.2 7 0 7)) (fun m4 => (ck 2 l1 (wr (mm_up m4 2 ((Int32.toNatClampNeg l1) + 0) 2 1) (fun m5 => (wr (mm_up m5 3 0 2 0) (fun m6 => some (1, m6))))))))))))))) := by
  refine (show f_X7_keep [vr 7 0, vi l1] μ = mm_run E_X7_keep 7 1 cX7_keep (0, [vr 7 0, vi l1], [], μ) from rfl).trans ?_
  refine (R_iload_n dX7_keep_0 rfl).trans ?_
  refine (R_iconst 2 dX7_keep_1 iconst_2).trans ?_
  refine (R_cs_i (as := [vi l1, vi 2]) (rest := []) dX7_keep_2 mt_7_114 (by decide) qp_75 qr_75 (E_X7_keep_75) (Nat.le_of_ble_eq_true rfl) rfl rfl (Nat.le_of_ble_eq_true rfl)).trans (mm_bind (fun q1 => ?_))
  refine (R_ifc 11 dX7_keep_5 rfl).trans (c_ne (fun h2 => ?_) (fun h2 => ?_))
  · refine (R_ldc dX7_keep_8 kt_7_118).trans ?_
    exact R_ireturn dX7_keep_10 rfl
  · refine (R_aload_n dX7_keep_11 rfl (by decide)).trans ?_
    refine (gr_7_53 dX7_keep_12).trans ?_
    refine (R_iload_n dX7_keep_15 rfl).trans ?_
    refine (R_aaload dX7_keep_16 as_17).trans (ck_congr ?_)
    refine (gr_7_231 dX7_keep_17).trans ?_
    refine (R_aload_n dX7_keep_20 rfl (by decide)).trans ?_
    refine (gr_7_10 dX7_keep_21).trans ?_
    refine (R_cv_v (as := [vr 6 0]) (rest := []) dX7_keep_24 mt_7_232 qp_34 qr_34 (E_X7_keep_34) rfl rfl rfl (Nat.le_of_ble_eq_true rfl)).trans (mm_bind (fun q3 => ?_))
    refine (R_aload_n dX7_keep_27 rfl (by decide)).trans ?_
    refine (gr_7_53 dX7_keep_28).trans ?_
    refine (R_iload_n dX7_keep_31 rfl).trans ?_
    refine (R_aaload dX7_keep_32 as_17).trans (ck_congr ?_)
    refine (R_aload_n dX7_keep_33 rfl (by decide)).trans ?_
    refine (gi_7_57 dX7_keep_34).trans ?_
    refine (R_pi dX7_keep_37 ft_7_235 fs_2_1).trans ?_
    refine wr_intro (g := fun m => mm_run E_X7_keep 7 1 cX7_keep (40, [vr 7 0, vi l1], [], m)) (fun m4 => ?_)
    refine (R_aload_n dX7_keep_40 rfl (by decide)).trans ?_
    refine (gr_7_53 dX7_keep_41).trans ?_
    refine (R_iload_n dX7_keep_44 rfl).trans ?_
    refine (R_aaload dX7_keep_45 as_17).trans (ck_congr ?_)
    refine (R_iconst 1 dX7_keep_46 iconst_1).trans ?_
    refine (R_pz dX7_keep_47 ft_7_238 fs_2_2 (by decide)).trans ?_
    refine wr_intro (g := fun m => mm_run E_X7_keep 7 1 cX7_keep (50, [vr 7 0, vi l1], [], m)) (fun m5 => ?_)
    refine (R_aload_n dX7_keep_50 rfl (by decide)).trans ?_
    refine (gr_7_19 dX7_keep_51).trans ?_
    refine (R_iconst 0 dX7_keep_54 iconst_0).trans ?_
    refine (R_pi dX7_keep_55 ft_7_110 fs_3_2).trans ?_
    refine wr_intro (g := fun m => mm_run E_X7_keep 7 1 cX7_keep (58, [vr 7 0, vi l1], [], m)) (fun m6 => ?_)
    refine (R_iconst 1 dX7_keep_58 iconst_1).trans ?_
    exact R_ireturn dX7_keep_59 rfl
noncomputable def E_X8_isGrade : mE := fun k => if k = 79 then f_X8_in else fun _ _ => none
theorem E_X8_isGrade_79 : E_X8_isGrade 79 = f_X8_in := if_pos rfl
noncomputable def f_X8_isGrade : List mV → mM → Option mR := mm_fn E_X8_isGrade 8 2 1 cX8_isGrade
theorem k_X8_isGrade (l : Launch) : mm_OK l 81 f_X8_isGrade := mm_fn_ok l 81 8 E_X8_isGrade (by decide) rfl (by decide) (by
  intro k as μ q h
  by_cases h0 : k = 79
  · subst h0
    exact ⟨by rw [E_X8_isGrade_79]; exact k_X8_in l, by decide, by decide, by decide⟩
  have e : E_X8_isGrade k = fun _ _ => none := (if_neg h0).trans (rfl)
  rw [e] at h
  cases h)
set_option maxRecDepth 100000 in
set_option maxHeartbeats 4000000 in
theorem e_X8_isGrade (l0 : Int32) (μ : mM) : f_X8_isGrade [vi l0] μ = (Option.bind (f_X8_in [vl (Int32.toInt64 l0), vl 0, vl 3] μ) (fun q1 => (if q1.1 = 0 ∨ q1.1 = 1 then some (q1.1, q1.2) else none))) := by
  refine (show f_X8_isGrade [vi l0] μ = mm_run E_X8_isGrade 8 2 cX8_isGrade (0, [vi l0], [], μ) from rfl).trans ?_
  refine (R_iload_n dX8_isGrade_0 rfl).trans ?_
  refine (R_i2l dX8_isGrade_1).trans ?_
  refine (R_lconst 0 dX8_isGrade_2 lconst_0).trans ?_
  refine (R_ldc2_w dX8_isGrade_3 lt_8_48).trans ?_
  refine (R_cs_i (as := [vl (Int32.toInt64 l0), vl 0, vl 3]) (rest := []) dX8_isGrade_6 mt_8_50 (by decide) qp_79 qr_79 (E_X8_isGrade_79) (Nat.le_of_ble_eq_true rfl) rfl rfl (Nat.le_of_ble_eq_true rfl)).trans (mm_bind (fun q1 => ?_))
  exact R_zreturn' dX8_isGrade_9 (by decide)
noncomputable def E_X8_isSize : mE := fun k => if k = 79 then f_X8_in else fun _ _ => none
theorem E_X8_isSize_79 : E_X8_isSize 79 = f_X8_in := if_pos rfl
noncomputable def f_X8_isSize : List mV → mM → Option mR := mm_fn E_X8_isSize 8 2 1 cX8_isSize
theorem k_X8_isSize (l : Launch) : mm_OK l 82 f_X8_isSize := mm_fn_ok l 82 8 E_X8_isSize (by decide) rfl (by decide) (by
  intro k as μ q h
  by_cases h0 : k = 79
  · subst h0
    exact ⟨by rw [E_X8_isSize_79]; exact k_X8_in l, by decide, by decide, by decide⟩
  have e : E_X8_isSize k = fun _ _ => none := (if_neg h0).trans (rfl)
  rw [e] at h
  cases h)
set_option maxRecDepth 100000 in
set_option maxHeartbeats 4000000 in
theorem e_X8_isSize (l0 : Int32) (μ : mM) : f_X8_isSize [vi l0] μ = (Option.bind (f_X8_in [vl (Int32.toInt64 l0), vl 0, vl 9999] μ) (fun q1 => (if q1.1 = 0 ∨ q1.1 = 1 then some (q1.1, q1.2) else none))) := by
  refine (show f_X8_isSize [vi l0] μ = mm_run E_X8_isSize 8 2 cX8_isSize (0, [vi l0], [], μ) from rfl).trans ?_
  refine (R_iload_n dX8_isSize_0 rfl).trans ?_
  refine (R_i2l dX8_isSize_1).trans ?_
  refine (R_lconst 0 dX8_isSize_2 lconst_0).trans ?_
  refine (R_ldc2_w dX8_isSize_3 lt_8_54).trans ?_
  refine (R_cs_i (as := [vl (Int32.toInt64 l0), vl 0, vl 9999]) (rest := []) dX8_isSize_6 mt_8_50 (by decide) qp_79 qr_79 (E_X8_isSize_79) (Nat.le_of_ble_eq_true rfl) rfl rfl (Nat.le_of_ble_eq_true rfl)).trans (mm_bind (fun q1 => ?_))
  exact R_zreturn' dX8_isSize_9 (by decide)
noncomputable def E_X8_isShaft : mE := fun k => if k = 79 then f_X8_in else fun _ _ => none
theorem E_X8_isShaft_79 : E_X8_isShaft 79 = f_X8_in := if_pos rfl
noncomputable def f_X8_isShaft : List mV → mM → Option mR := mm_fn E_X8_isShaft 8 2 2 cX8_isShaft
theorem k_X8_isShaft (l : Launch) : mm_OK l 83 f_X8_isShaft := mm_fn_ok l 83 8 E_X8_isShaft (by decide) rfl (by decide) (by
  intro k as μ q h
  by_cases h0 : k = 79
  · subst h0
    exact ⟨by rw [E_X8_isShaft_79]; exact k_X8_in l, by decide, by decide, by decide⟩
  have e : E_X8_isShaft k = fun _ _ => none := (if_neg h0).trans (rfl)
  rw [e] at h
  cases h)
set_option maxRecDepth 100000 in
set_option maxHeartbeats 4000000 in
theorem e_X8_isShaft (l1 : Int32) (μ : mM) : f_X8_isShaft [vr 8 0, vi l1] μ = (ck 5225 8 (Option.bind (f_X8_in [vl (Int32.toInt64 l1), vl 0, vl (Int32.toInt64 ((μ 50 0 (Int32.toNatClampNeg 8)) - 1))] μ) (fun q1 => (if q1.1 = 0 ∨ q1.1 = 1 then some (q1.1, q1.2) else none)))) := by
  refine (show f_X8_isShaft [vr 8 0, vi l1] μ = mm_run E_X8_isShaft 8 2 cX8_isShaft (0, [vr 8 0, vi l1], [], μ) from rfl).trans ?_
  refine (R_iload_n dX8_isShaft_0 rfl).trans ?_
  refine (R_i2l dX8_isShaft_1).trans ?_
  refine (R_lconst 0 dX8_isShaft_2 lconst_0).trans ?_
  refine (R_aload_n dX8_isShaft_3 rfl (by decide)).trans ?_
  refine (gr_8_7 dX8_isShaft_4).trans ?_
  refine (R_bipush 8 dX8_isShaft_7 bipush_8).trans ?_
  refine (R_iaload dX8_isShaft_9 as_50).trans (ck_congr ?_)
  refine (R_iconst 1 dX8_isShaft_10 iconst_1).trans ?_
  refine (R_isub dX8_isShaft_11).trans ?_
  refine (R_i2l dX8_isShaft_12).trans ?_
  refine (R_cs_i (as := [vl (Int32.toInt64 l1), vl 0, vl (Int32.toInt64 ((μ 50 0 (Int32.toNatClampNeg 8)) - 1))]) (rest := []) dX8_isShaft_13 mt_8_50 (by decide) qp_79 qr_79 (E_X8_isShaft_79) (Nat.le_of_ble_eq_true rfl) rfl rfl (Nat.le_of_ble_eq_true rfl)).trans (mm_bind (fun q1 => ?_))
  exact R_zreturn' dX8_isShaft_16 (by decide)
noncomputable def E_X8_isBore : mE := fun k => if k = 79 then f_X8_in else fun _ _ => none
theorem E_X8_isBore_79 : E_X8_isBore 79 = f_X8_in := if_pos rfl
noncomputable def f_X8_isBore : List mV → mM → Option mR := mm_fn E_X8_isBore 8 2 2 cX8_isBore
theorem k_X8_isBore (l : Launch) : mm_OK l 84 f_X8_isBore := mm_fn_ok l 84 8 E_X8_isBore (by decide) rfl (by decide) (by
  intro k as μ q h
  by_cases h0 : k = 79
  · subst h0
    exact ⟨by rw [E_X8_isBore_79]; exact k_X8_in l, by decide, by decide, by decide⟩
  have e : E_X8_isBore k = fun _ _ => none := (if_neg h0).trans (rfl)
  rw [e] at h
  cases h)
set_option maxRecDepth 100000 in
set_option maxHeartbeats 4000000 in
theorem e_X8_isBore (l1 : Int32) (μ : mM) : f_X8_isBore [vr 8 0, vi l1] μ = (ck 5225 57 (Option.bind (f_X8_in [vl (Int32.toInt64 l1), vl 0, vl (Int32.toInt64 ((μ 50 0 (Int32.toNatClampNeg 57)) - 1))] μ) (fun q1 => (if q1.1 = 0 ∨ q1.1 = 1 then some (q1.1, q1.2) else none)))) := by
  refine (show f_X8_isBore [vr 8 0, vi l1] μ = mm_run E_X8_isBore 8 2 cX8_isBore (0, [vr 8 0, vi l1], [], μ) from rfl).trans ?_
  refine (R_iload_n dX8_isBore_0 rfl).trans ?_
  refine (R_i2l dX8_isBore_1).trans ?_
  refine (R_lconst 0 dX8_isBore_2 lconst_0).trans ?_
  refine (R_aload_n dX8_isBore_3 rfl (by decide)).trans ?_
  refine (gr_8_7 dX8_isBore_4).trans ?_
  refine (R_bipush 57 dX8_isBore_7 bipush_57).trans ?_
  refine (R_iaload dX8_isBore_9 as_50).trans (ck_congr ?_)
  refine (R_iconst 1 dX8_isBore_10 iconst_1).trans ?_
  refine (R_isub dX8_isBore_11).trans ?_
  refine (R_i2l dX8_isBore_12).trans ?_
  refine (R_cs_i (as := [vl (Int32.toInt64 l1), vl 0, vl (Int32.toInt64 ((μ 50 0 (Int32.toNatClampNeg 57)) - 1))]) (rest := []) dX8_isBore_13 mt_8_50 (by decide) qp_79 qr_79 (E_X8_isBore_79) (Nat.le_of_ble_eq_true rfl) rfl rfl (Nat.le_of_ble_eq_true rfl)).trans (mm_bind (fun q1 => ?_))
  exact R_zreturn' dX8_isBore_16 (by decide)
noncomputable def E_X8_fits : mE := fun k => if k = 85 then f_X8_begin else if k = 86 then f_X8_end else if k = 79 then f_X8_in else fun _ _ => none
theorem E_X8_fits_85 : E_X8_fits 85 = f_X8_begin := if_pos rfl
theorem E_X8_fits_86 : E_X8_fits 86 = f_X8_end := (if_neg (by decide)).trans (if_pos rfl)
theorem E_X8_fits_79 : E_X8_fits 79 = f_X8_in := (if_neg (by decide)).trans ((if_neg (by decide)).trans (if_pos rfl))
noncomputable def f_X8_fits : List mV → mM → Option mR := mm_fn E_X8_fits 8 2 3 cX8_fits
theorem k_X8_fits (l : Launch) : mm_OK l 87 f_X8_fits := mm_fn_ok l 87 8 E_X8_fits (by decide) rfl (by decide) (by
  intro k as μ q h
  by_cases h0 : k = 85
  · subst h0
    exact ⟨by rw [E_X8_fits_85]; exact k_X8_begin l, by decide, by decide, by decide⟩
  by_cases h1 : k = 86
  · subst h1
    exact ⟨by rw [E_X8_fits_86]; exact k_X8_end l, by decide, by decide, by decide⟩
  by_cases h2 : k = 79
  · subst h2
    exact ⟨by rw [E_X8_fits_79]; exact k_X8_in l, by decide, by decide, by decide⟩
  have e : E_X8_fits k = fun _ _ => none := (if_neg h0).trans ((if_neg h1).trans ((if_neg h2).trans (rfl)))
  rw [e] at h
  cases h)
set_option maxRecDepth 100000 in
set_option maxHeartbeats 4000000 in
theorem e_X8_fits (l1 : Int32) (l2 : Int32) (μ : mM) : f_X8_fits [vr 8 0, vi l1, vi l2] μ = (Option.bind (f_X8_begin [vr 8 0, vi l1] μ) (fun q1 => (Option.bind (f_X8_end [vr 8 0, vi l1] q1.2) (fun q2 => (Option.bind (f_X8_in [vl (Int32.toInt64 l2), vl (Int32.toInt64 q1.1), vl (Int32.toInt64 q2.1)] q2.2) (fun q3 => (if q3.1 = 0 ∨ q3.1 = 1 then some (q3.1, q3.2) else none))))))) := by
  refine (show f_X8_fits [vr 8 0, vi l1, vi l2] μ = mm_run E_X8_fits 8 2 cX8_fits (0, [vr 8 0, vi l1, vi l2], [], μ) from rfl).trans ?_
  refine (R_iload_n dX8_fits_0 rfl).trans ?_
  refine (R_i2l dX8_fits_1).trans ?_
  refine (R_aload_n dX8_fits_2 rfl (by decide)).trans ?_
  refine (R_iload_n dX8_fits_3 rfl).trans ?_
  refine (R_cv_i (as := [vi l1]) (rest := [vl (Int32.toInt64 l2)]) dX8_fits_4 mt_8_56 qp_85 qr_85 (E_X8_fits_85) rfl rfl rfl (Nat.le_of_ble_eq_true rfl)).trans (mm_bind (fun q1 => ?_))
  refine (R_i2l dX8_fits_7).trans ?_
  refine (R_aload_n dX8_fits_8 rfl (by decide)).trans ?_
  refine (R_iload_n dX8_fits_9 rfl).trans ?_
  refine (R_cv_i (as := [vi l1]) (rest := [vl (Int32.toInt64 q1.1), vl (Int32.toInt64 l2)]) dX8_fits_10 mt_8_60 qp_86 qr_86 (E_X8_fits_86) rfl rfl rfl (Nat.le_of_ble_eq_true rfl)).trans (mm_bind (fun q2 => ?_))
  refine (R_i2l dX8_fits_13).trans ?_
  refine (R_cs_i (as := [vl (Int32.toInt64 l2), vl (Int32.toInt64 q1.1), vl (Int32.toInt64 q2.1)]) (rest := []) dX8_fits_14 mt_8_50 (by decide) qp_79 qr_79 (E_X8_fits_79) (Nat.le_of_ble_eq_true rfl) rfl rfl (Nat.le_of_ble_eq_true rfl)).trans (mm_bind (fun q3 => ?_))
  exact R_zreturn' dX8_fits_17 (by decide)
noncomputable def E_X8_closesFirst : mE := fun k => if k = 85 then f_X8_begin else if k = 86 then f_X8_end else if k = 79 then f_X8_in else fun _ _ => none
theorem E_X8_closesFirst_85 : E_X8_closesFirst 85 = f_X8_begin := if_pos rfl
theorem E_X8_closesFirst_86 : E_X8_closesFirst 86 = f_X8_end := (if_neg (by decide)).trans (if_pos rfl)
theorem E_X8_closesFirst_79 : E_X8_closesFirst 79 = f_X8_in := (if_neg (by decide)).trans ((if_neg (by decide)).trans (if_pos rfl))
noncomputable def f_X8_closesFirst : List mV → mM → Option mR := mm_fn E_X8_closesFirst 8 1 6 cX8_closesFirst
theorem k_X8_closesFirst (l : Launch) : mm_OK l 88 f_X8_closesFirst := mm_fn_ok l 88 8 E_X8_closesFirst (by decide) rfl (by decide) (by
  intro k as μ q h
  by_cases h0 : k = 85
  · subst h0
    exact ⟨by rw [E_X8_closesFirst_85]; exact k_X8_begin l, by decide, by decide, by decide⟩
  by_cases h1 : k = 86
  · subst h1
    exact ⟨by rw [E_X8_closesFirst_86]; exact k_X8_end l, by decide, by decide, by decide⟩
  by_cases h2 : k = 79
  · subst h2
    exact ⟨by rw [E_X8_closesFirst_79]; exact k_X8_in l, by decide, by decide, by decide⟩
  have e : E_X8_closesFirst k = fun _ _ => none := (if_neg h0).trans ((if_neg h1).trans ((if_neg h2).trans (rfl)))
  rw [e] at h
  cases h)
noncomputable def r_X8_closesFirst_5 (l1 : Int32) (l2 : Int32) (l3 : Int32) (l4 : Int32) (x5 : mV) (μ : mM) : Option mR := mm_run E_X8_closesFirst 8 1 cX8_closesFirst (5, [vr 8 0, vi l1, vi l2, vi l3, vi l4, x5], [], μ)
set_option maxRecDepth 100000 in
set_option maxHeartbeats 4000000 in
theorem e_X8_closesFirst (l1 : Int32) (l2 : Int32) (μ : mM) : f_X8_closesFirst [vr 8 0, vi l1, vi l2] μ = r_X8_closesFirst_5 l1 l2 (-1) 0 vu μ := by
  refine (show f_X8_closesFirst [vr 8 0, vi l1, vi l2] μ = mm_run E_X8_closesFirst 8 1 cX8_closesFirst (0, [vr 8 0, vi l1, vi l2, vu, vu, vu], [], μ) from rfl).trans ?_
  refine (R_iconst (-1) dX8_closesFirst_0 iconst_m1).trans ?_
  refine (R_istore_n (ls' := [vr 8 0, vi l1, vi l2, vi (-1), vu, vu]) dX8_closesFirst_1 (Nat.le_of_ble_eq_true rfl) (by decide) rfl).trans ?_
  refine (R_iconst 0 dX8_closesFirst_2 iconst_0).trans ?_
  refine (R_istore (ls' := [vr 8 0, vi l1, vi l2, vi (-1), vi 0, vu]) dX8_closesFirst_3 (Nat.le_of_ble_eq_true rfl) (by decide) rfl).trans ?_
  exact rfl
set_option maxRecDepth 100000 in
set_option maxHeartbeats 4000000 in
theorem e_X8_closesFirst_5 (l1 : Int32) (l2 : Int32) (l3 : Int32) (l4 : Int32) (x5 : mV) (μ : mM) : r_X8_closesFirst_5 l1 l2 l3 l4 x5 μ = (ck 5225 8 (if l4 < μ 50 0 (Int32.toNatClampNeg 8) then (ck 24 l4 (if μ 53 0 (Int32.toNatClampNeg l4) = (-1) then (Option.bind (f_X8_begin [vr 8 0, vi l4] μ) (fun q3 => (Option.bind (f_X8_end [vr 8 0, vi l4] q3.2) (fun q4 => (Option.bind (f_X8_in [vl (Int32.toInt64 l1), vl (Int32.toInt64 (q3.1 - l2)), vl (Int32.toInt64 (q4.1 + l2))] q4.2) (fun q5 => (if q5.1 = 0 then r_X8_closesFirst_5 l1 l2 l3 (l4 + 1) x5 q5.2 else (if l3 = (-1) then r_X8_closesFirst_5 l1 l2 l4 (l4 + 1) (vi 1) q5.2 else (Option.bind (f_X8_end [vr 8 0, vi l4] q5.2) (fun q8 => (Option.bind (f_X8_end [vr 8 0, vi l3] q8.2) (fun q9 => (if q8.1 < q9.1 then r_X8_closesFirst_5 l1 l2 l4 (l4 + 1) (vi 1) q9.2 else (Option.bind (f_X8_end [vr 8 0, vi l4] q9.2) (fun q11 => (Option.bind (f_X8_end [vr 8 0, vi l3] q11.2) (fun q12 => (if q11.1 = q12.1 then (ck 5225 (33 + l4) (ck 5225 (33 + l3) (if q12.2 50 0 (Int32.toNatClampNeg (33 + l4)) < q12.2 50 0 (Int32.toNatClampNeg (33 + l3)) then r_X8_closesFirst_5 l1 l2 l4 (l4 + 1) (vi 1) q12.2 else r_X8_closesFirst_5 l1 l2 l3 (l4 + 1) (vi 0) q12.2))) else r_X8_closesFirst_5 l1 l2 l3 (l4 + 1) (vi 0) q12.2)))))))))))))))))) else r_X8_closesFirst_5 l1 l2 l3 (l4 + 1) x5 μ)) else some (l3, μ))) := by
  refine (show r_X8_closesFirst_5 l1 l2 l3 l4 x5 μ = mm_run E_X8_closesFirst 8 1 cX8_closesFirst (5, [vr 8 0, vi l1, vi l2, vi l3, vi l4, x5], [], μ) from rfl).trans ?_
  refine (R_iload dX8_closesFirst_5 rfl).trans ?_
  refine (R_aload_n dX8_closesFirst_7 rfl (by decide)).trans ?_
  refine (gr_8_7 dX8_closesFirst_8).trans ?_
  refine (R_bipush 8 dX8_closesFirst_11 bipush_8).trans ?_
  refine (R_iaload dX8_closesFirst_13 as_50).trans (ck_congr ?_)
  refine (R_icmp 134 dX8_closesFirst_14 rfl).trans (c_ge (fun h1 => ?_) (fun h1 => ?_))
  · refine (R_aload_n dX8_closesFirst_17 rfl (by decide)).trans ?_
    refine (gr_8_20 dX8_closesFirst_18).trans ?_
    refine (R_iload dX8_closesFirst_21 rfl).trans ?_
    refine (R_iaload dX8_closesFirst_23 as_53).trans (ck_congr ?_)
    refine (R_iconst (-1) dX8_closesFirst_24 iconst_m1).trans ?_
    refine (R_icmp 128 dX8_closesFirst_25 rfl).trans (c_ne (fun h2 => ?_) (fun h2 => ?_))
    · refine (R_iload_n dX8_closesFirst_28 rfl).trans ?_
      refine (R_i2l dX8_closesFirst_29).trans ?_
      refine (R_aload_n dX8_closesFirst_30 rfl (by decide)).trans ?_
      refine (R_iload dX8_closesFirst_31 rfl).trans ?_
      refine (R_cv_i (as := [vi l4]) (rest := [vl (Int32.toInt64 l1)]) dX8_closesFirst_33 mt_8_56 qp_85 qr_85 (E_X8_closesFirst_85) rfl rfl rfl (Nat.le_of_ble_eq_true rfl)).trans (mm_bind (fun q3 => ?_))
      refine (R_iload_n dX8_closesFirst_36 rfl).trans ?_
      refine (R_isub dX8_closesFirst_37).trans ?_
      refine (R_i2l dX8_closesFirst_38).trans ?_
      refine (R_aload_n dX8_closesFirst_39 rfl (by decide)).trans ?_
      refine (R_iload dX8_closesFirst_40 rfl).trans ?_
      refine (R_cv_i (as := [vi l4]) (rest := [vl (Int32.toInt64 (q3.1 - l2)), vl (Int32.toInt64 l1)]) dX8_closesFirst_42 mt_8_60 qp_86 qr_86 (E_X8_closesFirst_86) rfl rfl rfl (Nat.le_of_ble_eq_true rfl)).trans (mm_bind (fun q4 => ?_))
      refine (R_iload_n dX8_closesFirst_45 rfl).trans ?_
      refine (R_iadd dX8_closesFirst_46).trans ?_
      refine (R_i2l dX8_closesFirst_47).trans ?_
      refine (R_cs_i (as := [vl (Int32.toInt64 l1), vl (Int32.toInt64 (q3.1 - l2)), vl (Int32.toInt64 (q4.1 + l2))]) (rest := []) dX8_closesFirst_48 mt_8_50 (by decide) qp_79 qr_79 (E_X8_closesFirst_79) (Nat.le_of_ble_eq_true rfl) rfl rfl (Nat.le_of_ble_eq_true rfl)).trans (mm_bind (fun q5 => ?_))
      refine (R_ifc 128 dX8_closesFirst_51 rfl).trans (c_eq (fun h6 => ?_) (fun h6 => ?_))
      · refine (R_iinc (ls' := [vr 8 0, vi l1, vi l2, vi l3, vi (l4 + 1), x5]) 1 dX8_closesFirst_128 rfl iconst_1 (by decide) rfl).trans ?_
        refine (R_goto 5 dX8_closesFirst_131 rfl).trans ?_
        exact rfl
      · refine (R_iload_n dX8_closesFirst_54 rfl).trans ?_
        refine (R_iconst (-1) dX8_closesFirst_55 iconst_m1).trans ?_
        refine (R_icmp 109 dX8_closesFirst_56 rfl).trans (c_eq (fun h7 => ?_) (fun h7 => ?_))
        · refine (R_iconst 1 dX8_closesFirst_109 iconst_1).trans ?_
          refine (R_goto 114 dX8_closesFirst_110 rfl).trans ?_
          refine (R_istore (ls' := [vr 8 0, vi l1, vi l2, vi l3, vi l4, vi 1]) dX8_closesFirst_114 (Nat.le_of_ble_eq_true rfl) (by decide) rfl).trans ?_
          refine (R_iload dX8_closesFirst_116 rfl).trans ?_
          refine (R_ifc 126 dX8_closesFirst_118 rfl).trans ((p_eq_f (by decide)).trans ?_)
          refine (R_iload dX8_closesFirst_121 rfl).trans ?_
          refine (R_goto 127 dX8_closesFirst_123 rfl).trans ?_
          refine (R_istore_n (ls' := [vr 8 0, vi l1, vi l2, vi l4, vi l4, vi 1]) dX8_closesFirst_127 (Nat.le_of_ble_eq_true rfl) (by decide) rfl).trans ?_
          refine (R_iinc (ls' := [vr 8 0, vi l1, vi l2, vi l4, vi (l4 + 1), vi 1]) 1 dX8_closesFirst_128 rfl iconst_1 (by decide) rfl).trans ?_
          refine (R_goto 5 dX8_closesFirst_131 rfl).trans ?_
          exact rfl
        · refine (R_aload_n dX8_closesFirst_59 rfl (by decide)).trans ?_
          refine (R_iload dX8_closesFirst_60 rfl).trans ?_
          refine (R_cv_i (as := [vi l4]) (rest := []) dX8_closesFirst_62 mt_8_60 qp_86 qr_86 (E_X8_closesFirst_86) rfl rfl rfl (Nat.le_of_ble_eq_true rfl)).trans (mm_bind (fun q8 => ?_))
          refine (R_aload_n dX8_closesFirst_65 rfl (by decide)).trans ?_
          refine (R_iload_n dX8_closesFirst_66 rfl).trans ?_
          refine (R_cv_i (as := [vi l3]) (rest := [vi q8.1]) dX8_closesFirst_67 mt_8_60 qp_86 qr_86 (E_X8_closesFirst_86) rfl rfl rfl (Nat.le_of_ble_eq_true rfl)).trans (mm_bind (fun q9 => ?_))
          refine (R_icmp 109 dX8_closesFirst_70 rfl).trans (c_lt (fun h10 => ?_) (fun h10 => ?_))
          · refine (R_iconst 1 dX8_closesFirst_109 iconst_1).trans ?_
            refine (R_goto 114 dX8_closesFirst_110 rfl).trans ?_
            refine (R_istore (ls' := [vr 8 0, vi l1, vi l2, vi l3, vi l4, vi 1]) dX8_closesFirst_114 (Nat.le_of_ble_eq_true rfl) (by decide) rfl).trans ?_
            refine (R_iload dX8_closesFirst_116 rfl).trans ?_
            refine (R_ifc 126 dX8_closesFirst_118 rfl).trans ((p_eq_f (by decide)).trans ?_)
            refine (R_iload dX8_closesFirst_121 rfl).trans ?_
            refine (R_goto 127 dX8_closesFirst_123 rfl).trans ?_
            refine (R_istore_n (ls' := [vr 8 0, vi l1, vi l2, vi l4, vi l4, vi 1]) dX8_closesFirst_127 (Nat.le_of_ble_eq_true rfl) (by decide) rfl).trans ?_
            refine (R_iinc (ls' := [vr 8 0, vi l1, vi l2, vi l4, vi (l4 + 1), vi 1]) 1 dX8_closesFirst_128 rfl iconst_1 (by decide) rfl).trans ?_
            refine (R_goto 5 dX8_closesFirst_131 rfl).trans ?_
            exact rfl
          · refine (R_aload_n dX8_closesFirst_73 rfl (by decide)).trans ?_
            refine (R_iload dX8_closesFirst_74 rfl).trans ?_
            refine (R_cv_i (as := [vi l4]) (rest := []) dX8_closesFirst_76 mt_8_60 qp_86 qr_86 (E_X8_closesFirst_86) rfl rfl rfl (Nat.le_of_ble_eq_true rfl)).trans (mm_bind (fun q11 => ?_))
            refine (R_aload_n dX8_closesFirst_79 rfl (by decide)).trans ?_
            refine (R_iload_n dX8_closesFirst_80 rfl).trans ?_
            refine (R_cv_i (as := [vi l3]) (rest := [vi q11.1]) dX8_closesFirst_81 mt_8_60 qp_86 qr_86 (E_X8_closesFirst_86) rfl rfl rfl (Nat.le_of_ble_eq_true rfl)).trans (mm_bind (fun q12 => ?_))
            refine (R_icmp 113 dX8_closesFirst_84 rfl).trans (c_ne (fun h13 => ?_) (fun h13 => ?_))
            · refine (R_aload_n dX8_closesFirst_87 rfl (by decide)).trans ?_
              refine (gr_8_7 dX8_closesFirst_88).trans ?_
              refine (R_bipush 33 dX8_closesFirst_91 bipush_33).trans ?_
              refine (R_iload dX8_closesFirst_93 rfl).trans ?_
              refine (R_iadd dX8_closesFirst_95).trans ?_
              refine (R_iaload dX8_closesFirst_96 as_50).trans (ck_congr ?_)
              refine (R_aload_n dX8_closesFirst_97 rfl (by decide)).trans ?_
              refine (gr_8_7 dX8_closesFirst_98).trans ?_
              refine (R_bipush 33 dX8_closesFirst_101 bipush_33).trans ?_
              refine (R_iload_n dX8_closesFirst_103 rfl).trans ?_
              refine (R_iadd dX8_closesFirst_104).trans ?_
              refine (R_iaload dX8_closesFirst_105 as_50).trans (ck_congr ?_)
              refine (R_icmp 113 dX8_closesFirst_106 rfl).trans (c_ge (fun h14 => ?_) (fun h14 => ?_))
              · refine (R_iconst 1 dX8_closesFirst_109 iconst_1).trans ?_
                refine (R_goto 114 dX8_closesFirst_110 rfl).trans ?_
                refine (R_istore (ls' := [vr 8 0, vi l1, vi l2, vi l3, vi l4, vi 1]) dX8_closesFirst_114 (Nat.le_of_ble_eq_true rfl) (by decide) rfl).trans ?_
                refine (R_iload dX8_closesFirst_116 rfl).trans ?_
                refine (R_ifc 126 dX8_closesFirst_118 rfl).trans ((p_eq_f (by decide)).trans ?_)
                refine (R_iload dX8_closesFirst_121 rfl).trans ?_
                refine (R_goto 127 dX8_closesFirst_123 rfl).trans ?_
                refine (R_istore_n (ls' := [vr 8 0, vi l1, vi l2, vi l4, vi l4, vi 1]) dX8_closesFirst_127 (Nat.le_of_ble_eq_true rfl) (by decide) rfl).trans ?_
                refine (R_iinc (ls' := [vr 8 0, vi l1, vi l2, vi l4, vi (l4 + 1), vi 1]) 1 dX8_closesFirst_128 rfl iconst_1 (by decide) rfl).trans ?_
                refine (R_goto 5 dX8_closesFirst_131 rfl).trans ?_
                exact rfl
              · refine (R_iconst 0 dX8_closesFirst_113 iconst_0).trans ?_
                refine (R_istore (ls' := [vr 8 0, vi l1, vi l2, vi l3, vi l4, vi 0]) dX8_closesFirst_114 (Nat.le_of_ble_eq_true rfl) (by decide) rfl).trans ?_
                refine (R_iload dX8_closesFirst_116 rfl).trans ?_
                refine (R_ifc 126 dX8_closesFirst_118 rfl).trans ((p_eq_t (by decide)).trans ?_)
                refine (R_iload_n dX8_closesFirst_126 rfl).trans ?_
                refine (R_istore_n (ls' := [vr 8 0, vi l1, vi l2, vi l3, vi l4, vi 0]) dX8_closesFirst_127 (Nat.le_of_ble_eq_true rfl) (by decide) rfl).trans ?_
                refine (R_iinc (ls' := [vr 8 0, vi l1, vi l2, vi l3, vi (l4 + 1), vi 0]) 1 dX8_closesFirst_128 rfl iconst_1 (by decide) rfl).trans ?_
                refine (R_goto 5 dX8_closesFirst_131 rfl).trans ?_
                exact rfl
            · refine (R_iconst 0 dX8_closesFirst_113 iconst_0).trans ?_
              refine (R_istore (ls' := [vr 8 0, vi l1, vi l2, vi l3, vi l4, vi 0]) dX8_closesFirst_114 (Nat.le_of_ble_eq_true rfl) (by decide) rfl).trans ?_
              refine (R_iload dX8_closesFirst_116 rfl).trans ?_
              refine (R_ifc 126 dX8_closesFirst_118 rfl).trans ((p_eq_t (by decide)).trans ?_)
              refine (R_iload_n dX8_closesFirst_126 rfl).trans ?_
              refine (R_istore_n (ls' := [vr 8 0, vi l1, vi l2, vi l3, vi l4, vi 0]) dX8_closesFirst_127 (Nat.le_of_ble_eq_true rfl) (by decide) rfl).trans ?_
              refine (R_iinc (ls' := [vr 8 0, vi l1, vi l2, vi l3, vi (l4 + 1), vi 0]) 1 dX8_closesFirst_128 rfl iconst_1 (by decide) rfl).trans ?_
              refine (R_goto 5 dX8_closesFirst_131 rfl).trans ?_
              exact rfl
    · refine (R_iinc (ls' := [vr 8 0, vi l1, vi l2, vi l3, vi (l4 + 1), x5]) 1 dX8_closesFirst_128 rfl iconst_1 (by decide) rfl).trans ?_
      refine (R_goto 5 dX8_closesFirst_131 rfl).trans ?_
      exact rfl
  · refine (R_iload_n dX8_closesFirst_134 rfl).trans ?_
    exact R_ireturn dX8_closesFirst_135 rfl
noncomputable def E_X8_isSo : mE := fun k => if k = 79 then f_X8_in else fun _ _ => none
theorem E_X8_isSo_79 : E_X8_isSo 79 = f_X8_in := if_pos rfl
noncomputable def f_X8_isSo : List mV → mM → Option mR := mm_fn E_X8_isSo 8 2 5 cX8_isSo
theorem k_X8_isSo (l : Launch) : mm_OK l 94 f_X8_isSo := mm_fn_ok l 94 8 E_X8_isSo (by decide) rfl (by decide) (by
  intro k as μ q h
  by_cases h0 : k = 79
  · subst h0
    exact ⟨by rw [E_X8_isSo_79]; exact k_X8_in l, by decide, by decide, by decide⟩
  have e : E_X8_isSo k = fun _ _ => none := (if_neg h0).trans (rfl)
  rw [e] at h
  cases h)
noncomputable def r_X8_isSo_4 (l1 : Int32) (l2 : Int32) (l3 : Int32) (x4 : mV) (μ : mM) : Option mR := mm_run E_X8_isSo 8 2 cX8_isSo (4, [vr 8 0, vi l1, vi l2, vi l3, x4], [], μ)
set_option maxRecDepth 100000 in
set_option maxHeartbeats 4000000 in
theorem e_X8_isSo (l1 : Int32) (μ : mM) : f_X8_isSo [vr 8 0, vi l1] μ = r_X8_isSo_4 l1 1 0 vu μ := by
  refine (show f_X8_isSo [vr 8 0, vi l1] μ = mm_run E_X8_isSo 8 2 cX8_isSo (0, [vr 8 0, vi l1, vu, vu, vu], [], μ) from rfl).trans ?_
  refine (R_iconst 1 dX8_isSo_0 iconst_1).trans ?_
  refine (R_istore_n (ls' := [vr 8 0, vi l1, vi 1, vu, vu]) dX8_isSo_1 (Nat.le_of_ble_eq_true rfl) (by decide) rfl).trans ?_
  refine (R_iconst 0 dX8_isSo_2 iconst_0).trans ?_
  refine (R_istore_n (ls' := [vr 8 0, vi l1, vi 1, vi 0, vu]) dX8_isSo_3 (Nat.le_of_ble_eq_true rfl) (by decide) rfl).trans ?_
  exact rfl
set_option maxRecDepth 100000 in
set_option maxHeartbeats 4000000 in
theorem e_X8_isSo_4 (l1 : Int32) (l2 : Int32) (l3 : Int32) (x4 : mV) (μ : mM) : r_X8_isSo_4 l1 l2 l3 x4 μ = (if l3 < μ 8 0 8 then (if l2 = 0 then (if l2 = 0 ∨ l2 = 1 then some (l2, μ) else none) else (ck 6 l3 (ck 6 l3 (ck 5225 (0 + (μ 56 0 (Int32.toNatClampNeg l3))) (ck 6 l3 (ck 6 l3 (ck 5225 (4 + (μ 56 0 (Int32.toNatClampNeg l3))) (Option.bind (f_X8_in [vl (Int32.toInt64 l1), vl (Int32.toInt64 ((μ 57 0 (Int32.toNatClampNeg l3)) + (μ 50 0 (Int32.toNatClampNeg (0 + (μ 56 0 (Int32.toNatClampNeg l3))))))), vl (Int32.toInt64 ((μ 57 0 (Int32.toNatClampNeg l3)) + (μ 50 0 (Int32.toNatClampNeg (4 + (μ 56 0 (Int32.toNatClampNeg l3)))))))] μ) (fun q3 => (ck 6 l3 (if q3.1 = q3.2 58 0 (Int32.toNatClampNeg l3) then r_X8_isSo_4 l1 1 (l3 + 1) (vi q3.1) q3.2 else r_X8_isSo_4 l1 0 (l3 + 1) (vi q3.1) q3.2))))))))))) else (if l2 = 0 ∨ l2 = 1 then some (l2, μ) else none)) := by
  refine (show r_X8_isSo_4 l1 l2 l3 x4 μ = mm_run E_X8_isSo 8 2 cX8_isSo (4, [vr 8 0, vi l1, vi l2, vi l3, x4], [], μ) from rfl).trans ?_
  refine (R_iload_n dX8_isSo_4 rfl).trans ?_
  refine (R_aload_n dX8_isSo_5 rfl (by decide)).trans ?_
  refine (gi_8_78 dX8_isSo_6).trans ?_
  refine (R_icmp 88 dX8_isSo_9 rfl).trans (c_ge (fun h1 => ?_) (fun h1 => ?_))
  · refine (R_iload_n dX8_isSo_12 rfl).trans ?_
    refine (R_ifc 88 dX8_isSo_13 rfl).trans (c_eq (fun h2 => ?_) (fun h2 => ?_))
    · refine (R_iload_n dX8_isSo_88 rfl).trans ?_
      exact R_zreturn' dX8_isSo_89 (by decide)
    · refine (R_iload_n dX8_isSo_16 rfl).trans ?_
      refine (R_i2l dX8_isSo_17).trans ?_
      refine (R_aload_n dX8_isSo_18 rfl (by decide)).trans ?_
      refine (gr_8_32 dX8_isSo_19).trans ?_
      refine (R_iload_n dX8_isSo_22 rfl).trans ?_
      refine (R_iaload dX8_isSo_23 as_57).trans (ck_congr ?_)
      refine (R_aload_n dX8_isSo_24 rfl (by decide)).trans ?_
      refine (gr_8_7 dX8_isSo_25).trans ?_
      refine (R_iconst 0 dX8_isSo_28 iconst_0).trans ?_
      refine (R_aload_n dX8_isSo_29 rfl (by decide)).trans ?_
      refine (gr_8_29 dX8_isSo_30).trans ?_
      refine (R_iload_n dX8_isSo_33 rfl).trans ?_
      refine (R_iaload dX8_isSo_34 as_56).trans (ck_congr ?_)
      refine (R_iadd dX8_isSo_35).trans ?_
      refine (R_iaload dX8_isSo_36 as_50).trans (ck_congr ?_)
      refine (R_iadd dX8_isSo_37).trans ?_
      refine (R_i2l dX8_isSo_38).trans ?_
      refine (R_aload_n dX8_isSo_39 rfl (by decide)).trans ?_
      refine (gr_8_32 dX8_isSo_40).trans ?_
      refine (R_iload_n dX8_isSo_43 rfl).trans ?_
      refine (R_iaload dX8_isSo_44 as_57).trans (ck_congr ?_)
      refine (R_aload_n dX8_isSo_45 rfl (by decide)).trans ?_
      refine (gr_8_7 dX8_isSo_46).trans ?_
      refine (R_iconst 4 dX8_isSo_49 iconst_4).trans ?_
      refine (R_aload_n dX8_isSo_50 rfl (by decide)).trans ?_
      refine (gr_8_29 dX8_isSo_51).trans ?_
      refine (R_iload_n dX8_isSo_54 rfl).trans ?_
      refine (R_iaload dX8_isSo_55 as_56).trans (ck_congr ?_)
      refine (R_iadd dX8_isSo_56).trans ?_
      refine (R_iaload dX8_isSo_57 as_50).trans (ck_congr ?_)
      refine (R_iadd dX8_isSo_58).trans ?_
      refine (R_i2l dX8_isSo_59).trans ?_
      refine (R_cs_i (as := [vl (Int32.toInt64 l1), vl (Int32.toInt64 ((μ 57 0 (Int32.toNatClampNeg l3)) + (μ 50 0 (Int32.toNatClampNeg (0 + (μ 56 0 (Int32.toNatClampNeg l3))))))), vl (Int32.toInt64 ((μ 57 0 (Int32.toNatClampNeg l3)) + (μ 50 0 (Int32.toNatClampNeg (4 + (μ 56 0 (Int32.toNatClampNeg l3)))))))]) (rest := []) dX8_isSo_60 mt_8_50 (by decide) qp_79 qr_79 (E_X8_isSo_79) (Nat.le_of_ble_eq_true rfl) rfl rfl (Nat.le_of_ble_eq_true rfl)).trans (mm_bind (fun q3 => ?_))
      refine (R_istore (ls' := [vr 8 0, vi l1, vi l2, vi l3, vi q3.1]) dX8_isSo_63 (Nat.le_of_ble_eq_true rfl) (by decide) rfl).trans ?_
      refine (R_iload dX8_isSo_65 rfl).trans ?_
      refine (R_aload_n dX8_isSo_67 rfl (by decide)).trans ?_
      refine (gr_8_35 dX8_isSo_68).trans ?_
      refine (R_iload_n dX8_isSo_71 rfl).trans ?_
      refine (R_baload dX8_isSo_72 as_58).trans (ck_congr ?_)
      refine (R_icmp 80 dX8_isSo_73 rfl).trans (c_ne (fun h4 => ?_) (fun h4 => ?_))
      · refine (R_iconst 1 dX8_isSo_76 iconst_1).trans ?_
        refine (R_goto 81 dX8_isSo_77 rfl).trans ?_
        refine (R_istore_n (ls' := [vr 8 0, vi l1, vi 1, vi l3, vi q3.1]) dX8_isSo_81 (Nat.le_of_ble_eq_true rfl) (by decide) rfl).trans ?_
        refine (R_iinc (ls' := [vr 8 0, vi l1, vi 1, vi (l3 + 1), vi q3.1]) 1 dX8_isSo_82 rfl iconst_1 (by decide) rfl).trans ?_
        refine (R_goto 4 dX8_isSo_85 rfl).trans ?_
        exact rfl
      · refine (R_iconst 0 dX8_isSo_80 iconst_0).trans ?_
        refine (R_istore_n (ls' := [vr 8 0, vi l1, vi 0, vi l3, vi q3.1]) dX8_isSo_81 (Nat.le_of_ble_eq_true rfl) (by decide) rfl).trans ?_
        refine (R_iinc (ls' := [vr 8 0, vi l1, vi 0, vi (l3 + 1), vi q3.1]) 1 dX8_isSo_82 rfl iconst_1 (by decide) rfl).trans ?_
        refine (R_goto 4 dX8_isSo_85 rfl).trans ?_
        exact rfl
  · refine (R_iload_n dX8_isSo_88 rfl).trans ?_
    exact R_zreturn' dX8_isSo_89 (by decide)
noncomputable def E_X8_sort : mE := fun k => if k = 79 then f_X8_in else fun _ _ => none
theorem E_X8_sort_79 : E_X8_sort 79 = f_X8_in := if_pos rfl
noncomputable def f_X8_sort : List mV → mM → Option mR := mm_fn E_X8_sort 8 1 3 cX8_sort
theorem k_X8_sort (l : Launch) : mm_OK l 108 f_X8_sort := mm_fn_ok l 108 8 E_X8_sort (by decide) rfl (by decide) (by
  intro k as μ q h
  by_cases h0 : k = 79
  · subst h0
    exact ⟨by rw [E_X8_sort_79]; exact k_X8_in l, by decide, by decide, by decide⟩
  have e : E_X8_sort k = fun _ _ => none := (if_neg h0).trans (rfl)
  rw [e] at h
  cases h)
set_option maxRecDepth 100000 in
set_option maxHeartbeats 4000000 in
theorem e_X8_sort (l1 : Int32) (l2 : Int32) (μ : mM) : f_X8_sort [vr 8 0, vi l1, vi l2] μ = (ck 5225 82 (Option.bind (f_X8_in [vl (Int32.toInt64 l1), vl 0, vl (Int32.toInt64 ((μ 50 0 (Int32.toNatClampNeg 82)) - 1))] μ) (fun q1 => (if q1.1 = 0 then some ((-1000000001), q1.2) else (Option.bind (f_X8_in [vl (Int32.toInt64 l2), vl 0, vl 3] q1.2) (fun q3 => (if q3.1 = 0 then some ((-1000000002), q3.2) else (ck 5225 ((83 + (48 * l2)) + l1) (some (q3.2 50 0 (Int32.toNatClampNeg ((83 + (48 * l2)) + l1)), q3.2)))))))))) := by
  refine (show f_X8_sort [vr 8 0, vi l1, vi l2] μ = mm_run E_X8_sort 8 1 cX8_sort (0, [vr 8 0, vi l1, vi l2], [], μ) from rfl).trans ?_
  refine (R_iload_n dX8_sort_0 rfl).trans ?_
  refine (R_i2l dX8_sort_1).trans ?_
  refine (R_lconst 0 dX8_sort_2 lconst_0).trans ?_
  refine (R_aload_n dX8_sort_3 rfl (by decide)).trans ?_
  refine (gr_8_7 dX8_sort_4).trans ?_
  refine (R_bipush 82 dX8_sort_7 bipush_82).trans ?_
  refine (R_iaload dX8_sort_9 as_50).trans (ck_congr ?_)
  refine (R_iconst 1 dX8_sort_10 iconst_1).trans ?_
  refine (R_isub dX8_sort_11).trans ?_
  refine (R_i2l dX8_sort_12).trans ?_
  refine (R_cs_i (as := [vl (Int32.toInt64 l1), vl 0, vl (Int32.toInt64 ((μ 50 0 (Int32.toNatClampNeg 82)) - 1))]) (rest := []) dX8_sort_13 mt_8_50 (by decide) qp_79 qr_79 (E_X8_sort_79) (Nat.le_of_ble_eq_true rfl) rfl rfl (Nat.le_of_ble_eq_true rfl)).trans (mm_bind (fun q1 => ?_))
  refine (R_ifc 22 dX8_sort_16 rfl).trans (c_ne (fun h2 => ?_) (fun h2 => ?_))
  · refine (R_ldc dX8_sort_19 kt_8_128).trans ?_
    exact R_ireturn dX8_sort_21 rfl
  · refine (R_iload_n dX8_sort_22 rfl).trans ?_
    refine (R_i2l dX8_sort_23).trans ?_
    refine (R_lconst 0 dX8_sort_24 lconst_0).trans ?_
    refine (R_ldc2_w dX8_sort_25 lt_8_48).trans ?_
    refine (R_cs_i (as := [vl (Int32.toInt64 l2), vl 0, vl 3]) (rest := []) dX8_sort_28 mt_8_50 (by decide) qp_79 qr_79 (E_X8_sort_79) (Nat.le_of_ble_eq_true rfl) rfl rfl (Nat.le_of_ble_eq_true rfl)).trans (mm_bind (fun q3 => ?_))
    refine (R_ifc 51 dX8_sort_31 rfl).trans (c_eq (fun h4 => ?_) (fun h4 => ?_))
    · refine (R_ldc dX8_sort_51 kt_8_118).trans ?_
      exact R_ireturn dX8_sort_53 rfl
    · refine (R_aload_n dX8_sort_34 rfl (by decide)).trans ?_
      refine (gr_8_7 dX8_sort_35).trans ?_
      refine (R_bipush 83 dX8_sort_38 bipush_83).trans ?_
      refine (R_bipush 48 dX8_sort_40 bipush_48).trans ?_
      refine (R_iload_n dX8_sort_42 rfl).trans ?_
      refine (R_imul dX8_sort_43).trans ?_
      refine (R_iadd dX8_sort_44).trans ?_
      refine (R_iload_n dX8_sort_45 rfl).trans ?_
      refine (R_iadd dX8_sort_46).trans ?_
      refine (R_iaload dX8_sort_47 as_50).trans (ck_congr ?_)
      refine (R_goto 53 dX8_sort_48 rfl).trans ?_
      exact R_ireturn dX8_sort_53 rfl
noncomputable def E_X8_remember : mE := fun k => if k = 80 then f_X8_copy else fun _ _ => none
theorem E_X8_remember_80 : E_X8_remember 80 = f_X8_copy := if_pos rfl
noncomputable def f_X8_remember : List mV → mM → Option mR := mm_fn E_X8_remember 8 0 2 cX8_remember
theorem k_X8_remember (l : Launch) : mm_OK l 110 f_X8_remember := mm_fn_ok l 110 8 E_X8_remember (by decide) rfl (by decide) (by
  intro k as μ q h
  by_cases h0 : k = 80
  · subst h0
    exact ⟨by rw [E_X8_remember_80]; exact k_X8_copy l, by decide, by decide, by decide⟩
  have e : E_X8_remember k = fun _ _ => none := (if_neg h0).trans (rfl)
  rw [e] at h
  cases h)
noncomputable def r_X8_remember_11 (l1 : Int32) (μ : mM) : Option mR := mm_run E_X8_remember 8 0 cX8_remember (11, [vr 8 0, vi l1], [], μ)
set_option maxRecDepth 100000 in
set_option maxHeartbeats 4000000 in
theorem e_X8_remember (μ : mM) : f_X8_remember [vr 8 0] μ = (if μ 8 0 3 = 16 then r_X8_remember_11 0 μ else (Option.bind (f_X8_copy [vr 8 0, vi 0, vi (825 + (275 * (μ 8 0 3)))] μ) (fun q2 => (wr (mm_up q2.2 8 0 3 ((q2.2 8 0 3) + 1)) (fun m3 => some (0, m3)))))) := by
  refine (show f_X8_remember [vr 8 0] μ = mm_run E_X8_remember 8 0 cX8_remember (0, [vr 8 0, vu], [], μ) from rfl).trans ?_
  refine (R_aload_n dX8_remember_0 rfl (by decide)).trans ?_
  refine (gi_8_115 dX8_remember_1).trans ?_
  refine (R_bipush 16 dX8_remember_4 bipush_16).trans ?_
  refine (R_icmp 58 dX8_remember_6 rfl).trans (c_ne (fun h1 => ?_) (fun h1 => ?_))
  · refine (R_iconst 0 dX8_remember_9 iconst_0).trans ?_
    refine (R_istore_n (ls' := [vr 8 0, vi 0]) dX8_remember_10 (Nat.le_of_ble_eq_true rfl) (by decide) rfl).trans ?_
    exact rfl
  · refine (R_aload_n dX8_remember_58 rfl (by decide)).trans ?_
    refine (R_iconst 0 dX8_remember_59 iconst_0).trans ?_
    refine (R_sipush 825 dX8_remember_60 sipush_825).trans ?_
    refine (R_sipush 275 dX8_remember_63 sipush_275).trans ?_
    refine (R_aload_n dX8_remember_66 rfl (by decide)).trans ?_
    refine (gi_8_115 dX8_remember_67).trans ?_
    refine (R_imul dX8_remember_70).trans ?_
    refine (R_iadd dX8_remember_71).trans ?_
    refine (R_cv_v (as := [vi 0, vi (825 + (275 * (μ 8 0 3)))]) (rest := []) dX8_remember_72 mt_8_150 qp_80 qr_80 (E_X8_remember_80) rfl rfl rfl (Nat.le_of_ble_eq_true rfl)).trans (mm_bind (fun q2 => ?_))
    refine (R_aload_n dX8_remember_75 rfl (by decide)).trans ?_
    refine (R_dup dX8_remember_76 rfl).trans ?_
    refine (gi_8_115 dX8_remember_77).trans ?_
    refine (R_iconst 1 dX8_remember_80 iconst_1).trans ?_
    refine (R_iadd dX8_remember_81).trans ?_
    refine (R_pi dX8_remember_82 ft_8_115 fs_8_3).trans ?_
    refine wr_intro (g := fun m => mm_run E_X8_remember 8 0 cX8_remember (85, [vr 8 0, vu], [], m)) (fun m3 => ?_)
    exact R_return dX8_remember_85 rfl
set_option maxRecDepth 100000 in
set_option maxHeartbeats 4000000 in
theorem e_X8_remember_11 (l1 : Int32) (μ : mM) : r_X8_remember_11 l1 μ = (if l1 < 4125 then (ck 5225 ((825 + l1) + 275) (ck 5225 (825 + l1) (wr (mm_up μ 50 0 (Int32.toNatClampNeg (825 + l1)) (μ 50 0 (Int32.toNatClampNeg ((825 + l1) + 275)))) (fun m2 => r_X8_remember_11 (l1 + 1) m2)))) else (wr (mm_up μ 8 0 3 ((μ 8 0 3) - 1)) (fun m3 => (Option.bind (f_X8_copy [vr 8 0, vi 0, vi (825 + (275 * (m3 8 0 3)))] m3) (fun q4 => (wr (mm_up q4.2 8 0 3 ((q4.2 8 0 3) + 1)) (fun m5 => some (0, m5)))))))) := by
  refine (show r_X8_remember_11 l1 μ = mm_run E_X8_remember 8 0 cX8_remember (11, [vr 8 0, vi l1], [], μ) from rfl).trans ?_
  refine (R_iload_n dX8_remember_11 rfl).trans ?_
  refine (R_sipush 4125 dX8_remember_12 sipush_4125).trans ?_
  refine (R_icmp 48 dX8_remember_15 rfl).trans (c_ge (fun h1 => ?_) (fun h1 => ?_))
  · refine (R_aload_n dX8_remember_18 rfl (by decide)).trans ?_
    refine (gr_8_7 dX8_remember_19).trans ?_
    refine (R_sipush 825 dX8_remember_22 sipush_825).trans ?_
    refine (R_iload_n dX8_remember_25 rfl).trans ?_
    refine (R_iadd dX8_remember_26).trans ?_
    refine (R_aload_n dX8_remember_27 rfl (by decide)).trans ?_
    refine (gr_8_7 dX8_remember_28).trans ?_
    refine (R_sipush 825 dX8_remember_31 sipush_825).trans ?_
    refine (R_iload_n dX8_remember_34 rfl).trans ?_
    refine (R_iadd dX8_remember_35).trans ?_
    refine (R_sipush 275 dX8_remember_36 sipush_275).trans ?_
    refine (R_iadd dX8_remember_39).trans ?_
    refine (R_iaload dX8_remember_40 as_50).trans (ck_congr ?_)
    refine (R_iastore dX8_remember_41 as_50).trans (ck_congr ?_)
    refine wr_intro (g := fun m => mm_run E_X8_remember 8 0 cX8_remember (42, [vr 8 0, vi l1], [], m)) (fun m2 => ?_)
    refine (R_iinc (ls' := [vr 8 0, vi (l1 + 1)]) 1 dX8_remember_42 rfl iconst_1 (by decide) rfl).trans ?_
    refine (R_goto 11 dX8_remember_45 rfl).trans ?_
    exact rfl
  · refine (R_aload_n dX8_remember_48 rfl (by decide)).trans ?_
    refine (R_dup dX8_remember_49 rfl).trans ?_
    refine (gi_8_115 dX8_remember_50).trans ?_
    refine (R_iconst 1 dX8_remember_53 iconst_1).trans ?_
    refine (R_isub dX8_remember_54).trans ?_
    refine (R_pi dX8_remember_55 ft_8_115 fs_8_3).trans ?_
    refine wr_intro (g := fun m => mm_run E_X8_remember 8 0 cX8_remember (58, [vr 8 0, vi l1], [], m)) (fun m3 => ?_)
    refine (R_aload_n dX8_remember_58 rfl (by decide)).trans ?_
    refine (R_iconst 0 dX8_remember_59 iconst_0).trans ?_
    refine (R_sipush 825 dX8_remember_60 sipush_825).trans ?_
    refine (R_sipush 275 dX8_remember_63 sipush_275).trans ?_
    refine (R_aload_n dX8_remember_66 rfl (by decide)).trans ?_
    refine (gi_8_115 dX8_remember_67).trans ?_
    refine (R_imul dX8_remember_70).trans ?_
    refine (R_iadd dX8_remember_71).trans ?_
    refine (R_cv_v (as := [vi 0, vi (825 + (275 * (m3 8 0 3)))]) (rest := []) dX8_remember_72 mt_8_150 qp_80 qr_80 (E_X8_remember_80) rfl rfl rfl (Nat.le_of_ble_eq_true rfl)).trans (mm_bind (fun q4 => ?_))
    refine (R_aload_n dX8_remember_75 rfl (by decide)).trans ?_
    refine (R_dup dX8_remember_76 rfl).trans ?_
    refine (gi_8_115 dX8_remember_77).trans ?_
    refine (R_iconst 1 dX8_remember_80 iconst_1).trans ?_
    refine (R_iadd dX8_remember_81).trans ?_
    refine (R_pi dX8_remember_82 ft_8_115 fs_8_3).trans ?_
    refine wr_intro (g := fun m => mm_run E_X8_remember 8 0 cX8_remember (85, [vr 8 0, vi l1], [], m)) (fun m5 => ?_)
    exact R_return dX8_remember_85 rfl
noncomputable def E_X8_isRoomFor : mE := fun k => if k = 100 then f_X8_sortOf else fun _ _ => none
theorem E_X8_isRoomFor_100 : E_X8_isRoomFor 100 = f_X8_sortOf := if_pos rfl
noncomputable def f_X8_isRoomFor : List mV → mM → Option mR := mm_fn E_X8_isRoomFor 8 2 3 cX8_isRoomFor
theorem k_X8_isRoomFor (l : Launch) : mm_OK l 111 f_X8_isRoomFor := mm_fn_ok l 111 8 E_X8_isRoomFor (by decide) rfl (by decide) (by
  intro k as μ q h
  by_cases h0 : k = 100
  · subst h0
    exact ⟨by rw [E_X8_isRoomFor_100]; exact k_X8_sortOf l, by decide, by decide, by decide⟩
  have e : E_X8_isRoomFor k = fun _ _ => none := (if_neg h0).trans (rfl)
  rw [e] at h
  cases h)
set_option maxRecDepth 100000 in
set_option maxHeartbeats 4000000 in
theorem e_X8_isRoomFor (l1 : Int32) (l2 : Int32) (μ : mM) : f_X8_isRoomFor [vr 8 0, vi l1, vi l2] μ = (if l1 = 4 then (ck 5225 57 (if μ 50 0 (Int32.toNatClampNeg 57) < 24 then (ck 5225 82 (if μ 50 0 (Int32.toNatClampNeg 82) < 48 then some (1, μ) else (Option.bind (f_X8_sortOf [vr 8 0, vi l1, vi l2] μ) (fun q4 => (if q4.1 = (-1) then some (0, q4.2) else some (1, q4.2)))))) else some (0, μ))) else (ck 5225 8 (if μ 50 0 (Int32.toNatClampNeg 8) < 24 then (ck 5225 82 (if μ 50 0 (Int32.toNatClampNeg 82) < 48 then some (1, μ) else (Option.bind (f_X8_sortOf [vr 8 0, vi l1, vi l2] μ) (fun q8 => (if q8.1 = (-1) then some (0, q8.2) else some (1, q8.2)))))) else some (0, μ)))) := by
  refine (show f_X8_isRoomFor [vr 8 0, vi l1, vi l2] μ = mm_run E_X8_isRoomFor 8 2 cX8_isRoomFor (0, [vr 8 0, vi l1, vi l2], [], μ) from rfl).trans ?_
  refine (R_iload_n dX8_isRoomFor_0 rfl).trans ?_
  refine (R_iconst 4 dX8_isRoomFor_1 iconst_4).trans ?_
  refine (R_icmp 15 dX8_isRoomFor_2 rfl).trans (c_ne (fun h1 => ?_) (fun h1 => ?_))
  · refine (R_aload_n dX8_isRoomFor_5 rfl (by decide)).trans ?_
    refine (gr_8_7 dX8_isRoomFor_6).trans ?_
    refine (R_bipush 57 dX8_isRoomFor_9 bipush_57).trans ?_
    refine (R_iaload dX8_isRoomFor_11 as_50).trans (ck_congr ?_)
    refine (R_goto 22 dX8_isRoomFor_12 rfl).trans ?_
    refine (R_bipush 24 dX8_isRoomFor_22 bipush_24).trans ?_
    refine (R_icmp 53 dX8_isRoomFor_24 rfl).trans (c_ge (fun h2 => ?_) (fun h2 => ?_))
    · refine (R_aload_n dX8_isRoomFor_27 rfl (by decide)).trans ?_
      refine (gr_8_7 dX8_isRoomFor_28).trans ?_
      refine (R_bipush 82 dX8_isRoomFor_31 bipush_82).trans ?_
      refine (R_iaload dX8_isRoomFor_33 as_50).trans (ck_congr ?_)
      refine (R_bipush 48 dX8_isRoomFor_34 bipush_48).trans ?_
      refine (R_icmp 49 dX8_isRoomFor_36 rfl).trans (c_lt (fun h3 => ?_) (fun h3 => ?_))
      · refine (R_iconst 1 dX8_isRoomFor_49 iconst_1).trans ?_
        refine (R_goto 54 dX8_isRoomFor_50 rfl).trans ?_
        exact R_zreturn dX8_isRoomFor_54 (by decide) (by decide)
      · refine (R_aload_n dX8_isRoomFor_39 rfl (by decide)).trans ?_
        refine (R_iload_n dX8_isRoomFor_40 rfl).trans ?_
        refine (R_iload_n dX8_isRoomFor_41 rfl).trans ?_
        refine (R_cv_i (as := [vi l1, vi l2]) (rest := []) dX8_isRoomFor_42 mt_8_119 qp_100 qr_100 (E_X8_isRoomFor_100) rfl rfl rfl (Nat.le_of_ble_eq_true rfl)).trans (mm_bind (fun q4 => ?_))
        refine (R_iconst (-1) dX8_isRoomFor_45 iconst_m1).trans ?_
        refine (R_icmp 53 dX8_isRoomFor_46 rfl).trans (c_eq (fun h5 => ?_) (fun h5 => ?_))
        · refine (R_iconst 0 dX8_isRoomFor_53 iconst_0).trans ?_
          exact R_zreturn dX8_isRoomFor_54 (by decide) (by decide)
        · refine (R_iconst 1 dX8_isRoomFor_49 iconst_1).trans ?_
          refine (R_goto 54 dX8_isRoomFor_50 rfl).trans ?_
          exact R_zreturn dX8_isRoomFor_54 (by decide) (by decide)
    · refine (R_iconst 0 dX8_isRoomFor_53 iconst_0).trans ?_
      exact R_zreturn dX8_isRoomFor_54 (by decide) (by decide)
  · refine (R_aload_n dX8_isRoomFor_15 rfl (by decide)).trans ?_
    refine (gr_8_7 dX8_isRoomFor_16).trans ?_
    refine (R_bipush 8 dX8_isRoomFor_19 bipush_8).trans ?_
    refine (R_iaload dX8_isRoomFor_21 as_50).trans (ck_congr ?_)
    refine (R_bipush 24 dX8_isRoomFor_22 bipush_24).trans ?_
    refine (R_icmp 53 dX8_isRoomFor_24 rfl).trans (c_ge (fun h6 => ?_) (fun h6 => ?_))
    · refine (R_aload_n dX8_isRoomFor_27 rfl (by decide)).trans ?_
      refine (gr_8_7 dX8_isRoomFor_28).trans ?_
      refine (R_bipush 82 dX8_isRoomFor_31 bipush_82).trans ?_
      refine (R_iaload dX8_isRoomFor_33 as_50).trans (ck_congr ?_)
      refine (R_bipush 48 dX8_isRoomFor_34 bipush_48).trans ?_
      refine (R_icmp 49 dX8_isRoomFor_36 rfl).trans (c_lt (fun h7 => ?_) (fun h7 => ?_))
      · refine (R_iconst 1 dX8_isRoomFor_49 iconst_1).trans ?_
        refine (R_goto 54 dX8_isRoomFor_50 rfl).trans ?_
        exact R_zreturn dX8_isRoomFor_54 (by decide) (by decide)
      · refine (R_aload_n dX8_isRoomFor_39 rfl (by decide)).trans ?_
        refine (R_iload_n dX8_isRoomFor_40 rfl).trans ?_
        refine (R_iload_n dX8_isRoomFor_41 rfl).trans ?_
        refine (R_cv_i (as := [vi l1, vi l2]) (rest := []) dX8_isRoomFor_42 mt_8_119 qp_100 qr_100 (E_X8_isRoomFor_100) rfl rfl rfl (Nat.le_of_ble_eq_true rfl)).trans (mm_bind (fun q8 => ?_))
        refine (R_iconst (-1) dX8_isRoomFor_45 iconst_m1).trans ?_
        refine (R_icmp 53 dX8_isRoomFor_46 rfl).trans (c_eq (fun h9 => ?_) (fun h9 => ?_))
        · refine (R_iconst 0 dX8_isRoomFor_53 iconst_0).trans ?_
          exact R_zreturn dX8_isRoomFor_54 (by decide) (by decide)
        · refine (R_iconst 1 dX8_isRoomFor_49 iconst_1).trans ?_
          refine (R_goto 54 dX8_isRoomFor_50 rfl).trans ?_
          exact R_zreturn dX8_isRoomFor_54 (by decide) (by decide)
    · refine (R_iconst 0 dX8_isRoomFor_53 iconst_0).trans ?_
      exact R_zreturn dX8_isRoomFor_54 (by decide) (by decide)
