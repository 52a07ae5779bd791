noncomputable def E_X7_told : mE := fun k => if k = 72 then f_X7_pairUp else if k = 28 then f_X5_leastPlay else if k = 29 then f_X5_greatestPlay else if k = 21 then f_X5_read else if k = 31 then f_X5_ease else if k = 32 then f_X5_sizeOfOneMore else if k = 12 then f_X4_narrow else if k = 16 then f_X4_count else if k = 18 then f_X4_leastSize else if k = 19 then f_X4_greatestSize else if k = 20 then f_X4_shaftToTry else fun _ _ => none
theorem E_X7_told_72 : E_X7_told 72 = f_X7_pairUp := if_pos rfl
theorem E_X7_told_28 : E_X7_told 28 = f_X5_leastPlay := (if_neg (by decide)).trans (if_pos rfl)
theorem E_X7_told_29 : E_X7_told 29 = f_X5_greatestPlay := (if_neg (by decide)).trans ((if_neg (by decide)).trans (if_pos rfl))
theorem E_X7_told_21 : E_X7_told 21 = f_X5_read := (if_neg (by decide)).trans ((if_neg (by decide)).trans ((if_neg (by decide)).trans (if_pos rfl)))
theorem E_X7_told_31 : E_X7_told 31 = f_X5_ease := (if_neg (by decide)).trans ((if_neg (by decide)).trans ((if_neg (by decide)).trans ((if_neg (by decide)).trans (if_pos rfl))))
theorem E_X7_told_32 : E_X7_told 32 = f_X5_sizeOfOneMore := (if_neg (by decide)).trans ((if_neg (by decide)).trans ((if_neg (by decide)).trans ((if_neg (by decide)).trans ((if_neg (by decide)).trans (if_pos rfl)))))
theorem E_X7_told_12 : E_X7_told 12 = f_X4_narrow := (if_neg (by decide)).trans ((if_neg (by decide)).trans ((if_neg (by decide)).trans ((if_neg (by decide)).trans ((if_neg (by decide)).trans ((if_neg (by decide)).trans (if_pos rfl))))))
theorem E_X7_told_16 : E_X7_told 16 = f_X4_count := (if_neg (by decide)).trans ((if_neg (by decide)).trans ((if_neg (by decide)).trans ((if_neg (by decide)).trans ((if_neg (by decide)).trans ((if_neg (by decide)).trans ((if_neg (by decide)).trans (if_pos rfl)))))))
theorem E_X7_told_18 : E_X7_told 18 = f_X4_leastSize := (if_neg (by decide)).trans ((if_neg (by decide)).trans ((if_neg (by decide)).trans ((if_neg (by decide)).trans ((if_neg (by decide)).trans ((if_neg (by decide)).trans ((if_neg (by decide)).trans ((if_neg (by decide)).trans (if_pos rfl))))))))
theorem E_X7_told_19 : E_X7_told 19 = f_X4_greatestSize := (if_neg (by decide)).trans ((if_neg (by decide)).trans ((if_neg (by decide)).trans ((if_neg (by decide)).trans ((if_neg (by decide)).trans ((if_neg (by decide)).trans ((if_neg (by decide)).trans ((if_neg (by decide)).trans ((if_neg (by decide)).trans (if_pos rfl)))))))))
theorem E_X7_told_20 : E_X7_told 20 = f_X4_shaftToTry := (if_neg (by decide)).trans ((if_neg (by decide)).trans ((if_neg (by decide)).trans ((if_neg (by decide)).trans ((if_neg (by decide)).trans ((if_neg (by decide)).trans ((if_neg (by decide)).trans ((if_neg (by decide)).trans ((if_neg (by decide)).trans ((if_neg (by decide)).trans (if_pos rfl))))))))))
noncomputable def f_X7_told : List mV → mM → Option mR := mm_fn E_X7_told 7 1 2 cX7_told
theorem k_X7_told (l : Launch) : mm_OK l 49 f_X7_told := mm_fn_ok l 49 7 E_X7_told (by decide) rfl (by decide) (by
  intro k as μ q h
  by_cases h0 : k = 72
  · subst h0
    exact ⟨by rw [E_X7_told_72]; exact k_X7_pairUp l, by decide, by decide, by decide⟩
  by_cases h1 : k = 28
  · subst h1
    exact ⟨by rw [E_X7_told_28]; exact k_X5_leastPlay l, by decide, by decide, by decide⟩
  by_cases h2 : k = 29
  · subst h2
    exact ⟨by rw [E_X7_told_29]; exact k_X5_greatestPlay l, by decide, by decide, by decide⟩
  by_cases h3 : k = 21
  · subst h3
    exact ⟨by rw [E_X7_told_21]; exact k_X5_read l, by decide, by decide, by decide⟩
  by_cases h4 : k = 31
  · subst h4
    exact ⟨by rw [E_X7_told_31]; exact k_X5_ease l, by decide, by decide, by decide⟩
  by_cases h5 : k = 32
  · subst h5
    exact ⟨by rw [E_X7_told_32]; exact k_X5_sizeOfOneMore l, by decide, by decide, by decide⟩
  by_cases h6 : k = 12
  · subst h6
    exact ⟨by rw [E_X7_told_12]; exact k_X4_narrow l, by decide, by decide, by decide⟩
  by_cases h7 : k = 16
  · subst h7
    exact ⟨by rw [E_X7_told_16]; exact k_X4_count l, by decide, by decide, by decide⟩
  by_cases h8 : k = 18
  · subst h8
    exact ⟨by rw [E_X7_told_18]; exact k_X4_leastSize l, by decide, by decide, by decide⟩
  by_cases h9 : k = 19
  · subst h9
    exact ⟨by rw [E_X7_told_19]; exact k_X4_greatestSize l, by decide, by decide, by decide⟩
  by_cases h10 : k = 20
  · subst h10
    exact ⟨by rw [E_X7_told_20]; exact k_X4_shaftToTry l, by decide, by decide, by decide⟩
  have e : E_X7_told k = fun _ _ => none := (if_neg h0).trans ((if_neg h1).trans ((if_neg h2).trans ((if_neg h3).trans ((if_neg h4).trans ((if_neg h5).trans ((if_neg h6).trans ((if_neg h7).trans ((if_neg h8).trans ((if_neg h9).trans ((if_neg h10).trans (rfl)))))))))))
  rw [e] at h
  cases h)
set_option maxRecDepth 100000 in
set_option maxHeartbeats 4000000 in
theorem e_X7_told (l1 : Int32) (μ : mM) : f_X7_told [vr 7 0, vi l1] μ = (if l1 = 0 then some (μ 6 0 6, μ) else (if l1 = 1 then some (μ 6 0 7, μ) else (if l1 = 2 then some (μ 6 0 8, μ) else (if l1 = 3 then (Option.bind (f_X7_pairUp [vr 7 0] μ) (fun q5 => some (q5.1, q5.2))) else (if l1 = 4 then (Option.bind (f_X7_pairUp [vr 7 0] μ) (fun q7 => some ((μ 6 0 6) - q7.1, q7.2))) else (if l1 = 5 then (Option.bind (f_X7_pairUp [vr 7 0] μ) (fun q9 => some ((μ 6 0 7) - q9.1, q9.2))) else (if l1 = 6 then (Option.bind (f_X7_pairUp [vr 7 0] μ) (fun q11 => (Option.bind (f_X5_leastPlay [vr 5 0] q11.2) (fun q12 => some (q12.1, q12.2))))) else (if l1 = 7 then (Option.bind (f_X7_pairUp [vr 7 0] μ) (fun q14 => (Option.bind (f_X5_greatestPlay [vr 5 0] q14.2) (fun q15 => some (q15.1, q15.2))))) else (if l1 = 8 then (Option.bind (f_X5_read [vr 5 0, vr 6 0] μ) (fun q17 => (Option.bind (f_X5_ease [vr 5 0] q17.2) (fun q18 => some (q18.1, q18.2))))) else (if l1 = 9 then (Option.bind (f_X5_read [vr 5 0, vr 6 0] μ) (fun q20 => (Option.bind (f_X5_sizeOfOneMore [vr 5 0] q20.2) (fun q21 => some (q21.1, q21.2))))) else (if l1 = 10 then some (μ 4 0 4, μ) else (if l1 = 11 then (Option.bind (f_X4_narrow [vr 4 0, vr 6 0] μ) (fun q24 => (Option.bind (f_X4_count [vr 4 0] q24.2) (fun q25 => some (q25.1, q25.2))))) else (if l1 = 12 then (Option.bind (f_X4_narrow [vr 4 0, vr 6 0] μ) (fun q27 => (Option.bind (f_X4_leastSize [vr 4 0] q27.2) (fun q28 => some (q28.1, q28.2))))) else (if l1 = 13 then (Option.bind (f_X4_narrow [vr 4 0, vr 6 0] μ) (fun q30 => (Option.bind (f_X4_greatestSize [vr 4 0] q30.2) (fun q31 => some (q31.1, q31.2))))) else (if l1 = 14 then (Option.bind (f_X4_narrow [vr 4 0, vr 6 0] μ) (fun q33 => (Option.bind (f_X4_shaftToTry [vr 4 0, vr 6 0] q33.2) (fun q34 => some (q34.1, q34.2))))) else (if l1 = 15 then some (μ 3 0 2, μ) else some ((-1000000002), μ))))))))))))))))) := by
  refine (show f_X7_told [vr 7 0, vi l1] μ = mm_run E_X7_told 7 1 cX7_told (0, [vr 7 0, vi l1], [], μ) from rfl).trans ?_
  refine (R_iload_n dX7_told_0 rfl).trans ?_
  refine mm_ite (c := l1 = 0) (fun h1 => ?_) (fun h1 => ?_)
  · refine (R_switch dX7_told_1 (sw_in 80 h1 rfl rfl rfl rfl)).trans ?_
    refine (R_aload_n dX7_told_80 rfl (by decide)).trans ?_
    refine (gr_7_10 dX7_told_81).trans ?_
    refine (gi_7_62 dX7_told_84).trans ?_
    exact R_ireturn dX7_told_87 rfl
  refine mm_ite (c := l1 = 1) (fun h2 => ?_) (fun h2 => ?_)
  · refine (R_switch dX7_told_1 (sw_in 88 h2 rfl rfl rfl rfl)).trans ?_
    refine (R_aload_n dX7_told_88 rfl (by decide)).trans ?_
    refine (gr_7_10 dX7_told_89).trans ?_
    refine (gi_7_65 dX7_told_92).trans ?_
    exact R_ireturn dX7_told_95 rfl
  refine mm_ite (c := l1 = 2) (fun h3 => ?_) (fun h3 => ?_)
  · refine (R_switch dX7_told_1 (sw_in 96 h3 rfl rfl rfl rfl)).trans ?_
    refine (R_aload_n dX7_told_96 rfl (by decide)).trans ?_
    refine (gr_7_10 dX7_told_97).trans ?_
    refine (gi_7_68 dX7_told_100).trans ?_
    exact R_ireturn dX7_told_103 rfl
  refine mm_ite (c := l1 = 3) (fun h4 => ?_) (fun h4 => ?_)
  · refine (R_switch dX7_told_1 (sw_in 104 h4 rfl rfl rfl rfl)).trans ?_
    refine (R_aload_n dX7_told_104 rfl (by decide)).trans ?_
    refine (R_cv_i (as := []) (rest := []) dX7_told_105 mt_7_71 qp_72 qr_72 (E_X7_told_72) rfl rfl rfl (Nat.le_of_ble_eq_true rfl)).trans (mm_bind (fun q5 => ?_))
    exact R_ireturn dX7_told_108 rfl
  refine mm_ite (c := l1 = 4) (fun h6 => ?_) (fun h6 => ?_)
  · refine (R_switch dX7_told_1 (sw_in 109 h6 rfl rfl rfl rfl)).trans ?_
    refine (R_aload_n dX7_told_109 rfl (by decide)).trans ?_
    refine (gr_7_10 dX7_told_110).trans ?_
    refine (gi_7_62 dX7_told_113).trans ?_
    refine (R_aload_n dX7_told_116 rfl (by decide)).trans ?_
    refine (R_cv_i (as := []) (rest := [vi (μ 6 0 6)]) dX7_told_117 mt_7_71 qp_72 qr_72 (E_X7_told_72) rfl rfl rfl (Nat.le_of_ble_eq_true rfl)).trans (mm_bind (fun q7 => ?_))
    refine (R_isub dX7_told_120).trans ?_
    exact R_ireturn dX7_told_121 rfl
  refine mm_ite (c := l1 = 5) (fun h8 => ?_) (fun h8 => ?_)
  · refine (R_switch dX7_told_1 (sw_in 122 h8 rfl rfl rfl rfl)).trans ?_
    refine (R_aload_n dX7_told_122 rfl (by decide)).trans ?_
    refine (gr_7_10 dX7_told_123).trans ?_
    refine (gi_7_65 dX7_told_126).trans ?_
    refine (R_aload_n dX7_told_129 rfl (by decide)).trans ?_
    refine (R_cv_i (as := []) (rest := [vi (μ 6 0 7)]) dX7_told_130 mt_7_71 qp_72 qr_72 (E_X7_told_72) rfl rfl rfl (Nat.le_of_ble_eq_true rfl)).trans (mm_bind (fun q9 => ?_))
    refine (R_isub dX7_told_133).trans ?_
    exact R_ireturn dX7_told_134 rfl
  refine mm_ite (c := l1 = 6) (fun h10 => ?_) (fun h10 => ?_)
  · refine (R_switch dX7_told_1 (sw_in 135 h10 rfl rfl rfl rfl)).trans ?_
    refine (R_aload_n dX7_told_135 rfl (by decide)).trans ?_
    refine (R_cv_i (as := []) (rest := []) dX7_told_136 mt_7_71 qp_72 qr_72 (E_X7_told_72) rfl rfl rfl (Nat.le_of_ble_eq_true rfl)).trans (mm_bind (fun q11 => ?_))
    refine (R_pop dX7_told_139 rfl).trans ?_
    refine (R_aload_n dX7_told_140 rfl (by decide)).trans ?_
    refine (gr_7_26 dX7_told_141).trans ?_
    refine (R_cv_i (as := []) (rest := []) dX7_told_144 mt_7_75 qp_28 qr_28 (E_X7_told_28) rfl rfl rfl (Nat.le_of_ble_eq_true rfl)).trans (mm_bind (fun q12 => ?_))
    exact R_ireturn dX7_told_147 rfl
  refine mm_ite (c := l1 = 7) (fun h13 => ?_) (fun h13 => ?_)
  · refine (R_switch dX7_told_1 (sw_in 148 h13 rfl rfl rfl rfl)).trans ?_
    refine (R_aload_n dX7_told_148 rfl (by decide)).trans ?_
    refine (R_cv_i (as := []) (rest := []) dX7_told_149 mt_7_71 qp_72 qr_72 (E_X7_told_72) rfl rfl rfl (Nat.le_of_ble_eq_true rfl)).trans (mm_bind (fun q14 => ?_))
    refine (R_pop dX7_told_152 rfl).trans ?_
    refine (R_aload_n dX7_told_153 rfl (by decide)).trans ?_
    refine (gr_7_26 dX7_told_154).trans ?_
    refine (R_cv_i (as := []) (rest := []) dX7_told_157 mt_7_78 qp_29 qr_29 (E_X7_told_29) rfl rfl rfl (Nat.le_of_ble_eq_true rfl)).trans (mm_bind (fun q15 => ?_))
    exact R_ireturn dX7_told_160 rfl
  refine mm_ite (c := l1 = 8) (fun h16 => ?_) (fun h16 => ?_)
  · refine (R_switch dX7_told_1 (sw_in 161 h16 rfl rfl rfl rfl)).trans ?_
    refine (R_aload_n dX7_told_161 rfl (by decide)).trans ?_
    refine (gr_7_26 dX7_told_162).trans ?_
    refine (R_aload_n dX7_told_165 rfl (by decide)).trans ?_
    refine (gr_7_10 dX7_told_166).trans ?_
    refine (R_cv_v (as := [vr 6 0]) (rest := []) dX7_told_169 mt_7_81 qp_21 qr_21 (E_X7_told_21) rfl rfl rfl (Nat.le_of_ble_eq_true rfl)).trans (mm_bind (fun q17 => ?_))
    refine (R_aload_n dX7_told_172 rfl (by decide)).trans ?_
    refine (gr_7_26 dX7_told_173).trans ?_
    refine (R_cv_i (as := []) (rest := []) dX7_told_176 mt_7_85 qp_31 qr_31 (E_X7_told_31) rfl rfl rfl (Nat.le_of_ble_eq_true rfl)).trans (mm_bind (fun q18 => ?_))
    exact R_ireturn dX7_told_179 rfl
  refine mm_ite (c := l1 = 9) (fun h19 => ?_) (fun h19 => ?_)
  · refine (R_switch dX7_told_1 (sw_in 180 h19 rfl rfl rfl rfl)).trans ?_
    refine (R_aload_n dX7_told_180 rfl (by decide)).trans ?_
    refine (gr_7_26 dX7_told_181).trans ?_
    refine (R_aload_n dX7_told_184 rfl (by decide)).trans ?_
    refine (gr_7_10 dX7_told_185).trans ?_
    refine (R_cv_v (as := [vr 6 0]) (rest := []) dX7_told_188 mt_7_81 qp_21 qr_21 (E_X7_told_21) rfl rfl rfl (Nat.le_of_ble_eq_true rfl)).trans (mm_bind (fun q20 => ?_))
    refine (R_aload_n dX7_told_191 rfl (by decide)).trans ?_
    refine (gr_7_26 dX7_told_192).trans ?_
    refine (R_cv_i (as := []) (rest := []) dX7_told_195 mt_7_88 qp_32 qr_32 (E_X7_told_32) rfl rfl rfl (Nat.le_of_ble_eq_true rfl)).trans (mm_bind (fun q21 => ?_))
    exact R_ireturn dX7_told_198 rfl
  refine mm_ite (c := l1 = 10) (fun h22 => ?_) (fun h22 => ?_)
  · refine (R_switch dX7_told_1 (sw_in 199 h22 rfl rfl rfl rfl)).trans ?_
    refine (R_aload_n dX7_told_199 rfl (by decide)).trans ?_
    refine (gr_7_47 dX7_told_200).trans ?_
    refine (gi_7_91 dX7_told_203).trans ?_
    exact R_ireturn dX7_told_206 rfl
  refine mm_ite (c := l1 = 11) (fun h23 => ?_) (fun h23 => ?_)
  · refine (R_switch dX7_told_1 (sw_in 207 h23 rfl rfl rfl rfl)).trans ?_
    refine (R_aload_n dX7_told_207 rfl (by decide)).trans ?_
    refine (gr_7_47 dX7_told_208).trans ?_
    refine (R_aload_n dX7_told_211 rfl (by decide)).trans ?_
    refine (gr_7_10 dX7_told_212).trans ?_
    refine (R_cv_v (as := [vr 6 0]) (rest := []) dX7_told_215 mt_7_94 qp_12 qr_12 (E_X7_told_12) rfl rfl rfl (Nat.le_of_ble_eq_true rfl)).trans (mm_bind (fun q24 => ?_))
    refine (R_aload_n dX7_told_218 rfl (by decide)).trans ?_
    refine (gr_7_47 dX7_told_219).trans ?_
    refine (R_cv_i (as := []) (rest := []) dX7_told_222 mt_7_97 qp_16 qr_16 (E_X7_told_16) rfl rfl rfl (Nat.le_of_ble_eq_true rfl)).trans (mm_bind (fun q25 => ?_))
    exact R_ireturn dX7_told_225 rfl
  refine mm_ite (c := l1 = 12) (fun h26 => ?_) (fun h26 => ?_)
  · refine (R_switch dX7_told_1 (sw_in 226 h26 rfl rfl rfl rfl)).trans ?_
    refine (R_aload_n dX7_told_226 rfl (by decide)).trans ?_
    refine (gr_7_47 dX7_told_227).trans ?_
    refine (R_aload_n dX7_told_230 rfl (by decide)).trans ?_
    refine (gr_7_10 dX7_told_231).trans ?_
    refine (R_cv_v (as := [vr 6 0]) (rest := []) dX7_told_234 mt_7_94 qp_12 qr_12 (E_X7_told_12) rfl rfl rfl (Nat.le_of_ble_eq_true rfl)).trans (mm_bind (fun q27 => ?_))
    refine (R_aload_n dX7_told_237 rfl (by decide)).trans ?_
    refine (gr_7_47 dX7_told_238).trans ?_
    refine (R_cv_i (as := []) (rest := []) dX7_told_241 mt_7_100 qp_18 qr_18 (E_X7_told_18) rfl rfl rfl (Nat.le_of_ble_eq_true rfl)).trans (mm_bind (fun q28 => ?_))
    exact R_ireturn dX7_told_244 rfl
  refine mm_ite (c := l1 = 13) (fun h29 => ?_) (fun h29 => ?_)
  · refine (R_switch dX7_told_1 (sw_in 245 h29 rfl rfl rfl rfl)).trans ?_
    refine (R_aload_n dX7_told_245 rfl (by decide)).trans ?_
    refine (gr_7_47 dX7_told_246).trans ?_
    refine (R_aload_n dX7_told_249 rfl (by decide)).trans ?_
    refine (gr_7_10 dX7_told_250).trans ?_
    refine (R_cv_v (as := [vr 6 0]) (rest := []) dX7_told_253 mt_7_94 qp_12 qr_12 (E_X7_told_12) rfl rfl rfl (Nat.le_of_ble_eq_true rfl)).trans (mm_bind (fun q30 => ?_))
    refine (R_aload_n dX7_told_256 rfl (by decide)).trans ?_
    refine (gr_7_47 dX7_told_257).trans ?_
    refine (R_cv_i (as := []) (rest := []) dX7_told_260 mt_7_103 qp_19 qr_19 (E_X7_told_19) rfl rfl rfl (Nat.le_of_ble_eq_true rfl)).trans (mm_bind (fun q31 => ?_))
    exact R_ireturn dX7_told_263 rfl
  refine mm_ite (c := l1 = 14) (fun h32 => ?_) (fun h32 => ?_)
  · refine (R_switch dX7_told_1 (sw_in 264 h32 rfl rfl rfl rfl)).trans ?_
    refine (R_aload_n dX7_told_264 rfl (by decide)).trans ?_
    refine (gr_7_47 dX7_told_265).trans ?_
    refine (R_aload_n dX7_told_268 rfl (by decide)).trans ?_
    refine (gr_7_10 dX7_told_269).trans ?_
    refine (R_cv_v (as := [vr 6 0]) (rest := []) dX7_told_272 mt_7_94 qp_12 qr_12 (E_X7_told_12) rfl rfl rfl (Nat.le_of_ble_eq_true rfl)).trans (mm_bind (fun q33 => ?_))
    refine (R_aload_n dX7_told_275 rfl (by decide)).trans ?_
    refine (gr_7_47 dX7_told_276).trans ?_
    refine (R_aload_n dX7_told_279 rfl (by decide)).trans ?_
    refine (gr_7_10 dX7_told_280).trans ?_
    refine (R_cv_i (as := [vr 6 0]) (rest := []) dX7_told_283 mt_7_106 qp_20 qr_20 (E_X7_told_20) rfl rfl rfl (Nat.le_of_ble_eq_true rfl)).trans (mm_bind (fun q34 => ?_))
    exact R_ireturn dX7_told_286 rfl
  refine mm_ite (c := l1 = 15) (fun h35 => ?_) (fun h35 => ?_)
  · refine (R_switch dX7_told_1 (sw_in 287 h35 rfl rfl rfl rfl)).trans ?_
    refine (R_aload_n dX7_told_287 rfl (by decide)).trans ?_
    refine (gr_7_19 dX7_told_288).trans ?_
    refine (gi_7_110 dX7_told_291).trans ?_
    exact R_ireturn dX7_told_294 rfl
  refine (R_switch dX7_told_1 (sw_out 295 (sw_n16 h1 h2 h3 h4 h6 h8 h10 h13 h16 h19 h22 h23 h26 h29 h32 h35) rfl)).trans ?_
  refine (R_ldc dX7_told_295 kt_7_113).trans ?_
  exact R_ireturn dX7_told_297 rfl
noncomputable def E_X7_shaftAt : mE := fun k => if k = 75 then f_X7_isIn else if k = 77 then f_X7_gradeOf else if k = 78 then f_X7_sizeOf else if k = 72 then f_X7_pairUp else if k = 47 then f_X6_begin else if k = 48 then f_X6_end else if k = 36 then f_X6_sortOf else fun _ _ => none
theorem E_X7_shaftAt_75 : E_X7_shaftAt 75 = f_X7_isIn := if_pos rfl
theorem E_X7_shaftAt_77 : E_X7_shaftAt 77 = f_X7_gradeOf := (if_neg (by decide)).trans (if_pos rfl)
theorem E_X7_shaftAt_78 : E_X7_shaftAt 78 = f_X7_sizeOf := (if_neg (by decide)).trans ((if_neg (by decide)).trans (if_pos rfl))
theorem E_X7_shaftAt_72 : E_X7_shaftAt 72 = f_X7_pairUp := (if_neg (by decide)).trans ((if_neg (by decide)).trans ((if_neg (by decide)).trans (if_pos rfl)))
theorem E_X7_shaftAt_47 : E_X7_shaftAt 47 = f_X6_begin := (if_neg (by decide)).trans ((if_neg (by decide)).trans ((if_neg (by decide)).trans ((if_neg (by decide)).trans (if_pos rfl))))
theorem E_X7_shaftAt_48 : E_X7_shaftAt 48 = f_X6_end := (if_neg (by decide)).trans ((if_neg (by decide)).trans ((if_neg (by decide)).trans ((if_neg (by decide)).trans ((if_neg (by decide)).trans (if_pos rfl)))))
theorem E_X7_shaftAt_36 : E_X7_shaftAt 36 = f_X6_sortOf := (if_neg (by decide)).trans ((if_neg (by decide)).trans ((if_neg (by decide)).trans ((if_neg (by decide)).trans ((if_neg (by decide)).trans ((if_neg (by decide)).trans (if_pos rfl))))))
noncomputable def f_X7_shaftAt : List mV → mM → Option mR := mm_fn E_X7_shaftAt 7 1 3 cX7_shaftAt
theorem k_X7_shaftAt (l : Launch) : mm_OK l 50 f_X7_shaftAt := mm_fn_ok l 50 7 E_X7_shaftAt (by decide) rfl (by decide) (by
  intro k as μ q h
  by_cases h0 : k = 75
  · subst h0
    exact ⟨by rw [E_X7_shaftAt_75]; exact k_X7_isIn l, by decide, by decide, by decide⟩
  by_cases h1 : k = 77
  · subst h1
    exact ⟨by rw [E_X7_shaftAt_77]; exact k_X7_gradeOf l, by decide, by decide, by decide⟩
  by_cases h2 : k = 78
  · subst h2
    exact ⟨by rw [E_X7_shaftAt_78]; exact k_X7_sizeOf l, by decide, by decide, by decide⟩
  by_cases h3 : k = 72
  · subst h3
    exact ⟨by rw [E_X7_shaftAt_72]; exact k_X7_pairUp l, by decide, by decide, by decide⟩
  by_cases h4 : k = 47
  · subst h4
    exact ⟨by rw [E_X7_shaftAt_47]; exact k_X6_begin l, by decide, by decide, by decide⟩
  by_cases h5 : k = 48
  · subst h5
    exact ⟨by rw [E_X7_shaftAt_48]; exact k_X6_end l, by decide, by decide, by decide⟩
  by_cases h6 : k = 36
  · subst h6
    exact ⟨by rw [E_X7_shaftAt_36]; exact k_X6_sortOf l, by decide, by decide, by decide⟩
  have e : E_X7_shaftAt k = fun _ _ => none := (if_neg h0).trans ((if_neg h1).trans ((if_neg h2).trans ((if_neg h3).trans ((if_neg h4).trans ((if_neg h5).trans ((if_neg h6).trans (rfl)))))))
  rw [e] at h
  cases h)
set_option maxRecDepth 100000 in
set_option maxHeartbeats 4000000 in
theorem e_X7_shaftAt (l1 : Int32) (l2 : Int32) (μ : mM) : f_X7_shaftAt [vr 7 0, vi l1, vi l2] μ = (Option.bind (f_X7_isIn [vi l1, vi (μ 6 0 6)] μ) (fun q1 => (if q1.1 = 0 then some ((-1000000001), q1.2) else (if l2 = 0 then (ck 24 l1 (Option.bind (f_X7_gradeOf [vi (q1.2 10 0 (Int32.toNatClampNeg l1))] q1.2) (fun q4 => some (q4.1, q4.2)))) else (if l2 = 1 then (ck 24 l1 (Option.bind (f_X7_sizeOf [vi (q1.2 10 0 (Int32.toNatClampNeg l1))] q1.2) (fun q6 => some (q6.1, q6.2)))) else (if l2 = 2 then (Option.bind (f_X7_pairUp [vr 7 0] q1.2) (fun q8 => (ck 24 l1 (some (q8.2 24 0 (Int32.toNatClampNeg l1), q8.2))))) else (if l2 = 3 then (ck 24 l1 (Option.bind (f_X6_begin [vr 6 0, vi (q1.2 10 0 (Int32.toNatClampNeg l1))] q1.2) (fun q10 => some (q10.1, q10.2)))) else (if l2 = 4 then (ck 24 l1 (Option.bind (f_X6_end [vr 6 0, vi (q1.2 10 0 (Int32.toNatClampNeg l1))] q1.2) (fun q12 => some (q12.1, q12.2)))) else (if l2 = 5 then (ck 24 l1 (Option.bind (f_X6_sortOf [vr 6 0, vi (q1.2 10 0 (Int32.toNatClampNeg l1))] q1.2) (fun q14 => some (q14.1, q14.2)))) else some ((-1000000002), q1.2)))))))))) := by
  refine (show f_X7_shaftAt [vr 7 0, vi l1, vi l2] μ = mm_run E_X7_shaftAt 7 1 cX7_shaftAt (0, [vr 7 0, vi l1, vi l2], [], μ) from rfl).trans ?_
  refine (R_iload_n dX7_shaftAt_0 rfl).trans ?_
  refine (R_aload_n dX7_shaftAt_1 rfl (by decide)).trans ?_
  refine (gr_7_10 dX7_shaftAt_2).trans ?_
  refine (gi_7_62 dX7_shaftAt_5).trans ?_
  refine (R_cs_i (as := [vi l1, vi (μ 6 0 6)]) (rest := []) dX7_shaftAt_8 mt_7_114 (by decide) qp_75 qr_75 (E_X7_shaftAt_75) (Nat.le_of_ble_eq_true rfl) rfl rfl (Nat.le_of_ble_eq_true rfl)).trans (mm_bind (fun q1 => ?_))
  refine (R_ifc 17 dX7_shaftAt_11 rfl).trans (c_ne (fun h2 => ?_) (fun h2 => ?_))
  · refine (R_ldc dX7_shaftAt_14 kt_7_118).trans ?_
    exact R_ireturn dX7_shaftAt_16 rfl
  · refine (R_iload_n dX7_shaftAt_17 rfl).trans ?_
    refine mm_ite (c := l2 = 0) (fun h3 => ?_) (fun h3 => ?_)
    · refine (R_switch dX7_shaftAt_18 (sw_in 56 h3 rfl rfl rfl rfl)).trans ?_
      refine (R_aload_n dX7_shaftAt_56 rfl (by decide)).trans ?_
      refine (gr_7_10 dX7_shaftAt_57).trans ?_
      refine (gr_7_119 dX7_shaftAt_60).trans ?_
      refine (R_iload_n dX7_shaftAt_63 rfl).trans ?_
      refine (R_iaload dX7_shaftAt_64 as_10).trans (ck_congr ?_)
      refine (R_cs_i (as := [vi (q1.2 10 0 (Int32.toNatClampNeg l1))]) (rest := []) dX7_shaftAt_65 mt_7_123 (by decide) qp_77 qr_77 (E_X7_shaftAt_77) (Nat.le_of_ble_eq_true rfl) rfl rfl (Nat.le_of_ble_eq_true rfl)).trans (mm_bind (fun q4 => ?_))
      exact R_ireturn dX7_shaftAt_68 rfl
    refine mm_ite (c := l2 = 1) (fun h5 => ?_) (fun h5 => ?_)
    · refine (R_switch dX7_shaftAt_18 (sw_in 69 h5 rfl rfl rfl rfl)).trans ?_
      refine (R_aload_n dX7_shaftAt_69 rfl (by decide)).trans ?_
      refine (gr_7_10 dX7_shaftAt_70).trans ?_
      refine (gr_7_119 dX7_shaftAt_73).trans ?_
      refine (R_iload_n dX7_shaftAt_76 rfl).trans ?_
      refine (R_iaload dX7_shaftAt_77 as_10).trans (ck_congr ?_)
      refine (R_cs_i (as := [vi (q1.2 10 0 (Int32.toNatClampNeg l1))]) (rest := []) dX7_shaftAt_78 mt_7_127 (by decide) qp_78 qr_78 (E_X7_shaftAt_78) (Nat.le_of_ble_eq_true rfl) rfl rfl (Nat.le_of_ble_eq_true rfl)).trans (mm_bind (fun q6 => ?_))
      exact R_ireturn dX7_shaftAt_81 rfl
    refine mm_ite (c := l2 = 2) (fun h7 => ?_) (fun h7 => ?_)
    · refine (R_switch dX7_shaftAt_18 (sw_in 82 h7 rfl rfl rfl rfl)).trans ?_
      refine (R_aload_n dX7_shaftAt_82 rfl (by decide)).trans ?_
      refine (R_cv_i (as := []) (rest := []) dX7_shaftAt_83 mt_7_71 qp_72 qr_72 (E_X7_shaftAt_72) rfl rfl rfl (Nat.le_of_ble_eq_true rfl)).trans (mm_bind (fun q8 => ?_))
      refine (R_pop dX7_shaftAt_86 rfl).trans ?_
      refine (R_aload_n dX7_shaftAt_87 rfl (by decide)).trans ?_
      refine (gr_7_26 dX7_shaftAt_88).trans ?_
      refine (gr_7_130 dX7_shaftAt_91).trans ?_
      refine (R_iload_n dX7_shaftAt_94 rfl).trans ?_
      refine (R_iaload dX7_shaftAt_95 as_24).trans (ck_congr ?_)
      exact R_ireturn dX7_shaftAt_96 rfl
    refine mm_ite (c := l2 = 3) (fun h9 => ?_) (fun h9 => ?_)
    · refine (R_switch dX7_shaftAt_18 (sw_in 97 h9 rfl rfl rfl rfl)).trans ?_
      refine (R_aload_n dX7_shaftAt_97 rfl (by decide)).trans ?_
      refine (gr_7_10 dX7_shaftAt_98).trans ?_
      refine (R_aload_n dX7_shaftAt_101 rfl (by decide)).trans ?_
      refine (gr_7_10 dX7_shaftAt_102).trans ?_
      refine (gr_7_119 dX7_shaftAt_105).trans ?_
      refine (R_iload_n dX7_shaftAt_108 rfl).trans ?_
      refine (R_iaload dX7_shaftAt_109 as_10).trans (ck_congr ?_)
      refine (R_cv_i (as := [vi (q1.2 10 0 (Int32.toNatClampNeg l1))]) (rest := []) dX7_shaftAt_110 mt_7_133 qp_47 qr_47 (E_X7_shaftAt_47) rfl rfl rfl (Nat.le_of_ble_eq_true rfl)).trans (mm_bind (fun q10 => ?_))
      exact R_ireturn dX7_shaftAt_113 rfl
    refine mm_ite (c := l2 = 4) (fun h11 => ?_) (fun h11 => ?_)
    · refine (R_switch dX7_shaftAt_18 (sw_in 114 h11 rfl rfl rfl rfl)).trans ?_
      refine (R_aload_n dX7_shaftAt_114 rfl (by decide)).trans ?_
      refine (gr_7_10 dX7_shaftAt_115).trans ?_
      refine (R_aload_n dX7_shaftAt_118 rfl (by decide)).trans ?_
      refine (gr_7_10 dX7_shaftAt_119).trans ?_
      refine (gr_7_119 dX7_shaftAt_122).trans ?_
      refine (R_iload_n dX7_shaftAt_125 rfl).trans ?_
      refine (R_iaload dX7_shaftAt_126 as_10).trans (ck_congr ?_)
      refine (R_cv_i (as := [vi (q1.2 10 0 (Int32.toNatClampNeg l1))]) (rest := []) dX7_shaftAt_127 mt_7_136 qp_48 qr_48 (E_X7_shaftAt_48) rfl rfl rfl (Nat.le_of_ble_eq_true rfl)).trans (mm_bind (fun q12 => ?_))
      exact R_ireturn dX7_shaftAt_130 rfl
    refine mm_ite (c := l2 = 5) (fun h13 => ?_) (fun h13 => ?_)
    · refine (R_switch dX7_shaftAt_18 (sw_in 131 h13 rfl rfl rfl rfl)).trans ?_
      refine (R_aload_n dX7_shaftAt_131 rfl (by decide)).trans ?_
      refine (gr_7_10 dX7_shaftAt_132).trans ?_
      refine (R_aload_n dX7_shaftAt_135 rfl (by decide)).trans ?_
      refine (gr_7_10 dX7_shaftAt_136).trans ?_
      refine (gr_7_119 dX7_shaftAt_139).trans ?_
      refine (R_iload_n dX7_shaftAt_142 rfl).trans ?_
      refine (R_iaload dX7_shaftAt_143 as_10).trans (ck_congr ?_)
      refine (R_cv_i (as := [vi (q1.2 10 0 (Int32.toNatClampNeg l1))]) (rest := []) dX7_shaftAt_144 mt_7_139 qp_36 qr_36 (E_X7_shaftAt_36) rfl rfl rfl (Nat.le_of_ble_eq_true rfl)).trans (mm_bind (fun q14 => ?_))
      exact R_ireturn dX7_shaftAt_147 rfl
    refine (R_switch dX7_shaftAt_18 (sw_out 148 (sw_n6 h3 h5 h7 h9 h11 h13) rfl)).trans ?_
    refine (R_ldc dX7_shaftAt_148 kt_7_113).trans ?_
    exact R_ireturn dX7_shaftAt_150 rfl
noncomputable def E_X7_boreAt : mE := fun k => if k = 75 then f_X7_isIn else if k = 78 then f_X7_sizeOf else if k = 72 then f_X7_pairUp else if k = 46 then f_X6_shaftsFittedBy else if k = 36 then f_X6_sortOf else fun _ _ => none
theorem E_X7_boreAt_75 : E_X7_boreAt 75 = f_X7_isIn := if_pos rfl
theorem E_X7_boreAt_78 : E_X7_boreAt 78 = f_X7_sizeOf := (if_neg (by decide)).trans (if_pos rfl)
theorem E_X7_boreAt_72 : E_X7_boreAt 72 = f_X7_pairUp := (if_neg (by decide)).trans ((if_neg (by decide)).trans (if_pos rfl))
theorem E_X7_boreAt_46 : E_X7_boreAt 46 = f_X6_shaftsFittedBy := (if_neg (by decide)).trans ((if_neg (by decide)).trans ((if_neg (by decide)).trans (if_pos rfl)))
theorem E_X7_boreAt_36 : E_X7_boreAt 36 = f_X6_sortOf := (if_neg (by decide)).trans ((if_neg (by decide)).trans ((if_neg (by decide)).trans ((if_neg (by decide)).trans (if_pos rfl))))
noncomputable def f_X7_boreAt : List mV → mM → Option mR := mm_fn E_X7_boreAt 7 1 3 cX7_boreAt
theorem k_X7_boreAt (l : Launch) : mm_OK l 51 f_X7_boreAt := mm_fn_ok l 51 7 E_X7_boreAt (by decide) rfl (by decide) (by
  intro k as μ q h
  by_cases h0 : k = 75
  · subst h0
    exact ⟨by rw [E_X7_boreAt_75]; exact k_X7_isIn l, by decide, by decide, by decide⟩
  by_cases h1 : k = 78
  · subst h1
    exact ⟨by rw [E_X7_boreAt_78]; exact k_X7_sizeOf l, by decide, by decide, by decide⟩
  by_cases h2 : k = 72
  · subst h2
    exact ⟨by rw [E_X7_boreAt_72]; exact k_X7_pairUp l, by decide, by decide, by decide⟩
  by_cases h3 : k = 46
  · subst h3
    exact ⟨by rw [E_X7_boreAt_46]; exact k_X6_shaftsFittedBy l, by decide, by decide, by decide⟩
  by_cases h4 : k = 36
  · subst h4
    exact ⟨by rw [E_X7_boreAt_36]; exact k_X6_sortOf l, by decide, by decide, by decide⟩
  have e : E_X7_boreAt k = fun _ _ => none := (if_neg h0).trans ((if_neg h1).trans ((if_neg h2).trans ((if_neg h3).trans ((if_neg h4).trans (rfl)))))
  rw [e] at h
  cases h)
set_option maxRecDepth 100000 in
set_option maxHeartbeats 4000000 in
theorem e_X7_boreAt (l1 : Int32) (l2 : Int32) (μ : mM) : f_X7_boreAt [vr 7 0, vi l1, vi l2] μ = (Option.bind (f_X7_isIn [vi l1, vi (μ 6 0 7)] μ) (fun q1 => (if q1.1 = 0 then some ((-1000000001), q1.2) else (if l2 = 0 then (ck 24 l1 (Option.bind (f_X7_sizeOf [vi (q1.2 11 0 (Int32.toNatClampNeg l1))] q1.2) (fun q4 => some (q4.1, q4.2)))) else (if l2 = 1 then (Option.bind (f_X7_pairUp [vr 7 0] q1.2) (fun q6 => (ck 25 l1 (some (q6.2 27 0 (Int32.toNatClampNeg l1), q6.2))))) else (if l2 = 2 then (ck 24 l1 (Option.bind (f_X7_sizeOf [vi (q1.2 11 0 (Int32.toNatClampNeg l1))] q1.2) (fun q8 => (Option.bind (f_X6_shaftsFittedBy [vr 6 0, vi q8.1] q8.2) (fun q9 => some (q9.1, q9.2)))))) else (if l2 = 3 then (ck 24 l1 (Option.bind (f_X6_sortOf [vr 6 0, vi (q1.2 11 0 (Int32.toNatClampNeg l1))] q1.2) (fun q11 => some (q11.1, q11.2)))) else some ((-1000000002), q1.2)))))))) := by
  refine (show f_X7_boreAt [vr 7 0, vi l1, vi l2] μ = mm_run E_X7_boreAt 7 1 cX7_boreAt (0, [vr 7 0, vi l1, vi l2], [], μ) from rfl).trans ?_
  refine (R_iload_n dX7_boreAt_0 rfl).trans ?_
  refine (R_aload_n dX7_boreAt_1 rfl (by decide)).trans ?_
  refine (gr_7_10 dX7_boreAt_2).trans ?_
  refine (gi_7_65 dX7_boreAt_5).trans ?_
  refine (R_cs_i (as := [vi l1, vi (μ 6 0 7)]) (rest := []) dX7_boreAt_8 mt_7_114 (by decide) qp_75 qr_75 (E_X7_boreAt_75) (Nat.le_of_ble_eq_true rfl) rfl rfl (Nat.le_of_ble_eq_true rfl)).trans (mm_bind (fun q1 => ?_))
  refine (R_ifc 17 dX7_boreAt_11 rfl).trans (c_ne (fun h2 => ?_) (fun h2 => ?_))
  · refine (R_ldc dX7_boreAt_14 kt_7_118).trans ?_
    exact R_ireturn dX7_boreAt_16 rfl
  · refine (R_iload_n dX7_boreAt_17 rfl).trans ?_
    refine mm_ite (c := l2 = 0) (fun h3 => ?_) (fun h3 => ?_)
    · refine (R_switch dX7_boreAt_18 (sw_in 48 h3 rfl rfl rfl rfl)).trans ?_
      refine (R_aload_n dX7_boreAt_48 rfl (by decide)).trans ?_
      refine (gr_7_10 dX7_boreAt_49).trans ?_
      refine (gr_7_142 dX7_boreAt_52).trans ?_
      refine (R_iload_n dX7_boreAt_55 rfl).trans ?_
      refine (R_iaload dX7_boreAt_56 as_11).trans (ck_congr ?_)
      refine (R_cs_i (as := [vi (q1.2 11 0 (Int32.toNatClampNeg l1))]) (rest := []) dX7_boreAt_57 mt_7_127 (by decide) qp_78 qr_78 (E_X7_boreAt_78) (Nat.le_of_ble_eq_true rfl) rfl rfl (Nat.le_of_ble_eq_true rfl)).trans (mm_bind (fun q4 => ?_))
      exact R_ireturn dX7_boreAt_60 rfl
    refine mm_ite (c := l2 = 1) (fun h5 => ?_) (fun h5 => ?_)
    · refine (R_switch dX7_boreAt_18 (sw_in 61 h5 rfl rfl rfl rfl)).trans ?_
      refine (R_aload_n dX7_boreAt_61 rfl (by decide)).trans ?_
      refine (R_cv_i (as := []) (rest := []) dX7_boreAt_62 mt_7_71 qp_72 qr_72 (E_X7_boreAt_72) rfl rfl rfl (Nat.le_of_ble_eq_true rfl)).trans (mm_bind (fun q6 => ?_))
      refine (R_pop dX7_boreAt_65 rfl).trans ?_
      refine (R_aload_n dX7_boreAt_66 rfl (by decide)).trans ?_
      refine (gr_7_26 dX7_boreAt_67).trans ?_
      refine (gr_7_145 dX7_boreAt_70).trans ?_
      refine (R_iload_n dX7_boreAt_73 rfl).trans ?_
      refine (R_iaload dX7_boreAt_74 as_27).trans (ck_congr ?_)
      exact R_ireturn dX7_boreAt_75 rfl
    refine mm_ite (c := l2 = 2) (fun h7 => ?_) (fun h7 => ?_)
    · refine (R_switch dX7_boreAt_18 (sw_in 76 h7 rfl rfl rfl rfl)).trans ?_
      refine (R_aload_n dX7_boreAt_76 rfl (by decide)).trans ?_
      refine (gr_7_10 dX7_boreAt_77).trans ?_
      refine (R_aload_n dX7_boreAt_80 rfl (by decide)).trans ?_
      refine (gr_7_10 dX7_boreAt_81).trans ?_
      refine (gr_7_142 dX7_boreAt_84).trans ?_
      refine (R_iload_n dX7_boreAt_87 rfl).trans ?_
      refine (R_iaload dX7_boreAt_88 as_11).trans (ck_congr ?_)
      refine (R_cs_i (as := [vi (q1.2 11 0 (Int32.toNatClampNeg l1))]) (rest := [vr 6 0]) dX7_boreAt_89 mt_7_127 (by decide) qp_78 qr_78 (E_X7_boreAt_78) (Nat.le_of_ble_eq_true rfl) rfl rfl (Nat.le_of_ble_eq_true rfl)).trans (mm_bind (fun q8 => ?_))
      refine (R_cv_i (as := [vi q8.1]) (rest := []) dX7_boreAt_92 mt_7_148 qp_46 qr_46 (E_X7_boreAt_46) rfl rfl rfl (Nat.le_of_ble_eq_true rfl)).trans (mm_bind (fun q9 => ?_))
      exact R_ireturn dX7_boreAt_95 rfl
    refine mm_ite (c := l2 = 3) (fun h10 => ?_) (fun h10 => ?_)
    · refine (R_switch dX7_boreAt_18 (sw_in 96 h10 rfl rfl rfl rfl)).trans ?_
      refine (R_aload_n dX7_boreAt_96 rfl (by decide)).trans ?_
      refine (gr_7_10 dX7_boreAt_97).trans ?_
      refine (R_aload_n dX7_boreAt_100 rfl (by decide)).trans ?_
      refine (gr_7_10 dX7_boreAt_101).trans ?_
      refine (gr_7_142 dX7_boreAt_104).trans ?_
      refine (R_iload_n dX7_boreAt_107 rfl).trans ?_
      refine (R_iaload dX7_boreAt_108 as_11).trans (ck_congr ?_)
      refine (R_cv_i (as := [vi (q1.2 11 0 (Int32.toNatClampNeg l1))]) (rest := []) dX7_boreAt_109 mt_7_139 qp_36 qr_36 (E_X7_boreAt_36) rfl rfl rfl (Nat.le_of_ble_eq_true rfl)).trans (mm_bind (fun q11 => ?_))
      exact R_ireturn dX7_boreAt_112 rfl
    refine (R_switch dX7_boreAt_18 (sw_out 113 (sw_n4 h3 h5 h7 h10) rfl)).trans ?_
    refine (R_ldc dX7_boreAt_113 kt_7_113).trans ?_
    exact R_ireturn dX7_boreAt_115 rfl
noncomputable def E_X7_shaft : mE := fun k => if k = 75 then f_X7_isIn else if k = 76 then f_X7_kindOf else if k = 73 then f_X7_putAsDeed else fun _ _ => none
theorem E_X7_shaft_75 : E_X7_shaft 75 = f_X7_isIn := if_pos rfl
theorem E_X7_shaft_76 : E_X7_shaft 76 = f_X7_kindOf := (if_neg (by decide)).trans (if_pos rfl)
theorem E_X7_shaft_73 : E_X7_shaft 73 = f_X7_putAsDeed := (if_neg (by decide)).trans ((if_neg (by decide)).trans (if_pos rfl))
noncomputable def f_X7_shaft : List mV → mM → Option mR := mm_fn E_X7_shaft 7 1 3 cX7_shaft
theorem k_X7_shaft (l : Launch) : mm_OK l 55 f_X7_shaft := mm_fn_ok l 55 7 E_X7_shaft (by decide) rfl (by decide) (by
  intro k as μ q h
  by_cases h0 : k = 75
  · subst h0
    exact ⟨by rw [E_X7_shaft_75]; exact k_X7_isIn l, by decide, by decide, by decide⟩
  by_cases h1 : k = 76
  · subst h1
    exact ⟨by rw [E_X7_shaft_76]; exact k_X7_kindOf l, by decide, by decide, by decide⟩
  by_cases h2 : k = 73
  · subst h2
    exact ⟨by rw [E_X7_shaft_73]; exact k_X7_putAsDeed l, by decide, by decide, by decide⟩
  have e : E_X7_shaft k = fun _ _ => none := (if_neg h0).trans ((if_neg h1).trans ((if_neg h2).trans (rfl)))
  rw [e] at h
  cases h)
set_option maxRecDepth 100000 in
set_option maxHeartbeats 4000000 in
theorem e_X7_shaft (l1 : Int32) (l2 : Int32) (μ : mM) : f_X7_shaft [vr 7 0, vi l1, vi l2] μ = (Option.bind (f_X7_isIn [vi l1, vi 4] μ) (fun q1 => (if q1.1 = 0 then some ((-1000000001), q1.2) else (Option.bind (f_X7_isIn [vi l2, vi 10000] q1.2) (fun q3 => (if q3.1 = 0 then some ((-1000000002), q3.2) else (Option.bind (f_X7_kindOf [vi l1, vi l2] q3.2) (fun q5 => (Option.bind (f_X7_putAsDeed [vr 7 0, vi q5.1] q5.2) (fun q6 => some (q6.1, q6.2))))))))))) := by
  refine (show f_X7_shaft [vr 7 0, vi l1, vi l2] μ = mm_run E_X7_shaft 7 1 cX7_shaft (0, [vr 7 0, vi l1, vi l2], [], μ) from rfl).trans ?_
  refine (R_iload_n dX7_shaft_0 rfl).trans ?_
  refine (R_iconst 4 dX7_shaft_1 iconst_4).trans ?_
  refine (R_cs_i (as := [vi l1, vi 4]) (rest := []) dX7_shaft_2 mt_7_114 (by decide) qp_75 qr_75 (E_X7_shaft_75) (Nat.le_of_ble_eq_true rfl) rfl rfl (Nat.le_of_ble_eq_true rfl)).trans (mm_bind (fun q1 => ?_))
  refine (R_ifc 11 dX7_shaft_5 rfl).trans (c_ne (fun h2 => ?_) (fun h2 => ?_))
  · refine (R_ldc dX7_shaft_8 kt_7_118).trans ?_
    exact R_ireturn dX7_shaft_10 rfl
  · refine (R_iload_n dX7_shaft_11 rfl).trans ?_
    refine (R_sipush 10000 dX7_shaft_12 sipush_10000).trans ?_
    refine (R_cs_i (as := [vi l2, vi 10000]) (rest := []) dX7_shaft_15 mt_7_114 (by decide) qp_75 qr_75 (E_X7_shaft_75) (Nat.le_of_ble_eq_true rfl) rfl rfl (Nat.le_of_ble_eq_true rfl)).trans (mm_bind (fun q3 => ?_))
    refine (R_ifc 24 dX7_shaft_18 rfl).trans (c_ne (fun h4 => ?_) (fun h4 => ?_))
    · refine (R_ldc dX7_shaft_21 kt_7_113).trans ?_
      exact R_ireturn dX7_shaft_23 rfl
    · refine (R_aload_n dX7_shaft_24 rfl (by decide)).trans ?_
      refine (R_iload_n dX7_shaft_25 rfl).trans ?_
      refine (R_iload_n dX7_shaft_26 rfl).trans ?_
      refine (R_cs_i (as := [vi l1, vi l2]) (rest := [vr 7 0]) dX7_shaft_27 mt_7_169 (by decide) qp_76 qr_76 (E_X7_shaft_76) (Nat.le_of_ble_eq_true rfl) rfl rfl (Nat.le_of_ble_eq_true rfl)).trans (mm_bind (fun q5 => ?_))
      refine (R_cv_i (as := [vi q5.1]) (rest := []) dX7_shaft_30 mt_7_173 qp_73 qr_73 (E_X7_shaft_73) rfl rfl rfl (Nat.le_of_ble_eq_true rfl)).trans (mm_bind (fun q6 => ?_))
      exact R_ireturn dX7_shaft_33 rfl
noncomputable def E_X7_bore : mE := fun k => if k = 75 then f_X7_isIn else if k = 76 then f_X7_kindOf else if k = 73 then f_X7_putAsDeed else fun _ _ => none
theorem E_X7_bore_75 : E_X7_bore 75 = f_X7_isIn := if_pos rfl
theorem E_X7_bore_76 : E_X7_bore 76 = f_X7_kindOf := (if_neg (by decide)).trans (if_pos rfl)
theorem E_X7_bore_73 : E_X7_bore 73 = f_X7_putAsDeed := (if_neg (by decide)).trans ((if_neg (by decide)).trans (if_pos rfl))
noncomputable def f_X7_bore : List mV → mM → Option mR := mm_fn E_X7_bore 7 1 2 cX7_bore
theorem k_X7_bore (l : Launch) : mm_OK l 56 f_X7_bore := mm_fn_ok l 56 7 E_X7_bore (by decide) rfl (by decide) (by
  intro k as μ q h
  by_cases h0 : k = 75
  · subst h0
    exact ⟨by rw [E_X7_bore_75]; exact k_X7_isIn l, by decide, by decide, by decide⟩
  by_cases h1 : k = 76
  · subst h1
    exact ⟨by rw [E_X7_bore_76]; exact k_X7_kindOf l, by decide, by decide, by decide⟩
  by_cases h2 : k = 73
  · subst h2
    exact ⟨by rw [E_X7_bore_73]; exact k_X7_putAsDeed l, by decide, by decide, by decide⟩
  have e : E_X7_bore k = fun _ _ => none := (if_neg h0).trans ((if_neg h1).trans ((if_neg h2).trans (rfl)))
  rw [e] at h
  cases h)
set_option maxRecDepth 100000 in
set_option maxHeartbeats 4000000 in
theorem e_X7_bore (l1 : Int32) (μ : mM) : f_X7_bore [vr 7 0, vi l1] μ = (Option.bind (f_X7_isIn [vi l1, vi 10000] μ) (fun q1 => (if q1.1 = 0 then some ((-1000000002), q1.2) else (Option.bind (f_X7_kindOf [vi 4, vi l1] q1.2) (fun q3 => (Option.bind (f_X7_putAsDeed [vr 7 0, vi q3.1] q3.2) (fun q4 => some (q4.1, q4.2)))))))) := by
  refine (show f_X7_bore [vr 7 0, vi l1] μ = mm_run E_X7_bore 7 1 cX7_bore (0, [vr 7 0, vi l1], [], μ) from rfl).trans ?_
  refine (R_iload_n dX7_bore_0 rfl).trans ?_
  refine (R_sipush 10000 dX7_bore_1 sipush_10000).trans ?_
  refine (R_cs_i (as := [vi l1, vi 10000]) (rest := []) dX7_bore_4 mt_7_114 (by decide) qp_75 qr_75 (E_X7_bore_75) (Nat.le_of_ble_eq_true rfl) rfl rfl (Nat.le_of_ble_eq_true rfl)).trans (mm_bind (fun q1 => ?_))
  refine (R_ifc 13 dX7_bore_7 rfl).trans (c_ne (fun h2 => ?_) (fun h2 => ?_))
  · refine (R_ldc dX7_bore_10 kt_7_113).trans ?_
    exact R_ireturn dX7_bore_12 rfl
  · refine (R_aload_n dX7_bore_13 rfl (by decide)).trans ?_
    refine (R_iconst 4 dX7_bore_14 iconst_4).trans ?_
    refine (R_iload_n dX7_bore_15 rfl).trans ?_
    refine (R_cs_i (as := [vi 4, vi l1]) (rest := [vr 7 0]) dX7_bore_16 mt_7_169 (by decide) qp_76 qr_76 (E_X7_bore_76) (Nat.le_of_ble_eq_true rfl) rfl rfl (Nat.le_of_ble_eq_true rfl)).trans (mm_bind (fun q3 => ?_))
    refine (R_cv_i (as := [vi q3.1]) (rest := []) dX7_bore_19 mt_7_173 qp_73 qr_73 (E_X7_bore_73) rfl rfl rfl (Nat.le_of_ble_eq_true rfl)).trans (mm_bind (fun q4 => ?_))
    exact R_ireturn dX7_bore_22 rfl
noncomputable def E_X7_grade : mE := fun k => if k = 75 then f_X7_isIn else if k = 9 then f_X3_note else if k = 72 then f_X7_pairUp else fun _ _ => none
theorem E_X7_grade_75 : E_X7_grade 75 = f_X7_isIn := if_pos rfl
theorem E_X7_grade_9 : E_X7_grade 9 = f_X3_note := (if_neg (by decide)).trans (if_pos rfl)
theorem E_X7_grade_72 : E_X7_grade 72 = f_X7_pairUp := (if_neg (by decide)).trans ((if_neg (by decide)).trans (if_pos rfl))
noncomputable def f_X7_grade : List mV → mM → Option mR := mm_fn E_X7_grade 7 1 4 cX7_grade
theorem k_X7_grade (l : Launch) : mm_OK l 59 f_X7_grade := mm_fn_ok l 59 7 E_X7_grade (by decide) rfl (by decide) (by
  intro k as μ q h
  by_cases h0 : k = 75
  · subst h0
    exact ⟨by rw [E_X7_grade_75]; exact k_X7_isIn l, by decide, by decide, by decide⟩
  by_cases h1 : k = 9
  · subst h1
    exact ⟨by rw [E_X7_grade_9]; exact k_X3_note l, by decide, by decide, by decide⟩
  by_cases h2 : k = 72
  · subst h2
    exact ⟨by rw [E_X7_grade_72]; exact k_X7_pairUp l, by decide, by decide, by decide⟩
  have e : E_X7_grade k = fun _ _ => none := (if_neg h0).trans ((if_neg h1).trans ((if_neg h2).trans (rfl)))
  rw [e] at h
  cases h)
set_option maxRecDepth 100000 in
set_option maxHeartbeats 4000000 in
theorem e_X7_grade (l1 : Int32) (l2 : Int32) (l3 : Int32) (μ : mM) : f_X7_grade [vr 7 0, vi l1, vi l2, vi l3] μ = (Option.bind (f_X7_isIn [vi l1, vi 4] μ) (fun q1 => (if q1.1 = 0 then some ((-1000000001), q1.2) else (Option.bind (f_X7_isIn [vi l2, vi 1000] q1.2) (fun q3 => (if q3.1 = 0 then some ((-1000000002), q3.2) else (Option.bind (f_X7_isIn [vi l3, vi 1000] q3.2) (fun q5 => (if q5.1 = 0 then some ((-1000000002), q5.2) else (if l3 < l2 then some ((-1000000002), q5.2) else (Option.bind (f_X3_note [vr 3 0, vr 6 0] q5.2) (fun q8 => (ck 4 l1 (wr (mm_up q8.2 12 0 (Int32.toNatClampNeg l1) l2) (fun m9 => (ck 4 l1 (wr (mm_up m9 13 0 (Int32.toNatClampNeg l1) l3) (fun m10 => (Option.bind (f_X7_pairUp [vr 7 0] m10) (fun q11 => some (q11.1, q11.2))))))))))))))))))))) := by
  refine (show f_X7_grade [vr 7 0, vi l1, vi l2, vi l3] μ = mm_run E_X7_grade 7 1 cX7_grade (0, [vr 7 0, vi l1, vi l2, vi l3], [], μ) from rfl).trans ?_
  refine (R_iload_n dX7_grade_0 rfl).trans ?_
  refine (R_iconst 4 dX7_grade_1 iconst_4).trans ?_
  refine (R_cs_i (as := [vi l1, vi 4]) (rest := []) dX7_grade_2 mt_7_114 (by decide) qp_75 qr_75 (E_X7_grade_75) (Nat.le_of_ble_eq_true rfl) rfl rfl (Nat.le_of_ble_eq_true rfl)).trans (mm_bind (fun q1 => ?_))
  refine (R_ifc 11 dX7_grade_5 rfl).trans (c_ne (fun h2 => ?_) (fun h2 => ?_))
  · refine (R_ldc dX7_grade_8 kt_7_118).trans ?_
    exact R_ireturn dX7_grade_10 rfl
  · refine (R_iload_n dX7_grade_11 rfl).trans ?_
    refine (R_sipush 1000 dX7_grade_12 sipush_1000).trans ?_
    refine (R_cs_i (as := [vi l2, vi 1000]) (rest := []) dX7_grade_15 mt_7_114 (by decide) qp_75 qr_75 (E_X7_grade_75) (Nat.le_of_ble_eq_true rfl) rfl rfl (Nat.le_of_ble_eq_true rfl)).trans (mm_bind (fun q3 => ?_))
    refine (R_ifc 36 dX7_grade_18 rfl).trans (c_eq (fun h4 => ?_) (fun h4 => ?_))
    · refine (R_ldc dX7_grade_36 kt_7_113).trans ?_
      exact R_ireturn dX7_grade_38 rfl
    · refine (R_iload_n dX7_grade_21 rfl).trans ?_
      refine (R_sipush 1000 dX7_grade_22 sipush_1000).trans ?_
      refine (R_cs_i (as := [vi l3, vi 1000]) (rest := []) dX7_grade_25 mt_7_114 (by decide) qp_75 qr_75 (E_X7_grade_75) (Nat.le_of_ble_eq_true rfl) rfl rfl (Nat.le_of_ble_eq_true rfl)).trans (mm_bind (fun q5 => ?_))
      refine (R_ifc 36 dX7_grade_28 rfl).trans (c_eq (fun h6 => ?_) (fun h6 => ?_))
      · refine (R_ldc dX7_grade_36 kt_7_113).trans ?_
        exact R_ireturn dX7_grade_38 rfl
      · refine (R_iload_n dX7_grade_31 rfl).trans ?_
        refine (R_iload_n dX7_grade_32 rfl).trans ?_
        refine (R_icmp 39 dX7_grade_33 rfl).trans (c_le (fun h7 => ?_) (fun h7 => ?_))
        · refine (R_ldc dX7_grade_36 kt_7_113).trans ?_
          exact R_ireturn dX7_grade_38 rfl
        · refine (R_aload_n dX7_grade_39 rfl (by decide)).trans ?_
          refine (gr_7_19 dX7_grade_40).trans ?_
          refine (R_aload_n dX7_grade_43 rfl (by decide)).trans ?_
          refine (gr_7_10 dX7_grade_44).trans ?_
          refine (R_cv_v (as := [vr 6 0]) (rest := []) dX7_grade_47 mt_7_176 qp_9 qr_9 (E_X7_grade_9) rfl rfl rfl (Nat.le_of_ble_eq_true rfl)).trans (mm_bind (fun q8 => ?_))
          refine (R_aload_n dX7_grade_50 rfl (by decide)).trans ?_
          refine (gr_7_10 dX7_grade_51).trans ?_
          refine (gr_7_151 dX7_grade_54).trans ?_
          refine (R_iload_n dX7_grade_57 rfl).trans ?_
          refine (R_iload_n dX7_grade_58 rfl).trans ?_
          refine (R_iastore dX7_grade_59 as_12).trans (ck_congr ?_)
          refine wr_intro (g := fun m => mm_run E_X7_grade 7 1 cX7_grade (60, [vr 7 0, vi l1, vi l2, vi l3], [], m)) (fun m9 => ?_)
          refine (R_aload_n dX7_grade_60 rfl (by decide)).trans ?_
          refine (gr_7_10 dX7_grade_61).trans ?_
          refine (gr_7_154 dX7_grade_64).trans ?_
          refine (R_iload_n dX7_grade_67 rfl).trans ?_
          refine (R_iload_n dX7_grade_68 rfl).trans ?_
          refine (R_iastore dX7_grade_69 as_13).trans (ck_congr ?_)
          refine wr_intro (g := fun m => mm_run E_X7_grade 7 1 cX7_grade (70, [vr 7 0, vi l1, vi l2, vi l3], [], m)) (fun m10 => ?_)
          refine (R_aload_n dX7_grade_70 rfl (by decide)).trans ?_
          refine (R_cv_i (as := []) (rest := []) dX7_grade_71 mt_7_71 qp_72 qr_72 (E_X7_grade_72) rfl rfl rfl (Nat.le_of_ble_eq_true rfl)).trans (mm_bind (fun q11 => ?_))
          exact R_ireturn dX7_grade_74 rfl
noncomputable def E_X7_putAway : mE := fun k => if k = 72 then f_X7_pairUp else if k = 9 then f_X3_note else if k = 41 then f_X6_dropShaft else if k = 42 then f_X6_dropBore else fun _ _ => none
theorem E_X7_putAway_72 : E_X7_putAway 72 = f_X7_pairUp := if_pos rfl
theorem E_X7_putAway_9 : E_X7_putAway 9 = f_X3_note := (if_neg (by decide)).trans (if_pos rfl)
theorem E_X7_putAway_41 : E_X7_putAway 41 = f_X6_dropShaft := (if_neg (by decide)).trans ((if_neg (by decide)).trans (if_pos rfl))
theorem E_X7_putAway_42 : E_X7_putAway 42 = f_X6_dropBore := (if_neg (by decide)).trans ((if_neg (by decide)).trans ((if_neg (by decide)).trans (if_pos rfl)))
noncomputable def f_X7_putAway : List mV → mM → Option mR := mm_fn E_X7_putAway 7 1 3 cX7_putAway
theorem k_X7_putAway (l : Launch) : mm_OK l 60 f_X7_putAway := mm_fn_ok l 60 7 E_X7_putAway (by decide) rfl (by decide) (by
  intro k as μ q h
  by_cases h0 : k = 72
  · subst h0
    exact ⟨by rw [E_X7_putAway_72]; exact k_X7_pairUp l, by decide, by decide, by decide⟩
  by_cases h1 : k = 9
  · subst h1
    exact ⟨by rw [E_X7_putAway_9]; exact k_X3_note l, by decide, by decide, by decide⟩
  by_cases h2 : k = 41
  · subst h2
    exact ⟨by rw [E_X7_putAway_41]; exact k_X6_dropShaft l, by decide, by decide, by decide⟩
  by_cases h3 : k = 42
  · subst h3
    exact ⟨by rw [E_X7_putAway_42]; exact k_X6_dropBore l, by decide, by decide, by decide⟩
  have e : E_X7_putAway k = fun _ _ => none := (if_neg h0).trans ((if_neg h1).trans ((if_neg h2).trans ((if_neg h3).trans (rfl))))
  rw [e] at h
  cases h)
noncomputable def r_X7_putAway_33 (l1 : Int32) (l2 : Int32) (μ : mM) : Option mR := mm_run E_X7_putAway 7 1 cX7_putAway (33, [vr 7 0, vi l1, vi l2], [], μ)
noncomputable def r_X7_putAway_74 (l1 : Int32) (l2 : Int32) (μ : mM) : Option mR := mm_run E_X7_putAway 7 1 cX7_putAway (74, [vr 7 0, vi l1, vi l2], [], μ)
set_option maxRecDepth 100000 in
set_option maxHeartbeats 4000000 in
theorem e_X7_putAway (μ : mM) : f_X7_putAway [vr 7 0] μ = (Option.bind (f_X7_pairUp [vr 7 0] μ) (fun q1 => (if q1.1 = 0 then some ((-1000000003), q1.2) else (Option.bind (f_X3_note [vr 3 0, vr 6 0] q1.2) (fun q3 => r_X7_putAway_33 q1.1 ((q3.2 6 0 6) - 1) q3.2))))) := by
  refine (show f_X7_putAway [vr 7 0] μ = mm_run E_X7_putAway 7 1 cX7_putAway (0, [vr 7 0, vu, vu], [], μ) from rfl).trans ?_
  refine (R_aload_n dX7_putAway_0 rfl (by decide)).trans ?_
  refine (R_cv_i (as := []) (rest := []) dX7_putAway_1 mt_7_71 qp_72 qr_72 (E_X7_putAway_72) rfl rfl rfl (Nat.le_of_ble_eq_true rfl)).trans (mm_bind (fun q1 => ?_))
  refine (R_istore_n (ls' := [vr 7 0, vi q1.1, vu]) dX7_putAway_4 (Nat.le_of_ble_eq_true rfl) (by decide) rfl).trans ?_
  refine (R_iload_n dX7_putAway_5 rfl).trans ?_
  refine (R_ifc 12 dX7_putAway_6 rfl).trans (c_ne (fun h2 => ?_) (fun h2 => ?_))
  · refine (R_ldc dX7_putAway_9 kt_7_186).trans ?_
    exact R_ireturn dX7_putAway_11 rfl
  · refine (R_aload_n dX7_putAway_12 rfl (by decide)).trans ?_
    refine (gr_7_19 dX7_putAway_13).trans ?_
    refine (R_aload_n dX7_putAway_16 rfl (by decide)).trans ?_
    refine (gr_7_10 dX7_putAway_17).trans ?_
    refine (R_cv_v (as := [vr 6 0]) (rest := []) dX7_putAway_20 mt_7_176 qp_9 qr_9 (E_X7_putAway_9) rfl rfl rfl (Nat.le_of_ble_eq_true rfl)).trans (mm_bind (fun q3 => ?_))
    refine (R_aload_n dX7_putAway_23 rfl (by decide)).trans ?_
    refine (gr_7_10 dX7_putAway_24).trans ?_
    refine (gi_7_62 dX7_putAway_27).trans ?_
    refine (R_iconst 1 dX7_putAway_30 iconst_1).trans ?_
    refine (R_isub dX7_putAway_31).trans ?_
    refine (R_istore_n (ls' := [vr 7 0, vi q1.1, vi ((q3.2 6 0 6) - 1)]) dX7_putAway_32 (Nat.le_of_ble_eq_true rfl) (by decide) rfl).trans ?_
    exact rfl
set_option maxRecDepth 100000 in
set_option maxHeartbeats 4000000 in
theorem e_X7_putAway_33 (l1 : Int32) (l2 : Int32) (μ : mM) : r_X7_putAway_33 l1 l2 μ = (if l2 < 0 then r_X7_putAway_74 l1 ((μ 6 0 7) - 1) μ else (ck 24 l2 (if μ 24 0 (Int32.toNatClampNeg l2) = (-1) then r_X7_putAway_33 l1 (l2 + (-1)) μ else (Option.bind (f_X6_dropShaft [vr 6 0, vi l2] μ) (fun q3 => r_X7_putAway_33 l1 (l2 + (-1)) q3.2))))) := by
  refine (show r_X7_putAway_33 l1 l2 μ = mm_run E_X7_putAway 7 1 cX7_putAway (33, [vr 7 0, vi l1, vi l2], [], μ) from rfl).trans ?_
  refine (R_iload_n dX7_putAway_33 rfl).trans ?_
  refine (R_ifc 64 dX7_putAway_34 rfl).trans (c_lt (fun h1 => ?_) (fun h1 => ?_))
  · refine (R_aload_n dX7_putAway_64 rfl (by decide)).trans ?_
    refine (gr_7_10 dX7_putAway_65).trans ?_
    refine (gi_7_65 dX7_putAway_68).trans ?_
    refine (R_iconst 1 dX7_putAway_71 iconst_1).trans ?_
    refine (R_isub dX7_putAway_72).trans ?_
    refine (R_istore_n (ls' := [vr 7 0, vi l1, vi ((μ 6 0 7) - 1)]) dX7_putAway_73 (Nat.le_of_ble_eq_true rfl) (by decide) rfl).trans ?_
    exact rfl
  · refine (R_aload_n dX7_putAway_37 rfl (by decide)).trans ?_
    refine (gr_7_26 dX7_putAway_38).trans ?_
    refine (gr_7_130 dX7_putAway_41).trans ?_
    refine (R_iload_n dX7_putAway_44 rfl).trans ?_
    refine (R_iaload dX7_putAway_45 as_24).trans (ck_congr ?_)
    refine (R_iconst (-1) dX7_putAway_46 iconst_m1).trans ?_
    refine (R_icmp 58 dX7_putAway_47 rfl).trans (c_eq (fun h2 => ?_) (fun h2 => ?_))
    · refine (R_iinc (ls' := [vr 7 0, vi l1, vi (l2 + (-1))]) (-1) dX7_putAway_58 rfl iconst_m1 (by decide) rfl).trans ?_
      refine (R_goto 33 dX7_putAway_61 rfl).trans ?_
      exact rfl
    · refine (R_aload_n dX7_putAway_50 rfl (by decide)).trans ?_
      refine (gr_7_10 dX7_putAway_51).trans ?_
      refine (R_iload_n dX7_putAway_54 rfl).trans ?_
      refine (R_cv_v (as := [vi l2]) (rest := []) dX7_putAway_55 mt_7_179 qp_41 qr_41 (E_X7_putAway_41) rfl rfl rfl (Nat.le_of_ble_eq_true rfl)).trans (mm_bind (fun q3 => ?_))
      refine (R_iinc (ls' := [vr 7 0, vi l1, vi (l2 + (-1))]) (-1) dX7_putAway_58 rfl iconst_m1 (by decide) rfl).trans ?_
      refine (R_goto 33 dX7_putAway_61 rfl).trans ?_
      exact rfl
set_option maxRecDepth 100000 in
set_option maxHeartbeats 4000000 in
theorem e_X7_putAway_74 (l1 : Int32) (l2 : Int32) (μ : mM) : r_X7_putAway_74 l1 l2 μ = (if l2 < 0 then some (l1, μ) else (ck 25 l2 (if μ 27 0 (Int32.toNatClampNeg l2) = (-1) then r_X7_putAway_74 l1 (l2 + (-1)) μ else (Option.bind (f_X6_dropBore [vr 6 0, vi l2] μ) (fun q3 => r_X7_putAway_74 l1 (l2 + (-1)) q3.2))))) := by
  refine (show r_X7_putAway_74 l1 l2 μ = mm_run E_X7_putAway 7 1 cX7_putAway (74, [vr 7 0, vi l1, vi l2], [], μ) from rfl).trans ?_
  refine (R_iload_n dX7_putAway_74 rfl).trans ?_
  refine (R_ifc 105 dX7_putAway_75 rfl).trans (c_lt (fun h1 => ?_) (fun h1 => ?_))
  · refine (R_iload_n dX7_putAway_105 rfl).trans ?_
    exact R_ireturn dX7_putAway_106 rfl
  · refine (R_aload_n dX7_putAway_78 rfl (by decide)).trans ?_
    refine (gr_7_26 dX7_putAway_79).trans ?_
    refine (gr_7_145 dX7_putAway_82).trans ?_
    refine (R_iload_n dX7_putAway_85 rfl).trans ?_
    refine (R_iaload dX7_putAway_86 as_27).trans (ck_congr ?_)
    refine (R_iconst (-1) dX7_putAway_87 iconst_m1).trans ?_
    refine (R_icmp 99 dX7_putAway_88 rfl).trans (c_eq (fun h2 => ?_) (fun h2 => ?_))
    · refine (R_iinc (ls' := [vr 7 0, vi l1, vi (l2 + (-1))]) (-1) dX7_putAway_99 rfl iconst_m1 (by decide) rfl).trans ?_
      refine (R_goto 74 dX7_putAway_102 rfl).trans ?_
      exact rfl
    · refine (R_aload_n dX7_putAway_91 rfl (by decide)).trans ?_
      refine (gr_7_10 dX7_putAway_92).trans ?_
      refine (R_iload_n dX7_putAway_95 rfl).trans ?_
      refine (R_cv_v (as := [vi l2]) (rest := []) dX7_putAway_96 mt_7_183 qp_42 qr_42 (E_X7_putAway_42) rfl rfl rfl (Nat.le_of_ble_eq_true rfl)).trans (mm_bind (fun q3 => ?_))
      refine (R_iinc (ls' := [vr 7 0, vi l1, vi (l2 + (-1))]) (-1) dX7_putAway_99 rfl iconst_m1 (by decide) rfl).trans ?_
      refine (R_goto 74 dX7_putAway_102 rfl).trans ?_
      exact rfl
noncomputable def E_X7_boxes : mE := fun k => if k = 75 then f_X7_isIn else if k = 0 then f_X0_read else if k = 2 then f_X0_mostWorth else fun _ _ => none
theorem E_X7_boxes_75 : E_X7_boxes 75 = f_X7_isIn := if_pos rfl
theorem E_X7_boxes_0 : E_X7_boxes 0 = f_X0_read := (if_neg (by decide)).trans (if_pos rfl)
theorem E_X7_boxes_2 : E_X7_boxes 2 = f_X0_mostWorth := (if_neg (by decide)).trans ((if_neg (by decide)).trans (if_pos rfl))
noncomputable def f_X7_boxes : List mV → mM → Option mR := mm_fn E_X7_boxes 7 1 2 cX7_boxes
theorem k_X7_boxes (l : Launch) : mm_OK l 65 f_X7_boxes := mm_fn_ok l 65 7 E_X7_boxes (by decide) rfl (by decide) (by
  intro k as μ q h
  by_cases h0 : k = 75
  · subst h0
    exact ⟨by rw [E_X7_boxes_75]; exact k_X7_isIn l, by decide, by decide, by decide⟩
  by_cases h1 : k = 0
  · subst h1
    exact ⟨by rw [E_X7_boxes_0]; exact k_X0_read l, by decide, by decide, by decide⟩
  by_cases h2 : k = 2
  · subst h2
    exact ⟨by rw [E_X7_boxes_2]; exact k_X0_mostWorth l, by decide, by decide, by decide⟩
  have e : E_X7_boxes k = fun _ _ => none := (if_neg h0).trans ((if_neg h1).trans ((if_neg h2).trans (rfl)))
  rw [e] at h
  cases h)
set_option maxRecDepth 100000 in
set_option maxHeartbeats 4000000 in
theorem e_X7_boxes (l1 : Int32) (μ : mM) : f_X7_boxes [vr 7 0, vi l1] μ = (Option.bind (f_X7_isIn [vi l1, vi 10] μ) (fun q1 => (if q1.1 = 0 then some ((-1000000002), q1.2) else (Option.bind (f_X0_read [vr 0 0, vr 6 0] q1.2) (fun q3 => (Option.bind (f_X0_mostWorth [vr 0 0, vi l1] q3.2) (fun q4 => some (q4.1, q4.2)))))))) := by
  refine (show f_X7_boxes [vr 7 0, vi l1] μ = mm_run E_X7_boxes 7 1 cX7_boxes (0, [vr 7 0, vi l1], [], μ) from rfl).trans ?_
  refine (R_iload_n dX7_boxes_0 rfl).trans ?_
  refine (R_bipush 10 dX7_boxes_1 bipush_10).trans ?_
  refine (R_cs_i (as := [vi l1, vi 10]) (rest := []) dX7_boxes_3 mt_7_114 (by decide) qp_75 qr_75 (E_X7_boxes_75) (Nat.le_of_ble_eq_true rfl) rfl rfl (Nat.le_of_ble_eq_true rfl)).trans (mm_bind (fun q1 => ?_))
  refine (R_ifc 12 dX7_boxes_6 rfl).trans (c_ne (fun h2 => ?_) (fun h2 => ?_))
  · refine (R_ldc dX7_boxes_9 kt_7_113).trans ?_
    exact R_ireturn dX7_boxes_11 rfl
  · refine (R_aload_n dX7_boxes_12 rfl (by decide)).trans ?_
    refine (gr_7_40 dX7_boxes_13).trans ?_
    refine (R_aload_n dX7_boxes_16 rfl (by decide)).trans ?_
    refine (gr_7_10 dX7_boxes_17).trans ?_
    refine (R_cv_v (as := [vr 6 0]) (rest := []) dX7_boxes_20 mt_7_221 qp_0 qr_0 (E_X7_boxes_0) rfl rfl rfl (Nat.le_of_ble_eq_true rfl)).trans (mm_bind (fun q3 => ?_))
    refine (R_aload_n dX7_boxes_23 rfl (by decide)).trans ?_
    refine (gr_7_40 dX7_boxes_24).trans ?_
    refine (R_iload_n dX7_boxes_27 rfl).trans ?_
    refine (R_cv_i (as := [vi l1]) (rest := []) dX7_boxes_28 mt_7_222 qp_2 qr_2 (E_X7_boxes_2) rfl rfl rfl (Nat.le_of_ble_eq_true rfl)).trans (mm_bind (fun q4 => ?_))
    exact R_ireturn dX7_boxes_31 rfl
noncomputable def E_X8_playOf : mE := fun k => if k = 90 then f_X8_now else fun _ _ => none
theorem E_X8_playOf_90 : E_X8_playOf 90 = f_X8_now := if_pos rfl
noncomputable def f_X8_playOf : List mV → mM → Option mR := mm_fn E_X8_playOf 8 1 6 cX8_playOf
theorem k_X8_playOf (l : Launch) : mm_OK l 91 f_X8_playOf := mm_fn_ok l 91 8 E_X8_playOf (by decide) rfl (by decide) (by
  intro k as μ q h
  by_cases h0 : k = 90
  · subst h0
    exact ⟨by rw [E_X8_playOf_90]; exact k_X8_now l, by decide, by decide, by decide⟩
  have e : E_X8_playOf k = fun _ _ => none := (if_neg h0).trans (rfl)
  rw [e] at h
  cases h)
noncomputable def r_X8_playOf_10 (l1 : Int32) (l2 : Int32) (l3 : Int32) (l4 : Int32) (x5 : mV) (μ : mM) : Option mR := mm_run E_X8_playOf 8 1 cX8_playOf (10, [vr 8 0, vi l1, vi l2, vi l3, vi l4, x5], [], μ)
set_option maxRecDepth 100000 in
set_option maxHeartbeats 4000000 in
theorem e_X8_playOf (l1 : Int32) (μ : mM) : f_X8_playOf [vr 8 0, vi l1] μ = (Option.bind (f_X8_now [vr 8 0] μ) (fun q1 => r_X8_playOf_10 l1 (-1) q1.1 0 vu q1.2)) := by
  refine (show f_X8_playOf [vr 8 0, vi l1] μ = mm_run E_X8_playOf 8 1 cX8_playOf (0, [vr 8 0, vi l1, vu, vu, vu, vu], [], μ) from rfl).trans ?_
  refine (R_iconst (-1) dX8_playOf_0 iconst_m1).trans ?_
  refine (R_istore_n (ls' := [vr 8 0, vi l1, vi (-1), vu, vu, vu]) dX8_playOf_1 (Nat.le_of_ble_eq_true rfl) (by decide) rfl).trans ?_
  refine (R_aload_n dX8_playOf_2 rfl (by decide)).trans ?_
  refine (R_cv_i (as := []) (rest := []) dX8_playOf_3 mt_8_70 qp_90 qr_90 (E_X8_playOf_90) rfl rfl rfl (Nat.le_of_ble_eq_true rfl)).trans (mm_bind (fun q1 => ?_))
  refine (R_istore_n (ls' := [vr 8 0, vi l1, vi (-1), vi q1.1, vu, vu]) dX8_playOf_6 (Nat.le_of_ble_eq_true rfl) (by decide) rfl).trans ?_
  refine (R_iconst 0 dX8_playOf_7 iconst_0).trans ?_
  refine (R_istore (ls' := [vr 8 0, vi l1, vi (-1), vi q1.1, vi 0, vu]) dX8_playOf_8 (Nat.le_of_ble_eq_true rfl) (by decide) rfl).trans ?_
  exact rfl
set_option maxRecDepth 100000 in
set_option maxHeartbeats 4000000 in
theorem e_X8_playOf_10 (l1 : Int32) (l2 : Int32) (l3 : Int32) (l4 : Int32) (x5 : mV) (μ : mM) : r_X8_playOf_10 l1 l2 l3 l4 x5 μ = (ck 5225 8 (if l4 < μ 50 0 (Int32.toNatClampNeg 8) then (if 0 < l3 then (ck 24 l4 (if μ 53 0 (Int32.toNatClampNeg l4) = (-1) then r_X8_playOf_10 l1 l2 l3 (l4 + 1) x5 μ else (ck 24 l4 (ck 5225 (58 + (μ 53 0 (Int32.toNatClampNeg l4))) (ck 5225 (33 + l4) (if l2 = (-1) then r_X8_playOf_10 l1 ((μ 50 0 (Int32.toNatClampNeg (58 + (μ 53 0 (Int32.toNatClampNeg l4))))) - (μ 50 0 (Int32.toNatClampNeg (33 + l4)))) l3 (l4 + 1) (vi ((μ 50 0 (Int32.toNatClampNeg (58 + (μ 53 0 (Int32.toNatClampNeg l4))))) - (μ 50 0 (Int32.toNatClampNeg (33 + l4))))) μ else (if l1 = 0 then (if (μ 50 0 (Int32.toNatClampNeg (58 + (μ 53 0 (Int32.toNatClampNeg l4))))) - (μ 50 0 (Int32.toNatClampNeg (33 + l4))) < l2 then r_X8_playOf_10 l1 ((μ 50 0 (Int32.toNatClampNeg (58 + (μ 53 0 (Int32.toNatClampNeg l4))))) - (μ 50 0 (Int32.toNatClampNeg (33 + l4)))) l3 (l4 + 1) (vi ((μ 50 0 (Int32.toNatClampNeg (58 + (μ 53 0 (Int32.toNatClampNeg l4))))) - (μ 50 0 (Int32.toNatClampNeg (33 + l4))))) μ else r_X8_playOf_10 l1 l2 l3 (l4 + 1) (vi ((μ 50 0 (Int32.toNatClampNeg (58 + (μ 53 0 (Int32.toNatClampNeg l4))))) - (μ 50 0 (Int32.toNatClampNeg (33 + l4))))) μ) else (if l2 < (μ 50 0 (Int32.toNatClampNeg (58 + (μ 53 0 (Int32.toNatClampNeg l4))))) - (μ 50 0 (Int32.toNatClampNeg (33 + l4))) then r_X8_playOf_10 l1 ((μ 50 0 (Int32.toNatClampNeg (58 + (μ 53 0 (Int32.toNatClampNeg l4))))) - (μ 50 0 (Int32.toNatClampNeg (33 + l4)))) l3 (l4 + 1) (vi ((μ 50 0 (Int32.toNatClampNeg (58 + (μ 53 0 (Int32.toNatClampNeg l4))))) - (μ 50 0 (Int32.toNatClampNeg (33 + l4))))) μ else r_X8_playOf_10 l1 l2 l3 (l4 + 1) (vi ((μ 50 0 (Int32.toNatClampNeg (58 + (μ 53 0 (Int32.toNatClampNeg l4))))) - (μ 50 0 (Int32.toNatClampNeg (33 + l4))))) μ)))))))) else some (l2, μ)) else some (l2, μ))) := by
  refine (show r_X8_playOf_10 l1 l2 l3 l4 x5 μ = mm_run E_X8_playOf 8 1 cX8_playOf (10, [vr 8 0, vi l1, vi l2, vi l3, vi l4, x5], [], μ) from rfl).trans ?_
  refine (R_iload dX8_playOf_10 rfl).trans ?_
  refine (R_aload_n dX8_playOf_12 rfl (by decide)).trans ?_
  refine (gr_8_7 dX8_playOf_13).trans ?_
  refine (R_bipush 8 dX8_playOf_16 bipush_8).trans ?_
  refine (R_iaload dX8_playOf_18 as_50).trans (ck_congr ?_)
  refine (R_icmp 102 dX8_playOf_19 rfl).trans (c_ge (fun h1 => ?_) (fun h1 => ?_))
  · refine (R_iload_n dX8_playOf_22 rfl).trans ?_
    refine (R_ifc 102 dX8_playOf_23 rfl).trans (c_le (fun h2 => ?_) (fun h2 => ?_))
    · refine (R_aload_n dX8_playOf_26 rfl (by decide)).trans ?_
      refine (gr_8_20 dX8_playOf_27).trans ?_
      refine (R_iload dX8_playOf_30 rfl).trans ?_
      refine (R_iaload dX8_playOf_32 as_53).trans (ck_congr ?_)
      refine (R_iconst (-1) dX8_playOf_33 iconst_m1).trans ?_
      refine (R_icmp 96 dX8_playOf_34 rfl).trans (c_eq (fun h3 => ?_) (fun h3 => ?_))
      · refine (R_iinc (ls' := [vr 8 0, vi l1, vi l2, vi l3, vi (l4 + 1), x5]) 1 dX8_playOf_96 rfl iconst_1 (by decide) rfl).trans ?_
        refine (R_goto 10 dX8_playOf_99 rfl).trans ?_
        exact rfl
      · refine (R_aload_n dX8_playOf_37 rfl (by decide)).trans ?_
        refine (gr_8_7 dX8_playOf_38).trans ?_
        refine (R_bipush 58 dX8_playOf_41 bipush_58).trans ?_
        refine (R_aload_n dX8_playOf_43 rfl (by decide)).trans ?_
        refine (gr_8_20 dX8_playOf_44).trans ?_
        refine (R_iload dX8_playOf_47 rfl).trans ?_
        refine (R_iaload dX8_playOf_49 as_53).trans (ck_congr ?_)
        refine (R_iadd dX8_playOf_50).trans ?_
        refine (R_iaload dX8_playOf_51 as_50).trans (ck_congr ?_)
        refine (R_aload_n dX8_playOf_52 rfl (by decide)).trans ?_
        refine (gr_8_7 dX8_playOf_53).trans ?_
        refine (R_bipush 33 dX8_playOf_56 bipush_33).trans ?_
        refine (R_iload dX8_playOf_58 rfl).trans ?_
        refine (R_iadd dX8_playOf_60).trans ?_
        refine (R_iaload dX8_playOf_61 as_50).trans (ck_congr ?_)
        refine (R_isub dX8_playOf_62).trans ?_
        refine (R_istore (ls' := [vr 8 0, vi l1, vi l2, vi l3, vi l4, vi ((μ 50 0 (Int32.toNatClampNeg (58 + (μ 53 0 (Int32.toNatClampNeg l4))))) - (μ 50 0 (Int32.toNatClampNeg (33 + l4))))]) dX8_playOf_63 (Nat.le_of_ble_eq_true rfl) (by decide) rfl).trans ?_
        refine (R_iload_n dX8_playOf_65 rfl).trans ?_
        refine (R_iconst (-1) dX8_playOf_66 iconst_m1).trans ?_
        refine (R_icmp 89 dX8_playOf_67 rfl).trans (c_eq (fun h4 => ?_) (fun h4 => ?_))
        · refine (R_iload dX8_playOf_89 rfl).trans ?_
          refine (R_goto 95 dX8_playOf_91 rfl).trans ?_
          refine (R_istore_n (ls' := [vr 8 0, vi l1, vi ((μ 50 0 (Int32.toNatClampNeg (58 + (μ 53 0 (Int32.toNatClampNeg l4))))) - (μ 50 0 (Int32.toNatClampNeg (33 + l4)))), vi l3, vi l4, vi ((μ 50 0 (Int32.toNatClampNeg (58 + (μ 53 0 (Int32.toNatClampNeg l4))))) - (μ 50 0 (Int32.toNatClampNeg (33 + l4))))]) dX8_playOf_95 (Nat.le_of_ble_eq_true rfl) (by decide) rfl).trans ?_
          refine (R_iinc (ls' := [vr 8 0, vi l1, vi ((μ 50 0 (Int32.toNatClampNeg (58 + (μ 53 0 (Int32.toNatClampNeg l4))))) - (μ 50 0 (Int32.toNatClampNeg (33 + l4)))), vi l3, vi (l4 + 1), vi ((μ 50 0 (Int32.toNatClampNeg (58 + (μ 53 0 (Int32.toNatClampNeg l4))))) - (μ 50 0 (Int32.toNatClampNeg (33 + l4))))]) 1 dX8_playOf_96 rfl iconst_1 (by decide) rfl).trans ?_
          refine (R_goto 10 dX8_playOf_99 rfl).trans ?_
          exact rfl
        · refine (R_iload_n dX8_playOf_70 rfl).trans ?_
          refine (R_ifc 83 dX8_playOf_71 rfl).trans (c_eq (fun h5 => ?_) (fun h5 => ?_))
          · refine (R_iload dX8_playOf_83 rfl).trans ?_
            refine (R_iload_n dX8_playOf_85 rfl).trans ?_
            refine (R_icmp 94 dX8_playOf_86 rfl).trans (c_ge (fun h6 => ?_) (fun h6 => ?_))
            · refine (R_iload dX8_playOf_89 rfl).trans ?_
              refine (R_goto 95 dX8_playOf_91 rfl).trans ?_
              refine (R_istore_n (ls' := [vr 8 0, vi l1, vi ((μ 50 0 (Int32.toNatClampNeg (58 + (μ 53 0 (Int32.toNatClampNeg l4))))) - (μ 50 0 (Int32.toNatClampNeg (33 + l4)))), vi l3, vi l4, vi ((μ 50 0 (Int32.toNatClampNeg (58 + (μ 53 0 (Int32.toNatClampNeg l4))))) - (μ 50 0 (Int32.toNatClampNeg (33 + l4))))]) dX8_playOf_95 (Nat.le_of_ble_eq_true rfl) (by decide) rfl).trans ?_
              refine (R_iinc (ls' := [vr 8 0, vi l1, vi ((μ 50 0 (Int32.toNatClampNeg (58 + (μ 53 0 (Int32.toNatClampNeg l4))))) - (μ 50 0 (Int32.toNatClampNeg (33 + l4)))), vi l3, vi (l4 + 1), vi ((μ 50 0 (Int32.toNatClampNeg (58 + (μ 53 0 (Int32.toNatClampNeg l4))))) - (μ 50 0 (Int32.toNatClampNeg (33 + l4))))]) 1 dX8_playOf_96 rfl iconst_1 (by decide) rfl).trans ?_
              refine (R_goto 10 dX8_playOf_99 rfl).trans ?_
              exact rfl
            · refine (R_iload_n dX8_playOf_94 rfl).trans ?_
              refine (R_istore_n (ls' := [vr 8 0, vi l1, vi l2, vi l3, vi l4, vi ((μ 50 0 (Int32.toNatClampNeg (58 + (μ 53 0 (Int32.toNatClampNeg l4))))) - (μ 50 0 (Int32.toNatClampNeg (33 + l4))))]) dX8_playOf_95 (Nat.le_of_ble_eq_true rfl) (by decide) rfl).trans ?_
              refine (R_iinc (ls' := [vr 8 0, vi l1, vi l2, vi l3, vi (l4 + 1), vi ((μ 50 0 (Int32.toNatClampNeg (58 + (μ 53 0 (Int32.toNatClampNeg l4))))) - (μ 50 0 (Int32.toNatClampNeg (33 + l4))))]) 1 dX8_playOf_96 rfl iconst_1 (by decide) rfl).trans ?_
              refine (R_goto 10 dX8_playOf_99 rfl).trans ?_
              exact rfl
          · refine (R_iload dX8_playOf_74 rfl).trans ?_
            refine (R_iload_n dX8_playOf_76 rfl).trans ?_
            refine (R_icmp 94 dX8_playOf_77 rfl).trans (c_le (fun h7 => ?_) (fun h7 => ?_))
            · refine (R_goto 89 dX8_playOf_80 rfl).trans ?_
              refine (R_iload dX8_playOf_89 rfl).trans ?_
              refine (R_goto 95 dX8_playOf_91 rfl).trans ?_
              refine (R_istore_n (ls' := [vr 8 0, vi l1, vi ((μ 50 0 (Int32.toNatClampNeg (58 + (μ 53 0 (Int32.toNatClampNeg l4))))) - (μ 50 0 (Int32.toNatClampNeg (33 + l4)))), vi l3, vi l4, vi ((μ 50 0 (Int32.toNatClampNeg (58 + (μ 53 0 (Int32.toNatClampNeg l4))))) - (μ 50 0 (Int32.toNatClampNeg (33 + l4))))]) dX8_playOf_95 (Nat.le_of_ble_eq_true rfl) (by decide) rfl).trans ?_
              refine (R_iinc (ls' := [vr 8 0, vi l1, vi ((μ 50 0 (Int32.toNatClampNeg (58 + (μ 53 0 (Int32.toNatClampNeg l4))))) - (μ 50 0 (Int32.toNatClampNeg (33 + l4)))), vi l3, vi (l4 + 1), vi ((μ 50 0 (Int32.toNatClampNeg (58 + (μ 53 0 (Int32.toNatClampNeg l4))))) - (μ 50 0 (Int32.toNatClampNeg (33 + l4))))]) 1 dX8_playOf_96 rfl iconst_1 (by decide) rfl).trans ?_
              refine (R_goto 10 dX8_playOf_99 rfl).trans ?_
              exact rfl
            · refine (R_iload_n dX8_playOf_94 rfl).trans ?_
              refine (R_istore_n (ls' := [vr 8 0, vi l1, vi l2, vi l3, vi l4, vi ((μ 50 0 (Int32.toNatClampNeg (58 + (μ 53 0 (Int32.toNatClampNeg l4))))) - (μ 50 0 (Int32.toNatClampNeg (33 + l4))))]) dX8_playOf_95 (Nat.le_of_ble_eq_true rfl) (by decide) rfl).trans ?_
              refine (R_iinc (ls' := [vr 8 0, vi l1, vi l2, vi l3, vi (l4 + 1), vi ((μ 50 0 (Int32.toNatClampNeg (58 + (μ 53 0 (Int32.toNatClampNeg l4))))) - (μ 50 0 (Int32.toNatClampNeg (33 + l4))))]) 1 dX8_playOf_96 rfl iconst_1 (by decide) rfl).trans ?_
              refine (R_goto 10 dX8_playOf_99 rfl).trans ?_
              exact rfl
    · refine (R_iload_n dX8_playOf_102 rfl).trans ?_
      exact R_ireturn dX8_playOf_103 rfl
  · refine (R_iload_n dX8_playOf_102 rfl).trans ?_
    exact R_ireturn dX8_playOf_103 rfl
noncomputable def E_X8_more : mE := fun k => if k = 90 then f_X8_now else if k = 85 then f_X8_begin else if k = 82 then f_X8_isSize else if k = 89 then f_X8_pairs else fun _ _ => none
theorem E_X8_more_90 : E_X8_more 90 = f_X8_now := if_pos rfl
theorem E_X8_more_85 : E_X8_more 85 = f_X8_begin := (if_neg (by decide)).trans (if_pos rfl)
theorem E_X8_more_82 : E_X8_more 82 = f_X8_isSize := (if_neg (by decide)).trans ((if_neg (by decide)).trans (if_pos rfl))
theorem E_X8_more_89 : E_X8_more 89 = f_X8_pairs := (if_neg (by decide)).trans ((if_neg (by decide)).trans ((if_neg (by decide)).trans (if_pos rfl)))
noncomputable def f_X8_more : List mV → mM → Option mR := mm_fn E_X8_more 8 1 6 cX8_more
theorem k_X8_more (l : Launch) : mm_OK l 93 f_X8_more := mm_fn_ok l 93 8 E_X8_more (by decide) rfl (by decide) (by
  intro k as μ q h
  by_cases h0 : k = 90
  · subst h0
    exact ⟨by rw [E_X8_more_90]; exact k_X8_now l, by decide, by decide, by decide⟩
  by_cases h1 : k = 85
  · subst h1
    exact ⟨by rw [E_X8_more_85]; exact k_X8_begin l, by decide, by decide, by decide⟩
  by_cases h2 : k = 82
  · subst h2
    exact ⟨by rw [E_X8_more_82]; exact k_X8_isSize l, by decide, by decide, by decide⟩
  by_cases h3 : k = 89
  · subst h3
    exact ⟨by rw [E_X8_more_89]; exact k_X8_pairs l, by decide, by decide, by decide⟩
  have e : E_X8_more k = fun _ _ => none := (if_neg h0).trans ((if_neg h1).trans ((if_neg h2).trans ((if_neg h3).trans (rfl))))
  rw [e] at h
  cases h)
noncomputable def r_X8_more_9 (l1 : Int32) (l2 : Int32) (l3 : Int32) (x4 : mV) (x5 : mV) (μ : mM) : Option mR := mm_run E_X8_more 8 1 cX8_more (9, [vr 8 0, vi l1, vi l2, vi l3, x4, x5], [], μ)
set_option maxRecDepth 100000 in
set_option maxHeartbeats 4000000 in
theorem e_X8_more (μ : mM) : f_X8_more [vr 8 0] μ = (Option.bind (f_X8_now [vr 8 0] μ) (fun q1 => r_X8_more_9 (-1) q1.1 0 vu vu q1.2)) := by
  refine (show f_X8_more [vr 8 0] μ = mm_run E_X8_more 8 1 cX8_more (0, [vr 8 0, vu, vu, vu, vu, vu], [], μ) from rfl).trans ?_
  refine (R_iconst (-1) dX8_more_0 iconst_m1).trans ?_
  refine (R_istore_n (ls' := [vr 8 0, vi (-1), vu, vu, vu, vu]) dX8_more_1 (Nat.le_of_ble_eq_true rfl) (by decide) rfl).trans ?_
  refine (R_aload_n dX8_more_2 rfl (by decide)).trans ?_
  refine (R_cv_i (as := []) (rest := []) dX8_more_3 mt_8_70 qp_90 qr_90 (E_X8_more_90) rfl rfl rfl (Nat.le_of_ble_eq_true rfl)).trans (mm_bind (fun q1 => ?_))
  refine (R_istore_n (ls' := [vr 8 0, vi (-1), vi q1.1, vu, vu, vu]) dX8_more_6 (Nat.le_of_ble_eq_true rfl) (by decide) rfl).trans ?_
  refine (R_iconst 0 dX8_more_7 iconst_0).trans ?_
  refine (R_istore_n (ls' := [vr 8 0, vi (-1), vi q1.1, vi 0, vu, vu]) dX8_more_8 (Nat.le_of_ble_eq_true rfl) (by decide) rfl).trans ?_
  exact rfl
set_option maxRecDepth 100000 in
set_option maxHeartbeats 4000000 in
theorem e_X8_more_9 (l1 : Int32) (l2 : Int32) (l3 : Int32) (x4 : mV) (x5 : mV) (μ : mM) : r_X8_more_9 l1 l2 l3 x4 x5 μ = (ck 5225 8 (if l3 < μ 50 0 (Int32.toNatClampNeg 8) then (Option.bind (f_X8_begin [vr 8 0, vi l3] μ) (fun q2 => (Option.bind (f_X8_isSize [vi q2.1] q2.2) (fun q3 => (if q3.1 = 0 then r_X8_more_9 l1 l2 (l3 + 1) (vi q2.1) (vi 0) q3.2 else (if l1 = (-1) then (Option.bind (f_X8_pairs [vr 8 0, vi 0, vi q2.1] q3.2) (fun q6 => (if l2 < q6.1 then r_X8_more_9 q2.1 l2 (l3 + 1) (vi q2.1) (vi 1) q6.2 else r_X8_more_9 l1 l2 (l3 + 1) (vi q2.1) (vi 0) q6.2))) else (if q2.1 < l1 then (Option.bind (f_X8_pairs [vr 8 0, vi 0, vi q2.1] q3.2) (fun q9 => (if l2 < q9.1 then r_X8_more_9 q2.1 l2 (l3 + 1) (vi q2.1) (vi 1) q9.2 else r_X8_more_9 l1 l2 (l3 + 1) (vi q2.1) (vi 0) q9.2))) else r_X8_more_9 l1 l2 (l3 + 1) (vi q2.1) (vi 0) q3.2))))))) else some (l1, μ))) := by
  refine (show r_X8_more_9 l1 l2 l3 x4 x5 μ = mm_run E_X8_more 8 1 cX8_more (9, [vr 8 0, vi l1, vi l2, vi l3, x4, x5], [], μ) from rfl).trans ?_
  refine (R_iload_n dX8_more_9 rfl).trans ?_
  refine (R_aload_n dX8_more_10 rfl (by decide)).trans ?_
  refine (gr_8_7 dX8_more_11).trans ?_
  refine (R_bipush 8 dX8_more_14 bipush_8).trans ?_
  refine (R_iaload dX8_more_16 as_50).trans (ck_congr ?_)
  refine (R_icmp 82 dX8_more_17 rfl).trans (c_ge (fun h1 => ?_) (fun h1 => ?_))
  · refine (R_aload_n dX8_more_20 rfl (by decide)).trans ?_
    refine (R_iload_n dX8_more_21 rfl).trans ?_
    refine (R_cv_i (as := [vi l3]) (rest := []) dX8_more_22 mt_8_56 qp_85 qr_85 (E_X8_more_85) rfl rfl rfl (Nat.le_of_ble_eq_true rfl)).trans (mm_bind (fun q2 => ?_))
    refine (R_istore (ls' := [vr 8 0, vi l1, vi l2, vi l3, vi q2.1, x5]) dX8_more_25 (Nat.le_of_ble_eq_true rfl) (by decide) rfl).trans ?_
    refine (R_iload dX8_more_27 rfl).trans ?_
    refine (R_cs_i (as := [vi q2.1]) (rest := []) dX8_more_29 mt_8_74 (by decide) qp_82 qr_82 (E_X8_more_82) (Nat.le_of_ble_eq_true rfl) rfl rfl (Nat.le_of_ble_eq_true rfl)).trans (mm_bind (fun q3 => ?_))
    refine (R_ifc 61 dX8_more_32 rfl).trans (c_eq (fun h4 => ?_) (fun h4 => ?_))
    · refine (R_iconst 0 dX8_more_61 iconst_0).trans ?_
      refine (R_istore (ls' := [vr 8 0, vi l1, vi l2, vi l3, vi q2.1, vi 0]) dX8_more_62 (Nat.le_of_ble_eq_true rfl) (by decide) rfl).trans ?_
      refine (R_iload dX8_more_64 rfl).trans ?_
      refine (R_ifc 74 dX8_more_66 rfl).trans ((p_eq_t (by decide)).trans ?_)
      refine (R_iload_n dX8_more_74 rfl).trans ?_
      refine (R_istore_n (ls' := [vr 8 0, vi l1, vi l2, vi l3, vi q2.1, vi 0]) dX8_more_75 (Nat.le_of_ble_eq_true rfl) (by decide) rfl).trans ?_
      refine (R_iinc (ls' := [vr 8 0, vi l1, vi l2, vi (l3 + 1), vi q2.1, vi 0]) 1 dX8_more_76 rfl iconst_1 (by decide) rfl).trans ?_
      refine (R_goto 9 dX8_more_79 rfl).trans ?_
      exact rfl
    · refine (R_iload_n dX8_more_35 rfl).trans ?_
      refine (R_iconst (-1) dX8_more_36 iconst_m1).trans ?_
      refine (R_icmp 46 dX8_more_37 rfl).trans (c_eq (fun h5 => ?_) (fun h5 => ?_))
      · refine (R_aload_n dX8_more_46 rfl (by decide)).trans ?_
        refine (R_iconst 0 dX8_more_47 iconst_0).trans ?_
        refine (R_iload dX8_more_48 rfl).trans ?_
        refine (R_cv_i (as := [vi 0, vi q2.1]) (rest := []) dX8_more_50 mt_8_67 qp_89 qr_89 (E_X8_more_89) rfl rfl rfl (Nat.le_of_ble_eq_true rfl)).trans (mm_bind (fun q6 => ?_))
        refine (R_iload_n dX8_more_53 rfl).trans ?_
        refine (R_icmp 61 dX8_more_54 rfl).trans (c_le (fun h7 => ?_) (fun h7 => ?_))
        · refine (R_iconst 1 dX8_more_57 iconst_1).trans ?_
          refine (R_goto 62 dX8_more_58 rfl).trans ?_
          refine (R_istore (ls' := [vr 8 0, vi l1, vi l2, vi l3, vi q2.1, vi 1]) dX8_more_62 (Nat.le_of_ble_eq_true rfl) (by decide) rfl).trans ?_
          refine (R_iload dX8_more_64 rfl).trans ?_
          refine (R_ifc 74 dX8_more_66 rfl).trans ((p_eq_f (by decide)).trans ?_)
          refine (R_iload dX8_more_69 rfl).trans ?_
          refine (R_goto 75 dX8_more_71 rfl).trans ?_
          refine (R_istore_n (ls' := [vr 8 0, vi q2.1, vi l2, vi l3, vi q2.1, vi 1]) dX8_more_75 (Nat.le_of_ble_eq_true rfl) (by decide) rfl).trans ?_
          refine (R_iinc (ls' := [vr 8 0, vi q2.1, vi l2, vi (l3 + 1), vi q2.1, vi 1]) 1 dX8_more_76 rfl iconst_1 (by decide) rfl).trans ?_
          refine (R_goto 9 dX8_more_79 rfl).trans ?_
          exact rfl
        · refine (R_iconst 0 dX8_more_61 iconst_0).trans ?_
          refine (R_istore (ls' := [vr 8 0, vi l1, vi l2, vi l3, vi q2.1, vi 0]) dX8_more_62 (Nat.le_of_ble_eq_true rfl) (by decide) rfl).trans ?_
          refine (R_iload dX8_more_64 rfl).trans ?_
          refine (R_ifc 74 dX8_more_66 rfl).trans ((p_eq_t (by decide)).trans ?_)
          refine (R_iload_n dX8_more_74 rfl).trans ?_
          refine (R_istore_n (ls' := [vr 8 0, vi l1, vi l2, vi l3, vi q2.1, vi 0]) dX8_more_75 (Nat.le_of_ble_eq_true rfl) (by decide) rfl).trans ?_
          refine (R_iinc (ls' := [vr 8 0, vi l1, vi l2, vi (l3 + 1), vi q2.1, vi 0]) 1 dX8_more_76 rfl iconst_1 (by decide) rfl).trans ?_
          refine (R_goto 9 dX8_more_79 rfl).trans ?_
          exact rfl
      · refine (R_iload dX8_more_40 rfl).trans ?_
        refine (R_iload_n dX8_more_42 rfl).trans ?_
        refine (R_icmp 61 dX8_more_43 rfl).trans (c_ge (fun h8 => ?_) (fun h8 => ?_))
        · refine (R_aload_n dX8_more_46 rfl (by decide)).trans ?_
          refine (R_iconst 0 dX8_more_47 iconst_0).trans ?_
          refine (R_iload dX8_more_48 rfl).trans ?_
          refine (R_cv_i (as := [vi 0, vi q2.1]) (rest := []) dX8_more_50 mt_8_67 qp_89 qr_89 (E_X8_more_89) rfl rfl rfl (Nat.le_of_ble_eq_true rfl)).trans (mm_bind (fun q9 => ?_))
          refine (R_iload_n dX8_more_53 rfl).trans ?_
          refine (R_icmp 61 dX8_more_54 rfl).trans (c_le (fun h10 => ?_) (fun h10 => ?_))
          · refine (R_iconst 1 dX8_more_57 iconst_1).trans ?_
            refine (R_goto 62 dX8_more_58 rfl).trans ?_
            refine (R_istore (ls' := [vr 8 0, vi l1, vi l2, vi l3, vi q2.1, vi 1]) dX8_more_62 (Nat.le_of_ble_eq_true rfl) (by decide) rfl).trans ?_
            refine (R_iload dX8_more_64 rfl).trans ?_
            refine (R_ifc 74 dX8_more_66 rfl).trans ((p_eq_f (by decide)).trans ?_)
            refine (R_iload dX8_more_69 rfl).trans ?_
            refine (R_goto 75 dX8_more_71 rfl).trans ?_
            refine (R_istore_n (ls' := [vr 8 0, vi q2.1, vi l2, vi l3, vi q2.1, vi 1]) dX8_more_75 (Nat.le_of_ble_eq_true rfl) (by decide) rfl).trans ?_
            refine (R_iinc (ls' := [vr 8 0, vi q2.1, vi l2, vi (l3 + 1), vi q2.1, vi 1]) 1 dX8_more_76 rfl iconst_1 (by decide) rfl).trans ?_
            refine (R_goto 9 dX8_more_79 rfl).trans ?_
            exact rfl
          · refine (R_iconst 0 dX8_more_61 iconst_0).trans ?_
            refine (R_istore (ls' := [vr 8 0, vi l1, vi l2, vi l3, vi q2.1, vi 0]) dX8_more_62 (Nat.le_of_ble_eq_true rfl) (by decide) rfl).trans ?_
            refine (R_iload dX8_more_64 rfl).trans ?_
            refine (R_ifc 74 dX8_more_66 rfl).trans ((p_eq_t (by decide)).trans ?_)
            refine (R_iload_n dX8_more_74 rfl).trans ?_
            refine (R_istore_n (ls' := [vr 8 0, vi l1, vi l2, vi l3, vi q2.1, vi 0]) dX8_more_75 (Nat.le_of_ble_eq_true rfl) (by decide) rfl).trans ?_
            refine (R_iinc (ls' := [vr 8 0, vi l1, vi l2, vi (l3 + 1), vi q2.1, vi 0]) 1 dX8_more_76 rfl iconst_1 (by decide) rfl).trans ?_
            refine (R_goto 9 dX8_more_79 rfl).trans ?_
            exact rfl
        · refine (R_iconst 0 dX8_more_61 iconst_0).trans ?_
          refine (R_istore (ls' := [vr 8 0, vi l1, vi l2, vi l3, vi q2.1, vi 0]) dX8_more_62 (Nat.le_of_ble_eq_true rfl) (by decide) rfl).trans ?_
          refine (R_iload dX8_more_64 rfl).trans ?_
          refine (R_ifc 74 dX8_more_66 rfl).trans ((p_eq_t (by decide)).trans ?_)
          refine (R_iload_n dX8_more_74 rfl).trans ?_
          refine (R_istore_n (ls' := [vr 8 0, vi l1, vi l2, vi l3, vi q2.1, vi 0]) dX8_more_75 (Nat.le_of_ble_eq_true rfl) (by decide) rfl).trans ?_
          refine (R_iinc (ls' := [vr 8 0, vi l1, vi l2, vi (l3 + 1), vi q2.1, vi 0]) 1 dX8_more_76 rfl iconst_1 (by decide) rfl).trans ?_
          refine (R_goto 9 dX8_more_79 rfl).trans ?_
          exact rfl
  · refine (R_iload_n dX8_more_82 rfl).trans ?_
    exact R_ireturn dX8_more_83 rfl
noncomputable def E_X8_shaftTells : mE := fun k => if k = 90 then f_X8_now else if k = 85 then f_X8_begin else if k = 86 then f_X8_end else if k = 100 then f_X8_sortOf else fun _ _ => none
theorem E_X8_shaftTells_90 : E_X8_shaftTells 90 = f_X8_now := if_pos rfl
theorem E_X8_shaftTells_85 : E_X8_shaftTells 85 = f_X8_begin := (if_neg (by decide)).trans (if_pos rfl)
theorem E_X8_shaftTells_86 : E_X8_shaftTells 86 = f_X8_end := (if_neg (by decide)).trans ((if_neg (by decide)).trans (if_pos rfl))
theorem E_X8_shaftTells_100 : E_X8_shaftTells 100 = f_X8_sortOf := (if_neg (by decide)).trans ((if_neg (by decide)).trans ((if_neg (by decide)).trans (if_pos rfl)))
noncomputable def f_X8_shaftTells : List mV → mM → Option mR := mm_fn E_X8_shaftTells 8 1 4 cX8_shaftTells
theorem k_X8_shaftTells (l : Launch) : mm_OK l 101 f_X8_shaftTells := mm_fn_ok l 101 8 E_X8_shaftTells (by decide) rfl (by decide) (by
  intro k as μ q h
  by_cases h0 : k = 90
  · subst h0
    exact ⟨by rw [E_X8_shaftTells_90]; exact k_X8_now l, by decide, by decide, by decide⟩
  by_cases h1 : k = 85
  · subst h1
    exact ⟨by rw [E_X8_shaftTells_85]; exact k_X8_begin l, by decide, by decide, by decide⟩
  by_cases h2 : k = 86
  · subst h2
    exact ⟨by rw [E_X8_shaftTells_86]; exact k_X8_end l, by decide, by decide, by decide⟩
  by_cases h3 : k = 100
  · subst h3
    exact ⟨by rw [E_X8_shaftTells_100]; exact k_X8_sortOf l, by decide, by decide, by decide⟩
  have e : E_X8_shaftTells k = fun _ _ => none := (if_neg h0).trans ((if_neg h1).trans ((if_neg h2).trans ((if_neg h3).trans (rfl))))
  rw [e] at h
  cases h)
set_option maxRecDepth 100000 in
set_option maxHeartbeats 4000000 in
theorem e_X8_shaftTells (l1 : Int32) (l2 : Int32) (μ : mM) : f_X8_shaftTells [vr 8 0, vi l1, vi l2] μ = (Option.bind (f_X8_now [vr 8 0] μ) (fun q1 => (if l2 = 0 then (ck 5225 (9 + l1) (some (q1.2 50 0 (Int32.toNatClampNeg (9 + l1)), q1.2))) else (if l2 = 1 then (ck 5225 (33 + l1) (some (q1.2 50 0 (Int32.toNatClampNeg (33 + l1)), q1.2))) else (if l2 = 2 then (if 0 < q1.1 then (ck 24 l1 (some (q1.2 53 0 (Int32.toNatClampNeg l1), q1.2))) else some ((-1), q1.2)) else (if l2 = 3 then (Option.bind (f_X8_begin [vr 8 0, vi l1] q1.2) (fun q7 => some (q7.1, q7.2))) else (if l2 = 4 then (Option.bind (f_X8_end [vr 8 0, vi l1] q1.2) (fun q9 => some (q9.1, q9.2))) else (if l2 = 5 then (ck 5225 (9 + l1) (ck 5225 (33 + l1) (Option.bind (f_X8_sortOf [vr 8 0, vi (q1.2 50 0 (Int32.toNatClampNeg (9 + l1))), vi (q1.2 50 0 (Int32.toNatClampNeg (33 + l1)))] q1.2) (fun q11 => some (q11.1, q11.2))))) else some ((-1000000002), q1.2))))))))) := by
  refine (show f_X8_shaftTells [vr 8 0, vi l1, vi l2] μ = mm_run E_X8_shaftTells 8 1 cX8_shaftTells (0, [vr 8 0, vi l1, vi l2, vu], [], μ) from rfl).trans ?_
  refine (R_aload_n dX8_shaftTells_0 rfl (by decide)).trans ?_
  refine (R_cv_i (as := []) (rest := []) dX8_shaftTells_1 mt_8_70 qp_90 qr_90 (E_X8_shaftTells_90) rfl rfl rfl (Nat.le_of_ble_eq_true rfl)).trans (mm_bind (fun q1 => ?_))
  refine (R_istore_n (ls' := [vr 8 0, vi l1, vi l2, vi q1.1]) dX8_shaftTells_4 (Nat.le_of_ble_eq_true rfl) (by decide) rfl).trans ?_
  refine (R_iload_n dX8_shaftTells_5 rfl).trans ?_
  refine mm_ite (c := l2 = 0) (fun h2 => ?_) (fun h2 => ?_)
  · refine (R_switch dX8_shaftTells_6 (sw_in 44 h2 rfl rfl rfl rfl)).trans ?_
    refine (R_aload_n dX8_shaftTells_44 rfl (by decide)).trans ?_
    refine (gr_8_7 dX8_shaftTells_45).trans ?_
    refine (R_bipush 9 dX8_shaftTells_48 bipush_9).trans ?_
    refine (R_iload_n dX8_shaftTells_50 rfl).trans ?_
    refine (R_iadd dX8_shaftTells_51).trans ?_
    refine (R_iaload dX8_shaftTells_52 as_50).trans (ck_congr ?_)
    exact R_ireturn dX8_shaftTells_53 rfl
  refine mm_ite (c := l2 = 1) (fun h3 => ?_) (fun h3 => ?_)
  · refine (R_switch dX8_shaftTells_6 (sw_in 54 h3 rfl rfl rfl rfl)).trans ?_
    refine (R_aload_n dX8_shaftTells_54 rfl (by decide)).trans ?_
    refine (gr_8_7 dX8_shaftTells_55).trans ?_
    refine (R_bipush 33 dX8_shaftTells_58 bipush_33).trans ?_
    refine (R_iload_n dX8_shaftTells_60 rfl).trans ?_
    refine (R_iadd dX8_shaftTells_61).trans ?_
    refine (R_iaload dX8_shaftTells_62 as_50).trans (ck_congr ?_)
    exact R_ireturn dX8_shaftTells_63 rfl
  refine mm_ite (c := l2 = 2) (fun h4 => ?_) (fun h4 => ?_)
  · refine (R_switch dX8_shaftTells_6 (sw_in 64 h4 rfl rfl rfl rfl)).trans ?_
    refine (R_iload_n dX8_shaftTells_64 rfl).trans ?_
    refine (R_ifc 77 dX8_shaftTells_65 rfl).trans (c_le (fun h5 => ?_) (fun h5 => ?_))
    · refine (R_aload_n dX8_shaftTells_68 rfl (by decide)).trans ?_
      refine (gr_8_20 dX8_shaftTells_69).trans ?_
      refine (R_iload_n dX8_shaftTells_72 rfl).trans ?_
      refine (R_iaload dX8_shaftTells_73 as_53).trans (ck_congr ?_)
      refine (R_goto 78 dX8_shaftTells_74 rfl).trans ?_
      exact R_ireturn dX8_shaftTells_78 rfl
    · refine (R_iconst (-1) dX8_shaftTells_77 iconst_m1).trans ?_
      exact R_ireturn dX8_shaftTells_78 rfl
  refine mm_ite (c := l2 = 3) (fun h6 => ?_) (fun h6 => ?_)
  · refine (R_switch dX8_shaftTells_6 (sw_in 79 h6 rfl rfl rfl rfl)).trans ?_
    refine (R_aload_n dX8_shaftTells_79 rfl (by decide)).trans ?_
    refine (R_iload_n dX8_shaftTells_80 rfl).trans ?_
    refine (R_cv_i (as := [vi l1]) (rest := []) dX8_shaftTells_81 mt_8_56 qp_85 qr_85 (E_X8_shaftTells_85) rfl rfl rfl (Nat.le_of_ble_eq_true rfl)).trans (mm_bind (fun q7 => ?_))
    exact R_ireturn dX8_shaftTells_84 rfl
  refine mm_ite (c := l2 = 4) (fun h8 => ?_) (fun h8 => ?_)
  · refine (R_switch dX8_shaftTells_6 (sw_in 85 h8 rfl rfl rfl rfl)).trans ?_
    refine (R_aload_n dX8_shaftTells_85 rfl (by decide)).trans ?_
    refine (R_iload_n dX8_shaftTells_86 rfl).trans ?_
    refine (R_cv_i (as := [vi l1]) (rest := []) dX8_shaftTells_87 mt_8_60 qp_86 qr_86 (E_X8_shaftTells_86) rfl rfl rfl (Nat.le_of_ble_eq_true rfl)).trans (mm_bind (fun q9 => ?_))
    exact R_ireturn dX8_shaftTells_90 rfl
  refine mm_ite (c := l2 = 5) (fun h10 => ?_) (fun h10 => ?_)
  · refine (R_switch dX8_shaftTells_6 (sw_in 91 h10 rfl rfl rfl rfl)).trans ?_
    refine (R_aload_n dX8_shaftTells_91 rfl (by decide)).trans ?_
    refine (R_aload_n dX8_shaftTells_92 rfl (by decide)).trans ?_
    refine (gr_8_7 dX8_shaftTells_93).trans ?_
    refine (R_bipush 9 dX8_shaftTells_96 bipush_9).trans ?_
    refine (R_iload_n dX8_shaftTells_98 rfl).trans ?_
    refine (R_iadd dX8_shaftTells_99).trans ?_
    refine (R_iaload dX8_shaftTells_100 as_50).trans (ck_congr ?_)
    refine (R_aload_n dX8_shaftTells_101 rfl (by decide)).trans ?_
    refine (gr_8_7 dX8_shaftTells_102).trans ?_
    refine (R_bipush 33 dX8_shaftTells_105 bipush_33).trans ?_
    refine (R_iload_n dX8_shaftTells_107 rfl).trans ?_
    refine (R_iadd dX8_shaftTells_108).trans ?_
    refine (R_iaload dX8_shaftTells_109 as_50).trans (ck_congr ?_)
    refine (R_cv_i (as := [vi (q1.2 50 0 (Int32.toNatClampNeg (9 + l1))), vi (q1.2 50 0 (Int32.toNatClampNeg (33 + l1)))]) (rest := []) dX8_shaftTells_110 mt_8_119 qp_100 qr_100 (E_X8_shaftTells_100) rfl rfl rfl (Nat.le_of_ble_eq_true rfl)).trans (mm_bind (fun q11 => ?_))
    exact R_ireturn dX8_shaftTells_113 rfl
  refine (R_switch dX8_shaftTells_6 (sw_out 114 (sw_n6 h2 h3 h4 h6 h8 h10) rfl)).trans ?_
  refine (R_ldc dX8_shaftTells_114 kt_8_118).trans ?_
  exact R_ireturn dX8_shaftTells_116 rfl
