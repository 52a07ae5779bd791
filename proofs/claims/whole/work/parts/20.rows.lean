theorem mm_ite {α : Type} {c : Prop} [Decidable c] {x x' y' : α} (hx : c → x = x') (hy : ¬ c → x = y') : x = if c then x' else y' := by
  by_cases h : c
  · rw [if_pos h]; exact hx h
  · rw [if_neg h]; exact hy h
section CN
variable {α : Type} {x y : Int32} {A B A' B' : α}
theorem c_eq (h1 : x = y → A = A') (h2 : ¬ x = y → B = B') : (if mm_hi .eq x y = true then A else B) = if x = y then A' else B' := by
  by_cases h : x = y
  · rw [if_pos (show mm_hi .eq x y = true from decide_eq_true h), if_pos h]; exact h1 h
  · rw [if_neg (show ¬ mm_hi .eq x y = true from fun q => h (of_decide_eq_true q)), if_neg h]; exact h2 h
theorem c_ne (h1 : x = y → B = B') (h2 : ¬ x = y → A = A') : (if mm_hi .ne x y = true then A else B) = if x = y then B' else A' := by
  by_cases h : x = y
  · rw [if_neg (show ¬ mm_hi .ne x y = true from fun q => of_decide_eq_true q h), if_pos h]; exact h1 h
  · rw [if_pos (show mm_hi .ne x y = true from decide_eq_true h), if_neg h]; exact h2 h
theorem c_lt (h1 : x < y → A = A') (h2 : ¬ x < y → B = B') : (if mm_hi .lt x y = true then A else B) = if x < y then A' else B' := by
  by_cases h : x < y
  · rw [if_pos (show mm_hi .lt x y = true from decide_eq_true h), if_pos h]; exact h1 h
  · rw [if_neg (show ¬ mm_hi .lt x y = true from fun q => h (of_decide_eq_true q)), if_neg h]; exact h2 h
theorem c_ge (h1 : x < y → B = B') (h2 : ¬ x < y → A = A') : (if mm_hi .ge x y = true then A else B) = if x < y then B' else A' := by
  by_cases h : x < y
  · rw [if_neg (show ¬ mm_hi .ge x y = true from fun q => Int32.not_lt.mpr (of_decide_eq_true q) h), if_pos h]; exact h1 h
  · rw [if_pos (show mm_hi .ge x y = true from decide_eq_true (Int32.not_lt.mp h)), if_neg h]; exact h2 h
theorem c_gt (h1 : y < x → A = A') (h2 : ¬ y < x → B = B') : (if mm_hi .gt x y = true then A else B) = if y < x then A' else B' := by
  by_cases h : y < x
  · rw [if_pos (show mm_hi .gt x y = true from decide_eq_true h), if_pos h]; exact h1 h
  · rw [if_neg (show ¬ mm_hi .gt x y = true from fun q => h (of_decide_eq_true q)), if_neg h]; exact h2 h
theorem c_le (h1 : y < x → B = B') (h2 : ¬ y < x → A = A') : (if mm_hi .le x y = true then A else B) = if y < x then B' else A' := by
  by_cases h : y < x
  · rw [if_neg (show ¬ mm_hi .le x y = true from fun q => Int32.not_lt.mpr (of_decide_eq_true q) h), if_pos h]; exact h1 h
  · rw [if_pos (show mm_hi .le x y = true from decide_eq_true (Int32.not_lt.mp h)), if_neg h]; exact h2 h
theorem p_eq_t (h : x = y) : (if mm_hi .eq x y = true then A else B) = A := if_pos (show mm_hi .eq x y = true from decide_eq_true h)
theorem p_eq_f (h : ¬ x = y) : (if mm_hi .eq x y = true then A else B) = B := if_neg (show ¬ mm_hi .eq x y = true from fun q => h (of_decide_eq_true q))
theorem p_ne_t (h : x = y) : (if mm_hi .ne x y = true then A else B) = B := if_neg (show ¬ mm_hi .ne x y = true from fun q => of_decide_eq_true q h)
theorem p_ne_f (h : ¬ x = y) : (if mm_hi .ne x y = true then A else B) = A := if_pos (show mm_hi .ne x y = true from decide_eq_true h)
theorem p_lt_t (h : x < y) : (if mm_hi .lt x y = true then A else B) = A := if_pos (show mm_hi .lt x y = true from decide_eq_true h)
theorem p_lt_f (h : ¬ x < y) : (if mm_hi .lt x y = true then A else B) = B := if_neg (show ¬ mm_hi .lt x y = true from fun q => h (of_decide_eq_true q))
theorem p_ge_t (h : x < y) : (if mm_hi .ge x y = true then A else B) = B := if_neg (show ¬ mm_hi .ge x y = true from fun q => Int32.not_lt.mpr (of_decide_eq_true q) h)
theorem p_ge_f (h : ¬ x < y) : (if mm_hi .ge x y = true then A else B) = A := if_pos (show mm_hi .ge x y = true from decide_eq_true (Int32.not_lt.mp h))
theorem p_gt_t (h : y < x) : (if mm_hi .gt x y = true then A else B) = A := if_pos (show mm_hi .gt x y = true from decide_eq_true h)
theorem p_gt_f (h : ¬ y < x) : (if mm_hi .gt x y = true then A else B) = B := if_neg (show ¬ mm_hi .gt x y = true from fun q => h (of_decide_eq_true q))
theorem p_le_t (h : y < x) : (if mm_hi .le x y = true then A else B) = B := if_neg (show ¬ mm_hi .le x y = true from fun q => Int32.not_lt.mpr (of_decide_eq_true q) h)
theorem p_le_f (h : ¬ y < x) : (if mm_hi .le x y = true then A else B) = A := if_pos (show mm_hi .le x y = true from decide_eq_true (Int32.not_lt.mp h))
end CN
section SW
variable {pc : Nat} {ls st : List mV} {μ : mM} {d lo hi : Int} {offs : Array Int} {x : Int32}
theorem sw_in {off k : Int} {y : Int32} (tgt : Nat) (h : x = y) (hk : y.toInt = k) (hin : (decide (k < lo) || decide (hi < k)) = false) (ho : offs[(k - lo).toNat]? = some off) (ht : (pc : Int) + off = (tgt : Int)) : mm_sw pc d lo hi offs ls (vi x :: st) μ = some (.inl (tgt, ls, st, μ)) := by
  subst h
  simp only [mm_sw, hk, ho]
  simp at hin
  rw [if_neg (by omega)]
  exact mm_jp_to ht
theorem sw_out (tgt : Nat) (h : x.toInt < lo ∨ hi < x.toInt) (ht : (pc : Int) + d = (tgt : Int)) : mm_sw pc d lo hi offs ls (vi x :: st) μ = some (.inl (tgt, ls, st, μ)) := by
  simp only [mm_sw]
  rw [if_pos h]
  exact mm_jp_to ht
end SW
/-- a copy that is looked at -/
def ca {α : Type} (n0 n1 : Nat) (l sp dp : Int32) (x : Option α) : Option α := if l < 0 ∨ sp < 0 ∨ dp < 0 ∨ n0 < sp.toNatClampNeg + l.toNatClampNeg ∨ n1 < dp.toNatClampNeg + l.toNatClampNeg then none else x
theorem ca_congr {α : Type} {n0 n1 : Nat} {l sp dp : Int32} {x y : Option α} (h : x = y) : (if l < 0 ∨ sp < 0 ∨ dp < 0 ∨ n0 < sp.toNatClampNeg + l.toNatClampNeg ∨ n1 < dp.toNatClampNeg + l.toNatClampNeg then none else x) = ca n0 n1 l sp dp y := by rw [h]; rfl
section RC
variable {E : mE} {o rt : Nat} {cc : ByteArray} {pc : Nat} {ls st : List mV} {μ : mM}
theorem R_cv_i {n id cl k i np r : Nat} {q : Nat × Nat × Nat} {f : List mV → mM → Option mR} {as rest : List mV} (hd : decode cc pc = .ok (.invokevirtual n, 3)) (hm : mm_mt o n = some (0, id, cl, q)) (hn : (mm_qn id).2.2.2.1 = np) (hr : (mm_qn id).2.1 = r + 1) (hE : E id = f) (hk : k = cl) (hst : st.drop np = vr k i :: rest) (ha : (st.take np).reverse = as) (hc : mm_ct rest ≤ 8) :
    mm_run E o rt cc (pc, ls, st, μ) = (f (vr k i :: as) μ).bind (fun x => mm_run E o rt cc (pc + 3, ls, vi x.1 :: rest, x.2)) := R_cv hd hm hn hr hE hk hst ha hc
theorem R_cv_v {n id cl k i np : Nat} {q : Nat × Nat × Nat} {f : List mV → mM → Option mR} {as rest : List mV} (hd : decode cc pc = .ok (.invokevirtual n, 3)) (hm : mm_mt o n = some (0, id, cl, q)) (hn : (mm_qn id).2.2.2.1 = np) (hr : (mm_qn id).2.1 = 0) (hE : E id = f) (hk : k = cl) (hst : st.drop np = vr k i :: rest) (ha : (st.take np).reverse = as) (hc : mm_ct rest ≤ 8) :
    mm_run E o rt cc (pc, ls, st, μ) = (f (vr k i :: as) μ).bind (fun x => mm_run E o rt cc (pc + 3, ls, rest, x.2)) := R_cv hd hm hn hr hE hk hst ha hc
theorem R_cs_i {n id np r t : Nat} {q : Nat × Nat × Nat × Nat} {f : List mV → mM → Option mR} {as rest : List mV} (hd : decode cc pc = .ok (.invokestatic n, 3)) (hm : mm_mt o n = some (t, id, q)) (ht : t = 1 ∨ t = 2) (hn : (mm_qn id).2.2.2.1 = np) (hr : (mm_qn id).2.1 = r + 1) (hE : E id = f) (hl : np ≤ st.length) (hst : st.drop np = rest) (ha : (st.take np).reverse = as) (hc : mm_ct rest ≤ 8) :
    mm_run E o rt cc (pc, ls, st, μ) = (f as μ).bind (fun x => mm_run E o rt cc (pc + 3, ls, vi x.1 :: rest, x.2)) := R_cs hd hm ht hn hr hE hl hst ha hc
end RC
/-- memory that is written, by a name -/
def wr {α : Type} (μ : mM) (f : mM → α) : α := f μ
theorem wr_intro {α : Type} {μ : mM} {g f : mM → α} (h : ∀ m, g m = f m) : g μ = wr μ f := h μ
theorem z_congr {α : Type} {c : Prop} [Decidable c] {x y : Option α} (h : ¬ c → x = y) : (if c then none else x) = if c then none else y := by
  by_cases hc : c
  · rw [if_pos hc, if_pos hc]
  · rw [if_neg hc, if_neg hc]; exact h hc
theorem bipush_6 : (Int8.ofInt 6).toInt32 = 6 := by decide
theorem bipush_8 : (Int8.ofInt 8).toInt32 = 8 := by decide
theorem bipush_9 : (Int8.ofInt 9).toInt32 = 9 := by decide
theorem bipush_10 : (Int8.ofInt 10).toInt32 = 10 := by decide
theorem bipush_16 : (Int8.ofInt 16).toInt32 = 16 := by decide
theorem bipush_20 : (Int8.ofInt 20).toInt32 = 20 := by decide
theorem bipush_24 : (Int8.ofInt 24).toInt32 = 24 := by decide
theorem bipush_33 : (Int8.ofInt 33).toInt32 = 33 := by decide
theorem bipush_48 : (Int8.ofInt 48).toInt32 = 48 := by decide
theorem bipush_49 : (Int8.ofInt 49).toInt32 = 49 := by decide
theorem bipush_57 : (Int8.ofInt 57).toInt32 = 57 := by decide
theorem bipush_58 : (Int8.ofInt 58).toInt32 = 58 := by decide
theorem bipush_82 : (Int8.ofInt 82).toInt32 = 82 := by decide
theorem bipush_83 : (Int8.ofInt 83).toInt32 = 83 := by decide
theorem bipush_100 : (Int8.ofInt 100).toInt32 = 100 := by decide
theorem iconst_m1 : Int32.ofInt (-1) = (-1) := by decide
theorem iconst_0 : Int32.ofInt 0 = 0 := by decide
theorem iconst_1 : Int32.ofInt 1 = 1 := by decide
theorem iconst_2 : Int32.ofInt 2 = 2 := by decide
theorem iconst_4 : Int32.ofInt 4 = 4 := by decide
theorem iconst_5 : Int32.ofInt 5 = 5 := by decide
theorem lconst_0 : Int64.ofNat ((0 : Fin 2) : Nat) = 0 := by decide
theorem lconst_1 : Int64.ofNat ((1 : Fin 2) : Nat) = 1 := by decide
theorem sipush_131 : (Int16.ofInt 131).toInt32 = 131 := by decide
theorem sipush_179 : (Int16.ofInt 179).toInt32 = 179 := by decide
theorem sipush_227 : (Int16.ofInt 227).toInt32 = 227 := by decide
theorem sipush_275 : (Int16.ofInt 275).toInt32 = 275 := by decide
theorem sipush_490 : (Int16.ofInt 490).toInt32 = 490 := by decide
theorem sipush_512 : (Int16.ofInt 512).toInt32 = 512 := by decide
theorem sipush_825 : (Int16.ofInt 825).toInt32 = 825 := by decide
theorem sipush_999 : (Int16.ofInt 999).toInt32 = 999 := by decide
theorem sipush_1000 : (Int16.ofInt 1000).toInt32 = 1000 := by decide
theorem sipush_4125 : (Int16.ofInt 4125).toInt32 = 4125 := by decide
theorem sipush_9999 : (Int16.ofInt 9999).toInt32 = 9999 := by decide
theorem sipush_10000 : (Int16.ofInt 10000).toInt32 = 10000 := by decide
theorem sipush_11000 : (Int16.ofInt 11000).toInt32 = 11000 := by decide
theorem fs_0_0 : (mm_fs 0)[0]? = some (2, 30, 0) := rfl
theorem fs_0_1 : (mm_fs 0)[1]? = some (2, 31, 0) := rfl
theorem fs_0_2 : (mm_fs 0)[2]? = some (2, 32, 0) := rfl
theorem fs_0_3 : (mm_fs 0)[3]? = some (2, 33, 0) := rfl
theorem fs_0_4 : (mm_fs 0)[4]? = some (0, 0, 0) := rfl
theorem fs_1_0 : (mm_fs 1)[0]? = some (0, 0, 0) := rfl
theorem fs_1_1 : (mm_fs 1)[1]? = some (0, 0, 0) := rfl
theorem fs_1_2 : (mm_fs 1)[2]? = some (0, 0, 0) := rfl
theorem fs_1_3 : (mm_fs 1)[3]? = some (0, 0, 0) := rfl
theorem fs_1_4 : (mm_fs 1)[4]? = some (0, 0, 0) := rfl
theorem fs_2_0 : (mm_fs 2)[0]? = some (2, 6, 17) := rfl
theorem fs_2_1 : (mm_fs 2)[1]? = some (0, 0, 0) := rfl
theorem fs_2_2 : (mm_fs 2)[2]? = some (1, 0, 0) := rfl
theorem fs_3_0 : (mm_fs 3)[0]? = some (2, 16, 0) := rfl
theorem fs_3_1 : (mm_fs 3)[1]? = some (0, 0, 0) := rfl
theorem fs_3_2 : (mm_fs 3)[2]? = some (0, 0, 0) := rfl
theorem fs_4_0 : (mm_fs 4)[0]? = some (2, 40, 0) := rfl
theorem fs_4_1 : (mm_fs 4)[1]? = some (2, 41, 0) := rfl
theorem fs_4_2 : (mm_fs 4)[2]? = some (2, 42, 0) := rfl
theorem fs_4_3 : (mm_fs 4)[3]? = some (2, 43, 0) := rfl
theorem fs_4_4 : (mm_fs 4)[4]? = some (0, 0, 0) := rfl
theorem fs_4_5 : (mm_fs 4)[5]? = some (0, 0, 0) := rfl
theorem fs_5_0 : (mm_fs 5)[0]? = some (2, 20, 0) := rfl
theorem fs_5_1 : (mm_fs 5)[1]? = some (2, 21, 0) := rfl
theorem fs_5_2 : (mm_fs 5)[2]? = some (2, 22, 0) := rfl
theorem fs_5_3 : (mm_fs 5)[3]? = some (2, 23, 0) := rfl
theorem fs_5_4 : (mm_fs 5)[4]? = some (2, 24, 0) := rfl
theorem fs_5_5 : (mm_fs 5)[5]? = some (2, 25, 0) := rfl
theorem fs_5_6 : (mm_fs 5)[6]? = some (2, 26, 0) := rfl
theorem fs_5_7 : (mm_fs 5)[7]? = some (2, 27, 0) := rfl
theorem fs_5_8 : (mm_fs 5)[8]? = some (0, 0, 0) := rfl
theorem fs_5_9 : (mm_fs 5)[9]? = some (0, 0, 0) := rfl
theorem fs_6_0 : (mm_fs 6)[0]? = some (2, 10, 0) := rfl
theorem fs_6_1 : (mm_fs 6)[1]? = some (2, 11, 0) := rfl
theorem fs_6_2 : (mm_fs 6)[2]? = some (2, 12, 0) := rfl
theorem fs_6_3 : (mm_fs 6)[3]? = some (2, 13, 0) := rfl
theorem fs_6_4 : (mm_fs 6)[4]? = some (2, 14, 0) := rfl
theorem fs_6_5 : (mm_fs 6)[5]? = some (2, 15, 0) := rfl
theorem fs_6_6 : (mm_fs 6)[6]? = some (0, 0, 0) := rfl
theorem fs_6_7 : (mm_fs 6)[7]? = some (0, 0, 0) := rfl
theorem fs_6_8 : (mm_fs 6)[8]? = some (0, 0, 0) := rfl
theorem fs_7_0 : (mm_fs 7)[0]? = some (2, 6, 0) := rfl
theorem fs_7_1 : (mm_fs 7)[1]? = some (2, 3, 0) := rfl
theorem fs_7_2 : (mm_fs 7)[2]? = some (2, 5, 0) := rfl
theorem fs_7_3 : (mm_fs 7)[3]? = some (2, 1, 0) := rfl
theorem fs_7_4 : (mm_fs 7)[4]? = some (2, 0, 0) := rfl
theorem fs_7_5 : (mm_fs 7)[5]? = some (2, 4, 0) := rfl
theorem fs_7_6 : (mm_fs 7)[6]? = some (2, 17, 0) := rfl
theorem fs_7_7 : (mm_fs 7)[7]? = some (0, 0, 0) := rfl
theorem fs_8_0 : (mm_fs 8)[0]? = some (2, 50, 0) := rfl
theorem fs_8_1 : (mm_fs 8)[1]? = some (2, 51, 0) := rfl
theorem fs_8_2 : (mm_fs 8)[2]? = some (2, 52, 0) := rfl
theorem fs_8_3 : (mm_fs 8)[3]? = some (0, 0, 0) := rfl
theorem fs_8_4 : (mm_fs 8)[4]? = some (0, 0, 0) := rfl
theorem fs_8_5 : (mm_fs 8)[5]? = some (2, 53, 0) := rfl
theorem fs_8_6 : (mm_fs 8)[6]? = some (2, 54, 0) := rfl
theorem fs_8_7 : (mm_fs 8)[7]? = some (2, 55, 0) := rfl
theorem fs_8_8 : (mm_fs 8)[8]? = some (0, 0, 0) := rfl
theorem fs_8_9 : (mm_fs 8)[9]? = some (2, 56, 0) := rfl
theorem fs_8_10 : (mm_fs 8)[10]? = some (2, 57, 0) := rfl
theorem fs_8_11 : (mm_fs 8)[11]? = some (2, 58, 0) := rfl
theorem fs_8_12 : (mm_fs 8)[12]? = some (0, 0, 0) := rfl
theorem fs_8_13 : (mm_fs 8)[13]? = some (0, 0, 0) := rfl
theorem fs_8_14 : (mm_fs 8)[14]? = some (0, 0, 0) := rfl
theorem fs_8_15 : (mm_fs 8)[15]? = some (2, 59, 0) := rfl
theorem fs_8_16 : (mm_fs 8)[16]? = some (2, 60, 0) := rfl
theorem as_10 : mm_as 10 = some (0, 24, 0, 0) := rfl
theorem as_11 : mm_as 11 = some (0, 24, 0, 0) := rfl
theorem as_12 : mm_as 12 = some (0, 4, 0, 0) := rfl
theorem as_13 : mm_as 13 = some (0, 4, 0, 0) := rfl
theorem as_14 : mm_as 14 = some (0, 48, 0, 0) := rfl
theorem as_15 : mm_as 15 = some (0, 48, 0, 0) := rfl
theorem as_16 : mm_as 16 = some (2, 16, 6, 1) := rfl
theorem as_17 : mm_as 17 = some (2, 2, 2, 0) := rfl
theorem as_20 : mm_as 20 = some (0, 24, 0, 0) := rfl
theorem as_21 : mm_as 21 = some (0, 24, 0, 0) := rfl
theorem as_22 : mm_as 22 = some (0, 24, 0, 0) := rfl
theorem as_23 : mm_as 23 = some (0, 24, 0, 0) := rfl
theorem as_24 : mm_as 24 = some (0, 24, 0, 0) := rfl
theorem as_25 : mm_as 25 = some (0, 25, 0, 0) := rfl
theorem as_26 : mm_as 26 = some (0, 25, 0, 0) := rfl
theorem as_27 : mm_as 27 = some (0, 25, 0, 0) := rfl
theorem as_30 : mm_as 30 = some (0, 48, 0, 0) := rfl
theorem as_31 : mm_as 31 = some (0, 48, 0, 0) := rfl
theorem as_32 : mm_as 32 = some (1, 48, 0, 0) := rfl
theorem as_33 : mm_as 33 = some (2, 10, 34, 0) := rfl
theorem as_34 : mm_as 34 = some (0, 49, 0, 0) := rfl
theorem as_40 : mm_as 40 = some (0, 6, 0, 0) := rfl
theorem as_41 : mm_as 41 = some (1, 6, 0, 0) := rfl
theorem as_42 : mm_as 42 = some (0, 7, 0, 0) := rfl
theorem as_43 : mm_as 43 = some (0, 7, 0, 0) := rfl
theorem as_50 : mm_as 50 = some (0, 5225, 0, 0) := rfl
theorem as_51 : mm_as 51 = some (1, 2, 0, 0) := rfl
theorem as_52 : mm_as 52 = some (0, 2, 0, 0) := rfl
theorem as_53 : mm_as 53 = some (0, 24, 0, 0) := rfl
theorem as_54 : mm_as 54 = some (0, 25, 0, 0) := rfl
theorem as_55 : mm_as 55 = some (0, 25, 0, 0) := rfl
theorem as_56 : mm_as 56 = some (0, 6, 0, 0) := rfl
theorem as_57 : mm_as 57 = some (0, 6, 0, 0) := rfl
theorem as_58 : mm_as 58 = some (1, 6, 0, 0) := rfl
theorem as_59 : mm_as 59 = some (0, 48, 0, 0) := rfl
theorem as_60 : mm_as 60 = some (0, 490, 0, 0) := rfl
theorem qp_0 : (mm_qn 0).2.2.2.1 = 1 := rfl
theorem qr_0 : (mm_qn 0).2.1 = 0 := rfl
theorem qp_1 : (mm_qn 1).2.2.2.1 = 3 := rfl
theorem qr_1 : (mm_qn 1).2.1 = 0 := rfl
theorem qp_2 : (mm_qn 2).2.2.2.1 = 1 := rfl
theorem qr_2 : (mm_qn 2).2.1 = 1 := rfl
theorem qp_3 : (mm_qn 3).2.2.2.1 = 2 := rfl
theorem qr_3 : (mm_qn 3).2.1 = 0 := rfl
theorem qp_4 : (mm_qn 4).2.2.2.1 = 4 := rfl
theorem qr_4 : (mm_qn 4).2.1 = 0 := rfl
theorem qp_5 : (mm_qn 5).2.2.2.1 = 1 := rfl
theorem qr_5 : (mm_qn 5).2.1 = 0 := rfl
theorem qp_6 : (mm_qn 6).2.2.2.1 = 2 := rfl
theorem qr_6 : (mm_qn 6).2.1 = 0 := rfl
theorem qp_7 : (mm_qn 7).2.2.2.1 = 2 := rfl
theorem qr_7 : (mm_qn 7).2.1 = 1 := rfl
theorem qp_8 : (mm_qn 8).2.2.2.1 = 4 := rfl
theorem qr_8 : (mm_qn 8).2.1 = 0 := rfl
theorem qp_9 : (mm_qn 9).2.2.2.1 = 1 := rfl
theorem qr_9 : (mm_qn 9).2.1 = 0 := rfl
theorem qp_10 : (mm_qn 10).2.2.2.1 = 2 := rfl
theorem qr_10 : (mm_qn 10).2.1 = 0 := rfl
theorem qp_11 : (mm_qn 11).2.2.2.1 = 2 := rfl
theorem qr_11 : (mm_qn 11).2.1 = 1 := rfl
theorem qp_12 : (mm_qn 12).2.2.2.1 = 1 := rfl
theorem qr_12 : (mm_qn 12).2.1 = 0 := rfl
theorem qp_13 : (mm_qn 13).2.2.2.1 = 2 := rfl
theorem qr_13 : (mm_qn 13).2.1 = 0 := rfl
theorem qp_14 : (mm_qn 14).2.2.2.1 = 2 := rfl
theorem qr_14 : (mm_qn 14).2.1 = 0 := rfl
theorem qp_15 : (mm_qn 15).2.2.2.1 = 2 := rfl
theorem qr_15 : (mm_qn 15).2.1 = 0 := rfl
theorem qp_16 : (mm_qn 16).2.2.2.1 = 0 := rfl
theorem qr_16 : (mm_qn 16).2.1 = 1 := rfl
theorem qp_17 : (mm_qn 17).2.2.2.1 = 2 := rfl
theorem qr_17 : (mm_qn 17).2.1 = 1 := rfl
theorem qp_18 : (mm_qn 18).2.2.2.1 = 0 := rfl
theorem qr_18 : (mm_qn 18).2.1 = 1 := rfl
theorem qp_19 : (mm_qn 19).2.2.2.1 = 0 := rfl
theorem qr_19 : (mm_qn 19).2.1 = 1 := rfl
theorem qp_20 : (mm_qn 20).2.2.2.1 = 1 := rfl
theorem qr_20 : (mm_qn 20).2.1 = 1 := rfl
theorem qp_21 : (mm_qn 21).2.2.2.1 = 1 := rfl
theorem qr_21 : (mm_qn 21).2.1 = 0 := rfl
theorem qp_22 : (mm_qn 22).2.2.2.1 = 3 := rfl
theorem qr_22 : (mm_qn 22).2.1 = 0 := rfl
theorem qp_23 : (mm_qn 23).2.2.2.1 = 2 := rfl
theorem qr_23 : (mm_qn 23).2.1 = 2 := rfl
theorem qp_24 : (mm_qn 24).2.2.2.1 = 1 := rfl
theorem qr_24 : (mm_qn 24).2.1 = 0 := rfl
theorem qp_25 : (mm_qn 25).2.2.2.1 = 0 := rfl
theorem qr_25 : (mm_qn 25).2.1 = 0 := rfl
theorem qp_26 : (mm_qn 26).2.2.2.1 = 1 := rfl
theorem qr_26 : (mm_qn 26).2.1 = 1 := rfl
theorem qp_27 : (mm_qn 27).2.2.2.1 = 2 := rfl
theorem qr_27 : (mm_qn 27).2.1 = 1 := rfl
theorem qp_28 : (mm_qn 28).2.2.2.1 = 0 := rfl
theorem qr_28 : (mm_qn 28).2.1 = 1 := rfl
theorem qp_29 : (mm_qn 29).2.2.2.1 = 0 := rfl
theorem qr_29 : (mm_qn 29).2.1 = 1 := rfl
theorem qp_30 : (mm_qn 30).2.2.2.1 = 1 := rfl
theorem qr_30 : (mm_qn 30).2.1 = 1 := rfl
theorem qp_31 : (mm_qn 31).2.2.2.1 = 0 := rfl
theorem qr_31 : (mm_qn 31).2.1 = 1 := rfl
theorem qp_32 : (mm_qn 32).2.2.2.1 = 0 := rfl
theorem qr_32 : (mm_qn 32).2.1 = 1 := rfl
theorem qp_33 : (mm_qn 33).2.2.2.1 = 1 := rfl
theorem qr_33 : (mm_qn 33).2.1 = 1 := rfl
theorem qp_34 : (mm_qn 34).2.2.2.1 = 1 := rfl
theorem qr_34 : (mm_qn 34).2.1 = 0 := rfl
theorem qp_35 : (mm_qn 35).2.2.2.1 = 0 := rfl
theorem qr_35 : (mm_qn 35).2.1 = 1 := rfl
theorem qp_36 : (mm_qn 36).2.2.2.1 = 1 := rfl
theorem qr_36 : (mm_qn 36).2.1 = 1 := rfl
theorem qp_37 : (mm_qn 37).2.2.2.1 = 1 := rfl
theorem qr_37 : (mm_qn 37).2.1 = 2 := rfl
theorem qp_38 : (mm_qn 38).2.2.2.1 = 1 := rfl
theorem qr_38 : (mm_qn 38).2.1 = 1 := rfl
theorem qp_39 : (mm_qn 39).2.2.2.1 = 1 := rfl
theorem qr_39 : (mm_qn 39).2.1 = 0 := rfl
theorem qp_40 : (mm_qn 40).2.2.2.1 = 0 := rfl
theorem qr_40 : (mm_qn 40).2.1 = 0 := rfl
theorem qp_41 : (mm_qn 41).2.2.2.1 = 1 := rfl
theorem qr_41 : (mm_qn 41).2.1 = 0 := rfl
theorem qp_42 : (mm_qn 42).2.2.2.1 = 1 := rfl
theorem qr_42 : (mm_qn 42).2.1 = 0 := rfl
theorem qp_43 : (mm_qn 43).2.2.2.1 = 0 := rfl
theorem qr_43 : (mm_qn 43).2.1 = 0 := rfl
theorem qp_44 : (mm_qn 44).2.2.2.1 = 1 := rfl
theorem qr_44 : (mm_qn 44).2.1 = 1 := rfl
theorem qp_45 : (mm_qn 45).2.2.2.1 = 1 := rfl
theorem qr_45 : (mm_qn 45).2.1 = 1 := rfl
theorem qp_46 : (mm_qn 46).2.2.2.1 = 1 := rfl
theorem qr_46 : (mm_qn 46).2.1 = 1 := rfl
theorem qp_47 : (mm_qn 47).2.2.2.1 = 1 := rfl
theorem qr_47 : (mm_qn 47).2.1 = 1 := rfl
theorem qp_48 : (mm_qn 48).2.2.2.1 = 1 := rfl
theorem qr_48 : (mm_qn 48).2.1 = 1 := rfl
theorem qp_49 : (mm_qn 49).2.2.2.1 = 1 := rfl
theorem qr_49 : (mm_qn 49).2.1 = 1 := rfl
theorem qp_50 : (mm_qn 50).2.2.2.1 = 2 := rfl
theorem qr_50 : (mm_qn 50).2.1 = 1 := rfl
theorem qp_51 : (mm_qn 51).2.2.2.1 = 2 := rfl
theorem qr_51 : (mm_qn 51).2.1 = 1 := rfl
theorem qp_52 : (mm_qn 52).2.2.2.1 = 2 := rfl
theorem qr_52 : (mm_qn 52).2.1 = 1 := rfl
theorem qp_53 : (mm_qn 53).2.2.2.1 = 2 := rfl
theorem qr_53 : (mm_qn 53).2.1 = 1 := rfl
theorem qp_54 : (mm_qn 54).2.2.2.1 = 2 := rfl
theorem qr_54 : (mm_qn 54).2.1 = 1 := rfl
theorem qp_55 : (mm_qn 55).2.2.2.1 = 2 := rfl
theorem qr_55 : (mm_qn 55).2.1 = 1 := rfl
theorem qp_56 : (mm_qn 56).2.2.2.1 = 1 := rfl
theorem qr_56 : (mm_qn 56).2.1 = 1 := rfl
theorem qp_57 : (mm_qn 57).2.2.2.1 = 1 := rfl
theorem qr_57 : (mm_qn 57).2.1 = 1 := rfl
theorem qp_58 : (mm_qn 58).2.2.2.1 = 1 := rfl
theorem qr_58 : (mm_qn 58).2.1 = 1 := rfl
theorem qp_59 : (mm_qn 59).2.2.2.1 = 3 := rfl
theorem qr_59 : (mm_qn 59).2.1 = 1 := rfl
theorem qp_60 : (mm_qn 60).2.2.2.1 = 0 := rfl
theorem qr_60 : (mm_qn 60).2.1 = 1 := rfl
theorem qp_61 : (mm_qn 61).2.2.2.1 = 1 := rfl
theorem qr_61 : (mm_qn 61).2.1 = 1 := rfl
theorem qp_62 : (mm_qn 62).2.2.2.1 = 0 := rfl
theorem qr_62 : (mm_qn 62).2.1 = 1 := rfl
theorem qp_63 : (mm_qn 63).2.2.2.1 = 1 := rfl
theorem qr_63 : (mm_qn 63).2.1 = 1 := rfl
theorem qp_64 : (mm_qn 64).2.2.2.1 = 1 := rfl
theorem qr_64 : (mm_qn 64).2.1 = 1 := rfl
theorem qp_65 : (mm_qn 65).2.2.2.1 = 1 := rfl
theorem qr_65 : (mm_qn 65).2.1 = 1 := rfl
theorem qp_66 : (mm_qn 66).2.2.2.1 = 1 := rfl
theorem qr_66 : (mm_qn 66).2.1 = 1 := rfl
theorem qp_67 : (mm_qn 67).2.2.2.1 = 3 := rfl
theorem qr_67 : (mm_qn 67).2.1 = 1 := rfl
theorem qp_68 : (mm_qn 68).2.2.2.1 = 0 := rfl
theorem qr_68 : (mm_qn 68).2.1 = 1 := rfl
theorem qp_69 : (mm_qn 69).2.2.2.1 = 1 := rfl
theorem qr_69 : (mm_qn 69).2.1 = 1 := rfl
theorem qp_70 : (mm_qn 70).2.2.2.1 = 1 := rfl
theorem qr_70 : (mm_qn 70).2.1 = 1 := rfl
theorem qp_71 : (mm_qn 71).2.2.2.1 = 1 := rfl
theorem qr_71 : (mm_qn 71).2.1 = 1 := rfl
theorem qp_72 : (mm_qn 72).2.2.2.1 = 0 := rfl
theorem qr_72 : (mm_qn 72).2.1 = 1 := rfl
theorem qp_73 : (mm_qn 73).2.2.2.1 = 1 := rfl
theorem qr_73 : (mm_qn 73).2.1 = 1 := rfl
theorem qp_74 : (mm_qn 74).2.2.2.1 = 1 := rfl
theorem qr_74 : (mm_qn 74).2.1 = 1 := rfl
theorem qp_75 : (mm_qn 75).2.2.2.1 = 2 := rfl
theorem qr_75 : (mm_qn 75).2.1 = 2 := rfl
theorem qp_76 : (mm_qn 76).2.2.2.1 = 2 := rfl
theorem qr_76 : (mm_qn 76).2.1 = 1 := rfl
theorem qp_77 : (mm_qn 77).2.2.2.1 = 1 := rfl
theorem qr_77 : (mm_qn 77).2.1 = 1 := rfl
theorem qp_78 : (mm_qn 78).2.2.2.1 = 1 := rfl
theorem qr_78 : (mm_qn 78).2.1 = 1 := rfl
theorem qp_79 : (mm_qn 79).2.2.2.1 = 3 := rfl
theorem qr_79 : (mm_qn 79).2.1 = 3 := rfl
theorem qp_80 : (mm_qn 80).2.2.2.1 = 2 := rfl
theorem qr_80 : (mm_qn 80).2.1 = 0 := rfl
theorem qp_81 : (mm_qn 81).2.2.2.1 = 1 := rfl
theorem qr_81 : (mm_qn 81).2.1 = 2 := rfl
theorem qp_82 : (mm_qn 82).2.2.2.1 = 1 := rfl
theorem qr_82 : (mm_qn 82).2.1 = 2 := rfl
theorem qp_83 : (mm_qn 83).2.2.2.1 = 1 := rfl
theorem qr_83 : (mm_qn 83).2.1 = 2 := rfl
theorem qp_84 : (mm_qn 84).2.2.2.1 = 1 := rfl
theorem qr_84 : (mm_qn 84).2.1 = 2 := rfl
theorem qp_85 : (mm_qn 85).2.2.2.1 = 1 := rfl
theorem qr_85 : (mm_qn 85).2.1 = 1 := rfl
theorem qp_86 : (mm_qn 86).2.2.2.1 = 1 := rfl
theorem qr_86 : (mm_qn 86).2.1 = 1 := rfl
theorem qp_87 : (mm_qn 87).2.2.2.1 = 2 := rfl
theorem qr_87 : (mm_qn 87).2.1 = 2 := rfl
theorem qp_88 : (mm_qn 88).2.2.2.1 = 2 := rfl
theorem qr_88 : (mm_qn 88).2.1 = 1 := rfl
theorem qp_89 : (mm_qn 89).2.2.2.1 = 2 := rfl
theorem qr_89 : (mm_qn 89).2.1 = 1 := rfl
theorem qp_90 : (mm_qn 90).2.2.2.1 = 0 := rfl
theorem qr_90 : (mm_qn 90).2.1 = 1 := rfl
theorem qp_91 : (mm_qn 91).2.2.2.1 = 1 := rfl
theorem qr_91 : (mm_qn 91).2.1 = 1 := rfl
theorem qp_92 : (mm_qn 92).2.2.2.1 = 0 := rfl
theorem qr_92 : (mm_qn 92).2.1 = 1 := rfl
theorem qp_93 : (mm_qn 93).2.2.2.1 = 0 := rfl
theorem qr_93 : (mm_qn 93).2.1 = 1 := rfl
theorem qp_94 : (mm_qn 94).2.2.2.1 = 1 := rfl
theorem qr_94 : (mm_qn 94).2.1 = 2 := rfl
theorem qp_95 : (mm_qn 95).2.2.2.1 = 0 := rfl
theorem qr_95 : (mm_qn 95).2.1 = 0 := rfl
theorem qp_96 : (mm_qn 96).2.2.2.1 = 1 := rfl
theorem qr_96 : (mm_qn 96).2.1 = 1 := rfl
theorem qp_97 : (mm_qn 97).2.2.2.1 = 0 := rfl
theorem qr_97 : (mm_qn 97).2.1 = 1 := rfl
theorem qp_98 : (mm_qn 98).2.2.2.1 = 1 := rfl
theorem qr_98 : (mm_qn 98).2.1 = 1 := rfl
theorem qp_99 : (mm_qn 99).2.2.2.1 = 1 := rfl
theorem qr_99 : (mm_qn 99).2.1 = 1 := rfl
theorem qp_100 : (mm_qn 100).2.2.2.1 = 2 := rfl
theorem qr_100 : (mm_qn 100).2.1 = 1 := rfl
theorem qp_101 : (mm_qn 101).2.2.2.1 = 2 := rfl
theorem qr_101 : (mm_qn 101).2.1 = 1 := rfl
theorem qp_102 : (mm_qn 102).2.2.2.1 = 2 := rfl
theorem qr_102 : (mm_qn 102).2.1 = 1 := rfl
theorem qp_103 : (mm_qn 103).2.2.2.1 = 1 := rfl
theorem qr_103 : (mm_qn 103).2.1 = 1 := rfl
theorem qp_104 : (mm_qn 104).2.2.2.1 = 2 := rfl
theorem qr_104 : (mm_qn 104).2.1 = 1 := rfl
theorem qp_105 : (mm_qn 105).2.2.2.1 = 2 := rfl
theorem qr_105 : (mm_qn 105).2.1 = 1 := rfl
theorem qp_106 : (mm_qn 106).2.2.2.1 = 1 := rfl
theorem qr_106 : (mm_qn 106).2.1 = 1 := rfl
theorem qp_107 : (mm_qn 107).2.2.2.1 = 2 := rfl
theorem qr_107 : (mm_qn 107).2.1 = 1 := rfl
theorem qp_108 : (mm_qn 108).2.2.2.1 = 2 := rfl
theorem qr_108 : (mm_qn 108).2.1 = 1 := rfl
theorem qp_109 : (mm_qn 109).2.2.2.1 = 2 := rfl
theorem qr_109 : (mm_qn 109).2.1 = 1 := rfl
theorem qp_110 : (mm_qn 110).2.2.2.1 = 0 := rfl
theorem qr_110 : (mm_qn 110).2.1 = 0 := rfl
theorem qp_111 : (mm_qn 111).2.2.2.1 = 2 := rfl
theorem qr_111 : (mm_qn 111).2.1 = 2 := rfl
theorem qp_112 : (mm_qn 112).2.2.2.1 = 2 := rfl
theorem qr_112 : (mm_qn 112).2.1 = 0 := rfl
theorem qp_113 : (mm_qn 113).2.2.2.1 = 2 := rfl
theorem qr_113 : (mm_qn 113).2.1 = 0 := rfl
theorem qp_114 : (mm_qn 114).2.2.2.1 = 2 := rfl
theorem qr_114 : (mm_qn 114).2.1 = 1 := rfl
theorem qp_115 : (mm_qn 115).2.2.2.1 = 1 := rfl
theorem qr_115 : (mm_qn 115).2.1 = 1 := rfl
theorem qp_116 : (mm_qn 116).2.2.2.1 = 1 := rfl
theorem qr_116 : (mm_qn 116).2.1 = 0 := rfl
theorem qp_117 : (mm_qn 117).2.2.2.1 = 1 := rfl
theorem qr_117 : (mm_qn 117).2.1 = 0 := rfl
theorem qp_118 : (mm_qn 118).2.2.2.1 = 1 := rfl
theorem qr_118 : (mm_qn 118).2.1 = 1 := rfl
theorem qp_119 : (mm_qn 119).2.2.2.1 = 1 := rfl
theorem qr_119 : (mm_qn 119).2.1 = 1 := rfl
theorem qp_120 : (mm_qn 120).2.2.2.1 = 3 := rfl
theorem qr_120 : (mm_qn 120).2.1 = 1 := rfl
theorem qp_121 : (mm_qn 121).2.2.2.1 = 0 := rfl
theorem qr_121 : (mm_qn 121).2.1 = 1 := rfl
theorem qp_122 : (mm_qn 122).2.2.2.1 = 1 := rfl
theorem qr_122 : (mm_qn 122).2.1 = 1 := rfl
theorem qp_123 : (mm_qn 123).2.2.2.1 = 1 := rfl
theorem qr_123 : (mm_qn 123).2.1 = 1 := rfl
theorem qp_124 : (mm_qn 124).2.2.2.1 = 0 := rfl
theorem qr_124 : (mm_qn 124).2.1 = 1 := rfl
theorem qp_125 : (mm_qn 125).2.2.2.1 = 1 := rfl
theorem qr_125 : (mm_qn 125).2.1 = 1 := rfl
theorem qp_126 : (mm_qn 126).2.2.2.1 = 2 := rfl
theorem qr_126 : (mm_qn 126).2.1 = 1 := rfl
theorem qp_127 : (mm_qn 127).2.2.2.1 = 2 := rfl
theorem qr_127 : (mm_qn 127).2.1 = 1 := rfl
theorem qp_128 : (mm_qn 128).2.2.2.1 = 1 := rfl
theorem qr_128 : (mm_qn 128).2.1 = 1 := rfl
theorem qp_129 : (mm_qn 129).2.2.2.1 = 1 := rfl
theorem qr_129 : (mm_qn 129).2.1 = 1 := rfl
theorem qp_130 : (mm_qn 130).2.2.2.1 = 2 := rfl
theorem qr_130 : (mm_qn 130).2.1 = 2 := rfl
theorem qp_131 : (mm_qn 131).2.2.2.1 = 0 := rfl
theorem qr_131 : (mm_qn 131).2.1 = 1 := rfl
theorem qp_132 : (mm_qn 132).2.2.2.1 = 3 := rfl
theorem qr_132 : (mm_qn 132).2.1 = 2 := rfl
theorem qp_133 : (mm_qn 133).2.2.2.1 = 1 := rfl
theorem qr_133 : (mm_qn 133).2.1 = 1 := rfl
theorem qp_134 : (mm_qn 134).2.2.2.1 = 1 := rfl
theorem qr_134 : (mm_qn 134).2.1 = 1 := rfl
theorem qp_135 : (mm_qn 135).2.2.2.1 = 3 := rfl
theorem qr_135 : (mm_qn 135).2.1 = 1 := rfl
theorem qp_136 : (mm_qn 136).2.2.2.1 = 0 := rfl
theorem qr_136 : (mm_qn 136).2.1 = 1 := rfl
theorem qp_137 : (mm_qn 137).2.2.2.1 = 1 := rfl
theorem qr_137 : (mm_qn 137).2.1 = 1 := rfl
theorem qp_138 : (mm_qn 138).2.2.2.1 = 1 := rfl
theorem qr_138 : (mm_qn 138).2.1 = 1 := rfl
theorem qp_139 : (mm_qn 139).2.2.2.1 = 1 := rfl
theorem qr_139 : (mm_qn 139).2.1 = 1 := rfl
theorem qp_140 : (mm_qn 140).2.2.2.1 = 2 := rfl
theorem qr_140 : (mm_qn 140).2.1 = 1 := rfl
theorem qp_141 : (mm_qn 141).2.2.2.1 = 2 := rfl
theorem qr_141 : (mm_qn 141).2.1 = 1 := rfl
theorem qp_142 : (mm_qn 142).2.2.2.1 = 2 := rfl
theorem qr_142 : (mm_qn 142).2.1 = 1 := rfl
theorem gr_0_9 {E : mE} {rt : Nat} {cc : ByteArray} {pc i : Nat} {ls st : List mV} {μ : mM} (hd : decode cc pc = .ok (.getfield 9, 3)) : mm_run E 0 rt cc (pc, ls, vr 0 i :: st, μ) = mm_run E 0 rt cc (pc + 3, ls, vr 30 i :: st, μ) := R_gr hd ft_0_9 fs_0_0
theorem gr_0_15 {E : mE} {rt : Nat} {cc : ByteArray} {pc i : Nat} {ls st : List mV} {μ : mM} (hd : decode cc pc = .ok (.getfield 15, 3)) : mm_run E 0 rt cc (pc, ls, vr 0 i :: st, μ) = mm_run E 0 rt cc (pc + 3, ls, vr 31 i :: st, μ) := R_gr hd ft_0_15 fs_0_1
theorem gr_0_18 {E : mE} {rt : Nat} {cc : ByteArray} {pc i : Nat} {ls st : List mV} {μ : mM} (hd : decode cc pc = .ok (.getfield 18, 3)) : mm_run E 0 rt cc (pc, ls, vr 0 i :: st, μ) = mm_run E 0 rt cc (pc + 3, ls, vr 32 i :: st, μ) := R_gr hd ft_0_18 fs_0_2
theorem gr_0_24 {E : mE} {rt : Nat} {cc : ByteArray} {pc i : Nat} {ls st : List mV} {μ : mM} (hd : decode cc pc = .ok (.getfield 24, 3)) : mm_run E 0 rt cc (pc, ls, vr 0 i :: st, μ) = mm_run E 0 rt cc (pc + 3, ls, vr 33 i :: st, μ) := R_gr hd ft_0_24 fs_0_3
theorem gi_0_27 {E : mE} {rt : Nat} {cc : ByteArray} {pc i : Nat} {ls st : List mV} {μ : mM} (hd : decode cc pc = .ok (.getfield 27, 3)) : mm_run E 0 rt cc (pc, ls, vr 0 i :: st, μ) = mm_run E 0 rt cc (pc + 3, ls, vi (μ 0 i 4) :: st, μ) := R_gi hd ft_0_27 fs_0_4 (by decide)
theorem gi_0_31 {E : mE} {rt : Nat} {cc : ByteArray} {pc i : Nat} {ls st : List mV} {μ : mM} (hd : decode cc pc = .ok (.getfield 31, 3)) : mm_run E 0 rt cc (pc, ls, vr 6 i :: st, μ) = mm_run E 0 rt cc (pc + 3, ls, vi (μ 6 i 6) :: st, μ) := R_gi hd ft_0_31 fs_6_6 (by decide)
theorem gr_0_36 {E : mE} {rt : Nat} {cc : ByteArray} {pc i : Nat} {ls st : List mV} {μ : mM} (hd : decode cc pc = .ok (.getfield 36, 3)) : mm_run E 0 rt cc (pc, ls, vr 6 i :: st, μ) = mm_run E 0 rt cc (pc + 3, ls, vr 10 i :: st, μ) := R_gr hd ft_0_36 fs_6_0
theorem gi_0_50 {E : mE} {rt : Nat} {cc : ByteArray} {pc i : Nat} {ls st : List mV} {μ : mM} (hd : decode cc pc = .ok (.getfield 50, 3)) : mm_run E 0 rt cc (pc, ls, vr 6 i :: st, μ) = mm_run E 0 rt cc (pc + 3, ls, vi (μ 6 i 7) :: st, μ) := R_gi hd ft_0_50 fs_6_7 (by decide)
theorem gr_0_53 {E : mE} {rt : Nat} {cc : ByteArray} {pc i : Nat} {ls st : List mV} {μ : mM} (hd : decode cc pc = .ok (.getfield 53, 3)) : mm_run E 0 rt cc (pc, ls, vr 6 i :: st, μ) = mm_run E 0 rt cc (pc + 3, ls, vr 11 i :: st, μ) := R_gr hd ft_0_53 fs_6_1
theorem gi_1_7 {E : mE} {rt : Nat} {cc : ByteArray} {pc i : Nat} {ls st : List mV} {μ : mM} (hd : decode cc pc = .ok (.getfield 7, 3)) : mm_run E 1 rt cc (pc, ls, vr 1 i :: st, μ) = mm_run E 1 rt cc (pc + 3, ls, vi (μ 1 i 0) :: st, μ) := R_gi hd ft_1_7 fs_1_0 (by decide)
theorem gi_1_22 {E : mE} {rt : Nat} {cc : ByteArray} {pc i : Nat} {ls st : List mV} {μ : mM} (hd : decode cc pc = .ok (.getfield 22, 3)) : mm_run E 1 rt cc (pc, ls, vr 1 i :: st, μ) = mm_run E 1 rt cc (pc + 3, ls, vi (μ 1 i 4) :: st, μ) := R_gi hd ft_1_22 fs_1_4 (by decide)
theorem gi_1_25 {E : mE} {rt : Nat} {cc : ByteArray} {pc i : Nat} {ls st : List mV} {μ : mM} (hd : decode cc pc = .ok (.getfield 25, 3)) : mm_run E 1 rt cc (pc, ls, vr 5 i :: st, μ) = mm_run E 1 rt cc (pc + 3, ls, vi (μ 5 i 8) :: st, μ) := R_gi hd ft_1_25 fs_5_8 (by decide)
theorem gr_1_28 {E : mE} {rt : Nat} {cc : ByteArray} {pc i : Nat} {ls st : List mV} {μ : mM} (hd : decode cc pc = .ok (.getfield 28, 3)) : mm_run E 1 rt cc (pc, ls, vr 5 i :: st, μ) = mm_run E 1 rt cc (pc + 3, ls, vr 21 i :: st, μ) := R_gr hd ft_1_28 fs_5_1
theorem gr_1_40 {E : mE} {rt : Nat} {cc : ByteArray} {pc i : Nat} {ls st : List mV} {μ : mM} (hd : decode cc pc = .ok (.getfield 40, 3)) : mm_run E 1 rt cc (pc, ls, vr 5 i :: st, μ) = mm_run E 1 rt cc (pc + 3, ls, vr 23 i :: st, μ) := R_gr hd ft_1_40 fs_5_3
theorem gi_1_43 {E : mE} {rt : Nat} {cc : ByteArray} {pc i : Nat} {ls st : List mV} {μ : mM} (hd : decode cc pc = .ok (.getfield 43, 3)) : mm_run E 1 rt cc (pc, ls, vr 5 i :: st, μ) = mm_run E 1 rt cc (pc + 3, ls, vi (μ 5 i 9) :: st, μ) := R_gi hd ft_1_43 fs_5_9 (by decide)
theorem gr_1_44 {E : mE} {rt : Nat} {cc : ByteArray} {pc i : Nat} {ls st : List mV} {μ : mM} (hd : decode cc pc = .ok (.getfield 44, 3)) : mm_run E 1 rt cc (pc, ls, vr 5 i :: st, μ) = mm_run E 1 rt cc (pc + 3, ls, vr 25 i :: st, μ) := R_gr hd ft_1_44 fs_5_5
theorem gr_1_47 {E : mE} {rt : Nat} {cc : ByteArray} {pc i : Nat} {ls st : List mV} {μ : mM} (hd : decode cc pc = .ok (.getfield 47, 3)) : mm_run E 1 rt cc (pc, ls, vr 5 i :: st, μ) = mm_run E 1 rt cc (pc + 3, ls, vr 26 i :: st, μ) := R_gr hd ft_1_47 fs_5_6
theorem gr_1_50 {E : mE} {rt : Nat} {cc : ByteArray} {pc i : Nat} {ls st : List mV} {μ : mM} (hd : decode cc pc = .ok (.getfield 50, 3)) : mm_run E 1 rt cc (pc, ls, vr 5 i :: st, μ) = mm_run E 1 rt cc (pc + 3, ls, vr 22 i :: st, μ) := R_gr hd ft_1_50 fs_5_2
theorem gr_3_11 {E : mE} {rt : Nat} {cc : ByteArray} {pc i : Nat} {ls st : List mV} {μ : mM} (hd : decode cc pc = .ok (.getfield 11, 3)) : mm_run E 3 rt cc (pc, ls, vr 3 i :: st, μ) = mm_run E 3 rt cc (pc + 3, ls, vr 16 i :: st, μ) := R_gr hd ft_3_11 fs_3_0
theorem gi_3_17 {E : mE} {rt : Nat} {cc : ByteArray} {pc i : Nat} {ls st : List mV} {μ : mM} (hd : decode cc pc = .ok (.getfield 17, 3)) : mm_run E 3 rt cc (pc, ls, vr 3 i :: st, μ) = mm_run E 3 rt cc (pc + 3, ls, vi (μ 3 i 1) :: st, μ) := R_gi hd ft_3_17 fs_3_1 (by decide)
theorem gi_3_21 {E : mE} {rt : Nat} {cc : ByteArray} {pc i : Nat} {ls st : List mV} {μ : mM} (hd : decode cc pc = .ok (.getfield 21, 3)) : mm_run E 3 rt cc (pc, ls, vr 3 i :: st, μ) = mm_run E 3 rt cc (pc + 3, ls, vi (μ 3 i 2) :: st, μ) := R_gi hd ft_3_21 fs_3_2 (by decide)
theorem gr_4_9 {E : mE} {rt : Nat} {cc : ByteArray} {pc i : Nat} {ls st : List mV} {μ : mM} (hd : decode cc pc = .ok (.getfield 9, 3)) : mm_run E 4 rt cc (pc, ls, vr 4 i :: st, μ) = mm_run E 4 rt cc (pc + 3, ls, vr 40 i :: st, μ) := R_gr hd ft_4_9 fs_4_0
theorem gr_4_15 {E : mE} {rt : Nat} {cc : ByteArray} {pc i : Nat} {ls st : List mV} {μ : mM} (hd : decode cc pc = .ok (.getfield 15, 3)) : mm_run E 4 rt cc (pc, ls, vr 4 i :: st, μ) = mm_run E 4 rt cc (pc + 3, ls, vr 41 i :: st, μ) := R_gr hd ft_4_15 fs_4_1
theorem gr_4_19 {E : mE} {rt : Nat} {cc : ByteArray} {pc i : Nat} {ls st : List mV} {μ : mM} (hd : decode cc pc = .ok (.getfield 19, 3)) : mm_run E 4 rt cc (pc, ls, vr 4 i :: st, μ) = mm_run E 4 rt cc (pc + 3, ls, vr 42 i :: st, μ) := R_gr hd ft_4_19 fs_4_2
theorem gr_4_22 {E : mE} {rt : Nat} {cc : ByteArray} {pc i : Nat} {ls st : List mV} {μ : mM} (hd : decode cc pc = .ok (.getfield 22, 3)) : mm_run E 4 rt cc (pc, ls, vr 4 i :: st, μ) = mm_run E 4 rt cc (pc + 3, ls, vr 43 i :: st, μ) := R_gr hd ft_4_22 fs_4_3
theorem gi_4_25 {E : mE} {rt : Nat} {cc : ByteArray} {pc i : Nat} {ls st : List mV} {μ : mM} (hd : decode cc pc = .ok (.getfield 25, 3)) : mm_run E 4 rt cc (pc, ls, vr 4 i :: st, μ) = mm_run E 4 rt cc (pc + 3, ls, vi (μ 4 i 4) :: st, μ) := R_gi hd ft_4_25 fs_4_4 (by decide)
theorem gi_4_29 {E : mE} {rt : Nat} {cc : ByteArray} {pc i : Nat} {ls st : List mV} {μ : mM} (hd : decode cc pc = .ok (.getfield 29, 3)) : mm_run E 4 rt cc (pc, ls, vr 4 i :: st, μ) = mm_run E 4 rt cc (pc + 3, ls, vi (μ 4 i 5) :: st, μ) := R_gi hd ft_4_29 fs_4_5 (by decide)
theorem gi_4_68 {E : mE} {rt : Nat} {cc : ByteArray} {pc i : Nat} {ls st : List mV} {μ : mM} (hd : decode cc pc = .ok (.getfield 68, 3)) : mm_run E 4 rt cc (pc, ls, vr 6 i :: st, μ) = mm_run E 4 rt cc (pc + 3, ls, vi (μ 6 i 6) :: st, μ) := R_gi hd ft_4_68 fs_6_6 (by decide)
theorem gr_4_71 {E : mE} {rt : Nat} {cc : ByteArray} {pc i : Nat} {ls st : List mV} {μ : mM} (hd : decode cc pc = .ok (.getfield 71, 3)) : mm_run E 4 rt cc (pc, ls, vr 6 i :: st, μ) = mm_run E 4 rt cc (pc + 3, ls, vr 10 i :: st, μ) := R_gr hd ft_4_71 fs_6_0
theorem gr_5_9 {E : mE} {rt : Nat} {cc : ByteArray} {pc i : Nat} {ls st : List mV} {μ : mM} (hd : decode cc pc = .ok (.getfield 9, 3)) : mm_run E 5 rt cc (pc, ls, vr 5 i :: st, μ) = mm_run E 5 rt cc (pc + 3, ls, vr 20 i :: st, μ) := R_gr hd ft_5_9 fs_5_0
theorem gr_5_15 {E : mE} {rt : Nat} {cc : ByteArray} {pc i : Nat} {ls st : List mV} {μ : mM} (hd : decode cc pc = .ok (.getfield 15, 3)) : mm_run E 5 rt cc (pc, ls, vr 5 i :: st, μ) = mm_run E 5 rt cc (pc + 3, ls, vr 21 i :: st, μ) := R_gr hd ft_5_15 fs_5_1
theorem gr_5_18 {E : mE} {rt : Nat} {cc : ByteArray} {pc i : Nat} {ls st : List mV} {μ : mM} (hd : decode cc pc = .ok (.getfield 18, 3)) : mm_run E 5 rt cc (pc, ls, vr 5 i :: st, μ) = mm_run E 5 rt cc (pc + 3, ls, vr 22 i :: st, μ) := R_gr hd ft_5_18 fs_5_2
theorem gr_5_21 {E : mE} {rt : Nat} {cc : ByteArray} {pc i : Nat} {ls st : List mV} {μ : mM} (hd : decode cc pc = .ok (.getfield 21, 3)) : mm_run E 5 rt cc (pc, ls, vr 5 i :: st, μ) = mm_run E 5 rt cc (pc + 3, ls, vr 23 i :: st, μ) := R_gr hd ft_5_21 fs_5_3
theorem gr_5_24 {E : mE} {rt : Nat} {cc : ByteArray} {pc i : Nat} {ls st : List mV} {μ : mM} (hd : decode cc pc = .ok (.getfield 24, 3)) : mm_run E 5 rt cc (pc, ls, vr 5 i :: st, μ) = mm_run E 5 rt cc (pc + 3, ls, vr 24 i :: st, μ) := R_gr hd ft_5_24 fs_5_4
theorem gr_5_27 {E : mE} {rt : Nat} {cc : ByteArray} {pc i : Nat} {ls st : List mV} {μ : mM} (hd : decode cc pc = .ok (.getfield 27, 3)) : mm_run E 5 rt cc (pc, ls, vr 5 i :: st, μ) = mm_run E 5 rt cc (pc + 3, ls, vr 25 i :: st, μ) := R_gr hd ft_5_27 fs_5_5
theorem gr_5_30 {E : mE} {rt : Nat} {cc : ByteArray} {pc i : Nat} {ls st : List mV} {μ : mM} (hd : decode cc pc = .ok (.getfield 30, 3)) : mm_run E 5 rt cc (pc, ls, vr 5 i :: st, μ) = mm_run E 5 rt cc (pc + 3, ls, vr 26 i :: st, μ) := R_gr hd ft_5_30 fs_5_6
theorem gr_5_33 {E : mE} {rt : Nat} {cc : ByteArray} {pc i : Nat} {ls st : List mV} {μ : mM} (hd : decode cc pc = .ok (.getfield 33, 3)) : mm_run E 5 rt cc (pc, ls, vr 5 i :: st, μ) = mm_run E 5 rt cc (pc + 3, ls, vr 27 i :: st, μ) := R_gr hd ft_5_33 fs_5_7
theorem gi_5_36 {E : mE} {rt : Nat} {cc : ByteArray} {pc i : Nat} {ls st : List mV} {μ : mM} (hd : decode cc pc = .ok (.getfield 36, 3)) : mm_run E 5 rt cc (pc, ls, vr 5 i :: st, μ) = mm_run E 5 rt cc (pc + 3, ls, vi (μ 5 i 8) :: st, μ) := R_gi hd ft_5_36 fs_5_8 (by decide)
theorem gi_5_40 {E : mE} {rt : Nat} {cc : ByteArray} {pc i : Nat} {ls st : List mV} {μ : mM} (hd : decode cc pc = .ok (.getfield 40, 3)) : mm_run E 5 rt cc (pc, ls, vr 5 i :: st, μ) = mm_run E 5 rt cc (pc + 3, ls, vi (μ 5 i 9) :: st, μ) := R_gi hd ft_5_40 fs_5_9 (by decide)
theorem gi_5_43 {E : mE} {rt : Nat} {cc : ByteArray} {pc i : Nat} {ls st : List mV} {μ : mM} (hd : decode cc pc = .ok (.getfield 43, 3)) : mm_run E 5 rt cc (pc, ls, vr 6 i :: st, μ) = mm_run E 5 rt cc (pc + 3, ls, vi (μ 6 i 6) :: st, μ) := R_gi hd ft_5_43 fs_6_6 (by decide)
theorem gr_5_48 {E : mE} {rt : Nat} {cc : ByteArray} {pc i : Nat} {ls st : List mV} {μ : mM} (hd : decode cc pc = .ok (.getfield 48, 3)) : mm_run E 5 rt cc (pc, ls, vr 6 i :: st, μ) = mm_run E 5 rt cc (pc + 3, ls, vr 10 i :: st, μ) := R_gr hd ft_5_48 fs_6_0
theorem gi_5_62 {E : mE} {rt : Nat} {cc : ByteArray} {pc i : Nat} {ls st : List mV} {μ : mM} (hd : decode cc pc = .ok (.getfield 62, 3)) : mm_run E 5 rt cc (pc, ls, vr 6 i :: st, μ) = mm_run E 5 rt cc (pc + 3, ls, vi (μ 6 i 7) :: st, μ) := R_gi hd ft_5_62 fs_6_7 (by decide)
theorem gr_5_65 {E : mE} {rt : Nat} {cc : ByteArray} {pc i : Nat} {ls st : List mV} {μ : mM} (hd : decode cc pc = .ok (.getfield 65, 3)) : mm_run E 5 rt cc (pc, ls, vr 6 i :: st, μ) = mm_run E 5 rt cc (pc + 3, ls, vr 11 i :: st, μ) := R_gr hd ft_5_65 fs_6_1
theorem gr_6_9 {E : mE} {rt : Nat} {cc : ByteArray} {pc i : Nat} {ls st : List mV} {μ : mM} (hd : decode cc pc = .ok (.getfield 9, 3)) : mm_run E 6 rt cc (pc, ls, vr 6 i :: st, μ) = mm_run E 6 rt cc (pc + 3, ls, vr 10 i :: st, μ) := R_gr hd ft_6_9 fs_6_0
theorem gr_6_15 {E : mE} {rt : Nat} {cc : ByteArray} {pc i : Nat} {ls st : List mV} {μ : mM} (hd : decode cc pc = .ok (.getfield 15, 3)) : mm_run E 6 rt cc (pc, ls, vr 6 i :: st, μ) = mm_run E 6 rt cc (pc + 3, ls, vr 11 i :: st, μ) := R_gr hd ft_6_15 fs_6_1
theorem gr_6_18 {E : mE} {rt : Nat} {cc : ByteArray} {pc i : Nat} {ls st : List mV} {μ : mM} (hd : decode cc pc = .ok (.getfield 18, 3)) : mm_run E 6 rt cc (pc, ls, vr 6 i :: st, μ) = mm_run E 6 rt cc (pc + 3, ls, vr 12 i :: st, μ) := R_gr hd ft_6_18 fs_6_2
theorem gr_6_21 {E : mE} {rt : Nat} {cc : ByteArray} {pc i : Nat} {ls st : List mV} {μ : mM} (hd : decode cc pc = .ok (.getfield 21, 3)) : mm_run E 6 rt cc (pc, ls, vr 6 i :: st, μ) = mm_run E 6 rt cc (pc + 3, ls, vr 13 i :: st, μ) := R_gr hd ft_6_21 fs_6_3
theorem gr_6_24 {E : mE} {rt : Nat} {cc : ByteArray} {pc i : Nat} {ls st : List mV} {μ : mM} (hd : decode cc pc = .ok (.getfield 24, 3)) : mm_run E 6 rt cc (pc, ls, vr 6 i :: st, μ) = mm_run E 6 rt cc (pc + 3, ls, vr 14 i :: st, μ) := R_gr hd ft_6_24 fs_6_4
theorem gr_6_27 {E : mE} {rt : Nat} {cc : ByteArray} {pc i : Nat} {ls st : List mV} {μ : mM} (hd : decode cc pc = .ok (.getfield 27, 3)) : mm_run E 6 rt cc (pc, ls, vr 6 i :: st, μ) = mm_run E 6 rt cc (pc + 3, ls, vr 15 i :: st, μ) := R_gr hd ft_6_27 fs_6_5
theorem gi_6_30 {E : mE} {rt : Nat} {cc : ByteArray} {pc i : Nat} {ls st : List mV} {μ : mM} (hd : decode cc pc = .ok (.getfield 30, 3)) : mm_run E 6 rt cc (pc, ls, vr 6 i :: st, μ) = mm_run E 6 rt cc (pc + 3, ls, vi (μ 6 i 6) :: st, μ) := R_gi hd ft_6_30 fs_6_6 (by decide)
theorem gi_6_34 {E : mE} {rt : Nat} {cc : ByteArray} {pc i : Nat} {ls st : List mV} {μ : mM} (hd : decode cc pc = .ok (.getfield 34, 3)) : mm_run E 6 rt cc (pc, ls, vr 6 i :: st, μ) = mm_run E 6 rt cc (pc + 3, ls, vi (μ 6 i 7) :: st, μ) := R_gi hd ft_6_34 fs_6_7 (by decide)
theorem gi_6_37 {E : mE} {rt : Nat} {cc : ByteArray} {pc i : Nat} {ls st : List mV} {μ : mM} (hd : decode cc pc = .ok (.getfield 37, 3)) : mm_run E 6 rt cc (pc, ls, vr 6 i :: st, μ) = mm_run E 6 rt cc (pc + 3, ls, vi (μ 6 i 8) :: st, μ) := R_gi hd ft_6_37 fs_6_8 (by decide)
theorem gr_7_10 {E : mE} {rt : Nat} {cc : ByteArray} {pc i : Nat} {ls st : List mV} {μ : mM} (hd : decode cc pc = .ok (.getfield 10, 3)) : mm_run E 7 rt cc (pc, ls, vr 7 i :: st, μ) = mm_run E 7 rt cc (pc + 3, ls, vr 6 i :: st, μ) := R_gr hd ft_7_10 fs_7_0
theorem gr_7_19 {E : mE} {rt : Nat} {cc : ByteArray} {pc i : Nat} {ls st : List mV} {μ : mM} (hd : decode cc pc = .ok (.getfield 19, 3)) : mm_run E 7 rt cc (pc, ls, vr 7 i :: st, μ) = mm_run E 7 rt cc (pc + 3, ls, vr 3 i :: st, μ) := R_gr hd ft_7_19 fs_7_1
theorem gr_7_26 {E : mE} {rt : Nat} {cc : ByteArray} {pc i : Nat} {ls st : List mV} {μ : mM} (hd : decode cc pc = .ok (.getfield 26, 3)) : mm_run E 7 rt cc (pc, ls, vr 7 i :: st, μ) = mm_run E 7 rt cc (pc + 3, ls, vr 5 i :: st, μ) := R_gr hd ft_7_26 fs_7_2
theorem gr_7_33 {E : mE} {rt : Nat} {cc : ByteArray} {pc i : Nat} {ls st : List mV} {μ : mM} (hd : decode cc pc = .ok (.getfield 33, 3)) : mm_run E 7 rt cc (pc, ls, vr 7 i :: st, μ) = mm_run E 7 rt cc (pc + 3, ls, vr 1 i :: st, μ) := R_gr hd ft_7_33 fs_7_3
theorem gr_7_40 {E : mE} {rt : Nat} {cc : ByteArray} {pc i : Nat} {ls st : List mV} {μ : mM} (hd : decode cc pc = .ok (.getfield 40, 3)) : mm_run E 7 rt cc (pc, ls, vr 7 i :: st, μ) = mm_run E 7 rt cc (pc + 3, ls, vr 0 i :: st, μ) := R_gr hd ft_7_40 fs_7_4
theorem gr_7_47 {E : mE} {rt : Nat} {cc : ByteArray} {pc i : Nat} {ls st : List mV} {μ : mM} (hd : decode cc pc = .ok (.getfield 47, 3)) : mm_run E 7 rt cc (pc, ls, vr 7 i :: st, μ) = mm_run E 7 rt cc (pc + 3, ls, vr 4 i :: st, μ) := R_gr hd ft_7_47 fs_7_5
theorem gr_7_53 {E : mE} {rt : Nat} {cc : ByteArray} {pc i : Nat} {ls st : List mV} {μ : mM} (hd : decode cc pc = .ok (.getfield 53, 3)) : mm_run E 7 rt cc (pc, ls, vr 7 i :: st, μ) = mm_run E 7 rt cc (pc + 3, ls, vr 17 i :: st, μ) := R_gr hd ft_7_53 fs_7_6
theorem gi_7_57 {E : mE} {rt : Nat} {cc : ByteArray} {pc i : Nat} {ls st : List mV} {μ : mM} (hd : decode cc pc = .ok (.getfield 57, 3)) : mm_run E 7 rt cc (pc, ls, vr 7 i :: st, μ) = mm_run E 7 rt cc (pc + 3, ls, vi (μ 7 i 7) :: st, μ) := R_gi hd ft_7_57 fs_7_7 (by decide)
theorem gi_7_62 {E : mE} {rt : Nat} {cc : ByteArray} {pc i : Nat} {ls st : List mV} {μ : mM} (hd : decode cc pc = .ok (.getfield 62, 3)) : mm_run E 7 rt cc (pc, ls, vr 6 i :: st, μ) = mm_run E 7 rt cc (pc + 3, ls, vi (μ 6 i 6) :: st, μ) := R_gi hd ft_7_62 fs_6_6 (by decide)
theorem gi_7_65 {E : mE} {rt : Nat} {cc : ByteArray} {pc i : Nat} {ls st : List mV} {μ : mM} (hd : decode cc pc = .ok (.getfield 65, 3)) : mm_run E 7 rt cc (pc, ls, vr 6 i :: st, μ) = mm_run E 7 rt cc (pc + 3, ls, vi (μ 6 i 7) :: st, μ) := R_gi hd ft_7_65 fs_6_7 (by decide)
theorem gi_7_68 {E : mE} {rt : Nat} {cc : ByteArray} {pc i : Nat} {ls st : List mV} {μ : mM} (hd : decode cc pc = .ok (.getfield 68, 3)) : mm_run E 7 rt cc (pc, ls, vr 6 i :: st, μ) = mm_run E 7 rt cc (pc + 3, ls, vi (μ 6 i 8) :: st, μ) := R_gi hd ft_7_68 fs_6_8 (by decide)
theorem gi_7_91 {E : mE} {rt : Nat} {cc : ByteArray} {pc i : Nat} {ls st : List mV} {μ : mM} (hd : decode cc pc = .ok (.getfield 91, 3)) : mm_run E 7 rt cc (pc, ls, vr 4 i :: st, μ) = mm_run E 7 rt cc (pc + 3, ls, vi (μ 4 i 4) :: st, μ) := R_gi hd ft_7_91 fs_4_4 (by decide)
theorem gi_7_110 {E : mE} {rt : Nat} {cc : ByteArray} {pc i : Nat} {ls st : List mV} {μ : mM} (hd : decode cc pc = .ok (.getfield 110, 3)) : mm_run E 7 rt cc (pc, ls, vr 3 i :: st, μ) = mm_run E 7 rt cc (pc + 3, ls, vi (μ 3 i 2) :: st, μ) := R_gi hd ft_7_110 fs_3_2 (by decide)
theorem gr_7_119 {E : mE} {rt : Nat} {cc : ByteArray} {pc i : Nat} {ls st : List mV} {μ : mM} (hd : decode cc pc = .ok (.getfield 119, 3)) : mm_run E 7 rt cc (pc, ls, vr 6 i :: st, μ) = mm_run E 7 rt cc (pc + 3, ls, vr 10 i :: st, μ) := R_gr hd ft_7_119 fs_6_0
theorem gr_7_130 {E : mE} {rt : Nat} {cc : ByteArray} {pc i : Nat} {ls st : List mV} {μ : mM} (hd : decode cc pc = .ok (.getfield 130, 3)) : mm_run E 7 rt cc (pc, ls, vr 5 i :: st, μ) = mm_run E 7 rt cc (pc + 3, ls, vr 24 i :: st, μ) := R_gr hd ft_7_130 fs_5_4
theorem gr_7_142 {E : mE} {rt : Nat} {cc : ByteArray} {pc i : Nat} {ls st : List mV} {μ : mM} (hd : decode cc pc = .ok (.getfield 142, 3)) : mm_run E 7 rt cc (pc, ls, vr 6 i :: st, μ) = mm_run E 7 rt cc (pc + 3, ls, vr 11 i :: st, μ) := R_gr hd ft_7_142 fs_6_1
theorem gr_7_145 {E : mE} {rt : Nat} {cc : ByteArray} {pc i : Nat} {ls st : List mV} {μ : mM} (hd : decode cc pc = .ok (.getfield 145, 3)) : mm_run E 7 rt cc (pc, ls, vr 5 i :: st, μ) = mm_run E 7 rt cc (pc + 3, ls, vr 27 i :: st, μ) := R_gr hd ft_7_145 fs_5_7
theorem gr_7_151 {E : mE} {rt : Nat} {cc : ByteArray} {pc i : Nat} {ls st : List mV} {μ : mM} (hd : decode cc pc = .ok (.getfield 151, 3)) : mm_run E 7 rt cc (pc, ls, vr 6 i :: st, μ) = mm_run E 7 rt cc (pc + 3, ls, vr 12 i :: st, μ) := R_gr hd ft_7_151 fs_6_2
theorem gr_7_154 {E : mE} {rt : Nat} {cc : ByteArray} {pc i : Nat} {ls st : List mV} {μ : mM} (hd : decode cc pc = .ok (.getfield 154, 3)) : mm_run E 7 rt cc (pc, ls, vr 6 i :: st, μ) = mm_run E 7 rt cc (pc + 3, ls, vr 13 i :: st, μ) := R_gr hd ft_7_154 fs_6_3
theorem gr_7_160 {E : mE} {rt : Nat} {cc : ByteArray} {pc i : Nat} {ls st : List mV} {μ : mM} (hd : decode cc pc = .ok (.getfield 160, 3)) : mm_run E 7 rt cc (pc, ls, vr 6 i :: st, μ) = mm_run E 7 rt cc (pc + 3, ls, vr 14 i :: st, μ) := R_gr hd ft_7_160 fs_6_4
theorem gr_7_166 {E : mE} {rt : Nat} {cc : ByteArray} {pc i : Nat} {ls st : List mV} {μ : mM} (hd : decode cc pc = .ok (.getfield 166, 3)) : mm_run E 7 rt cc (pc, ls, vr 6 i :: st, μ) = mm_run E 7 rt cc (pc + 3, ls, vr 15 i :: st, μ) := R_gr hd ft_7_166 fs_6_5
theorem gi_7_208 {E : mE} {rt : Nat} {cc : ByteArray} {pc i : Nat} {ls st : List mV} {μ : mM} (hd : decode cc pc = .ok (.getfield 208, 3)) : mm_run E 7 rt cc (pc, ls, vr 1 i :: st, μ) = mm_run E 7 rt cc (pc + 3, ls, vi (μ 1 i 4) :: st, μ) := R_gi hd ft_7_208 fs_1_4 (by decide)
theorem gi_7_211 {E : mE} {rt : Nat} {cc : ByteArray} {pc i : Nat} {ls st : List mV} {μ : mM} (hd : decode cc pc = .ok (.getfield 211, 3)) : mm_run E 7 rt cc (pc, ls, vr 1 i :: st, μ) = mm_run E 7 rt cc (pc + 3, ls, vi (μ 1 i 0) :: st, μ) := R_gi hd ft_7_211 fs_1_0 (by decide)
theorem gi_7_214 {E : mE} {rt : Nat} {cc : ByteArray} {pc i : Nat} {ls st : List mV} {μ : mM} (hd : decode cc pc = .ok (.getfield 214, 3)) : mm_run E 7 rt cc (pc, ls, vr 1 i :: st, μ) = mm_run E 7 rt cc (pc + 3, ls, vi (μ 1 i 1) :: st, μ) := R_gi hd ft_7_214 fs_1_1 (by decide)
theorem gi_7_217 {E : mE} {rt : Nat} {cc : ByteArray} {pc i : Nat} {ls st : List mV} {μ : mM} (hd : decode cc pc = .ok (.getfield 217, 3)) : mm_run E 7 rt cc (pc, ls, vr 1 i :: st, μ) = mm_run E 7 rt cc (pc + 3, ls, vi (μ 1 i 2) :: st, μ) := R_gi hd ft_7_217 fs_1_2 (by decide)
theorem gi_7_219 {E : mE} {rt : Nat} {cc : ByteArray} {pc i : Nat} {ls st : List mV} {μ : mM} (hd : decode cc pc = .ok (.getfield 219, 3)) : mm_run E 7 rt cc (pc, ls, vr 1 i :: st, μ) = mm_run E 7 rt cc (pc + 3, ls, vi (μ 1 i 3) :: st, μ) := R_gi hd ft_7_219 fs_1_3 (by decide)
theorem gr_7_231 {E : mE} {rt : Nat} {cc : ByteArray} {pc i : Nat} {ls st : List mV} {μ : mM} (hd : decode cc pc = .ok (.getfield 231, 3)) : mm_run E 7 rt cc (pc, ls, vr 2 i :: st, μ) = mm_run E 7 rt cc (pc + 3, ls, vr 6 (i + 17) :: st, μ) := R_gr hd ft_7_231 fs_2_0
theorem gi_7_235 {E : mE} {rt : Nat} {cc : ByteArray} {pc i : Nat} {ls st : List mV} {μ : mM} (hd : decode cc pc = .ok (.getfield 235, 3)) : mm_run E 7 rt cc (pc, ls, vr 2 i :: st, μ) = mm_run E 7 rt cc (pc + 3, ls, vi (μ 2 i 1) :: st, μ) := R_gi hd ft_7_235 fs_2_1 (by decide)
theorem gi_7_238 {E : mE} {rt : Nat} {cc : ByteArray} {pc i : Nat} {ls st : List mV} {μ : mM} (hd : decode cc pc = .ok (.getfield 238, 3)) : mm_run E 7 rt cc (pc, ls, vr 2 i :: st, μ) = mm_run E 7 rt cc (pc + 3, ls, vi (μ 2 i 2) :: st, μ) := R_gi hd ft_7_238 fs_2_2 (by decide)
theorem gr_8_7 {E : mE} {rt : Nat} {cc : ByteArray} {pc i : Nat} {ls st : List mV} {μ : mM} (hd : decode cc pc = .ok (.getfield 7, 3)) : mm_run E 8 rt cc (pc, ls, vr 8 i :: st, μ) = mm_run E 8 rt cc (pc + 3, ls, vr 50 i :: st, μ) := R_gr hd ft_8_7 fs_8_0
theorem gr_8_13 {E : mE} {rt : Nat} {cc : ByteArray} {pc i : Nat} {ls st : List mV} {μ : mM} (hd : decode cc pc = .ok (.getfield 13, 3)) : mm_run E 8 rt cc (pc, ls, vr 8 i :: st, μ) = mm_run E 8 rt cc (pc + 3, ls, vr 51 i :: st, μ) := R_gr hd ft_8_13 fs_8_1
theorem gr_8_17 {E : mE} {rt : Nat} {cc : ByteArray} {pc i : Nat} {ls st : List mV} {μ : mM} (hd : decode cc pc = .ok (.getfield 17, 3)) : mm_run E 8 rt cc (pc, ls, vr 8 i :: st, μ) = mm_run E 8 rt cc (pc + 3, ls, vr 52 i :: st, μ) := R_gr hd ft_8_17 fs_8_2
theorem gr_8_20 {E : mE} {rt : Nat} {cc : ByteArray} {pc i : Nat} {ls st : List mV} {μ : mM} (hd : decode cc pc = .ok (.getfield 20, 3)) : mm_run E 8 rt cc (pc, ls, vr 8 i :: st, μ) = mm_run E 8 rt cc (pc + 3, ls, vr 53 i :: st, μ) := R_gr hd ft_8_20 fs_8_5
theorem gr_8_23 {E : mE} {rt : Nat} {cc : ByteArray} {pc i : Nat} {ls st : List mV} {μ : mM} (hd : decode cc pc = .ok (.getfield 23, 3)) : mm_run E 8 rt cc (pc, ls, vr 8 i :: st, μ) = mm_run E 8 rt cc (pc + 3, ls, vr 54 i :: st, μ) := R_gr hd ft_8_23 fs_8_6
theorem gr_8_26 {E : mE} {rt : Nat} {cc : ByteArray} {pc i : Nat} {ls st : List mV} {μ : mM} (hd : decode cc pc = .ok (.getfield 26, 3)) : mm_run E 8 rt cc (pc, ls, vr 8 i :: st, μ) = mm_run E 8 rt cc (pc + 3, ls, vr 55 i :: st, μ) := R_gr hd ft_8_26 fs_8_7
theorem gr_8_29 {E : mE} {rt : Nat} {cc : ByteArray} {pc i : Nat} {ls st : List mV} {μ : mM} (hd : decode cc pc = .ok (.getfield 29, 3)) : mm_run E 8 rt cc (pc, ls, vr 8 i :: st, μ) = mm_run E 8 rt cc (pc + 3, ls, vr 56 i :: st, μ) := R_gr hd ft_8_29 fs_8_9
theorem gr_8_32 {E : mE} {rt : Nat} {cc : ByteArray} {pc i : Nat} {ls st : List mV} {μ : mM} (hd : decode cc pc = .ok (.getfield 32, 3)) : mm_run E 8 rt cc (pc, ls, vr 8 i :: st, μ) = mm_run E 8 rt cc (pc + 3, ls, vr 57 i :: st, μ) := R_gr hd ft_8_32 fs_8_10
theorem gr_8_35 {E : mE} {rt : Nat} {cc : ByteArray} {pc i : Nat} {ls st : List mV} {μ : mM} (hd : decode cc pc = .ok (.getfield 35, 3)) : mm_run E 8 rt cc (pc, ls, vr 8 i :: st, μ) = mm_run E 8 rt cc (pc + 3, ls, vr 58 i :: st, μ) := R_gr hd ft_8_35 fs_8_11
theorem gr_8_38 {E : mE} {rt : Nat} {cc : ByteArray} {pc i : Nat} {ls st : List mV} {μ : mM} (hd : decode cc pc = .ok (.getfield 38, 3)) : mm_run E 8 rt cc (pc, ls, vr 8 i :: st, μ) = mm_run E 8 rt cc (pc + 3, ls, vr 59 i :: st, μ) := R_gr hd ft_8_38 fs_8_15
theorem gr_8_41 {E : mE} {rt : Nat} {cc : ByteArray} {pc i : Nat} {ls st : List mV} {μ : mM} (hd : decode cc pc = .ok (.getfield 41, 3)) : mm_run E 8 rt cc (pc, ls, vr 8 i :: st, μ) = mm_run E 8 rt cc (pc + 3, ls, vr 60 i :: st, μ) := R_gr hd ft_8_41 fs_8_16
theorem gi_8_44 {E : mE} {rt : Nat} {cc : ByteArray} {pc i : Nat} {ls st : List mV} {μ : mM} (hd : decode cc pc = .ok (.getfield 44, 3)) : mm_run E 8 rt cc (pc, ls, vr 8 i :: st, μ) = mm_run E 8 rt cc (pc + 3, ls, vi (μ 8 i 4) :: st, μ) := R_gi hd ft_8_44 fs_8_4 (by decide)
theorem gi_8_78 {E : mE} {rt : Nat} {cc : ByteArray} {pc i : Nat} {ls st : List mV} {μ : mM} (hd : decode cc pc = .ok (.getfield 78, 3)) : mm_run E 8 rt cc (pc, ls, vr 8 i :: st, μ) = mm_run E 8 rt cc (pc + 3, ls, vi (μ 8 i 8) :: st, μ) := R_gi hd ft_8_78 fs_8_8 (by decide)
theorem gi_8_81 {E : mE} {rt : Nat} {cc : ByteArray} {pc i : Nat} {ls st : List mV} {μ : mM} (hd : decode cc pc = .ok (.getfield 81, 3)) : mm_run E 8 rt cc (pc, ls, vr 8 i :: st, μ) = mm_run E 8 rt cc (pc + 3, ls, vi (μ 8 i 12) :: st, μ) := R_gi hd ft_8_81 fs_8_12 (by decide)
theorem gi_8_84 {E : mE} {rt : Nat} {cc : ByteArray} {pc i : Nat} {ls st : List mV} {μ : mM} (hd : decode cc pc = .ok (.getfield 84, 3)) : mm_run E 8 rt cc (pc, ls, vr 8 i :: st, μ) = mm_run E 8 rt cc (pc + 3, ls, vi (μ 8 i 13) :: st, μ) := R_gi hd ft_8_84 fs_8_13 (by decide)
theorem gi_8_87 {E : mE} {rt : Nat} {cc : ByteArray} {pc i : Nat} {ls st : List mV} {μ : mM} (hd : decode cc pc = .ok (.getfield 87, 3)) : mm_run E 8 rt cc (pc, ls, vr 8 i :: st, μ) = mm_run E 8 rt cc (pc + 3, ls, vi (μ 8 i 14) :: st, μ) := R_gi hd ft_8_87 fs_8_14 (by decide)
theorem gi_8_115 {E : mE} {rt : Nat} {cc : ByteArray} {pc i : Nat} {ls st : List mV} {μ : mM} (hd : decode cc pc = .ok (.getfield 115, 3)) : mm_run E 8 rt cc (pc, ls, vr 8 i :: st, μ) = mm_run E 8 rt cc (pc + 3, ls, vi (μ 8 i 3) :: st, μ) := R_gi hd ft_8_115 fs_8_3 (by decide)
theorem sw_n3 {x : Int32} (h0 : ¬ x = 0) (h1 : ¬ x = 1) (h2 : ¬ x = 2) : x.toInt < 0 ∨ 2 < x.toInt := by
  have g0 := lv_neT (a := 0) h0 rfl
  have g1 := lv_neT (a := 1) h1 rfl
  have g2 := lv_neT (a := 2) h2 rfl
  omega
theorem sw_n4 {x : Int32} (h0 : ¬ x = 0) (h1 : ¬ x = 1) (h2 : ¬ x = 2) (h3 : ¬ x = 3) : x.toInt < 0 ∨ 3 < x.toInt := by
  have g0 := lv_neT (a := 0) h0 rfl
  have g1 := lv_neT (a := 1) h1 rfl
  have g2 := lv_neT (a := 2) h2 rfl
  have g3 := lv_neT (a := 3) h3 rfl
  omega
theorem sw_n6 {x : Int32} (h0 : ¬ x = 0) (h1 : ¬ x = 1) (h2 : ¬ x = 2) (h3 : ¬ x = 3) (h4 : ¬ x = 4) (h5 : ¬ x = 5) : x.toInt < 0 ∨ 5 < x.toInt := by
  have g0 := lv_neT (a := 0) h0 rfl
  have g1 := lv_neT (a := 1) h1 rfl
  have g2 := lv_neT (a := 2) h2 rfl
  have g3 := lv_neT (a := 3) h3 rfl
  have g4 := lv_neT (a := 4) h4 rfl
  have g5 := lv_neT (a := 5) h5 rfl
  omega
theorem sw_n16 {x : Int32} (h0 : ¬ x = 0) (h1 : ¬ x = 1) (h2 : ¬ x = 2) (h3 : ¬ x = 3) (h4 : ¬ x = 4) (h5 : ¬ x = 5) (h6 : ¬ x = 6) (h7 : ¬ x = 7) (h8 : ¬ x = 8) (h9 : ¬ x = 9) (h10 : ¬ x = 10) (h11 : ¬ x = 11) (h12 : ¬ x = 12) (h13 : ¬ x = 13) (h14 : ¬ x = 14) (h15 : ¬ x = 15) : x.toInt < 0 ∨ 15 < x.toInt := by
  have g0 := lv_neT (a := 0) h0 rfl
  have g1 := lv_neT (a := 1) h1 rfl
  have g2 := lv_neT (a := 2) h2 rfl
  have g3 := lv_neT (a := 3) h3 rfl
  have g4 := lv_neT (a := 4) h4 rfl
  have g5 := lv_neT (a := 5) h5 rfl
  have g6 := lv_neT (a := 6) h6 rfl
  have g7 := lv_neT (a := 7) h7 rfl
  have g8 := lv_neT (a := 8) h8 rfl
  have g9 := lv_neT (a := 9) h9 rfl
  have g10 := lv_neT (a := 10) h10 rfl
  have g11 := lv_neT (a := 11) h11 rfl
  have g12 := lv_neT (a := 12) h12 rfl
  have g13 := lv_neT (a := 13) h13 rfl
  have g14 := lv_neT (a := 14) h14 rfl
  have g15 := lv_neT (a := 15) h15 rfl
  omega
