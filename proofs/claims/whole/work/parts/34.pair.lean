/-! pairing: which shaft a bore gets, and all of it -/
def upI (f : Nat → Int) (k : Nat) (v : Int) : Nat → Int := fun j => if j = k then v else f j
theorem upI_eq {f : Nat → Int} {k : Nat} {v : Int} : upI f k v k = v := by simp [upI]
theorem upI_ne {f : Nat → Int} {k j : Nat} {v : Int} (h : j ≠ k) : upI f k v j = f j := by simp [upI, h]
def pQ (bs es : Nat → Int) (e : Int) (bo : Nat → Int) (z : Int) (s : Nat) : Prop := bo s = -1 ∧ bs s - e ≤ z ∧ z ≤ es s + e

def pkR (zs bs es : Nat → Int) (e : Int) (bo : Nat → Int) (z : Int) (n : Nat) (r : Int) : Prop := (r = -1 ∧ ∀ s, s < n → ¬ pQ bs es e bo z s) ∨ ∃ s : Nat, s < n ∧ r = (s : Int) ∧ pQ bs es e bo z s ∧ ∀ t, t < n → pQ bs es e bo z t → t = s ∨ lx es zs s t
def pk (zs bs es : Nat → Int) (e : Int) (bo : Nat → Int) (z : Int) : Nat → Int
  | 0 => -1
  | n + 1 => if bo n = -1 ∧ bs n - e ≤ z ∧ z ≤ es n + e ∧ (pk zs bs es e bo z n = -1 ∨ es n < es (pk zs bs es e bo z n).toNat ∨ (es n = es (pk zs bs es e bo z n).toNat ∧ zs n < zs (pk zs bs es e bo z n).toNat)) then (n : Int) else pk zs bs es e bo z n
theorem pk_R (zs bs es : Nat → Int) (e : Int) (bo : Nat → Int) (z : Int) : ∀ n, pkR zs bs es e bo z n (pk zs bs es e bo z n)
  | 0 => Or.inl ⟨rfl, fun s h => by omega⟩
  | n + 1 => by
    have ih := pk_R zs bs es e bo z n
    rw [pk]
    rcases ih with ⟨h1, h2⟩ | ⟨s, h1, h2, h3, h4⟩
    · rw [h1]
      by_cases hq : pQ bs es e bo z n
      · rw [if_pos ⟨hq.1, hq.2.1, hq.2.2, Or.inl rfl⟩]
        refine Or.inr ⟨n, by omega, rfl, hq, fun t ht hqt => ?_⟩
        by_cases c : t = n
        · exact Or.inl c
        · exact absurd hqt (h2 t (by omega))
      · rw [if_neg (fun q => hq ⟨q.1, q.2.1, q.2.2.1⟩)]
        refine Or.inl ⟨rfl, fun t ht hqt => ?_⟩
        by_cases c : t = n
        · rw [c] at hqt; exact hq hqt
        · exact h2 t (by omega) hqt
    · rw [h2]
      have e1 : ((s : Int)).toNat = s := by omega
      rw [e1]
      by_cases hq : pQ bs es e bo z n ∧ (es n < es s ∨ (es n = es s ∧ zs n < zs s))
      · rw [if_pos ⟨hq.1.1, hq.1.2.1, hq.1.2.2, Or.inr hq.2⟩]
        refine Or.inr ⟨n, by omega, rfl, hq.1, fun t ht hqt => ?_⟩
        by_cases c : t = n
        · exact Or.inl c
        · right
          have hns : lx es zs n s := by
            have := hq.2
            unfold lx
            omega
          rcases h4 t (by omega) hqt with c2 | c2
          · rw [c2]; exact hns
          · exact lx_tr hns c2
      · rw [if_neg (fun q => hq ⟨⟨q.1, q.2.1, q.2.2.1⟩, q.2.2.2.resolve_left (by omega)⟩)]
        refine Or.inr ⟨s, by omega, rfl, h3, fun t ht hqt => ?_⟩
        by_cases c : t = n
        · subst c
          right
          have : ¬ (es t < es s ∨ (es t = es s ∧ zs t < zs s)) := fun q => hq ⟨hqt, q⟩
          unfold lx
          omega
        · exact h4 t (by omega) hqt
theorem pkR_u {zs bs es : Nat → Int} {e : Int} {bo : Nat → Int} {z : Int} {n : Nat} {r r' : Int} (h : pkR zs bs es e bo z n r) (h' : pkR zs bs es e bo z n r') : r = r' := by
  rcases h with ⟨h1, h2⟩ | ⟨s, h1, h2, h3, h4⟩ <;> rcases h' with ⟨g1, g2⟩ | ⟨t, g1, g2, g3, g4⟩
  · rw [h1, g1]
  · exact absurd g3 (h2 t g1)
  · exact absurd h3 (g2 s h1)
  · rcases h4 t g1 g3 with c | c
    · rw [h2, g2, c]
    · rcases g4 s h1 h3 with c2 | c2
      · rw [h2, g2, c2]
      · exact absurd c (lx_irr c2)
/-- the pairing along an order of the bores -/
def grd (n : Nat) (zs bs es : Nat → Int) (e : Int) (B : Nat → Int) (ρ : Nat → Nat) : Nat → (Nat → Int) × (Nat → Int) × Nat
  | 0 => (fun _ => -1, fun _ => -1, 0)
  | i + 1 =>
    let g := grd n zs bs es e B ρ i
    let r := pk zs bs es e g.1 (B (ρ i)) n
    if r = -1 then (g.1, upI g.2.1 (ρ i) (-1), g.2.2) else (upI g.1 r.toNat (ρ i : Int), upI g.2.1 (ρ i) r, g.2.2 + 1)
theorem pck_lt {zs bs es : Nat → Int} {e : Int} {bo : Nat → Int} {z : Int} {n : Nat} : -1 ≤ pk zs bs es e bo z n ∧ pk zs bs es e bo z n < n := by
  rcases pk_R zs bs es e bo z n with ⟨h1, -⟩ | ⟨s, h1, h2, -⟩ <;> omega
theorem grd_bd {n : Nat} {zs bs es : Nat → Int} {e : Int} {B : Nat → Int} {ρ : Nat → Nat} {N : Nat} (hρ : ∀ i, i < N → ρ i < 25) : ∀ i, i ≤ N → (∀ s, -1 ≤ (grd n zs bs es e B ρ i).1 s ∧ (grd n zs bs es e B ρ i).1 s < 25) ∧ (∀ b, -1 ≤ (grd n zs bs es e B ρ i).2.1 b ∧ (grd n zs bs es e B ρ i).2.1 b < (max n 1 : Nat)) ∧ (grd n zs bs es e B ρ i).2.2 ≤ i
  | 0, _ => ⟨fun s => by simp [grd], fun s => by simp [grd]; omega, by simp [grd]⟩
  | i + 1, hi => by
    obtain ⟨h1, h2, h3⟩ := grd_bd (n := n) (zs := zs) (bs := bs) (es := es) (e := e) (B := B) hρ i (by omega)
    have hr := pck_lt (zs := zs) (bs := bs) (es := es) (e := e) (bo := (grd n zs bs es e B ρ i).1) (z := B (ρ i)) (n := n)
    have hp := hρ i (by omega)
    rw [grd]
    split
    · refine ⟨h1, fun b => ?_, by show (grd n zs bs es e B ρ i).2.2 ≤ i + 1; omega⟩
      simp only [upI]
      split
      · omega
      · exact h2 b
    · refine ⟨fun s => ?_, fun b => ?_, by simp only; omega⟩
      · simp only [upI]
        split
        · omega
        · exact h1 s
      · simp only [upI]
        split
        · omega
        · exact h2 b
/-- the class's choice -/
theorem f_firstToClose {n : Nat} {zs bs es : Nat → Int} {ρ : Nat → Nat} {μ : mM} {bo : Nat → Int} {e z : Int} (h : spS n zs bs es ρ μ) (hs : srt es zs ρ n) (hn : n ≤ 24) (b : ∀ i, i < n → 0 ≤ bs i ∧ bs i < 20000 ∧ 0 ≤ es i ∧ es i < 20000) (he : 0 ≤ e ∧ e < 1000) (hz : 0 ≤ z ∧ z < 20000) (hbo : ∀ s, s < n → μ 24 0 s = jI (bo s)) (bb : ∀ s, -1 ≤ bo s ∧ bo s < 25) :
    f_X5_firstToClose [vr 5 0, vi (jI z), vi (jI e)] μ = some (jI (pk zs bs es e bo z n), μ) := by
  rw [e_X5_firstToClose]
  have key : ∀ (m i : Nat) (x4 : mV), i + m = n → (∀ j, j < i → ¬ pQ bs es e bo z (ρ j)) → ∃ r, r_X5_firstToClose_2 (jI z) (jI e) (jI (i : Int)) x4 μ = some (jI r, μ) ∧ pkR zs bs es e bo z n r := by
    intro m
    induction m with
    | zero =>
      intro i x4 him hno
      refine ⟨-1, ?_, Or.inl ⟨rfl, fun s hsn => ?_⟩⟩
      · rw [e_X5_firstToClose_2]
        simp (disch := omega) only [j_0, j_1, j_2, j_3, j_4, j_5, j_6, j_8, j_9, j_16, j_20, j_24, j_33, j_48, j_49, j_57, j_58, j_82, j_83, j_100, j_131, j_179, j_227, j_275, j_512, j_825, j_999, j_1000, j_9999, j_10000, j_11000, j_65536, j_m1, jI_add, jI_sub, jI_mul, jI_neg, nca_9, nca_33, nca_58, nca_83, nca_131, nca_179, nca_227, nca_825, nca_4, nca_24, nca_275, ncb_1, ncb_275, ncb_24, nc_1add, Int.toNat_natCast, tz_0, tz_1, tz_2, tz_3, tz_4, tz_5, tz_6, tz_8, tz_9, tz_16, tz_20, tz_24, tz_33, tz_48, tz_49, tz_57, tz_58, tz_82, tz_83, tz_100, tz_131, tz_179, tz_227, tz_275, tz_512, tz_825, tz_999, tz_1000, tz_9999, tz_10000, tz_11000, tz_65536, nc_sub1, i_lt, n_lt, i_eq, n_eq, jI_natc, jI_nat, ck_ok, nc_lt, nc_le, if_true, if_false, Option.bind_some, wr_def, and_true, true_and, and_false, false_and, or_true, true_or, or_false, false_or, not_true, not_false_eq_true, not_true_eq_false, ite_true, ite_false, Nat.zero_add, Nat.add_zero, Int.add_zero, Int.zero_add, Int.sub_zero, up_eq, up_ne, up_i, up_j, h.1]
      · obtain ⟨j, hj, rfl⟩ := hs.2.2 s hsn
        exact hno j (by omega)
    | succ m ih =>
      intro i x4 him hno
      have hi : i < n := by omega
      have hρ := hs.1 i hi
      obtain ⟨-, -, -, q4⟩ := h.2 i hi
      obtain ⟨-, p2, p3, -⟩ := h.2 (ρ i) hρ
      have p5 := hbo (ρ i) hρ
      have p6 := bb (ρ i)
      have p7 := b (ρ i) hρ
      by_cases hq : pQ bs es e bo z (ρ i)
      · refine ⟨(ρ i : Int), ?_, Or.inr ⟨ρ i, hρ, rfl, hq, fun t ht hqt => ?_⟩⟩
        · rw [e_X5_firstToClose_2]
          obtain ⟨a1, a2, a3⟩ := hq
          rw [a1] at p5
          simp (disch := omega) only [j_0, j_1, j_2, j_3, j_4, j_5, j_6, j_8, j_9, j_16, j_20, j_24, j_33, j_48, j_49, j_57, j_58, j_82, j_83, j_100, j_131, j_179, j_227, j_275, j_512, j_825, j_999, j_1000, j_9999, j_10000, j_11000, j_65536, j_m1, jI_add, jI_sub, jI_mul, jI_neg, nca_9, nca_33, nca_58, nca_83, nca_131, nca_179, nca_227, nca_825, nca_4, nca_24, nca_275, ncb_1, ncb_275, ncb_24, nc_1add, Int.toNat_natCast, tz_0, tz_1, tz_2, tz_3, tz_4, tz_5, tz_6, tz_8, tz_9, tz_16, tz_20, tz_24, tz_33, tz_48, tz_49, tz_57, tz_58, tz_82, tz_83, tz_100, tz_131, tz_179, tz_227, tz_275, tz_512, tz_825, tz_999, tz_1000, tz_9999, tz_10000, tz_11000, tz_65536, nc_sub1, i_lt, n_lt, i_eq, n_eq, jI_natc, jI_nat, ck_ok, nc_lt, nc_le, if_true, if_false, Option.bind_some, wr_def, and_true, true_and, and_false, false_and, or_true, true_or, or_false, false_or, not_true, not_false_eq_true, not_true_eq_false, ite_true, ite_false, Nat.zero_add, Nat.add_zero, Int.add_zero, Int.zero_add, Int.sub_zero, up_eq, up_ne, up_i, up_j, h.1, q4, p2, p3, p5]
        · obtain ⟨j, hj, rfl⟩ := hs.2.2 t ht
          rcases Nat.lt_trichotomy j i with c | c | c
          · exact absurd hqt (hno j c)
          · exact Or.inl (by rw [c])
          · exact Or.inr (hs.2.1 i j c hj)
      · obtain ⟨r, e1, e2⟩ := ih (i + 1) (vi (jI (ρ i : Int))) (by omega) (fun j hj => by
          by_cases c : j = i
          · rw [c]; exact hq
          · exact hno j (by omega))
        refine ⟨r, ?_, e2⟩
        rw [← e1, e_X5_firstToClose_2]
        unfold pQ at hq
        by_cases a1 : bo (ρ i) = -1
        · by_cases a2 : bs (ρ i) - e ≤ z
          · simp (disch := omega) only [j_0, j_1, j_2, j_3, j_4, j_5, j_6, j_8, j_9, j_16, j_20, j_24, j_33, j_48, j_49, j_57, j_58, j_82, j_83, j_100, j_131, j_179, j_227, j_275, j_512, j_825, j_999, j_1000, j_9999, j_10000, j_11000, j_65536, j_m1, jI_add, jI_sub, jI_mul, jI_neg, nca_9, nca_33, nca_58, nca_83, nca_131, nca_179, nca_227, nca_825, nca_4, nca_24, nca_275, ncb_1, ncb_275, ncb_24, nc_1add, Int.toNat_natCast, tz_0, tz_1, tz_2, tz_3, tz_4, tz_5, tz_6, tz_8, tz_9, tz_16, tz_20, tz_24, tz_33, tz_48, tz_49, tz_57, tz_58, tz_82, tz_83, tz_100, tz_131, tz_179, tz_227, tz_275, tz_512, tz_825, tz_999, tz_1000, tz_9999, tz_10000, tz_11000, tz_65536, nc_sub1, i_lt, n_lt, i_eq, n_eq, jI_natc, jI_nat, ck_ok, nc_lt, nc_le, if_true, if_false, Option.bind_some, wr_def, and_true, true_and, and_false, false_and, or_true, true_or, or_false, false_or, not_true, not_false_eq_true, not_true_eq_false, ite_true, ite_false, Nat.zero_add, Nat.add_zero, Int.add_zero, Int.zero_add, Int.sub_zero, up_eq, up_ne, up_i, up_j, h.1, q4, p2, p3, p5, a1]
          · simp (disch := omega) only [j_0, j_1, j_2, j_3, j_4, j_5, j_6, j_8, j_9, j_16, j_20, j_24, j_33, j_48, j_49, j_57, j_58, j_82, j_83, j_100, j_131, j_179, j_227, j_275, j_512, j_825, j_999, j_1000, j_9999, j_10000, j_11000, j_65536, j_m1, jI_add, jI_sub, jI_mul, jI_neg, nca_9, nca_33, nca_58, nca_83, nca_131, nca_179, nca_227, nca_825, nca_4, nca_24, nca_275, ncb_1, ncb_275, ncb_24, nc_1add, Int.toNat_natCast, tz_0, tz_1, tz_2, tz_3, tz_4, tz_5, tz_6, tz_8, tz_9, tz_16, tz_20, tz_24, tz_33, tz_48, tz_49, tz_57, tz_58, tz_82, tz_83, tz_100, tz_131, tz_179, tz_227, tz_275, tz_512, tz_825, tz_999, tz_1000, tz_9999, tz_10000, tz_11000, tz_65536, nc_sub1, i_lt, n_lt, i_eq, n_eq, jI_natc, jI_nat, ck_ok, nc_lt, nc_le, if_true, if_false, Option.bind_some, wr_def, and_true, true_and, and_false, false_and, or_true, true_or, or_false, false_or, not_true, not_false_eq_true, not_true_eq_false, ite_true, ite_false, Nat.zero_add, Nat.add_zero, Int.add_zero, Int.zero_add, Int.sub_zero, up_eq, up_ne, up_i, up_j, h.1, q4, p2, p3, p5, a1]
        · simp (disch := omega) only [j_0, j_1, j_2, j_3, j_4, j_5, j_6, j_8, j_9, j_16, j_20, j_24, j_33, j_48, j_49, j_57, j_58, j_82, j_83, j_100, j_131, j_179, j_227, j_275, j_512, j_825, j_999, j_1000, j_9999, j_10000, j_11000, j_65536, j_m1, jI_add, jI_sub, jI_mul, jI_neg, nca_9, nca_33, nca_58, nca_83, nca_131, nca_179, nca_227, nca_825, nca_4, nca_24, nca_275, ncb_1, ncb_275, ncb_24, nc_1add, Int.toNat_natCast, tz_0, tz_1, tz_2, tz_3, tz_4, tz_5, tz_6, tz_8, tz_9, tz_16, tz_20, tz_24, tz_33, tz_48, tz_49, tz_57, tz_58, tz_82, tz_83, tz_100, tz_131, tz_179, tz_227, tz_275, tz_512, tz_825, tz_999, tz_1000, tz_9999, tz_10000, tz_11000, tz_65536, nc_sub1, i_lt, n_lt, i_eq, n_eq, jI_natc, jI_nat, ck_ok, nc_lt, nc_le, if_true, if_false, Option.bind_some, wr_def, and_true, true_and, and_false, false_and, or_true, true_or, or_false, false_or, not_true, not_false_eq_true, not_true_eq_false, ite_true, ite_false, Nat.zero_add, Nat.add_zero, Int.add_zero, Int.zero_add, Int.sub_zero, up_eq, up_ne, up_i, up_j, h.1, q4, p2, p3, p5]
  obtain ⟨r, e1, e2⟩ := key n 0 vu (by omega) (fun j hj => by omega)
  rw [pkR_u e2 (pk_R zs bs es e bo z n)] at e1
  exact e1
/-- the class's pairing -/
theorem f_pair {n N : Nat} {zs bs es B : Nat → Int} {ρ τ : Nat → Nat} {μ : mM} {e : Int} (h : spS n zs bs es ρ μ) (hs : srt es zs ρ n) (hB : spB N B τ μ) (hn : n ≤ 24) (hN : N ≤ 25) (ht : ∀ i, i < N → τ i < N) (b : ∀ i, i < n → 0 ≤ bs i ∧ bs i < 20000 ∧ 0 ≤ es i ∧ es i < 20000) (bB : ∀ i, i < N → 0 ≤ B i ∧ B i < 20000) (he : 0 ≤ e ∧ e < 1000) :
    ∃ μ', f_X5_pair [vr 5 0, vi (jI e)] μ = some (jI ((grd n zs bs es e B τ N).2.2 : Int), μ') ∧ (∀ k i, ¬ (k = 24 ∨ k = 27) → μ' k i = μ k i) ∧ (∀ s, s < n → μ' 24 0 s = jI ((grd n zs bs es e B τ N).1 s)) ∧ (∀ i, i < N → μ' 27 0 (τ i) = jI ((grd n zs bs es e B τ N).2.1 (τ i))) := by
  rw [e_X5_pair]
  have l1 : ∀ (m i : Nat) (μ1 : mM), i + m = n → (∀ k j, ¬ (k = 24 ∨ k = 27) → μ1 k j = μ k j) → (∀ s, s < i → μ1 24 0 s = jI (-1)) → ∃ μ2, r_X5_pair_2 (jI e) (jI (i : Int)) μ1 = r_X5_pair_27 (jI e) 0 0 vu vu μ2 ∧ (∀ k j, ¬ (k = 24 ∨ k = 27) → μ2 k j = μ k j) ∧ (∀ s, s < n → μ2 24 0 s = jI (-1)) := by
    intro m
    induction m with
    | zero =>
      intro i μ1 him hf hb
      refine ⟨μ1, ?_, hf, fun s hs => hb s (by omega)⟩
      rw [e_X5_pair_2, hf 5 0 (by omega), h.1]
      simp (disch := omega) only [j_0, j_1, j_2, j_3, j_4, j_5, j_6, j_8, j_9, j_16, j_20, j_24, j_33, j_48, j_49, j_57, j_58, j_82, j_83, j_100, j_131, j_179, j_227, j_275, j_512, j_825, j_999, j_1000, j_9999, j_10000, j_11000, j_65536, j_m1, jI_add, jI_sub, jI_mul, jI_neg, nca_9, nca_33, nca_58, nca_83, nca_131, nca_179, nca_227, nca_825, nca_4, nca_24, nca_275, ncb_1, ncb_275, ncb_24, nc_1add, Int.toNat_natCast, tz_0, tz_1, tz_2, tz_3, tz_4, tz_5, tz_6, tz_8, tz_9, tz_16, tz_20, tz_24, tz_33, tz_48, tz_49, tz_57, tz_58, tz_82, tz_83, tz_100, tz_131, tz_179, tz_227, tz_275, tz_512, tz_825, tz_999, tz_1000, tz_9999, tz_10000, tz_11000, tz_65536, nc_sub1, i_lt, n_lt, i_eq, n_eq, jI_natc, jI_nat, ck_ok, nc_lt, nc_le, if_true, if_false, Option.bind_some, wr_def, and_true, true_and, and_false, false_and, or_true, true_or, or_false, false_or, not_true, not_false_eq_true, not_true_eq_false, ite_true, ite_false, Nat.zero_add, Nat.add_zero, Int.add_zero, Int.zero_add, Int.sub_zero, up_eq, up_ne, up_i, up_j]
    | succ m ih =>
      intro i μ1 him hf hb
      obtain ⟨μ2, e1, e2, e3⟩ := ih (i + 1) (mm_up μ1 24 0 i (jI (-1))) (by omega) (fun k j hk => by rw [up_ne (by omega)]; exact hf k j hk) (fun s hs => by
        by_cases c : s = i
        · subst c; simp (disch := omega) only [j_0, j_1, j_2, j_3, j_4, j_5, j_6, j_8, j_9, j_16, j_20, j_24, j_33, j_48, j_49, j_57, j_58, j_82, j_83, j_100, j_131, j_179, j_227, j_275, j_512, j_825, j_999, j_1000, j_9999, j_10000, j_11000, j_65536, j_m1, jI_add, jI_sub, jI_mul, jI_neg, nca_9, nca_33, nca_58, nca_83, nca_131, nca_179, nca_227, nca_825, nca_4, nca_24, nca_275, ncb_1, ncb_275, ncb_24, nc_1add, Int.toNat_natCast, tz_0, tz_1, tz_2, tz_3, tz_4, tz_5, tz_6, tz_8, tz_9, tz_16, tz_20, tz_24, tz_33, tz_48, tz_49, tz_57, tz_58, tz_82, tz_83, tz_100, tz_131, tz_179, tz_227, tz_275, tz_512, tz_825, tz_999, tz_1000, tz_9999, tz_10000, tz_11000, tz_65536, nc_sub1, i_lt, n_lt, i_eq, n_eq, jI_natc, jI_nat, ck_ok, nc_lt, nc_le, if_true, if_false, Option.bind_some, wr_def, and_true, true_and, and_false, false_and, or_true, true_or, or_false, false_or, not_true, not_false_eq_true, not_true_eq_false, ite_true, ite_false, Nat.zero_add, Nat.add_zero, Int.add_zero, Int.zero_add, Int.sub_zero, up_eq, up_ne, up_i, up_j]
        · simp (disch := omega) only [j_0, j_1, j_2, j_3, j_4, j_5, j_6, j_8, j_9, j_16, j_20, j_24, j_33, j_48, j_49, j_57, j_58, j_82, j_83, j_100, j_131, j_179, j_227, j_275, j_512, j_825, j_999, j_1000, j_9999, j_10000, j_11000, j_65536, j_m1, jI_add, jI_sub, jI_mul, jI_neg, nca_9, nca_33, nca_58, nca_83, nca_131, nca_179, nca_227, nca_825, nca_4, nca_24, nca_275, ncb_1, ncb_275, ncb_24, nc_1add, Int.toNat_natCast, tz_0, tz_1, tz_2, tz_3, tz_4, tz_5, tz_6, tz_8, tz_9, tz_16, tz_20, tz_24, tz_33, tz_48, tz_49, tz_57, tz_58, tz_82, tz_83, tz_100, tz_131, tz_179, tz_227, tz_275, tz_512, tz_825, tz_999, tz_1000, tz_9999, tz_10000, tz_11000, tz_65536, nc_sub1, i_lt, n_lt, i_eq, n_eq, jI_natc, jI_nat, ck_ok, nc_lt, nc_le, if_true, if_false, Option.bind_some, wr_def, and_true, true_and, and_false, false_and, or_true, true_or, or_false, false_or, not_true, not_false_eq_true, not_true_eq_false, ite_true, ite_false, Nat.zero_add, Nat.add_zero, Int.add_zero, Int.zero_add, Int.sub_zero, up_eq, up_ne, up_i, up_j, hb s (by omega)])
      refine ⟨μ2, ?_, e2, e3⟩
      rw [← e1, e_X5_pair_2, hf 5 0 (by omega), h.1]
      simp (disch := omega) only [j_0, j_1, j_2, j_3, j_4, j_5, j_6, j_8, j_9, j_16, j_20, j_24, j_33, j_48, j_49, j_57, j_58, j_82, j_83, j_100, j_131, j_179, j_227, j_275, j_512, j_825, j_999, j_1000, j_9999, j_10000, j_11000, j_65536, j_m1, jI_add, jI_sub, jI_mul, jI_neg, nca_9, nca_33, nca_58, nca_83, nca_131, nca_179, nca_227, nca_825, nca_4, nca_24, nca_275, ncb_1, ncb_275, ncb_24, nc_1add, Int.toNat_natCast, tz_0, tz_1, tz_2, tz_3, tz_4, tz_5, tz_6, tz_8, tz_9, tz_16, tz_20, tz_24, tz_33, tz_48, tz_49, tz_57, tz_58, tz_82, tz_83, tz_100, tz_131, tz_179, tz_227, tz_275, tz_512, tz_825, tz_999, tz_1000, tz_9999, tz_10000, tz_11000, tz_65536, nc_sub1, i_lt, n_lt, i_eq, n_eq, jI_natc, jI_nat, ck_ok, nc_lt, nc_le, if_true, if_false, Option.bind_some, wr_def, and_true, true_and, and_false, false_and, or_true, true_or, or_false, false_or, not_true, not_false_eq_true, not_true_eq_false, ite_true, ite_false, Nat.zero_add, Nat.add_zero, Int.add_zero, Int.zero_add, Int.sub_zero, up_eq, up_ne, up_i, up_j]
  obtain ⟨μ2, e1, hf2, hb2⟩ := l1 n 0 μ (by omega) (fun _ _ _ => rfl) (fun s hs => by omega)
  have l2 : ∀ (m i : Nat) (μ1 : mM) (x4 x5 : mV), i + m = N → (∀ k j, ¬ (k = 24 ∨ k = 27) → μ1 k j = μ k j) → (∀ s, s < n → μ1 24 0 s = jI ((grd n zs bs es e B τ i).1 s)) → (∀ j, j < i → ∃ b, b = τ j ∧ μ1 27 0 b = jI ((grd n zs bs es e B τ i).2.1 b)) →
      ∃ μ', r_X5_pair_27 (jI e) (jI ((grd n zs bs es e B τ i).2.2 : Int)) (jI (i : Int)) x4 x5 μ1 = some (jI ((grd n zs bs es e B τ N).2.2 : Int), μ') ∧ (∀ k j, ¬ (k = 24 ∨ k = 27) → μ' k j = μ k j) ∧ (∀ s, s < n → μ' 24 0 s = jI ((grd n zs bs es e B τ N).1 s)) ∧ (∀ j, j < N → μ' 27 0 (τ j) = jI ((grd n zs bs es e B τ N).2.1 (τ j))) := by
    intro m
    induction m with
    | zero =>
      intro i μ1 x4 x5 him hf hb hso
      have hiN : i = N := by omega
      subst hiN
      refine ⟨μ1, ?_, hf, hb, fun j hj => by obtain ⟨b, rfl, h2⟩ := hso j hj; exact h2⟩
      rw [e_X5_pair_27, hf 5 0 (by omega), hB.1]
      simp (disch := omega) only [j_0, j_1, j_2, j_3, j_4, j_5, j_6, j_8, j_9, j_16, j_20, j_24, j_33, j_48, j_49, j_57, j_58, j_82, j_83, j_100, j_131, j_179, j_227, j_275, j_512, j_825, j_999, j_1000, j_9999, j_10000, j_11000, j_65536, j_m1, jI_add, jI_sub, jI_mul, jI_neg, nca_9, nca_33, nca_58, nca_83, nca_131, nca_179, nca_227, nca_825, nca_4, nca_24, nca_275, ncb_1, ncb_275, ncb_24, nc_1add, Int.toNat_natCast, tz_0, tz_1, tz_2, tz_3, tz_4, tz_5, tz_6, tz_8, tz_9, tz_16, tz_20, tz_24, tz_33, tz_48, tz_49, tz_57, tz_58, tz_82, tz_83, tz_100, tz_131, tz_179, tz_227, tz_275, tz_512, tz_825, tz_999, tz_1000, tz_9999, tz_10000, tz_11000, tz_65536, nc_sub1, i_lt, n_lt, i_eq, n_eq, jI_natc, jI_nat, ck_ok, nc_lt, nc_le, if_true, if_false, Option.bind_some, wr_def, and_true, true_and, and_false, false_and, or_true, true_or, or_false, false_or, not_true, not_false_eq_true, not_true_eq_false, ite_true, ite_false, Nat.zero_add, Nat.add_zero, Int.add_zero, Int.zero_add, Int.sub_zero, up_eq, up_ne, up_i, up_j]
    | succ m ih =>
      intro i μ1 x4 x5 him hf hb hso
      have hi : i < N := by omega
      have hτ := ht i hi
      obtain ⟨-, r2⟩ := hB.2 i hi
      obtain ⟨r3, -⟩ := hB.2 (τ i) hτ
      have r4 := bB (τ i) hτ
      have bd := grd_bd (n := n) (zs := zs) (bs := bs) (es := es) (e := e) (B := B) (ρ := τ) (N := N) (fun i hi => by have := ht i hi; omega) i (by omega)
      have hsp : spS n zs bs es ρ μ1 := by
        refine ⟨by rw [hf 5 0 (by omega)]; exact h.1, fun j hj => ?_⟩
        rw [hf 20 0 (by omega), hf 21 0 (by omega), hf 22 0 (by omega), hf 23 0 (by omega)]
        exact h.2 j hj
      have hfc := f_firstToClose (z := B (τ i)) hsp hs hn b he r4 hb bd.1
      have hpk := pck_lt (zs := zs) (bs := bs) (es := es) (e := e) (bo := (grd n zs bs es e B τ i).1) (z := B (τ i)) (n := n)
      have hg : grd n zs bs es e B τ (i + 1) = if pk zs bs es e (grd n zs bs es e B τ i).1 (B (τ i)) n = -1 then ((grd n zs bs es e B τ i).1, upI (grd n zs bs es e B τ i).2.1 (τ i) (-1), (grd n zs bs es e B τ i).2.2) else (upI (grd n zs bs es e B τ i).1 (pk zs bs es e (grd n zs bs es e B τ i).1 (B (τ i)) n).toNat (τ i : Int), upI (grd n zs bs es e B τ i).2.1 (τ i) (pk zs bs es e (grd n zs bs es e B τ i).1 (B (τ i)) n), (grd n zs bs es e B τ i).2.2 + 1) := rfl
      generalize hr : pk zs bs es e (grd n zs bs es e B τ i).1 (B (τ i)) n = r at hfc hpk hg
      rw [e_X5_pair_27, hf 5 0 (by omega), hf 26 0 (by omega), hf 25 0 (by omega), hB.1]
      by_cases c : r = -1
      · rw [if_pos c] at hg
        obtain ⟨μ', a1, a2, a3, a4⟩ := ih (i + 1) (mm_up μ1 27 0 (τ i) (jI r)) (vi (jI (τ i : Int))) (vi (jI r)) (by omega) (fun k j hk => by rw [up_ne (by omega)]; exact hf k j hk) (fun s hsn => by rw [hg]; simp (disch := omega) only [j_0, j_1, j_2, j_3, j_4, j_5, j_6, j_8, j_9, j_16, j_20, j_24, j_33, j_48, j_49, j_57, j_58, j_82, j_83, j_100, j_131, j_179, j_227, j_275, j_512, j_825, j_999, j_1000, j_9999, j_10000, j_11000, j_65536, j_m1, jI_add, jI_sub, jI_mul, jI_neg, nca_9, nca_33, nca_58, nca_83, nca_131, nca_179, nca_227, nca_825, nca_4, nca_24, nca_275, ncb_1, ncb_275, ncb_24, nc_1add, Int.toNat_natCast, tz_0, tz_1, tz_2, tz_3, tz_4, tz_5, tz_6, tz_8, tz_9, tz_16, tz_20, tz_24, tz_33, tz_48, tz_49, tz_57, tz_58, tz_82, tz_83, tz_100, tz_131, tz_179, tz_227, tz_275, tz_512, tz_825, tz_999, tz_1000, tz_9999, tz_10000, tz_11000, tz_65536, nc_sub1, i_lt, n_lt, i_eq, n_eq, jI_natc, jI_nat, ck_ok, nc_lt, nc_le, if_true, if_false, Option.bind_some, wr_def, and_true, true_and, and_false, false_and, or_true, true_or, or_false, false_or, not_true, not_false_eq_true, not_true_eq_false, ite_true, ite_false, Nat.zero_add, Nat.add_zero, Int.add_zero, Int.zero_add, Int.sub_zero, up_eq, up_ne, up_i, up_j, hb s hsn]) (fun j hj => by
          refine ⟨τ j, rfl, ?_⟩
          rw [hg]
          by_cases c2 : τ j = τ i
          · rw [c2]; simp (disch := omega) only [j_0, j_1, j_2, j_3, j_4, j_5, j_6, j_8, j_9, j_16, j_20, j_24, j_33, j_48, j_49, j_57, j_58, j_82, j_83, j_100, j_131, j_179, j_227, j_275, j_512, j_825, j_999, j_1000, j_9999, j_10000, j_11000, j_65536, j_m1, jI_add, jI_sub, jI_mul, jI_neg, nca_9, nca_33, nca_58, nca_83, nca_131, nca_179, nca_227, nca_825, nca_4, nca_24, nca_275, ncb_1, ncb_275, ncb_24, nc_1add, Int.toNat_natCast, tz_0, tz_1, tz_2, tz_3, tz_4, tz_5, tz_6, tz_8, tz_9, tz_16, tz_20, tz_24, tz_33, tz_48, tz_49, tz_57, tz_58, tz_82, tz_83, tz_100, tz_131, tz_179, tz_227, tz_275, tz_512, tz_825, tz_999, tz_1000, tz_9999, tz_10000, tz_11000, tz_65536, nc_sub1, i_lt, n_lt, i_eq, n_eq, jI_natc, jI_nat, ck_ok, nc_lt, nc_le, if_true, if_false, Option.bind_some, wr_def, and_true, true_and, and_false, false_and, or_true, true_or, or_false, false_or, not_true, not_false_eq_true, not_true_eq_false, ite_true, ite_false, Nat.zero_add, Nat.add_zero, Int.add_zero, Int.zero_add, Int.sub_zero, up_eq, up_ne, up_i, up_j, upI_eq, c]
          · rcases Nat.lt_or_ge j i with c3 | c3
            · obtain ⟨b, rfl, h2⟩ := hso j c3
              simp (disch := omega) only [j_0, j_1, j_2, j_3, j_4, j_5, j_6, j_8, j_9, j_16, j_20, j_24, j_33, j_48, j_49, j_57, j_58, j_82, j_83, j_100, j_131, j_179, j_227, j_275, j_512, j_825, j_999, j_1000, j_9999, j_10000, j_11000, j_65536, j_m1, jI_add, jI_sub, jI_mul, jI_neg, nca_9, nca_33, nca_58, nca_83, nca_131, nca_179, nca_227, nca_825, nca_4, nca_24, nca_275, ncb_1, ncb_275, ncb_24, nc_1add, Int.toNat_natCast, tz_0, tz_1, tz_2, tz_3, tz_4, tz_5, tz_6, tz_8, tz_9, tz_16, tz_20, tz_24, tz_33, tz_48, tz_49, tz_57, tz_58, tz_82, tz_83, tz_100, tz_131, tz_179, tz_227, tz_275, tz_512, tz_825, tz_999, tz_1000, tz_9999, tz_10000, tz_11000, tz_65536, nc_sub1, i_lt, n_lt, i_eq, n_eq, jI_natc, jI_nat, ck_ok, nc_lt, nc_le, if_true, if_false, Option.bind_some, wr_def, and_true, true_and, and_false, false_and, or_true, true_or, or_false, false_or, not_true, not_false_eq_true, not_true_eq_false, ite_true, ite_false, Nat.zero_add, Nat.add_zero, Int.add_zero, Int.zero_add, Int.sub_zero, up_eq, up_ne, up_i, up_j, upI_ne, h2]
            · exact absurd (by rw [show j = i by omega]) c2)
        refine ⟨μ', ?_, a2, a3, a4⟩
        rw [← a1, hg]
        simp (disch := omega) only [j_0, j_1, j_2, j_3, j_4, j_5, j_6, j_8, j_9, j_16, j_20, j_24, j_33, j_48, j_49, j_57, j_58, j_82, j_83, j_100, j_131, j_179, j_227, j_275, j_512, j_825, j_999, j_1000, j_9999, j_10000, j_11000, j_65536, j_m1, jI_add, jI_sub, jI_mul, jI_neg, nca_9, nca_33, nca_58, nca_83, nca_131, nca_179, nca_227, nca_825, nca_4, nca_24, nca_275, ncb_1, ncb_275, ncb_24, nc_1add, Int.toNat_natCast, tz_0, tz_1, tz_2, tz_3, tz_4, tz_5, tz_6, tz_8, tz_9, tz_16, tz_20, tz_24, tz_33, tz_48, tz_49, tz_57, tz_58, tz_82, tz_83, tz_100, tz_131, tz_179, tz_227, tz_275, tz_512, tz_825, tz_999, tz_1000, tz_9999, tz_10000, tz_11000, tz_65536, nc_sub1, i_lt, n_lt, i_eq, n_eq, jI_natc, jI_nat, ck_ok, nc_lt, nc_le, if_true, if_false, Option.bind_some, wr_def, and_true, true_and, and_false, false_and, or_true, true_or, or_false, false_or, not_true, not_false_eq_true, not_true_eq_false, ite_true, ite_false, Nat.zero_add, Nat.add_zero, Int.add_zero, Int.zero_add, Int.sub_zero, up_eq, up_ne, up_i, up_j, r2, r3, hfc, c]
      · rw [if_neg c] at hg
        obtain ⟨μ', a1, a2, a3, a4⟩ := ih (i + 1) (mm_up (mm_up μ1 27 0 (τ i) (jI r)) 24 0 r.toNat (jI (τ i : Int))) (vi (jI (τ i : Int))) (vi (jI r)) (by omega) (fun k j hk => by rw [up_ne (by omega), up_ne (by omega)]; exact hf k j hk) (fun s hsn => by
          rw [hg]
          by_cases c2 : s = r.toNat
          · rw [c2]; simp (disch := omega) only [j_0, j_1, j_2, j_3, j_4, j_5, j_6, j_8, j_9, j_16, j_20, j_24, j_33, j_48, j_49, j_57, j_58, j_82, j_83, j_100, j_131, j_179, j_227, j_275, j_512, j_825, j_999, j_1000, j_9999, j_10000, j_11000, j_65536, j_m1, jI_add, jI_sub, jI_mul, jI_neg, nca_9, nca_33, nca_58, nca_83, nca_131, nca_179, nca_227, nca_825, nca_4, nca_24, nca_275, ncb_1, ncb_275, ncb_24, nc_1add, Int.toNat_natCast, tz_0, tz_1, tz_2, tz_3, tz_4, tz_5, tz_6, tz_8, tz_9, tz_16, tz_20, tz_24, tz_33, tz_48, tz_49, tz_57, tz_58, tz_82, tz_83, tz_100, tz_131, tz_179, tz_227, tz_275, tz_512, tz_825, tz_999, tz_1000, tz_9999, tz_10000, tz_11000, tz_65536, nc_sub1, i_lt, n_lt, i_eq, n_eq, jI_natc, jI_nat, ck_ok, nc_lt, nc_le, if_true, if_false, Option.bind_some, wr_def, and_true, true_and, and_false, false_and, or_true, true_or, or_false, false_or, not_true, not_false_eq_true, not_true_eq_false, ite_true, ite_false, Nat.zero_add, Nat.add_zero, Int.add_zero, Int.zero_add, Int.sub_zero, up_eq, up_ne, up_i, up_j, upI_eq]
          · simp (disch := omega) only [j_0, j_1, j_2, j_3, j_4, j_5, j_6, j_8, j_9, j_16, j_20, j_24, j_33, j_48, j_49, j_57, j_58, j_82, j_83, j_100, j_131, j_179, j_227, j_275, j_512, j_825, j_999, j_1000, j_9999, j_10000, j_11000, j_65536, j_m1, jI_add, jI_sub, jI_mul, jI_neg, nca_9, nca_33, nca_58, nca_83, nca_131, nca_179, nca_227, nca_825, nca_4, nca_24, nca_275, ncb_1, ncb_275, ncb_24, nc_1add, Int.toNat_natCast, tz_0, tz_1, tz_2, tz_3, tz_4, tz_5, tz_6, tz_8, tz_9, tz_16, tz_20, tz_24, tz_33, tz_48, tz_49, tz_57, tz_58, tz_82, tz_83, tz_100, tz_131, tz_179, tz_227, tz_275, tz_512, tz_825, tz_999, tz_1000, tz_9999, tz_10000, tz_11000, tz_65536, nc_sub1, i_lt, n_lt, i_eq, n_eq, jI_natc, jI_nat, ck_ok, nc_lt, nc_le, if_true, if_false, Option.bind_some, wr_def, and_true, true_and, and_false, false_and, or_true, true_or, or_false, false_or, not_true, not_false_eq_true, not_true_eq_false, ite_true, ite_false, Nat.zero_add, Nat.add_zero, Int.add_zero, Int.zero_add, Int.sub_zero, up_eq, up_ne, up_i, up_j, upI_ne, hb s hsn]) (fun j hj => by
          refine ⟨τ j, rfl, ?_⟩
          rw [hg]
          by_cases c2 : τ j = τ i
          · rw [c2]; simp (disch := omega) only [j_0, j_1, j_2, j_3, j_4, j_5, j_6, j_8, j_9, j_16, j_20, j_24, j_33, j_48, j_49, j_57, j_58, j_82, j_83, j_100, j_131, j_179, j_227, j_275, j_512, j_825, j_999, j_1000, j_9999, j_10000, j_11000, j_65536, j_m1, jI_add, jI_sub, jI_mul, jI_neg, nca_9, nca_33, nca_58, nca_83, nca_131, nca_179, nca_227, nca_825, nca_4, nca_24, nca_275, ncb_1, ncb_275, ncb_24, nc_1add, Int.toNat_natCast, tz_0, tz_1, tz_2, tz_3, tz_4, tz_5, tz_6, tz_8, tz_9, tz_16, tz_20, tz_24, tz_33, tz_48, tz_49, tz_57, tz_58, tz_82, tz_83, tz_100, tz_131, tz_179, tz_227, tz_275, tz_512, tz_825, tz_999, tz_1000, tz_9999, tz_10000, tz_11000, tz_65536, nc_sub1, i_lt, n_lt, i_eq, n_eq, jI_natc, jI_nat, ck_ok, nc_lt, nc_le, if_true, if_false, Option.bind_some, wr_def, and_true, true_and, and_false, false_and, or_true, true_or, or_false, false_or, not_true, not_false_eq_true, not_true_eq_false, ite_true, ite_false, Nat.zero_add, Nat.add_zero, Int.add_zero, Int.zero_add, Int.sub_zero, up_eq, up_ne, up_i, up_j, upI_eq]
          · rcases Nat.lt_or_ge j i with c3 | c3
            · obtain ⟨b, rfl, h2⟩ := hso j c3
              simp (disch := omega) only [j_0, j_1, j_2, j_3, j_4, j_5, j_6, j_8, j_9, j_16, j_20, j_24, j_33, j_48, j_49, j_57, j_58, j_82, j_83, j_100, j_131, j_179, j_227, j_275, j_512, j_825, j_999, j_1000, j_9999, j_10000, j_11000, j_65536, j_m1, jI_add, jI_sub, jI_mul, jI_neg, nca_9, nca_33, nca_58, nca_83, nca_131, nca_179, nca_227, nca_825, nca_4, nca_24, nca_275, ncb_1, ncb_275, ncb_24, nc_1add, Int.toNat_natCast, tz_0, tz_1, tz_2, tz_3, tz_4, tz_5, tz_6, tz_8, tz_9, tz_16, tz_20, tz_24, tz_33, tz_48, tz_49, tz_57, tz_58, tz_82, tz_83, tz_100, tz_131, tz_179, tz_227, tz_275, tz_512, tz_825, tz_999, tz_1000, tz_9999, tz_10000, tz_11000, tz_65536, nc_sub1, i_lt, n_lt, i_eq, n_eq, jI_natc, jI_nat, ck_ok, nc_lt, nc_le, if_true, if_false, Option.bind_some, wr_def, and_true, true_and, and_false, false_and, or_true, true_or, or_false, false_or, not_true, not_false_eq_true, not_true_eq_false, ite_true, ite_false, Nat.zero_add, Nat.add_zero, Int.add_zero, Int.zero_add, Int.sub_zero, up_eq, up_ne, up_i, up_j, upI_ne, h2]
            · exact absurd (by rw [show j = i by omega]) c2)
        refine ⟨μ', ?_, a2, a3, a4⟩
        rw [← a1, hg]
        simp (disch := omega) only [j_0, j_1, j_2, j_3, j_4, j_5, j_6, j_8, j_9, j_16, j_20, j_24, j_33, j_48, j_49, j_57, j_58, j_82, j_83, j_100, j_131, j_179, j_227, j_275, j_512, j_825, j_999, j_1000, j_9999, j_10000, j_11000, j_65536, j_m1, jI_add, jI_sub, jI_mul, jI_neg, nca_9, nca_33, nca_58, nca_83, nca_131, nca_179, nca_227, nca_825, nca_4, nca_24, nca_275, ncb_1, ncb_275, ncb_24, nc_1add, Int.toNat_natCast, tz_0, tz_1, tz_2, tz_3, tz_4, tz_5, tz_6, tz_8, tz_9, tz_16, tz_20, tz_24, tz_33, tz_48, tz_49, tz_57, tz_58, tz_82, tz_83, tz_100, tz_131, tz_179, tz_227, tz_275, tz_512, tz_825, tz_999, tz_1000, tz_9999, tz_10000, tz_11000, tz_65536, nc_sub1, i_lt, n_lt, i_eq, n_eq, jI_natc, jI_nat, ck_ok, nc_lt, nc_le, if_true, if_false, Option.bind_some, wr_def, and_true, true_and, and_false, false_and, or_true, true_or, or_false, false_or, not_true, not_false_eq_true, not_true_eq_false, ite_true, ite_false, Nat.zero_add, Nat.add_zero, Int.add_zero, Int.zero_add, Int.sub_zero, up_eq, up_ne, up_i, up_j, r2, r3, hfc]
  obtain ⟨μ', a1, a2, a3, a4⟩ := l2 N 0 μ2 vu vu (by omega) hf2 (fun s hs => by rw [hb2 s hs]; rfl) (fun j hj => by omega)
  refine ⟨μ', ?_, a2, a3, a4⟩
  rw [← a1]
  exact e1
