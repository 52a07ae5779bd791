/-! what the pairing is: how many, and that more play pairs all that less does -/
theorem cnt_up {bo : Nat → Int} {k : Nat} {v : Int} (hb : bo k = -1) (hv : v ≠ -1) : ∀ n, cnt (fun s => decide (upI bo k v s ≠ -1)) n = cnt (fun s => decide (bo s ≠ -1)) n + (if k < n then 1 else 0)
  | 0 => by simp [cnt]
  | n + 1 => by
    rw [cnt, cnt, cnt_up hb hv n]
    by_cases c : n = k
    · subst c
      simp [upI, hb, hv]
    · rw [upI_ne c]
      by_cases c2 : k < n
      · rw [if_pos c2, if_pos (show k < n + 1 by omega)]; omega
      · rw [if_neg c2, if_neg (show ¬ k < n + 1 by omega)]; omega
theorem cnt_full {P : Nat → Bool} : ∀ n, cnt P n = n ↔ ∀ s, s < n → P s = true
  | 0 => ⟨fun _ s h => by omega, fun _ => rfl⟩
  | n + 1 => by
    have ih := cnt_full (P := P) n
    have hl := cnt_le P n
    rw [cnt]
    constructor
    · intro h s hs
      by_cases c : P n = true
      · rw [if_pos c] at h
        by_cases c2 : s = n
        · rw [c2]; exact c
        · exact ih.mp (by omega) s (by omega)
      · rw [if_neg c] at h
        omega
    · intro h
      rw [if_pos (h n (by omega)), ih.mpr (fun s hs => h s (by omega))]
section G
variable {n N : Nat} {zs bs es B : Nat → Int} {e : Int} {τ : Nat → Nat}
theorem grd_s (i : Nat) : grd n zs bs es e B τ (i + 1) = if pk zs bs es e (grd n zs bs es e B τ i).1 (B (τ i)) n = -1 then ((grd n zs bs es e B τ i).1, upI (grd n zs bs es e B τ i).2.1 (τ i) (-1), (grd n zs bs es e B τ i).2.2) else (upI (grd n zs bs es e B τ i).1 (pk zs bs es e (grd n zs bs es e B τ i).1 (B (τ i)) n).toNat (τ i : Int), upI (grd n zs bs es e B τ i).2.1 (τ i) (pk zs bs es e (grd n zs bs es e B τ i).1 (B (τ i)) n), (grd n zs bs es e B τ i).2.2 + 1) := rfl
/-- a step, told by what it does -/
theorem grd_step (i : Nat) : (pk zs bs es e (grd n zs bs es e B τ i).1 (B (τ i)) n = -1 ∧ (∀ s, s < n → ¬ pQ bs es e (grd n zs bs es e B τ i).1 (B (τ i)) s) ∧ grd n zs bs es e B τ (i + 1) = ((grd n zs bs es e B τ i).1, upI (grd n zs bs es e B τ i).2.1 (τ i) (-1), (grd n zs bs es e B τ i).2.2)) ∨
    ∃ s, s < n ∧ pQ bs es e (grd n zs bs es e B τ i).1 (B (τ i)) s ∧ (∀ t, t < n → pQ bs es e (grd n zs bs es e B τ i).1 (B (τ i)) t → t = s ∨ lx es zs s t) ∧ grd n zs bs es e B τ (i + 1) = (upI (grd n zs bs es e B τ i).1 s (τ i : Int), upI (grd n zs bs es e B τ i).2.1 (τ i) (s : Int), (grd n zs bs es e B τ i).2.2 + 1) := by
  rw [grd_s]
  rcases pk_R zs bs es e (grd n zs bs es e B τ i).1 (B (τ i)) n with ⟨h1, h2⟩ | ⟨s, h1, h2, h3, h4⟩
  · left
    rw [h1]
    exact ⟨rfl, h2, rfl⟩
  · right
    rw [h2, if_neg (by omega), Int.toNat_natCast]
    exact ⟨s, h1, h3, h4, rfl⟩
theorem grd_cnt : ∀ i, (grd n zs bs es e B τ i).2.2 = cnt (fun s => decide ((grd n zs bs es e B τ i).1 s ≠ -1)) n
  | 0 => by
    show 0 = cnt (fun s => decide ((-1 : Int) ≠ -1)) n
    have : ∀ m, cnt (fun _ => decide ((-1 : Int) ≠ -1)) m = 0 := by
      intro m
      induction m with
      | zero => rfl
      | succ m ih => rw [cnt, ih]; rfl
    exact (this n).symm
  | i + 1 => by
    have ih := grd_cnt i
    rcases grd_step (n := n) (zs := zs) (bs := bs) (es := es) (B := B) (e := e) (τ := τ) i with ⟨-, -, h3⟩ | ⟨s, h1, h2, -, h4⟩
    · rw [h3]; exact ih
    · rw [h4]
      show (grd n zs bs es e B τ i).2.2 + 1 = cnt (fun t => decide (upI (grd n zs bs es e B τ i).1 s (τ i : Int) t ≠ -1)) n
      rw [cnt_up h2.1 (by omega), if_pos h1, ih]
theorem grd_le (i : Nat) : (grd n zs bs es e B τ i).2.2 ≤ n := by
  rw [grd_cnt]
  exact cnt_le _ _
theorem grd_full (i : Nat) : (grd n zs bs es e B τ i).2.2 = n ↔ ∀ s, s < n → (grd n zs bs es e B τ i).1 s ≠ -1 := by
  rw [grd_cnt, cnt_full]
  simp
/-- what is paired fits, and no bore twice; what a bore has is what has it -/
theorem grd_inv (ht : srt B (fun _ => 0) τ N) : ∀ i, i ≤ N → (∀ s, s < n → (grd n zs bs es e B τ i).1 s ≠ -1 → ∃ j, j < i ∧ (grd n zs bs es e B τ i).1 s = (τ j : Int) ∧ bs s - e ≤ B (τ j) ∧ B (τ j) ≤ es s + e) ∧ (∀ s t, s < n → t < n → (grd n zs bs es e B τ i).1 s ≠ -1 → (grd n zs bs es e B τ i).1 s = (grd n zs bs es e B τ i).1 t → s = t) ∧
    (∀ j, j < i → (grd n zs bs es e B τ i).2.1 (τ j) ≠ -1 → ∃ s, s < n ∧ (grd n zs bs es e B τ i).2.1 (τ j) = (s : Int) ∧ (grd n zs bs es e B τ i).1 s = (τ j : Int)) ∧ (∀ j s, j < i → s < n → (grd n zs bs es e B τ i).1 s = (τ j : Int) → (grd n zs bs es e B τ i).2.1 (τ j) = (s : Int))
  | 0, _ => ⟨fun s _ h => absurd rfl h, fun s t _ _ h => absurd rfl h, fun j h => by omega, fun j s h => by omega⟩
  | i + 1, hi => by
    obtain ⟨g1, g2, g3, g4⟩ := grd_inv ht i (by omega)
    have hinj : ∀ j, j < i → τ j ≠ τ i := fun j hj e0 => by
      have := srt_inj ht (by omega) (by omega) e0
      omega
    rcases grd_step (n := n) (zs := zs) (bs := bs) (es := es) (B := B) (e := e) (τ := τ) i with ⟨-, -, h3⟩ | ⟨s, h1, h2, -, h4⟩
    · rw [h3]
      refine ⟨fun s hs hb => ?_, g2, fun j hj hb => ?_, fun j s hj hs hb => ?_⟩
      · obtain ⟨j, k1, k2⟩ := g1 s hs hb
        exact ⟨j, by omega, k2⟩
      · by_cases c : j = i
        · subst c; exact absurd upI_eq hb
        · simp only [upI_ne (hinj j (by omega))] at hb ⊢
          exact g3 j (by omega) hb
      · by_cases c : j = i
        · subst c
          have hb' : (grd n zs bs es e B τ j).1 s = (τ j : Int) := hb
          obtain ⟨j', k1, k2, -⟩ := g1 s hs (by omega)
          exact absurd (by omega) (hinj j' k1)
        · simp only [upI_ne (hinj j (by omega))]
          exact g4 j s (by omega) hs hb
    · rw [h4]
      have hnew : ∀ t, t < n → (grd n zs bs es e B τ i).1 t ≠ (τ i : Int) := fun t ht2 hb => by
        obtain ⟨j, k1, k2, -⟩ := g1 t ht2 (by omega)
        exact hinj j k1 (by omega)
      refine ⟨fun t htn hb => ?_, fun t u htn hun hb heq => ?_, fun j hj hb => ?_, fun j t hj htn hb => ?_⟩
      · by_cases c : t = s
        · subst c
          exact ⟨i, by omega, upI_eq, h2.2.1, h2.2.2⟩
        · simp only [upI_ne c] at hb ⊢
          obtain ⟨j, k1, k2⟩ := g1 t htn hb
          exact ⟨j, by omega, k2⟩
      · by_cases c : t = s
        · by_cases c2 : u = s
          · rw [c, c2]
          · subst c
            simp only [upI_eq, upI_ne c2] at heq
            exact absurd heq.symm (hnew u hun)
        · by_cases c2 : u = s
          · subst c2
            simp only [upI_eq, upI_ne c] at heq
            exact absurd heq (hnew t htn)
          · simp only [upI_ne c, upI_ne c2] at hb heq
            exact g2 t u htn hun hb heq
      · by_cases c : j = i
        · subst c
          exact ⟨s, h1, upI_eq, upI_eq⟩
        · simp only [upI_ne (hinj j (by omega))] at hb ⊢
          obtain ⟨t, k1, k2, k3⟩ := g3 j (by omega) hb
          refine ⟨t, k1, k2, ?_⟩
          have hts : t ≠ s := fun e0 => by
            rw [e0, h2.1] at k3
            omega
          rw [upI_ne hts]; exact k3
      · by_cases c : t = s
        · subst c
          simp only [upI_eq] at hb
          have : τ i = τ j := by omega
          by_cases c2 : j = i
          · subst c2; exact upI_eq
          · exact absurd this.symm (hinj j (by omega))
        · simp only [upI_ne c] at hb
          by_cases c2 : j = i
          · subst c2; exact absurd hb (hnew t htn)
          · simp only [upI_ne (hinj j (by omega))]
            exact g4 j t (by omega) htn hb
theorem srt_mono (ht : srt B (fun _ => 0) τ N) {i j : Nat} (hij : i ≤ j) (hj : j < N) : B (τ i) ≤ B (τ j) := by
  by_cases c : i = j
  · rw [c]; exact Int.le_refl _
  · have := ht.2.1 i j (by omega) hj
    unfold lx at this
    omega
/-- if all can be paired, the pairing pairs all -/
theorem grd_opt (ht : srt B (fun _ => 0) τ N) : ∀ (m i : Nat), i + m = N → (∃ M : Nat → Nat, (∀ s, s < n → (grd n zs bs es e B τ i).1 s = -1 → i ≤ M s ∧ M s < N ∧ bs s - e ≤ B (τ (M s)) ∧ B (τ (M s)) ≤ es s + e) ∧ ∀ s t, s < n → t < n → (grd n zs bs es e B τ i).1 s = -1 → (grd n zs bs es e B τ i).1 t = -1 → M s = M t → s = t) → ∀ s, s < n → (grd n zs bs es e B τ N).1 s ≠ -1
  | 0, i, him, ⟨M, h1, _⟩ => fun s hs hb => by
    have e0 : i = N := by omega
    subst e0
    have := h1 s hs hb
    omega
  | m + 1, i, him, ⟨M, h1, h2⟩ => by
    refine grd_opt ht m (i + 1) (by omega) ?_
    rcases grd_step (n := n) (zs := zs) (bs := bs) (es := es) (B := B) (e := e) (τ := τ) i with ⟨-, g2, g3⟩ | ⟨s, g1, g2, g3, g4⟩
    · rw [g3]
      refine ⟨M, fun s hs hb => ?_, h2⟩
      obtain ⟨k1, k2, k3, k4⟩ := h1 s hs hb
      refine ⟨?_, k2, k3, k4⟩
      by_cases c : M s = i
      · rw [c] at k3 k4
        exact absurd ⟨hb, k3, k4⟩ (g2 s hs)
      · omega
    · rw [g4]
      have hs1 := h1 s g1 g2.1
      -- who had the bore i
      by_cases hex : ∃ t, t < n ∧ t ≠ s ∧ (grd n zs bs es e B τ i).1 t = -1 ∧ M t = i
      · obtain ⟨t, t1, t2, t3, t4⟩ := hex
        have ht1 := h1 t t1 t3
        rw [t4] at ht1
        have hMs : i < M s := by
          have : M s ≠ M t := fun q => t2 (h2 t s t1 g1 t3 g2.1 q.symm)
          omega
        have hlx := g3 t t1 ⟨t3, ht1.2.2.1, ht1.2.2.2⟩
        have hes : es s ≤ es t := by
          rcases hlx with q | q
          · exact absurd q t2
          · unfold lx at q; omega
        have hm := srt_mono ht (show i ≤ M s by omega) hs1.2.1
        refine ⟨fun x => if x = t then M s else M x, fun x hx hb => ?_, fun x y hx hy hbx hby hxy => ?_⟩
        · by_cases c : x = s
          · subst c
            simp only [upI_eq] at hb
            omega
          · simp only [upI_ne c] at hb
            by_cases c2 : x = t
            · subst c2
              simp only [if_true]
              exact ⟨by omega, hs1.2.1, by omega, by omega⟩
            · simp only [if_neg c2]
              obtain ⟨k1, k2, k3, k4⟩ := h1 x hx hb
              refine ⟨?_, k2, k3, k4⟩
              have : M x ≠ i := fun q => c2 (h2 x t hx t1 hb t3 (by rw [q, t4]))
              omega
        · have cx : x ≠ s := fun q => by subst q; simp only [upI_eq] at hbx; omega
          have cy : y ≠ s := fun q => by subst q; simp only [upI_eq] at hby; omega
          simp only [upI_ne cx] at hbx
          simp only [upI_ne cy] at hby
          simp only at hxy
          by_cases c1 : x = t
          · by_cases c2 : y = t
            · rw [c1, c2]
            · rw [if_pos c1, if_neg c2] at hxy
              exact absurd (h2 s y g1 hy g2.1 hby hxy) (Ne.symm cy)
          · by_cases c2 : y = t
            · rw [if_neg c1, if_pos c2] at hxy
              exact absurd (h2 x s hx g1 hbx g2.1 hxy) cx
            · rw [if_neg c1, if_neg c2] at hxy
              exact h2 x y hx hy hbx hby hxy
      · refine ⟨M, fun x hx hb => ?_, fun x y hx hy hbx hby hxy => ?_⟩
        · have cx : x ≠ s := fun q => by subst q; simp only [upI_eq] at hb; omega
          simp only [upI_ne cx] at hb
          obtain ⟨k1, k2, k3, k4⟩ := h1 x hx hb
          refine ⟨?_, k2, k3, k4⟩
          have : M x ≠ i := fun q => hex ⟨x, hx, cx, hb, q⟩
          omega
        · have cx : x ≠ s := fun q => by subst q; simp only [upI_eq] at hbx; omega
          have cy : y ≠ s := fun q => by subst q; simp only [upI_eq] at hby; omega
          simp only [upI_ne cx] at hbx
          simp only [upI_ne cy] at hby
          exact h2 x y hx hy hbx hby hxy
theorem grd_mono (ht : srt B (fun _ => 0) τ N) {e' : Int} (he : e ≤ e') (h : (grd n zs bs es e B τ N).2.2 = n) : (grd n zs bs es e' B τ N).2.2 = n := by
  rw [grd_full] at h ⊢
  obtain ⟨g1, g2, -, -⟩ := grd_inv (n := n) (zs := zs) (bs := bs) (es := es) (e := e) ht N (Nat.le_refl N)
  have hex : ∀ s, ∃ j, s < n → j < N ∧ (grd n zs bs es e B τ N).1 s = (τ j : Int) ∧ bs s - e ≤ B (τ j) ∧ B (τ j) ≤ es s + e := by
    intro s
    by_cases hs : s < n
    · obtain ⟨j, k1, k2⟩ := g1 s hs (h s hs)
      exact ⟨j, fun _ => ⟨k1, k2⟩⟩
    · exact ⟨0, fun q => absurd q hs⟩
  refine grd_opt ht N 0 (by omega) ⟨fun s => Classical.choose (hex s), fun s hs _ => ?_, fun s t hs ht2 _ _ hst => ?_⟩
  · obtain ⟨k1, k2, k3, k4⟩ := Classical.choose_spec (hex s) hs
    refine ⟨Nat.zero_le _, k1, ?_, ?_⟩
    · show bs s - e' ≤ B (τ (Classical.choose (hex s)))
      omega
    · show B (τ (Classical.choose (hex s))) ≤ es s + e'
      omega
  · obtain ⟨-, k2, -⟩ := Classical.choose_spec (hex s) hs
    obtain ⟨-, k3, -⟩ := Classical.choose_spec (hex t) ht2
    refine g2 s t hs ht2 (h s hs) ?_
    have hst' : Classical.choose (hex s) = Classical.choose (hex t) := hst
    rw [k2, k3, hst']
end G
