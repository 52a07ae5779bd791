/-! all that is kept: the class's side, the model's -/
abbrev aT : Type := (sT × Nat × Nat × (Nat → sT)) × ((Nat → sT) × (Nat → Bool) × (Nat → Int)) × Int × qT
abbrev aS (A : aT) : sT := A.1.1
abbrev aN (A : aT) : Nat := A.1.2.1
abbrev aD (A : aT) : Nat := A.1.2.2.1
abbrev aP (A : aT) : Nat → sT := A.1.2.2.2
abbrev aI (A : aT) : Nat → sT := A.2.1.1
abbrev aK (A : aT) : Nat → Bool := A.2.1.2.1
abbrev aZ (A : aT) : Nat → Int := A.2.1.2.2
abbrev aE (A : aT) : Int := A.2.2.1
abbrev aQ (A : aT) : qT := A.2.2.2
def CI (A : aT) (μ : mM) : Prop := cSt (aS A) 0 μ ∧ μ 3 0 1 = jI (aN A : Int) ∧ μ 3 0 2 = jI (aD A : Int) ∧ (∀ j, j < aD A → cSt (aP A j) (1 + (aN A + 16 - aD A + j) % 16) μ) ∧ (∀ i, i < 2 → μ 2 i 2 = jI (if aK A i = true then 1 else 0) ∧ (aK A i = true → cSt (aI A i) (17 + i) μ ∧ μ 2 i 1 = jI (aZ A i))) ∧ μ 7 0 7 = jI (aE A) ∧ cSee (aQ A) μ ∧ (∀ i, i ≤ 48 → μ 34 0 i = jI 0) ∧ ∀ b, b ≤ 9 → μ 34 b 0 = jI 0
def MI (A : aT) (μ : mM) : Prop := mL (aS A) μ ∧ μ 8 0 3 = jI (aD A : Int) ∧ (∀ j, j < aD A → mSt (aP A j) (fun t => μ 50 0 (825 + 275 * j + t))) ∧ (∀ i, i < 2 → μ 51 0 i = jI (if aK A i = true then 1 else 0) ∧ (aK A i = true → mSt (aI A i) (fun t => μ 50 0 (275 + 275 * i + t)) ∧ μ 52 0 i = jI (aZ A i))) ∧ μ 8 0 4 = jI (aE A) ∧ mSee (aQ A) μ
def WI (A : aT) : Prop := wf (aS A) ∧ aN A < 16 ∧ aD A ≤ 16 ∧ (∀ j, j < aD A → wf (aP A j)) ∧ (∀ i, i < 2 → aK A i = true → wf (aI A i) ∧ 0 ≤ aZ A i ∧ aZ A i < 2147483648) ∧ 0 ≤ aE A ∧ aE A < 2147483648 ∧ wfS (aQ A)
def fC (μ μ' : mM) : Prop := ∀ k i, (k = 8 ∨ (50 ≤ k ∧ k ≤ 60)) → μ' k i = μ k i
def fM (μ μ' : mM) : Prop := ∀ k i, ¬ (k = 8 ∨ (50 ≤ k ∧ k ≤ 60)) → μ' k i = μ k i
theorem qC.see {ν : qT} {μ μ' : mM} (h : qC μ μ') (hs : cSee ν μ) : cSee ν μ' := by
  unfold cSee
  rw [h.2.1 0, h.1 40 0 (by omega), h.1 41 0 (by omega)]
  exact hs
theorem qC.ci {A : aT} {μ μ' : mM} (h : qC μ μ') (c : CI A μ) : CI A μ' := by
  obtain ⟨c1, c2, c3, c4, c5, c6, c7, c8, c9⟩ := c
  refine ⟨h.st c1, ?_, ?_, fun j hj => h.st (c4 j hj), fun i hi => ?_, ?_, h.see c7, fun i hi => ?_, fun b hb => ?_⟩
  · rw [h.1 3 0 (by omega)]; exact c2
  · rw [h.1 3 0 (by omega)]; exact c3
  · rw [h.1 2 i (by omega)]; exact ⟨(c5 i hi).1, fun q => ⟨h.st ((c5 i hi).2 q).1, ((c5 i hi).2 q).2⟩⟩
  · rw [h.1 7 0 (by omega)]; exact c6
  · rw [h.2.2.1]; exact c8 i hi
  · rw [h.2.2.2 b]; exact c9 b hb
theorem qC.fc {μ μ' : mM} (h : qC μ μ') : fC μ μ' := fun k i hk => h.1 k i (by omega)
theorem qM.fm {μ μ' : mM} (h : qM μ μ') : fM μ μ' := fun k i hk => h.1 k i (by omega)
theorem qM.see {ν : qT} {μ μ' : mM} (h : qM μ μ') (hs : mSee ν μ) : mSee ν μ' := by
  unfold mSee
  rw [h.2 8 (by omega) (by omega) (by omega), h.1 56 0 (by omega), h.1 57 0 (by omega), h.1 58 0 (by omega)]
  exact hs
theorem qM.mi {A : aT} {μ μ' : mM} (h : qM μ μ') (c : MI A μ) : MI A μ' := by
  obtain ⟨c1, c2, c3, c4, c5, c6⟩ := c
  refine ⟨h.st c1, ?_, ?_, ?_, ?_, h.see c6⟩
  · rw [h.2 3 (by omega) (by omega) (by omega)]; exact c2
  · rw [h.1 50 0 (by omega)]; exact c3
  · rw [h.1 50 0 (by omega), h.1 51 0 (by omega), h.1 52 0 (by omega)]; exact c4
  · rw [h.2 4 (by omega) (by omega) (by omega)]; exact c5
theorem fC.mi {A : aT} {μ μ' : mM} (h : fC μ μ') (c : MI A μ) : MI A μ' := by
  unfold MI mSee mL at *
  rw [h 50 0 (by omega), h 8 0 (by omega), h 51 0 (by omega), h 52 0 (by omega), h 56 0 (by omega), h 57 0 (by omega), h 58 0 (by omega)]
  exact c
theorem fM.st {σ : sT} {a : Nat} {μ μ' : mM} (h : fM μ μ') (hs : cSt σ a μ) : cSt σ a μ' := by
  unfold cSt
  rw [h 6 a (by omega), h 10 a (by omega), h 11 a (by omega), h 12 a (by omega), h 13 a (by omega), h 14 a (by omega), h 15 a (by omega)]
  exact hs
theorem fM.ci {A : aT} {μ μ' : mM} (h : fM μ μ') (c : CI A μ) : CI A μ' := by
  obtain ⟨c1, c2, c3, c4, c5, c6, c7, c8, c9⟩ := c
  refine ⟨h.st c1, ?_, ?_, fun j hj => h.st (c4 j hj), fun i hi => ?_, ?_, ?_, fun i hi => ?_, fun b hb => ?_⟩
  · rw [h 3 0 (by omega)]; exact c2
  · rw [h 3 0 (by omega)]; exact c3
  · rw [h 2 i (by omega)]; exact ⟨(c5 i hi).1, fun q => ⟨h.st ((c5 i hi).2 q).1, ((c5 i hi).2 q).2⟩⟩
  · rw [h 7 0 (by omega)]; exact c6
  · unfold cSee; rw [h 4 0 (by omega), h 40 0 (by omega), h 41 0 (by omega)]; exact c7
  · rw [h 34 0 (by omega)]; exact c8 i hi
  · rw [h 34 b (by omega)]; exact c9 b hb
def Inv (μ : mM) : Prop := ∃ A, WI A ∧ CI A μ ∧ MI A μ
/-- a call of the class and the same of the model: alike -/
def alk (fc fm : mM → Option mR) : Prop := ∀ μ, Inv μ → ∃ r μ1 μ2, fc μ = some (r, μ1) ∧ fm μ1 = some (r, μ2) ∧ Inv μ2
theorem alk_of {fc fm : mM → Option mR} (h : ∀ A μ, WI A → CI A μ → ∃ r μ1 A', fc μ = some (r, μ1) ∧ CI A' μ1 ∧ fC μ μ1 ∧ WI A' ∧ ∀ μ', MI A μ' → ∃ μ2, fm μ' = some (r, μ2) ∧ MI A' μ2 ∧ fM μ' μ2) : alk fc fm := by
  rintro μ ⟨A, hW, hC, hM⟩
  obtain ⟨r, μ1, A', a1, a2, a3, a4, a5⟩ := h A μ hW hC
  obtain ⟨μ2, b1, b2, b3⟩ := a5 μ1 (a3.mi hM)
  exact ⟨r, μ1, μ2, a1, b1, A', a4, b3.ci a2, b2⟩
/-- a question -/
theorem alk_q {fc fm : mM → Option mR} (h : ∀ A μ, WI A → CI A μ → ∃ r μ1, fc μ = some (r, μ1) ∧ qC μ μ1 ∧ ∀ μ', MI A μ' → ∃ μ2, fm μ' = some (r, μ2) ∧ qM μ' μ2) : alk fc fm :=
  alk_of fun A μ hW hC => by
    obtain ⟨r, μ1, a1, a2, a3⟩ := h A μ hW hC
    exact ⟨r, μ1, A, a1, a2.ci hC, a2.fc, hW, fun μ' hM => by
      obtain ⟨μ2, b1, b2⟩ := a3 μ' hM
      exact ⟨μ2, b1, b2.mi hM, b2.fm⟩⟩
