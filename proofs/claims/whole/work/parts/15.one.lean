theorem mm_ln_inv {len n : Nat} {y : mS} {x : mC ⊕ mR} (h : mm_ln len n y = some x) : len = n ∧ y = some x := by
  unfold mm_ln at h
  split at h
  · rename_i h0; exact ⟨h0, h⟩
  · cases h
section INV
variable {pc : Nat} {ls st : List mV} {μ : mM} {x : mC ⊕ mR}
theorem mm_b2_inv {f : Int32 → Int32 → Option Int32} (h : mm_b2 f pc ls st μ = some x) : ∃ a b v st', st = .inl b :: .inl a :: st' ∧ f a b = some v ∧ x = .inl (pc, ls, .inl v :: st', μ) := by
  unfold mm_b2 at h
  split at h
  · split at h
    · rename_i v hv
      cases h
      exact ⟨_, _, v, _, rfl, hv, rfl⟩
    · cases h
  · cases h
theorem mm_l2_inv {f : Int64 → Int64 → Option mV} (h : mm_l2 f pc ls st μ = some x) : ∃ a b v st', st = .inr (.inr b) :: .inr (.inr a) :: st' ∧ f a b = some v ∧ x = .inl (pc, ls, v :: st', μ) := by
  unfold mm_l2 at h
  split at h
  · split at h
    · rename_i v hv
      cases h
      exact ⟨_, _, v, _, rfl, hv, rfl⟩
    · cases h
  · cases h
theorem mm_ild_inv {i : Nat} (h : mm_ild pc i ls st μ = some x) : ∃ v, ls[i]? = some (.inl v) ∧ x = .inl (pc, ls, .inl v :: st, μ) := by
  unfold mm_ild at h
  split at h
  · rename_i v hv
    cases h
    exact ⟨v, hv, rfl⟩
  · cases h
theorem mm_lld_inv {i : Nat} (h : mm_lld pc i ls st μ = some x) : ∃ v, ls[i]? = some (.inr (.inr v)) ∧ x = .inl (pc, ls, .inr (.inr v) :: st, μ) := by
  unfold mm_lld at h
  split at h
  · rename_i v hv
    cases h
    exact ⟨v, hv, rfl⟩
  · cases h
theorem mm_ald_inv {i : Nat} (h : mm_ald pc i ls st μ = some x) : ∃ k j, ls[i]? = some (.inr (.inl (k, j))) ∧ k ≠ 99 ∧ x = .inl (pc, ls, .inr (.inl (k, j)) :: st, μ) := by
  unfold mm_ald at h
  split at h
  · split at h
    · cases h
    · rename_i k j hv hk
      cases h
      exact ⟨k, j, hv, hk, rfl⟩
  · cases h
theorem mm_ist_inv {rt i : Nat} (h : mm_ist rt pc i ls st μ = some x) : ∃ v st', st = .inl v :: st' ∧ i < ls.length ∧ rt ≠ 3 ∧ x = .inl (pc, ls.set i (.inl v), st', μ) := by
  unfold mm_ist at h
  split at h
  · split at h
    · rename_i hc
      cases h
      exact ⟨_, _, rfl, hc.1, hc.2, rfl⟩
    · cases h
  · cases h
theorem mm_inc_inv {rt i : Nat} {n : Int} (h : mm_inc rt pc i n ls st μ = some x) : ∃ v, ls[i]? = some (.inl v) ∧ rt ≠ 3 ∧ x = .inl (pc, ls.set i (.inl (v + Int32.ofInt n)), st, μ) := by
  unfold mm_inc at h
  split at h
  · split at h
    · rename_i v hv hc
      cases h
      exact ⟨v, hv, hc, rfl⟩
    · cases h
  · cases h
theorem mm_br_inv {b : Bool} {off : Int} (h : mm_br b pc off ls st μ = some x) : ∃ tgt : Nat, (pc : Int) + off = (tgt : Int) ∧ ((b = true ∧ x = .inl (tgt, ls, st, μ)) ∨ (b = false ∧ x = .inl (pc + 3, ls, st, μ))) := by
  unfold mm_br at h
  split at h
  · rename_i h0
    refine ⟨((pc : Int) + off).toNat, by omega, ?_⟩
    split at h
    · rename_i hb
      cases h
      exact Or.inl ⟨hb, rfl⟩
    · rename_i hb
      cases h
      exact Or.inr ⟨by simpa using hb, rfl⟩
  · cases h
theorem mm_gf_inv {o idx : Nat} (h : mm_gf o idx pc ls st μ = some x) : ∃ k i f j t st', st = .inr (.inl (k, i)) :: st' ∧ mm_ft o idx = some (k, f, j) ∧ (mm_fs k)[f]? = some t ∧ x = .inl (pc, ls, (if t.1 = 2 then .inr (.inl (t.2.1, i + t.2.2)) else .inl (μ k i f)) :: st', μ) := by
  unfold mm_gf at h
  split at h
  · split at h
    · split at h
      · rename_i hk
        subst hk
        split at h
        · rename_i hf _ _ _ _ _ ht
          split at h
          · rename_i h2
            cases h
            exact ⟨_, _, _, _, _, _, rfl, by assumption, by assumption, by simp [h2]⟩
          · rename_i h2
            cases h
            exact ⟨_, _, _, _, _, _, rfl, by assumption, by assumption, by simp [h2]⟩
        · cases h
      · cases h
    · cases h
  · cases h
theorem mm_pf_inv {o idx : Nat} (h : mm_pf o idx pc ls st μ = some x) : ∃ k i f j t v st', st = .inl v :: .inr (.inl (k, i)) :: st' ∧ mm_ft o idx = some (k, f, j) ∧ (mm_fs k)[f]? = some t ∧ (t.1 = 0 ∨ (t.1 = 1 ∧ (v = 0 ∨ v = 1))) ∧ x = .inl (pc, ls, st', mm_up μ k i f v) := by
  unfold mm_pf at h
  split at h
  · split at h
    · split at h
      · rename_i hk
        subst hk
        split at h
        · split at h
          · rename_i h2
            cases h
            exact ⟨_, _, _, _, _, _, _, rfl, by assumption, by assumption, h2, rfl⟩
          · cases h
        · cases h
      · cases h
    · cases h
  · cases h
theorem mm_al_inv {tg : Nat} (h : mm_al tg pc ls st μ = some x) : ∃ j k i n q st', st = .inl j :: .inr (.inl (k, i)) :: st' ∧ mm_as k = some (tg, n, q) ∧ vp_in j n ∧ x = .inl (pc, ls, .inl (μ k i j.toNatClampNeg) :: st', μ) := by
  unfold mm_al at h
  split at h
  · split at h
    · split at h
      · rename_i hk
        subst hk
        split at h
        · cases h
        · rename_i hj
          cases h
          exact ⟨_, _, _, _, _, _, rfl, by assumption, hj, rfl⟩
      · cases h
    · cases h
  · cases h
theorem mm_sl_inv {tg : Nat} (h : mm_sl tg pc ls st μ = some x) : ∃ v j k i n q st', st = .inl v :: .inl j :: .inr (.inl (k, i)) :: st' ∧ mm_as k = some (tg, n, q) ∧ vp_in j n ∧ x = .inl (pc, ls, st', mm_up μ k i j.toNatClampNeg (if tg = 0 then v else vp_nar .boolean v)) := by
  unfold mm_sl at h
  split at h
  · split at h
    · split at h
      · rename_i hk
        subst hk
        split at h
        · cases h
        · rename_i hj
          cases h
          exact ⟨_, _, _, _, _, _, _, rfl, by assumption, hj, rfl⟩
      · cases h
    · cases h
  · cases h
theorem mm_aa_inv (h : mm_aa pc ls st μ = some x) : ∃ j k i n k' off st', st = .inl j :: .inr (.inl (k, i)) :: st' ∧ mm_as k = some (2, n, k', off) ∧ vp_in j n ∧ x = .inl (pc, ls, .inr (.inl (k', j.toNatClampNeg + off)) :: st', μ) := by
  unfold mm_aa at h
  split at h
  · split at h
    · split at h
      · rename_i hk
        subst hk
        split at h
        · cases h
        · rename_i hj
          cases h
          exact ⟨_, _, _, _, _, _, _, rfl, by assumption, hj, rfl⟩
      · cases h
    · cases h
  · cases h
theorem mm_cv_inv {E : mE} {o idx : Nat} (h : mm_cv E o idx pc ls st μ = some x) : ∃ id cl q i rest r μ', mm_mt o idx = some (0, id, cl, q) ∧ st.drop (mm_qn id).2.2.2.1 = .inr (.inl (cl, i)) :: rest ∧ mm_ct rest ≤ 8 ∧ E id (.inr (.inl (cl, i)) :: (st.take (mm_qn id).2.2.2.1).reverse) μ = some (r, μ') ∧ x = .inl (pc, ls, (if (mm_qn id).2.1 = 0 then rest else .inl r :: rest), μ') := by
  unfold mm_cv at h
  split at h
  · split at h
    · split at h
      · rename_i hk
        obtain ⟨rfl, hc⟩ := hk
        split at h
        · cases h
          exact ⟨_, _, _, _, _, _, _, by assumption, by assumption, hc, by assumption, rfl⟩
        · cases h
      · cases h
    · cases h
  · cases h
theorem mm_ac_inv (h : mm_ac pc ls st μ = some x) : ∃ n dp k1 i1 sp k0 i0 st' n0 n1 q0 q1, st = .inl n :: .inl dp :: .inr (.inl (k1, i1)) :: .inl sp :: .inr (.inl (k0, i0)) :: st' ∧ mm_as k0 = some (0, n0, q0) ∧ mm_as k1 = some (0, n1, q1) ∧ ¬ n < 0 ∧ ¬ sp < 0 ∧ ¬ dp < 0 ∧ sp.toNatClampNeg + n.toNatClampNeg ≤ n0 ∧ dp.toNatClampNeg + n.toNatClampNeg ≤ n1 ∧ mm_ct st' ≤ 8 ∧ x = .inl (pc, ls, st', mm_row μ k1 i1 (va_cpy (μ k0 i0) (μ k1 i1) sp.toNatClampNeg dp.toNatClampNeg n.toNatClampNeg)) := by
  unfold mm_ac at h
  split at h
  · split at h
    · split at h
      · rename_i ht
        obtain ⟨rfl, rfl⟩ := ht
        split at h
        · cases h
        · rename_i hj
          simp only [not_or, Nat.not_lt] at hj
          cases h
          exact ⟨_, _, _, _, _, _, _, _, _, _, _, _, rfl, by assumption, by assumption, hj.1, hj.2.1, hj.2.2.1, hj.2.2.2.1, hj.2.2.2.2.1, hj.2.2.2.2.2, rfl⟩
      · cases h
    · cases h
  · cases h
theorem mm_cs_inv {E : mE} {o idx : Nat} (h : mm_cs E o idx pc ls st μ = some x) : (∃ id q, mm_mt o idx = some (3, id, q) ∧ mm_ac pc ls st μ = some x) ∨ ∃ t id q r μ', mm_mt o idx = some (t, id, q) ∧ (t = 1 ∨ t = 2) ∧ (mm_qn id).2.2.2.1 ≤ st.length ∧ mm_ct (st.drop (mm_qn id).2.2.2.1) ≤ 8 ∧ E id (st.take (mm_qn id).2.2.2.1).reverse μ = some (r, μ') ∧ x = .inl (pc, ls, (if (mm_qn id).2.1 = 0 then st.drop (mm_qn id).2.2.2.1 else .inl r :: st.drop (mm_qn id).2.2.2.1), μ') := by
  unfold mm_cs at h
  split at h
  · split at h
    · rename_i h3
      subst h3
      exact Or.inl ⟨_, _, by assumption, h⟩
    · split at h
      · rename_i ht
        split at h
        · rename_i hc
          split at h
          · cases h
            exact Or.inr ⟨_, _, _, _, _, by assumption, ht, hc.1, hc.2, by assumption, rfl⟩
          · cases h
        · cases h
      · cases h
  · cases h
end INV
