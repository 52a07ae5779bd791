/-! small whole numbers as ints -/
def jI (z : Int) : Int32 := Int32.ofInt z
theorem jI_toInt {z : Int} (h1 : -2147483648 ≤ z) (h2 : z < 2147483648) : (jI z).toInt = z := by
  unfold jI
  rw [Int32.toInt_ofInt]
  have e : ((Int32.size : Nat) : Int) = 4294967296 := rfl
  rw [Int.bmod_def, e]
  omega
theorem jI_asI (x : Int32) : jI x.toInt = x := by
  unfold jI
  simp
theorem jI_ex (x : Int32) : ∃ z : Int, x = jI z ∧ -2147483648 ≤ z ∧ z < 2147483648 := ⟨x.toInt, (jI_asI x).symm, by have := Int32.le_toInt x; simpa using this, by have := Int32.toInt_lt x; simpa using this⟩
theorem jI_add (a b : Int) : jI a + jI b = jI (a + b) := by unfold jI; rw [Int32.ofInt_add]
theorem jI_sub (a b : Int) : jI a - jI b = jI (a - b) := by unfold jI; rw [Int32.ofInt_sub]
theorem jI_mul (a b : Int) : jI a * jI b = jI (a * b) := by unfold jI; rw [Int32.ofInt_mul]
theorem jI_neg (a : Int) : -jI a = jI (-a) := by unfold jI; rw [Int32.ofInt_neg]
theorem jI_lt {a b : Int} (h1 : -2147483648 ≤ a ∧ a < 2147483648) (h2 : -2147483648 ≤ b ∧ b < 2147483648) : (jI a < jI b) ↔ a < b := by
  rw [Int32.lt_iff_toInt_lt, jI_toInt h1.1 h1.2, jI_toInt h2.1 h2.2]
theorem jI_le {a b : Int} (h1 : -2147483648 ≤ a ∧ a < 2147483648) (h2 : -2147483648 ≤ b ∧ b < 2147483648) : (jI a ≤ jI b) ↔ a ≤ b := by
  rw [Int32.le_iff_toInt_le, jI_toInt h1.1 h1.2, jI_toInt h2.1 h2.2]
theorem jI_eq {a b : Int} (h1 : -2147483648 ≤ a ∧ a < 2147483648) (h2 : -2147483648 ≤ b ∧ b < 2147483648) : (jI a = jI b) ↔ a = b := by
  rw [← Int32.toInt_inj, jI_toInt h1.1 h1.2, jI_toInt h2.1 h2.2]
theorem jI_nat {a : Int} (h1 : 0 ≤ a) (h2 : a < 2147483648) : (jI a).toNatClampNeg = a.toNat := by
  show (jI a).toInt.toNat = a.toNat
  rw [jI_toInt (by omega) h2]
theorem jI_natc {n : Nat} (h2 : n < 2147483648) : (jI (n : Int)).toNatClampNeg = n := by
  rw [jI_nat (by omega) (by omega)]
  simp
theorem jI_div {a b : Int} (h1 : 0 ≤ a) (h2 : a < 2147483648) (h3 : 0 < b) (h4 : b < 2147483648) : jI a / jI b = jI (a / b) := by
  apply Int32.toInt_inj.mp
  rw [Int32.toInt_div_of_ne_left, jI_toInt (by omega) h2, jI_toInt (by omega) h4, Int.tdiv_eq_ediv_of_nonneg h1, jI_toInt]
  · have := Int.ediv_nonneg h1 (Int.le_of_lt h3); omega
  · have := Int.ediv_le_self b h1; omega
  · intro h
    have h5 := congrArg Int32.toInt h
    rw [jI_toInt (by omega) h2] at h5
    have h6 : Int32.minValue.toInt = -2147483648 := by decide
    omega
theorem j_0 : (0 : Int32) = jI 0 := by decide
theorem j_1 : (1 : Int32) = jI 1 := by decide
theorem j_2 : (2 : Int32) = jI 2 := by decide
theorem j_3 : (3 : Int32) = jI 3 := by decide
theorem j_4 : (4 : Int32) = jI 4 := by decide
theorem j_5 : (5 : Int32) = jI 5 := by decide
theorem j_6 : (6 : Int32) = jI 6 := by decide
theorem j_8 : (8 : Int32) = jI 8 := by decide
theorem j_9 : (9 : Int32) = jI 9 := by decide
theorem j_16 : (16 : Int32) = jI 16 := by decide
theorem j_20 : (20 : Int32) = jI 20 := by decide
theorem j_24 : (24 : Int32) = jI 24 := by decide
theorem j_33 : (33 : Int32) = jI 33 := by decide
theorem j_48 : (48 : Int32) = jI 48 := by decide
theorem j_49 : (49 : Int32) = jI 49 := by decide
theorem j_57 : (57 : Int32) = jI 57 := by decide
theorem j_58 : (58 : Int32) = jI 58 := by decide
theorem j_82 : (82 : Int32) = jI 82 := by decide
theorem j_83 : (83 : Int32) = jI 83 := by decide
theorem j_100 : (100 : Int32) = jI 100 := by decide
theorem j_131 : (131 : Int32) = jI 131 := by decide
theorem j_179 : (179 : Int32) = jI 179 := by decide
theorem j_227 : (227 : Int32) = jI 227 := by decide
theorem j_275 : (275 : Int32) = jI 275 := by decide
theorem j_512 : (512 : Int32) = jI 512 := by decide
theorem j_825 : (825 : Int32) = jI 825 := by decide
theorem j_999 : (999 : Int32) = jI 999 := by decide
theorem j_1000 : (1000 : Int32) = jI 1000 := by decide
theorem j_9999 : (9999 : Int32) = jI 9999 := by decide
theorem j_10000 : (10000 : Int32) = jI 10000 := by decide
theorem j_11000 : (11000 : Int32) = jI 11000 := by decide
theorem j_65536 : (65536 : Int32) = jI 65536 := by decide
theorem j_m1 : (-1 : Int32) = jI (-1) := by decide
theorem nc_add (c i : Nat) : (@OfNat.ofNat Int c _ + (i : Int)) = ((OfNat.ofNat c + i : Nat) : Int) := rfl
theorem nc_add1 (c i : Nat) : ((i : Int) + @OfNat.ofNat Int c _) = ((i + OfNat.ofNat c : Nat) : Int) := rfl
theorem nc_1add (i j : Nat) : ((i : Int) + (j : Int)) = ((i + j : Nat) : Int) := rfl
theorem nc_sub1 (i : Nat) (h : 1 ≤ i) : ((i : Int) - 1) = ((i - 1 : Nat) : Int) := by omega
theorem nc_lt (a b : Nat) : ((a : Int) < (b : Int)) = (a < b) := by simp
theorem nc_le (a b : Nat) : ((a : Int) ≤ (b : Int)) = (a ≤ b) := by simp
theorem wr_def {α : Type} (μ : mM) (f : mM → α) : wr μ f = f μ := rfl
theorem ck_ok {α : Type} {n : Nat} {z : Int} {x : Option α} (h1 : 0 ≤ z) (h2 : z < n) (h3 : n < 2147483648) : ck n (jI z) x = x := by
  unfold ck
  rw [if_neg]
  rw [jI_nat h1 (by omega), j_0, jI_lt (by omega) (by omega)]
  omega
section IT
variable {α : Type} {a b : Int} {A B : α}
theorem i_lt (h1 : -2147483648 ≤ a ∧ a < 2147483648 ∧ -2147483648 ≤ b ∧ b < 2147483648 ∧ a < b) : (if jI a < jI b then A else B) = A := if_pos ((jI_lt ⟨h1.1, h1.2.1⟩ ⟨h1.2.2.1, h1.2.2.2.1⟩).mpr h1.2.2.2.2)
theorem n_lt (h1 : -2147483648 ≤ a ∧ a < 2147483648 ∧ -2147483648 ≤ b ∧ b < 2147483648 ∧ b ≤ a) : (if jI a < jI b then A else B) = B := if_neg (fun q => by have := (jI_lt ⟨h1.1, h1.2.1⟩ ⟨h1.2.2.1, h1.2.2.2.1⟩).mp q; omega)
theorem i_eq (h1 : a = b) : (if jI a = jI b then A else B) = A := if_pos (by rw [h1])
theorem n_eq (h1 : -2147483648 ≤ a ∧ a < 2147483648 ∧ -2147483648 ≤ b ∧ b < 2147483648 ∧ ¬ a = b) : (if jI a = jI b then A else B) = B := if_neg (fun q => by have := (jI_eq ⟨h1.1, h1.2.1⟩ ⟨h1.2.2.1, h1.2.2.2.1⟩).mp q; omega)
end IT
theorem nca_4 (i : Nat) : ((4 : Int) + (i : Int)) = ((4 + i : Nat) : Int) := rfl
theorem nca_9 (i : Nat) : ((9 : Int) + (i : Int)) = ((9 + i : Nat) : Int) := rfl
theorem nca_24 (i : Nat) : ((24 : Int) + (i : Int)) = ((24 + i : Nat) : Int) := rfl
theorem nca_33 (i : Nat) : ((33 : Int) + (i : Int)) = ((33 + i : Nat) : Int) := rfl
theorem nca_58 (i : Nat) : ((58 : Int) + (i : Int)) = ((58 + i : Nat) : Int) := rfl
theorem nca_83 (i : Nat) : ((83 : Int) + (i : Int)) = ((83 + i : Nat) : Int) := rfl
theorem nca_131 (i : Nat) : ((131 : Int) + (i : Int)) = ((131 + i : Nat) : Int) := rfl
theorem nca_179 (i : Nat) : ((179 : Int) + (i : Int)) = ((179 + i : Nat) : Int) := rfl
theorem nca_227 (i : Nat) : ((227 : Int) + (i : Int)) = ((227 + i : Nat) : Int) := rfl
theorem nca_275 (i : Nat) : ((275 : Int) + (i : Int)) = ((275 + i : Nat) : Int) := rfl
theorem nca_825 (i : Nat) : ((825 : Int) + (i : Int)) = ((825 + i : Nat) : Int) := rfl
theorem ncb_1 (i : Nat) : ((i : Int) + 1) = ((i + 1 : Nat) : Int) := rfl
theorem ncb_24 (i : Nat) : ((i : Int) + 24) = ((i + 24 : Nat) : Int) := rfl
theorem ncb_275 (i : Nat) : ((i : Int) + 275) = ((i + 275 : Nat) : Int) := rfl
theorem up_eq {μ : mM} {k i j : Nat} {v : Int32} : mm_up μ k i j v k i j = v := by simp [mm_up]
theorem up_ne {μ : mM} {k i j k' i' : Nat} {v : Int32} (h : k' ≠ k) : mm_up μ k i j v k' i' = μ k' i' := by
  funext c
  simp [mm_up, h]
theorem up_i {μ : mM} {k i j i' : Nat} {v : Int32} (h : i' ≠ i) : mm_up μ k i j v k i' = μ k i' := by
  funext c
  simp [mm_up, h]
theorem up_j {μ : mM} {k i j j' : Nat} {v : Int32} (h : j' ≠ j) : mm_up μ k i j v k i j' = μ k i j' := by simp [mm_up, h]
theorem tz_0 : Int.toNat 0 = 0 := rfl
theorem tz_1 : Int.toNat 1 = 1 := rfl
theorem tz_2 : Int.toNat 2 = 2 := rfl
theorem tz_3 : Int.toNat 3 = 3 := rfl
theorem tz_4 : Int.toNat 4 = 4 := rfl
theorem tz_5 : Int.toNat 5 = 5 := rfl
theorem tz_6 : Int.toNat 6 = 6 := rfl
theorem tz_8 : Int.toNat 8 = 8 := rfl
theorem tz_9 : Int.toNat 9 = 9 := rfl
theorem tz_16 : Int.toNat 16 = 16 := rfl
theorem tz_20 : Int.toNat 20 = 20 := rfl
theorem tz_24 : Int.toNat 24 = 24 := rfl
theorem tz_33 : Int.toNat 33 = 33 := rfl
theorem tz_48 : Int.toNat 48 = 48 := rfl
theorem tz_49 : Int.toNat 49 = 49 := rfl
theorem tz_57 : Int.toNat 57 = 57 := rfl
theorem tz_58 : Int.toNat 58 = 58 := rfl
theorem tz_82 : Int.toNat 82 = 82 := rfl
theorem tz_83 : Int.toNat 83 = 83 := rfl
theorem tz_100 : Int.toNat 100 = 100 := rfl
theorem tz_131 : Int.toNat 131 = 131 := rfl
theorem tz_179 : Int.toNat 179 = 179 := rfl
theorem tz_227 : Int.toNat 227 = 227 := rfl
theorem tz_275 : Int.toNat 275 = 275 := rfl
theorem tz_512 : Int.toNat 512 = 512 := rfl
theorem tz_825 : Int.toNat 825 = 825 := rfl
theorem tz_999 : Int.toNat 999 = 999 := rfl
theorem tz_1000 : Int.toNat 1000 = 1000 := rfl
theorem tz_9999 : Int.toNat 9999 = 9999 := rfl
theorem tz_10000 : Int.toNat 10000 = 10000 := rfl
theorem tz_11000 : Int.toNat 11000 = 11000 := rfl
theorem tz_65536 : Int.toNat 65536 = 65536 := rfl
