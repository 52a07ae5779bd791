/-! A small machine over typed memory: values are ints, references (kind, instance) and longs; memory maps kind, instance, slot to an int. All references of the two objects are fixed by their kinds. -/
abbrev mV : Type := Int32 ⊕ ((Nat × Nat) ⊕ Int64)
abbrev mM : Type := Nat → Nat → Nat → Int32
abbrev mC : Type := Nat × List mV × List mV × mM
abbrev mR : Type := Int32 × mM
abbrev mE : Type := Nat → List mV → mM → Option mR
abbrev vi (x : Int32) : mV := .inl x
abbrev vr (k i : Nat) : mV := .inr (.inl (k, i))
abbrev vl (x : Int64) : mV := .inr (.inr x)
abbrev vu : mV := .inr (.inl (99, 0))
def mm_up (μ : mM) (k i j : Nat) (v : Int32) : mM := fun a b c => if a = k ∧ b = i ∧ c = j then v else μ a b c
/-- one row of memory replaced -/
def mm_row (μ : mM) (k i : Nat) (f : Nat → Int32) : mM := fun a b => if a = k ∧ b = i then f else μ a b
def mm_cat : mV → Nat
  | .inr (.inr _) => 2
  | _ => 1
def mm_ct (l : List mV) : Nat := (l.map mm_cat).sum
abbrev mS : Type := Option (mC ⊕ mR)
def mm_nx (pc : Nat) (ls st : List mV) (μ : mM) : mS := some (.inl (pc, ls, st, μ))
def mm_jp (pc : Nat) (off : Int) (ls st : List mV) (μ : mM) : mS := if 0 ≤ (pc : Int) + off then some (.inl (((pc : Int) + off).toNat, ls, st, μ)) else none
def mm_br (b : Bool) (pc : Nat) (off : Int) (ls st : List mV) (μ : mM) : mS := if 0 ≤ (pc : Int) + off then (if b = true then some (.inl (((pc : Int) + off).toNat, ls, st, μ)) else some (.inl (pc + 3, ls, st, μ))) else none
def mm_ps (pc : Nat) (ls : List mV) (v : mV) (st : List mV) (μ : mM) : mS := mm_nx pc ls (v :: st) μ
def mm_ild (pc i : Nat) (ls st : List mV) (μ : mM) : mS := match ls[i]? with
  | some (.inl x) => mm_nx pc ls (.inl x :: st) μ
  | _ => none
def mm_lld (pc i : Nat) (ls st : List mV) (μ : mM) : mS := match ls[i]? with
  | some (.inr (.inr x)) => mm_nx pc ls (.inr (.inr x) :: st) μ
  | _ => none
def mm_ald (pc i : Nat) (ls st : List mV) (μ : mM) : mS := match ls[i]? with
  | some (.inr (.inl (k, j))) => if k = 99 then none else mm_nx pc ls (.inr (.inl (k, j)) :: st) μ
  | _ => none
def mm_ist (rt pc i : Nat) (ls st : List mV) (μ : mM) : mS := match st with
  | .inl x :: st => if i < ls.length ∧ rt ≠ 3 then mm_nx pc (ls.set i (.inl x)) st μ else none
  | _ => none
def mm_inc (rt pc i : Nat) (n : Int) (ls st : List mV) (μ : mM) : mS := match ls[i]? with
  | some (.inl x) => if rt ≠ 3 then mm_nx pc (ls.set i (.inl (x + Int32.ofInt n))) st μ else none
  | _ => none
def mm_b2 (f : Int32 → Int32 → Option Int32) (pc : Nat) (ls st : List mV) (μ : mM) : mS := match st with
  | .inl b :: .inl a :: st => match f a b with
    | some v => mm_nx pc ls (.inl v :: st) μ
    | none => none
  | _ => none
def mm_l2 (f : Int64 → Int64 → Option mV) (pc : Nat) (ls st : List mV) (μ : mM) : mS := match st with
  | .inr (.inr b) :: .inr (.inr a) :: st => match f a b with
    | some v => mm_nx pc ls (v :: st) μ
    | none => none
  | _ => none
def mm_hi : Jvm.ClassFile.Cond → Int32 → Int32 → Bool
  | .eq, x, y => decide (x = y)
  | .ne, x, y => decide (¬ x = y)
  | .lt, x, y => decide (x < y)
  | .ge, x, y => decide (y ≤ x)
  | .gt, x, y => decide (y < x)
  | .le, x, y => decide (x ≤ y)
def mm_ic (cd : Jvm.ClassFile.Cond) (pc : Nat) (off : Int) (ls st : List mV) (μ : mM) : mS := match st with
  | .inl y :: .inl x :: st => mm_br (mm_hi cd x y) pc off ls st μ
  | _ => none
def mm_if (cd : Jvm.ClassFile.Cond) (pc : Nat) (off : Int) (ls st : List mV) (μ : mM) : mS := match st with
  | .inl x :: st => mm_br (mm_hi cd x 0) pc off ls st μ
  | _ => none
def mm_sw (pc : Nat) (d lo hi : Int) (offs : Array Int) (ls st : List mV) (μ : mM) : mS := match st with
  | .inl x :: st => if x.toInt < lo ∨ hi < x.toInt then mm_jp pc d ls st μ else match offs[(x.toInt - lo).toNat]? with
    | some off => mm_jp pc off ls st μ
    | none => none
  | _ => none
def mm_dup (pc : Nat) (ls st : List mV) (μ : mM) : mS := match st with
  | v :: st => if mm_cat v = 1 then mm_nx pc ls (v :: v :: st) μ else none
  | _ => none
def mm_pop (pc : Nat) (ls st : List mV) (μ : mM) : mS := match st with
  | v :: st => if mm_cat v = 1 then mm_nx pc ls st μ else none
  | _ => none
def mm_dx1 (pc : Nat) (ls st : List mV) (μ : mM) : mS := match st with
  | a :: b :: st => if mm_cat a = 1 ∧ mm_cat b = 1 then mm_nx pc ls (a :: b :: a :: st) μ else none
  | _ => none
def mm_dp2 (pc : Nat) (ls st : List mV) (μ : mM) : mS := match st with
  | a :: b :: st => if mm_cat a = 1 ∧ mm_cat b = 1 then mm_nx pc ls (a :: b :: a :: b :: st) μ else none
  | _ => none
def mm_i2l (pc : Nat) (ls st : List mV) (μ : mM) : mS := match st with
  | .inl x :: st => mm_nx pc ls (.inr (.inr x.toInt64) :: st) μ
  | _ => none
def mm_l2i (pc : Nat) (ls st : List mV) (μ : mM) : mS := match st with
  | .inr (.inr x) :: st => mm_nx pc ls (.inl x.toInt32 :: st) μ
  | _ => none
/-- the fields of a class, in the order of the slots: 0 an int, 1 a boolean, 2 a reference to (kind, instance + off) -/
def mm_fs : Nat → List (Nat × Nat × Nat)
  | 0 => [(2, 30, 0), (2, 31, 0), (2, 32, 0), (2, 33, 0), (0, 0, 0)]
  | 1 => [(0, 0, 0), (0, 0, 0), (0, 0, 0), (0, 0, 0), (0, 0, 0)]
  | 2 => [(2, 6, 17), (0, 0, 0), (1, 0, 0)]
  | 3 => [(2, 16, 0), (0, 0, 0), (0, 0, 0)]
  | 4 => [(2, 40, 0), (2, 41, 0), (2, 42, 0), (2, 43, 0), (0, 0, 0), (0, 0, 0)]
  | 5 => [(2, 20, 0), (2, 21, 0), (2, 22, 0), (2, 23, 0), (2, 24, 0), (2, 25, 0), (2, 26, 0), (2, 27, 0), (0, 0, 0), (0, 0, 0)]
  | 6 => [(2, 10, 0), (2, 11, 0), (2, 12, 0), (2, 13, 0), (2, 14, 0), (2, 15, 0), (0, 0, 0), (0, 0, 0), (0, 0, 0)]
  | 7 => [(2, 6, 0), (2, 3, 0), (2, 5, 0), (2, 1, 0), (2, 0, 0), (2, 4, 0), (2, 17, 0), (0, 0, 0)]
  | 8 => [(2, 50, 0), (2, 51, 0), (2, 52, 0), (0, 0, 0), (0, 0, 0), (2, 53, 0), (2, 54, 0), (2, 55, 0), (0, 0, 0), (2, 56, 0), (2, 57, 0), (2, 58, 0), (0, 0, 0), (0, 0, 0), (0, 0, 0), (2, 59, 0), (2, 60, 0)]
  | _ => []
/-- the arrays by kind: 0 ints, 1 booleans, 2 references to (kind, index + off); the length -/
def mm_as : Nat → Option (Nat × Nat × Nat × Nat)
  | 10 => some (0, 24, 0, 0)
  | 11 => some (0, 24, 0, 0)
  | 12 => some (0, 4, 0, 0)
  | 13 => some (0, 4, 0, 0)
  | 14 => some (0, 48, 0, 0)
  | 15 => some (0, 48, 0, 0)
  | 16 => some (2, 16, 6, 1)
  | 17 => some (2, 2, 2, 0)
  | 20 => some (0, 24, 0, 0)
  | 21 => some (0, 24, 0, 0)
  | 22 => some (0, 24, 0, 0)
  | 23 => some (0, 24, 0, 0)
  | 24 => some (0, 24, 0, 0)
  | 25 => some (0, 25, 0, 0)
  | 26 => some (0, 25, 0, 0)
  | 27 => some (0, 25, 0, 0)
  | 30 => some (0, 48, 0, 0)
  | 31 => some (0, 48, 0, 0)
  | 32 => some (1, 48, 0, 0)
  | 33 => some (2, 10, 34, 0)
  | 34 => some (0, 49, 0, 0)
  | 40 => some (0, 6, 0, 0)
  | 41 => some (1, 6, 0, 0)
  | 42 => some (0, 7, 0, 0)
  | 43 => some (0, 7, 0, 0)
  | 50 => some (0, 5225, 0, 0)
  | 51 => some (1, 2, 0, 0)
  | 52 => some (0, 2, 0, 0)
  | 53 => some (0, 24, 0, 0)
  | 54 => some (0, 25, 0, 0)
  | 55 => some (0, 25, 0, 0)
  | 56 => some (0, 6, 0, 0)
  | 57 => some (0, 6, 0, 0)
  | 58 => some (1, 6, 0, 0)
  | 59 => some (0, 48, 0, 0)
  | 60 => some (0, 490, 0, 0)
  | _ => none
/-- the kinds that there are, and how many of each -/
def mm_ks : List (Nat × Nat) := [(0, 1), (1, 1), (2, 2), (3, 1), (4, 1), (5, 1), (6, 19), (7, 1), (8, 1), (10, 19), (11, 19), (12, 19), (13, 19), (14, 19), (15, 19), (16, 1), (17, 1), (20, 1), (21, 1), (22, 1), (23, 1), (24, 1), (25, 1), (26, 1), (27, 1), (30, 1), (31, 1), (32, 1), (33, 1), (34, 10), (40, 1), (41, 1), (42, 1), (43, 1), (50, 1), (51, 1), (52, 1), (53, 1), (54, 1), (55, 1), (56, 1), (57, 1), (58, 1), (59, 1), (60, 1)]
def mm_all : List (Nat × Nat) := mm_ks.flatMap (fun q => (List.range q.2).map (fun i => (q.1, i)))
def mm_ok : mV → Prop
  | .inr (.inl q) => q ∈ mm_all
  | _ => True
