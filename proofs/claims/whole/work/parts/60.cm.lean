/-! CONSTRUCTORS. A second small machine: cells are numbered in the order in which they are made; a cell is (class or kind of array, length, values). All addresses are the first one's and the number. -/
abbrev zX : Type := Int32 ⊕ Nat
abbrev zD : Type := Nat × Nat × List (Option zX)
abbrev zC : Type := Nat × Option Int32 × List zX × List zD × Nat × Nat
abbrev zF : Type := List zD × Nat × Nat
abbrev zS : Type := Option (zC ⊕ zF)
abbrev zE : Type := Nat → Nat → List zD → Option (List zD)
/-- new objects' fields -/
def zm_df (k : Nat) : List (Option zX) := (mm_fs k).map (fun t => if t.1 = 2 then none else some (.inl 0))
/-- new: (in class, by number, which class, word, word) -/
def zm_nl : List (Nat × Nat × Nat × Nat × Nat) := [(2, 7, 6, 280, 76), (3, 9, 6, 135, 76), (7, 7, 6, 75, 76), (7, 16, 3, 129, 130), (7, 23, 5, 149, 150), (7, 30, 1, 195, 196), (7, 37, 0, 222, 223), (7, 44, 4, 247, 248), (7, 51, 2, 273, 275)]
def zm_nt (o i : Nat) : Option (Nat × Nat × Nat) := (zm_nl.find? (fun q => q.1 == o && q.2.1 == i)).map (fun q => q.2.2)
def zm_al : List (Nat × Nat × Nat × Nat) := [(3, 9, 16, 135), (7, 51, 17, 273)]
def zm_at (o i : Nat) : Option (Nat × Nat) := (zm_al.find? (fun q => q.1 == o && q.2.1 == i)).map (fun q => q.2.2)
/-- calls: 0 of Object(), 1 of a constructor, 2 of a nest mate's; which class; word -/
def zm_il : List (Nat × Nat × Nat × Nat × Nat) := [(0, 3, 0, 0, 227), (1, 1, 0, 0, 200), (2, 1, 0, 0, 279), (2, 9, 2, 6, 281), (3, 3, 0, 0, 134), (3, 24, 2, 6, 137), (4, 3, 0, 0, 252), (5, 3, 0, 0, 154), (6, 3, 0, 0, 80), (7, 1, 0, 0, 72), (7, 9, 2, 6, 77), (7, 18, 1, 3, 131), (7, 25, 2, 5, 151), (7, 32, 2, 1, 197), (7, 39, 2, 0, 224), (7, 46, 2, 4, 249), (7, 61, 2, 2, 276), (8, 1, 0, 0, 681)]
def zm_it (o i : Nat) : Option (Nat × Nat × Nat) := (zm_il.find? (fun q => q.1 == o && q.2.1 == i)).map (fun q => q.2.2)
/-- frames, cells, slots, locals of a constructor -/
def zm_q : Nat → Nat × Nat × Nat × Nat
  | 0 => (1, 14, 644, 1)
  | 1 => (1, 0, 0, 1)
  | 2 => (2, 7, 161, 1)
  | 3 => (2, 113, 2592, 2)
  | 4 => (1, 4, 26, 1)
  | 5 => (1, 8, 195, 1)
  | 6 => (1, 6, 152, 1)
  | 7 => (3, 168, 3977, 2)
  | 8 => (1, 11, 5859, 1)
  | _ => (0, 0, 0, 0)
def zm_y : Nat → MethodName
  | 0 => yX0_init
  | 1 => yX1_init
  | 2 => yX2_init
  | 3 => yX3_init
  | 4 => yX4_init
  | 5 => yX5_init
  | 6 => yX6_init
  | 7 => yX7_init
  | _ => yX8_init
def zm_c : Nat → ByteArray
  | 0 => cX0_init
  | 1 => cX1_init
  | 2 => cX2_init
  | 3 => cX3_init
  | 4 => cX4_init
  | 5 => cX5_init
  | 6 => cX6_init
  | 7 => cX7_init
  | _ => cX8_init
/-- the instructions -/
def zm_t0 : Nat → Option (mI × Nat)
  | 0 => some (.aload_n 0, 1)
  | 1 => some (.invokespecial 3, 3)
  | 4 => some (.aload_n 0, 1)
  | 5 => some (.bipush 48, 2)
  | 7 => some (.newarray .int, 2)
  | 9 => some (.putfield 9, 3)
  | 12 => some (.aload_n 0, 1)
  | 13 => some (.bipush 48, 2)
  | 15 => some (.newarray .int, 2)
  | 17 => some (.putfield 15, 3)
  | 20 => some (.aload_n 0, 1)
  | 21 => some (.bipush 48, 2)
  | 23 => some (.newarray .boolean, 2)
  | 25 => some (.putfield 18, 3)
  | 28 => some (.aload_n 0, 1)
  | 29 => some (.bipush 10, 2)
  | 31 => some (.bipush 49, 2)
  | 33 => some (.multianewarray 22 2, 4)
  | 37 => some (.putfield 24, 3)
  | 40 => some (.aload_n 0, 1)
  | 41 => some (.iconst 0, 1)
  | 42 => some (.putfield 27, 3)
  | 45 => some (.return_, 1)
  | _ => none
theorem zm_t0_ok : ∀ pc q, zm_t0 pc = some q → decode cX0_init pc = .ok q := by
  intro pc q h
  unfold zm_t0 at h
  split at h
  · cases h; exact dX0_init_0
  · cases h; exact dX0_init_1
  · cases h; exact dX0_init_4
  · cases h; exact dX0_init_5
  · cases h; exact dX0_init_7
  · cases h; exact dX0_init_9
  · cases h; exact dX0_init_12
  · cases h; exact dX0_init_13
  · cases h; exact dX0_init_15
  · cases h; exact dX0_init_17
  · cases h; exact dX0_init_20
  · cases h; exact dX0_init_21
  · cases h; exact dX0_init_23
  · cases h; exact dX0_init_25
  · cases h; exact dX0_init_28
  · cases h; exact dX0_init_29
  · cases h; exact dX0_init_31
  · cases h; exact dX0_init_33
  · cases h; exact dX0_init_37
  · cases h; exact dX0_init_40
  · cases h; exact dX0_init_41
  · cases h; exact dX0_init_42
  · cases h; exact dX0_init_45
  · cases h
def zm_t1 : Nat → Option (mI × Nat)
  | 0 => some (.aload_n 0, 1)
  | 1 => some (.invokespecial 1, 3)
  | 4 => some (.aload_n 0, 1)
  | 5 => some (.iconst 0, 1)
  | 6 => some (.putfield 7, 3)
  | 9 => some (.aload_n 0, 1)
  | 10 => some (.iconst 0, 1)
  | 11 => some (.putfield 13, 3)
  | 14 => some (.aload_n 0, 1)
  | 15 => some (.iconst 0, 1)
  | 16 => some (.putfield 16, 3)
  | 19 => some (.aload_n 0, 1)
  | 20 => some (.iconst 0, 1)
  | 21 => some (.putfield 19, 3)
  | 24 => some (.aload_n 0, 1)
  | 25 => some (.iconst 0, 1)
  | 26 => some (.putfield 22, 3)
  | 29 => some (.return_, 1)
  | _ => none
theorem zm_t1_ok : ∀ pc q, zm_t1 pc = some q → decode cX1_init pc = .ok q := by
  intro pc q h
  unfold zm_t1 at h
  split at h
  · cases h; exact dX1_init_0
  · cases h; exact dX1_init_1
  · cases h; exact dX1_init_4
  · cases h; exact dX1_init_5
  · cases h; exact dX1_init_6
  · cases h; exact dX1_init_9
  · cases h; exact dX1_init_10
  · cases h; exact dX1_init_11
  · cases h; exact dX1_init_14
  · cases h; exact dX1_init_15
  · cases h; exact dX1_init_16
  · cases h; exact dX1_init_19
  · cases h; exact dX1_init_20
  · cases h; exact dX1_init_21
  · cases h; exact dX1_init_24
  · cases h; exact dX1_init_25
  · cases h; exact dX1_init_26
  · cases h; exact dX1_init_29
  · cases h
def zm_t2 : Nat → Option (mI × Nat)
  | 0 => some (.aload_n 0, 1)
  | 1 => some (.invokespecial 1, 3)
  | 4 => some (.aload_n 0, 1)
  | 5 => some (.new 7, 3)
  | 8 => some (.dup, 1)
  | 9 => some (.invokespecial 9, 3)
  | 12 => some (.putfield 10, 3)
  | 15 => some (.aload_n 0, 1)
  | 16 => some (.iconst 0, 1)
  | 17 => some (.putfield 16, 3)
  | 20 => some (.aload_n 0, 1)
  | 21 => some (.iconst 0, 1)
  | 22 => some (.putfield 20, 3)
  | 25 => some (.return_, 1)
  | _ => none
theorem zm_t2_ok : ∀ pc q, zm_t2 pc = some q → decode cX2_init pc = .ok q := by
  intro pc q h
  unfold zm_t2 at h
  split at h
  · cases h; exact dX2_init_0
  · cases h; exact dX2_init_1
  · cases h; exact dX2_init_4
  · cases h; exact dX2_init_5
  · cases h; exact dX2_init_8
  · cases h; exact dX2_init_9
  · cases h; exact dX2_init_12
  · cases h; exact dX2_init_15
  · cases h; exact dX2_init_16
  · cases h; exact dX2_init_17
  · cases h; exact dX2_init_20
  · cases h; exact dX2_init_21
  · cases h; exact dX2_init_22
  · cases h; exact dX2_init_25
  · cases h
def zm_t3 : Nat → Option (mI × Nat)
  | 0 => some (.aload_n 0, 1)
  | 1 => some (.invokespecial 3, 3)
  | 4 => some (.aload_n 0, 1)
  | 5 => some (.bipush 16, 2)
  | 7 => some (.anewarray 9, 3)
  | 10 => some (.putfield 11, 3)
  | 13 => some (.aload_n 0, 1)
  | 14 => some (.iconst 0, 1)
  | 15 => some (.putfield 17, 3)
  | 18 => some (.aload_n 0, 1)
  | 19 => some (.iconst 0, 1)
  | 20 => some (.putfield 21, 3)
  | 23 => some (.iconst 0, 1)
  | 24 => some (.istore_n 1, 1)
  | 25 => some (.iload_n 1, 1)
  | 26 => some (.bipush 16, 2)
  | 28 => some (.if_icmp .ge 22, 3)
  | 31 => some (.aload_n 0, 1)
  | 32 => some (.getfield 11, 3)
  | 35 => some (.iload_n 1, 1)
  | 36 => some (.new 9, 3)
  | 39 => some (.dup, 1)
  | 40 => some (.invokespecial 24, 3)
  | 43 => some (.aastore, 1)
  | 44 => some (.iinc 1 1, 3)
  | 47 => some (.goto (-22), 3)
  | 50 => some (.return_, 1)
  | _ => none
theorem zm_t3_ok : ∀ pc q, zm_t3 pc = some q → decode cX3_init pc = .ok q := by
  intro pc q h
  unfold zm_t3 at h
  split at h
  · cases h; exact dX3_init_0
  · cases h; exact dX3_init_1
  · cases h; exact dX3_init_4
  · cases h; exact dX3_init_5
  · cases h; exact dX3_init_7
  · cases h; exact dX3_init_10
  · cases h; exact dX3_init_13
  · cases h; exact dX3_init_14
  · cases h; exact dX3_init_15
  · cases h; exact dX3_init_18
  · cases h; exact dX3_init_19
  · cases h; exact dX3_init_20
  · cases h; exact dX3_init_23
  · cases h; exact dX3_init_24
  · cases h; exact dX3_init_25
  · cases h; exact dX3_init_26
  · cases h; exact dX3_init_28
  · cases h; exact dX3_init_31
  · cases h; exact dX3_init_32
  · cases h; exact dX3_init_35
  · cases h; exact dX3_init_36
  · cases h; exact dX3_init_39
  · cases h; exact dX3_init_40
  · cases h; exact dX3_init_43
  · cases h; exact dX3_init_44
  · cases h; exact dX3_init_47
  · cases h; exact dX3_init_50
  · cases h
def zm_t4 : Nat → Option (mI × Nat)
  | 0 => some (.aload_n 0, 1)
  | 1 => some (.invokespecial 3, 3)
  | 4 => some (.aload_n 0, 1)
  | 5 => some (.bipush 6, 2)
  | 7 => some (.newarray .int, 2)
  | 9 => some (.putfield 9, 3)
  | 12 => some (.aload_n 0, 1)
  | 13 => some (.bipush 6, 2)
  | 15 => some (.newarray .boolean, 2)
  | 17 => some (.putfield 15, 3)
  | 20 => some (.aload_n 0, 1)
  | 21 => some (.bipush 7, 2)
  | 23 => some (.newarray .int, 2)
  | 25 => some (.putfield 19, 3)
  | 28 => some (.aload_n 0, 1)
  | 29 => some (.bipush 7, 2)
  | 31 => some (.newarray .int, 2)
  | 33 => some (.putfield 22, 3)
  | 36 => some (.aload_n 0, 1)
  | 37 => some (.iconst 0, 1)
  | 38 => some (.putfield 25, 3)
  | 41 => some (.aload_n 0, 1)
  | 42 => some (.iconst 0, 1)
  | 43 => some (.putfield 29, 3)
  | 46 => some (.return_, 1)
  | _ => none
theorem zm_t4_ok : ∀ pc q, zm_t4 pc = some q → decode cX4_init pc = .ok q := by
  intro pc q h
  unfold zm_t4 at h
  split at h
  · cases h; exact dX4_init_0
  · cases h; exact dX4_init_1
  · cases h; exact dX4_init_4
  · cases h; exact dX4_init_5
  · cases h; exact dX4_init_7
  · cases h; exact dX4_init_9
  · cases h; exact dX4_init_12
  · cases h; exact dX4_init_13
  · cases h; exact dX4_init_15
  · cases h; exact dX4_init_17
  · cases h; exact dX4_init_20
  · cases h; exact dX4_init_21
  · cases h; exact dX4_init_23
  · cases h; exact dX4_init_25
  · cases h; exact dX4_init_28
  · cases h; exact dX4_init_29
  · cases h; exact dX4_init_31
  · cases h; exact dX4_init_33
  · cases h; exact dX4_init_36
  · cases h; exact dX4_init_37
  · cases h; exact dX4_init_38
  · cases h; exact dX4_init_41
  · cases h; exact dX4_init_42
  · cases h; exact dX4_init_43
  · cases h; exact dX4_init_46
  · cases h
def zm_t5 : Nat → Option (mI × Nat)
  | 0 => some (.aload_n 0, 1)
  | 1 => some (.invokespecial 3, 3)
  | 4 => some (.aload_n 0, 1)
  | 5 => some (.bipush 24, 2)
  | 7 => some (.newarray .int, 2)
  | 9 => some (.putfield 9, 3)
  | 12 => some (.aload_n 0, 1)
  | 13 => some (.bipush 24, 2)
  | 15 => some (.newarray .int, 2)
  | 17 => some (.putfield 15, 3)
  | 20 => some (.aload_n 0, 1)
  | 21 => some (.bipush 24, 2)
  | 23 => some (.newarray .int, 2)
  | 25 => some (.putfield 18, 3)
  | 28 => some (.aload_n 0, 1)
  | 29 => some (.bipush 24, 2)
  | 31 => some (.newarray .int, 2)
  | 33 => some (.putfield 21, 3)
  | 36 => some (.aload_n 0, 1)
  | 37 => some (.bipush 24, 2)
  | 39 => some (.newarray .int, 2)
  | 41 => some (.putfield 24, 3)
  | 44 => some (.aload_n 0, 1)
  | 45 => some (.bipush 25, 2)
  | 47 => some (.newarray .int, 2)
  | 49 => some (.putfield 27, 3)
  | 52 => some (.aload_n 0, 1)
  | 53 => some (.bipush 25, 2)
  | 55 => some (.newarray .int, 2)
  | 57 => some (.putfield 30, 3)
  | 60 => some (.aload_n 0, 1)
  | 61 => some (.bipush 25, 2)
  | 63 => some (.newarray .int, 2)
  | 65 => some (.putfield 33, 3)
  | 68 => some (.aload_n 0, 1)
  | 69 => some (.iconst 0, 1)
  | 70 => some (.putfield 36, 3)
  | 73 => some (.aload_n 0, 1)
  | 74 => some (.iconst 0, 1)
  | 75 => some (.putfield 40, 3)
  | 78 => some (.return_, 1)
  | _ => none
theorem zm_t5_ok : ∀ pc q, zm_t5 pc = some q → decode cX5_init pc = .ok q := by
  intro pc q h
  unfold zm_t5 at h
  split at h
  · cases h; exact dX5_init_0
  · cases h; exact dX5_init_1
  · cases h; exact dX5_init_4
  · cases h; exact dX5_init_5
  · cases h; exact dX5_init_7
  · cases h; exact dX5_init_9
  · cases h; exact dX5_init_12
  · cases h; exact dX5_init_13
  · cases h; exact dX5_init_15
  · cases h; exact dX5_init_17
  · cases h; exact dX5_init_20
  · cases h; exact dX5_init_21
  · cases h; exact dX5_init_23
  · cases h; exact dX5_init_25
  · cases h; exact dX5_init_28
  · cases h; exact dX5_init_29
  · cases h; exact dX5_init_31
  · cases h; exact dX5_init_33
  · cases h; exact dX5_init_36
  · cases h; exact dX5_init_37
  · cases h; exact dX5_init_39
  · cases h; exact dX5_init_41
  · cases h; exact dX5_init_44
  · cases h; exact dX5_init_45
  · cases h; exact dX5_init_47
  · cases h; exact dX5_init_49
  · cases h; exact dX5_init_52
  · cases h; exact dX5_init_53
  · cases h; exact dX5_init_55
  · cases h; exact dX5_init_57
  · cases h; exact dX5_init_60
  · cases h; exact dX5_init_61
  · cases h; exact dX5_init_63
  · cases h; exact dX5_init_65
  · cases h; exact dX5_init_68
  · cases h; exact dX5_init_69
  · cases h; exact dX5_init_70
  · cases h; exact dX5_init_73
  · cases h; exact dX5_init_74
  · cases h; exact dX5_init_75
  · cases h; exact dX5_init_78
  · cases h
def zm_t6 : Nat → Option (mI × Nat)
  | 0 => some (.aload_n 0, 1)
  | 1 => some (.invokespecial 3, 3)
  | 4 => some (.aload_n 0, 1)
  | 5 => some (.bipush 24, 2)
  | 7 => some (.newarray .int, 2)
  | 9 => some (.putfield 9, 3)
  | 12 => some (.aload_n 0, 1)
  | 13 => some (.bipush 24, 2)
  | 15 => some (.newarray .int, 2)
  | 17 => some (.putfield 15, 3)
  | 20 => some (.aload_n 0, 1)
  | 21 => some (.iconst 4, 1)
  | 22 => some (.newarray .int, 2)
  | 24 => some (.putfield 18, 3)
  | 27 => some (.aload_n 0, 1)
  | 28 => some (.iconst 4, 1)
  | 29 => some (.newarray .int, 2)
  | 31 => some (.putfield 21, 3)
  | 34 => some (.aload_n 0, 1)
  | 35 => some (.bipush 48, 2)
  | 37 => some (.newarray .int, 2)
  | 39 => some (.putfield 24, 3)
  | 42 => some (.aload_n 0, 1)
  | 43 => some (.bipush 48, 2)
  | 45 => some (.newarray .int, 2)
  | 47 => some (.putfield 27, 3)
  | 50 => some (.aload_n 0, 1)
  | 51 => some (.iconst 0, 1)
  | 52 => some (.putfield 30, 3)
  | 55 => some (.aload_n 0, 1)
  | 56 => some (.iconst 0, 1)
  | 57 => some (.putfield 34, 3)
  | 60 => some (.aload_n 0, 1)
  | 61 => some (.iconst 0, 1)
  | 62 => some (.putfield 37, 3)
  | 65 => some (.return_, 1)
  | _ => none
theorem zm_t6_ok : ∀ pc q, zm_t6 pc = some q → decode cX6_init pc = .ok q := by
  intro pc q h
  unfold zm_t6 at h
  split at h
  · cases h; exact dX6_init_0
  · cases h; exact dX6_init_1
  · cases h; exact dX6_init_4
  · cases h; exact dX6_init_5
  · cases h; exact dX6_init_7
  · cases h; exact dX6_init_9
  · cases h; exact dX6_init_12
  · cases h; exact dX6_init_13
  · cases h; exact dX6_init_15
  · cases h; exact dX6_init_17
  · cases h; exact dX6_init_20
  · cases h; exact dX6_init_21
  · cases h; exact dX6_init_22
  · cases h; exact dX6_init_24
  · cases h; exact dX6_init_27
  · cases h; exact dX6_init_28
  · cases h; exact dX6_init_29
  · cases h; exact dX6_init_31
  · cases h; exact dX6_init_34
  · cases h; exact dX6_init_35
  · cases h; exact dX6_init_37
  · cases h; exact dX6_init_39
  · cases h; exact dX6_init_42
  · cases h; exact dX6_init_43
  · cases h; exact dX6_init_45
  · cases h; exact dX6_init_47
  · cases h; exact dX6_init_50
  · cases h; exact dX6_init_51
  · cases h; exact dX6_init_52
  · cases h; exact dX6_init_55
  · cases h; exact dX6_init_56
  · cases h; exact dX6_init_57
  · cases h; exact dX6_init_60
  · cases h; exact dX6_init_61
  · cases h; exact dX6_init_62
  · cases h; exact dX6_init_65
  · cases h
def zm_t7 : Nat → Option (mI × Nat)
  | 0 => some (.aload_n 0, 1)
  | 1 => some (.invokespecial 1, 3)
  | 4 => some (.aload_n 0, 1)
  | 5 => some (.new 7, 3)
  | 8 => some (.dup, 1)
  | 9 => some (.invokespecial 9, 3)
  | 12 => some (.putfield 10, 3)
  | 15 => some (.aload_n 0, 1)
  | 16 => some (.new 16, 3)
  | 19 => some (.dup, 1)
  | 20 => some (.invokespecial 18, 3)
  | 23 => some (.putfield 19, 3)
  | 26 => some (.aload_n 0, 1)
  | 27 => some (.new 23, 3)
  | 30 => some (.dup, 1)
  | 31 => some (.invokespecial 25, 3)
  | 34 => some (.putfield 26, 3)
  | 37 => some (.aload_n 0, 1)
  | 38 => some (.new 30, 3)
  | 41 => some (.dup, 1)
  | 42 => some (.invokespecial 32, 3)
  | 45 => some (.putfield 33, 3)
  | 48 => some (.aload_n 0, 1)
  | 49 => some (.new 37, 3)
  | 52 => some (.dup, 1)
  | 53 => some (.invokespecial 39, 3)
  | 56 => some (.putfield 40, 3)
  | 59 => some (.aload_n 0, 1)
  | 60 => some (.new 44, 3)
  | 63 => some (.dup, 1)
  | 64 => some (.invokespecial 46, 3)
  | 67 => some (.putfield 47, 3)
  | 70 => some (.aload_n 0, 1)
  | 71 => some (.iconst 2, 1)
  | 72 => some (.anewarray 51, 3)
  | 75 => some (.putfield 53, 3)
  | 78 => some (.aload_n 0, 1)
  | 79 => some (.iconst 0, 1)
  | 80 => some (.putfield 57, 3)
  | 83 => some (.iconst 0, 1)
  | 84 => some (.istore_n 1, 1)
  | 85 => some (.iload_n 1, 1)
  | 86 => some (.iconst 2, 1)
  | 87 => some (.if_icmp .ge 22, 3)
  | 90 => some (.aload_n 0, 1)
  | 91 => some (.getfield 53, 3)
  | 94 => some (.iload_n 1, 1)
  | 95 => some (.new 51, 3)
  | 98 => some (.dup, 1)
  | 99 => some (.invokespecial 61, 3)
  | 102 => some (.aastore, 1)
  | 103 => some (.iinc 1 1, 3)
  | 106 => some (.goto (-21), 3)
  | 109 => some (.return_, 1)
  | _ => none
theorem zm_t7_ok : ∀ pc q, zm_t7 pc = some q → decode cX7_init pc = .ok q := by
  intro pc q h
  unfold zm_t7 at h
  split at h
  · cases h; exact dX7_init_0
  · cases h; exact dX7_init_1
  · cases h; exact dX7_init_4
  · cases h; exact dX7_init_5
  · cases h; exact dX7_init_8
  · cases h; exact dX7_init_9
  · cases h; exact dX7_init_12
  · cases h; exact dX7_init_15
  · cases h; exact dX7_init_16
  · cases h; exact dX7_init_19
  · cases h; exact dX7_init_20
  · cases h; exact dX7_init_23
  · cases h; exact dX7_init_26
  · cases h; exact dX7_init_27
  · cases h; exact dX7_init_30
  · cases h; exact dX7_init_31
  · cases h; exact dX7_init_34
  · cases h; exact dX7_init_37
  · cases h; exact dX7_init_38
  · cases h; exact dX7_init_41
  · cases h; exact dX7_init_42
  · cases h; exact dX7_init_45
  · cases h; exact dX7_init_48
  · cases h; exact dX7_init_49
  · cases h; exact dX7_init_52
  · cases h; exact dX7_init_53
  · cases h; exact dX7_init_56
  · cases h; exact dX7_init_59
  · cases h; exact dX7_init_60
  · cases h; exact dX7_init_63
  · cases h; exact dX7_init_64
  · cases h; exact dX7_init_67
  · cases h; exact dX7_init_70
  · cases h; exact dX7_init_71
  · cases h; exact dX7_init_72
  · cases h; exact dX7_init_75
  · cases h; exact dX7_init_78
  · cases h; exact dX7_init_79
  · cases h; exact dX7_init_80
  · cases h; exact dX7_init_83
  · cases h; exact dX7_init_84
  · cases h; exact dX7_init_85
  · cases h; exact dX7_init_86
  · cases h; exact dX7_init_87
  · cases h; exact dX7_init_90
  · cases h; exact dX7_init_91
  · cases h; exact dX7_init_94
  · cases h; exact dX7_init_95
  · cases h; exact dX7_init_98
  · cases h; exact dX7_init_99
  · cases h; exact dX7_init_102
  · cases h; exact dX7_init_103
  · cases h; exact dX7_init_106
  · cases h; exact dX7_init_109
  · cases h
def zm_t8 : Nat → Option (mI × Nat)
  | 0 => some (.aload_n 0, 1)
  | 1 => some (.invokespecial 1, 3)
  | 4 => some (.aload_n 0, 1)
  | 5 => some (.sipush 5225, 3)
  | 8 => some (.newarray .int, 2)
  | 10 => some (.putfield 7, 3)
  | 13 => some (.aload_n 0, 1)
  | 14 => some (.iconst 2, 1)
  | 15 => some (.newarray .boolean, 2)
  | 17 => some (.putfield 13, 3)
  | 20 => some (.aload_n 0, 1)
  | 21 => some (.iconst 2, 1)
  | 22 => some (.newarray .int, 2)
  | 24 => some (.putfield 17, 3)
  | 27 => some (.aload_n 0, 1)
  | 28 => some (.bipush 24, 2)
  | 30 => some (.newarray .int, 2)
  | 32 => some (.putfield 20, 3)
  | 35 => some (.aload_n 0, 1)
  | 36 => some (.bipush 25, 2)
  | 38 => some (.newarray .int, 2)
  | 40 => some (.putfield 23, 3)
  | 43 => some (.aload_n 0, 1)
  | 44 => some (.bipush 25, 2)
  | 46 => some (.newarray .int, 2)
  | 48 => some (.putfield 26, 3)
  | 51 => some (.aload_n 0, 1)
  | 52 => some (.bipush 6, 2)
  | 54 => some (.newarray .int, 2)
  | 56 => some (.putfield 29, 3)
  | 59 => some (.aload_n 0, 1)
  | 60 => some (.bipush 6, 2)
  | 62 => some (.newarray .int, 2)
  | 64 => some (.putfield 32, 3)
  | 67 => some (.aload_n 0, 1)
  | 68 => some (.bipush 6, 2)
  | 70 => some (.newarray .boolean, 2)
  | 72 => some (.putfield 35, 3)
  | 75 => some (.aload_n 0, 1)
  | 76 => some (.bipush 48, 2)
  | 78 => some (.newarray .int, 2)
  | 80 => some (.putfield 38, 3)
  | 83 => some (.aload_n 0, 1)
  | 84 => some (.sipush 490, 3)
  | 87 => some (.newarray .int, 2)
  | 89 => some (.putfield 41, 3)
  | 92 => some (.aload_n 0, 1)
  | 93 => some (.iconst 0, 1)
  | 94 => some (.putfield 44, 3)
  | 97 => some (.return_, 1)
  | _ => none
theorem zm_t8_ok : ∀ pc q, zm_t8 pc = some q → decode cX8_init pc = .ok q := by
  intro pc q h
  unfold zm_t8 at h
  split at h
  · cases h; exact dX8_init_0
  · cases h; exact dX8_init_1
  · cases h; exact dX8_init_4
  · cases h; exact dX8_init_5
  · cases h; exact dX8_init_8
  · cases h; exact dX8_init_10
  · cases h; exact dX8_init_13
  · cases h; exact dX8_init_14
  · cases h; exact dX8_init_15
  · cases h; exact dX8_init_17
  · cases h; exact dX8_init_20
  · cases h; exact dX8_init_21
  · cases h; exact dX8_init_22
  · cases h; exact dX8_init_24
  · cases h; exact dX8_init_27
  · cases h; exact dX8_init_28
  · cases h; exact dX8_init_30
  · cases h; exact dX8_init_32
  · cases h; exact dX8_init_35
  · cases h; exact dX8_init_36
  · cases h; exact dX8_init_38
  · cases h; exact dX8_init_40
  · cases h; exact dX8_init_43
  · cases h; exact dX8_init_44
  · cases h; exact dX8_init_46
  · cases h; exact dX8_init_48
  · cases h; exact dX8_init_51
  · cases h; exact dX8_init_52
  · cases h; exact dX8_init_54
  · cases h; exact dX8_init_56
  · cases h; exact dX8_init_59
  · cases h; exact dX8_init_60
  · cases h; exact dX8_init_62
  · cases h; exact dX8_init_64
  · cases h; exact dX8_init_67
  · cases h; exact dX8_init_68
  · cases h; exact dX8_init_70
  · cases h; exact dX8_init_72
  · cases h; exact dX8_init_75
  · cases h; exact dX8_init_76
  · cases h; exact dX8_init_78
  · cases h; exact dX8_init_80
  · cases h; exact dX8_init_83
  · cases h; exact dX8_init_84
  · cases h; exact dX8_init_87
  · cases h; exact dX8_init_89
  · cases h; exact dX8_init_92
  · cases h; exact dX8_init_93
  · cases h; exact dX8_init_94
  · cases h; exact dX8_init_97
  · cases h
def zm_tb : Nat → Nat → Option (mI × Nat)
  | 0 => zm_t0
  | 1 => zm_t1
  | 2 => zm_t2
  | 3 => zm_t3
  | 4 => zm_t4
  | 5 => zm_t5
  | 6 => zm_t6
  | 7 => zm_t7
  | _ => zm_t8
theorem zm_tb_ok (o : Nat) (ho : o < 9) : ∀ pc q, zm_tb o pc = some q → decode (zm_c o) pc = .ok q := by
  match o, ho with
  | 0, _ => exact zm_t0_ok
  | 1, _ => exact zm_t1_ok
  | 2, _ => exact zm_t2_ok
  | 3, _ => exact zm_t3_ok
  | 4, _ => exact zm_t4_ok
  | 5, _ => exact zm_t5_ok
  | 6, _ => exact zm_t6_ok
  | 7, _ => exact zm_t7_ok
  | 8, _ => exact zm_t8_ok
def zm_nx (pc : Nat) (i : Option Int32) (st : List zX) (cs : List zD) (k n : Nat) : zS := some (.inl (pc, i, st, cs, k, n))
def zm_new (o x mc ms pc : Nat) (i : Option Int32) (st : List zX) (cs : List zD) (k n : Nat) : zS := match zm_nt o x with
  | some (c, _, _) => if k + 1 ≤ mc ∧ n + (mm_fs c).length ≤ ms then zm_nx (pc + 3) i (.inr cs.length :: st) (cs ++ [(c, 0, zm_df c)]) (k + 1) (n + (mm_fs c).length) else none
  | none => none
def zm_na (tg mc ms pc : Nat) (i : Option Int32) (st : List zX) (cs : List zD) (k n : Nat) : zS := match st with
  | .inl x :: st => if 0 ≤ x.toInt ∧ x.toInt < 100000 ∧ k + 1 ≤ mc ∧ n + x.toNatClampNeg ≤ ms then zm_nx (pc + 2) i (.inr cs.length :: st) (cs ++ [(tg, x.toNatClampNeg, [])]) (k + 1) (n + x.toNatClampNeg) else none
  | _ => none
def zm_an (o x mc ms pc : Nat) (i : Option Int32) (st : List zX) (cs : List zD) (k n : Nat) : zS := match st, zm_at o x with
  | .inl x :: st, some (tg, _) => if 0 ≤ x.toInt ∧ x.toInt < 100000 ∧ k + 1 ≤ mc ∧ n + x.toNatClampNeg ≤ ms then zm_nx (pc + 3) i (.inr cs.length :: st) (cs ++ [(tg, x.toNatClampNeg, List.replicate x.toNatClampNeg none)]) (k + 1) (n + x.toNatClampNeg) else none
  | _, _ => none
def zm_mn (o x mc ms pc : Nat) (i : Option Int32) (st : List zX) (cs : List zD) (k n : Nat) : zS := match st with
  | .inl y :: .inl x' :: st => if o = 0 ∧ x = 22 ∧ 0 ≤ x'.toInt ∧ x'.toInt < 1000 ∧ 0 ≤ y.toInt ∧ y.toInt < 1000 ∧ k + (1 + x'.toNatClampNeg) ≤ mc ∧ n + (x'.toNatClampNeg + x'.toNatClampNeg * y.toNatClampNeg) ≤ ms then zm_nx (pc + 4) i (.inr cs.length :: st) (cs ++ ((33, x'.toNatClampNeg, (List.range x'.toNatClampNeg).map (fun j => some (.inr (cs.length + 1 + j)))) :: List.replicate x'.toNatClampNeg (9, y.toNatClampNeg, []))) (k + 1 + x'.toNatClampNeg) (n + x'.toNatClampNeg + x'.toNatClampNeg * y.toNatClampNeg) else none
  | _ => none
def zm_is (E : zE) (o x mc ms pc : Nat) (i : Option Int32) (st : List zX) (cs : List zD) (k n : Nat) : zS := match st, zm_it o x with
  | .inr a :: st, some (t, c, _) => if st.length ≤ 8 then (if t = 0 then zm_nx (pc + 3) i st cs k n else if k + (zm_q c).2.1 ≤ mc ∧ n + (zm_q c).2.2.1 ≤ ms then (match E c a cs with
    | some cs' => if cs'.length = cs.length + (zm_q c).2.1 then zm_nx (pc + 3) i st cs' (k + (zm_q c).2.1) (n + (zm_q c).2.2.1) else none
    | none => none) else none) else none
  | _, _ => none
def zm_pf (o x pc : Nat) (i : Option Int32) (st : List zX) (cs : List zD) (k n : Nat) : zS := match st with
  | v :: .inr a :: st => match mm_ft o x, cs[a]? with
    | some (c, f, _), some (c', len, vs) => if c = o ∧ c' = o ∧ o < 9 then (match (mm_fs o)[f]?, v with
      | some t, .inr r => if t.1 = 2 ∧ f < vs.length then zm_nx (pc + 3) i st (cs.set a (c', len, vs.set f (some (.inr r)))) k n else none
      | some t, .inl y => if t.1 ≠ 2 ∧ y = 0 ∧ f < vs.length then zm_nx (pc + 3) i st (cs.set a (c', len, vs.set f (some (.inl 0)))) k n else none
      | none, _ => none) else none
    | _, _ => none
  | _ => none
def zm_gf (o x pc : Nat) (i : Option Int32) (st : List zX) (cs : List zD) (k n : Nat) : zS := match st with
  | .inr a :: st => match mm_ft o x, cs[a]? with
    | some (c, f, _), some (c', _, vs) => if c' = c ∧ c < 9 then (match vs[f]? with
      | some (some (.inr r)) => zm_nx (pc + 3) i (.inr r :: st) cs k n
      | _ => none) else none
    | _, _ => none
  | _ => none
def zm_as (pc : Nat) (i : Option Int32) (st : List zX) (cs : List zD) (k n : Nat) : zS := match st with
  | .inr v :: .inl j :: .inr a :: st => match cs[a]?, cs[v]? with
    | some (t, len, vs), some (c, _, _) => if ((t = 16 ∧ c = 6) ∨ (t = 17 ∧ c = 2)) ∧ 0 ≤ j.toInt ∧ j.toNatClampNeg < len ∧ vs.length = len then zm_nx (pc + 1) i st (cs.set a (t, len, vs.set j.toNatClampNeg (some (.inr v)))) k n else none
    | _, _ => none
  | _ => none
def zm_st (E : zE) (o this nL mc ms pc : Nat) (i : Option Int32) (st : List zX) (cs : List zD) (k n : Nat) (q : mI) (len : Nat) : zS := match q with
  | .aload_n j => if len = 1 ∧ (j : Nat) = 0 then zm_nx (pc + 1) i (.inr this :: st) cs k n else none
  | .iload_n j => if len = 1 ∧ (j : Nat) = 1 then (match i with
    | some x => zm_nx (pc + 1) i (.inl x :: st) cs k n
    | none => none) else none
  | .istore_n j => if len = 1 ∧ (j : Nat) = 1 ∧ 1 < nL then (match st with
    | .inl x :: st => zm_nx (pc + 1) (some x) st cs k n
    | _ => none) else none
  | .iconst v => if len = 1 then zm_nx (pc + 1) i (.inl (Int32.ofInt v) :: st) cs k n else none
  | .bipush v => if len = 2 then zm_nx (pc + 2) i (.inl (Int8.ofInt v).toInt32 :: st) cs k n else none
  | .sipush v => if len = 3 then zm_nx (pc + 3) i (.inl (Int16.ofInt v).toInt32 :: st) cs k n else none
  | .dup => if len = 1 then (match st with
    | v :: st => zm_nx (pc + 1) i (v :: v :: st) cs k n
    | _ => none) else none
  | .new x => if len = 3 then zm_new o x mc ms pc i st cs k n else none
  | .newarray .int => if len = 2 then zm_na 9 mc ms pc i st cs k n else none
  | .newarray .boolean => if len = 2 then zm_na 10 mc ms pc i st cs k n else none
  | .anewarray x => if len = 3 then zm_an o x mc ms pc i st cs k n else none
  | .multianewarray x d => if len = 4 ∧ d = 2 then zm_mn o x mc ms pc i st cs k n else none
  | .invokespecial x => if len = 3 then zm_is E o x mc ms pc i st cs k n else none
  | .putfield x => if len = 3 then zm_pf o x pc i st cs k n else none
  | .getfield x => if len = 3 then zm_gf o x pc i st cs k n else none
  | .aastore => if len = 1 then zm_as pc i st cs k n else none
  | .iinc x d => if len = 3 ∧ x = 1 ∧ 1 < nL then (match i with
    | some y => zm_nx (pc + 3) (some (y + Int32.ofInt d)) st cs k n
    | none => none) else none
  | .if_icmp .ge off => if len = 3 ∧ 0 ≤ (pc : Int) + off then (match st with
    | .inl y :: .inl x :: st => if y ≤ x then zm_nx ((pc : Int) + off).toNat i st cs k n else zm_nx (pc + 3) i st cs k n
    | _ => none) else none
  | .goto off => if len = 3 ∧ 0 ≤ (pc : Int) + off then zm_nx ((pc : Int) + off).toNat i st cs k n else none
  | .return_ => if len = 1 ∧ k ≤ mc ∧ n ≤ ms then (match st with
    | [] => some (.inr (cs, k, n))
    | _ => none) else none
  | _ => none
def zm_sp (E : zE) (o this nL mc ms : Nat) (c : zC) : zS := match zm_tb o c.1 with
  | some (q, len) => zm_st E o this nL mc ms c.1 c.2.1 c.2.2.1 c.2.2.2.1 c.2.2.2.2.1 c.2.2.2.2.2 q len
  | none => none
def zm_go (E : zE) (o this nL mc ms : Nat) : Nat → zC → Option zF
  | 0, _ => none
  | n + 1, c => match zm_sp E o this nL mc ms c with
    | none => none
    | some (.inl c') => zm_go E o this nL mc ms n c'
    | some (.inr r) => some r
def zm_fn (E : zE) (o : Nat) (this : Nat) (cs : List zD) : Option (List zD) := (zm_go E o this (zm_q o).2.2.2 (zm_q o).2.1 (zm_q o).2.2.1 400 (0, none, [], cs, 0, 0)).map (fun r => r.1)
def zm_E0 : zE := fun _ _ _ => none
def zm_E1 : zE := fun c => if c = 0 ∨ c = 1 ∨ c = 4 ∨ c = 5 ∨ c = 6 ∨ c = 8 then zm_fn zm_E0 c else fun _ _ => none
def zm_E2 : zE := fun c => if c = 2 ∨ c = 3 then zm_fn zm_E1 c else zm_E1 c
def zm_f7 : Nat → List zD → Option (List zD) := zm_fn zm_E2 7
def zm_f8 : Nat → List zD → Option (List zD) := zm_fn zm_E0 8
/-- the cells after new BoreSpans() and new BoreSpansModel() -/
def zm_w1 : List zD := (zm_f7 0 [(7, 0, zm_df 7)]).getD []
def zm_w2 : List zD := (zm_f8 169 (zm_w1 ++ [(8, 0, zm_df 8)])).getD []
theorem zm_w1_ok : zm_f7 0 [(7, 0, zm_df 7)] = some zm_w1 := by
  have h : (zm_f7 0 [(7, 0, zm_df 7)]).isSome = true := by decide +kernel
  unfold zm_w1
  cases hq : zm_f7 0 [(7, 0, zm_df 7)] with
  | none => rw [hq] at h; cases h
  | some x => rfl
theorem zm_w1_len : zm_w1.length = 169 := by decide +kernel
theorem zm_w2_ok : zm_f8 169 (zm_w1 ++ [(8, 0, zm_df 8)]) = some zm_w2 := by
  have h : (zm_f8 169 (zm_w1 ++ [(8, 0, zm_df 8)])).isSome = true := by decide +kernel
  unfold zm_w2
  cases hq : zm_f8 169 (zm_w1 ++ [(8, 0, zm_df 8)]) with
  | none => rw [hq] at h; cases h
  | some x => rfl
theorem zm_w2_len : zm_w2.length = 181 := by decide +kernel
/-- which cell is which -/
def zm_xl : List (Nat × Nat) := [(7, 0), (6, 0), (10, 0), (11, 0), (12, 0), (13, 0), (14, 0), (15, 0), (3, 0), (16, 0), (6, 1), (10, 1), (11, 1), (12, 1), (13, 1), (14, 1), (15, 1), (6, 2), (10, 2), (11, 2), (12, 2), (13, 2), (14, 2), (15, 2), (6, 3), (10, 3), (11, 3), (12, 3), (13, 3), (14, 3), (15, 3), (6, 4), (10, 4), (11, 4), (12, 4), (13, 4), (14, 4), (15, 4), (6, 5), (10, 5), (11, 5), (12, 5), (13, 5), (14, 5), (15, 5), (6, 6), (10, 6), (11, 6), (12, 6), (13, 6), (14, 6), (15, 6), (6, 7), (10, 7), (11, 7), (12, 7), (13, 7), (14, 7), (15, 7), (6, 8), (10, 8), (11, 8), (12, 8), (13, 8), (14, 8), (15, 8), (6, 9), (10, 9), (11, 9), (12, 9), (13, 9), (14, 9), (15, 9), (6, 10), (10, 10), (11, 10), (12, 10), (13, 10), (14, 10), (15, 10), (6, 11), (10, 11), (11, 11), (12, 11), (13, 11), (14, 11), (15, 11), (6, 12), (10, 12), (11, 12), (12, 12), (13, 12), (14, 12), (15, 12), (6, 13), (10, 13), (11, 13), (12, 13), (13, 13), (14, 13), (15, 13), (6, 14), (10, 14), (11, 14), (12, 14), (13, 14), (14, 14), (15, 14), (6, 15), (10, 15), (11, 15), (12, 15), (13, 15), (14, 15), (15, 15), (6, 16), (10, 16), (11, 16), (12, 16), (13, 16), (14, 16), (15, 16), (5, 0), (20, 0), (21, 0), (22, 0), (23, 0), (24, 0), (25, 0), (26, 0), (27, 0), (1, 0), (0, 0), (30, 0), (31, 0), (32, 0), (33, 0), (34, 0), (34, 1), (34, 2), (34, 3), (34, 4), (34, 5), (34, 6), (34, 7), (34, 8), (34, 9), (4, 0), (40, 0), (41, 0), (42, 0), (43, 0), (17, 0), (2, 0), (6, 17), (10, 17), (11, 17), (12, 17), (13, 17), (14, 17), (15, 17), (2, 1), (6, 18), (10, 18), (11, 18), (12, 18), (13, 18), (14, 18), (15, 18), (8, 0), (50, 0), (51, 0), (52, 0), (53, 0), (54, 0), (55, 0), (56, 0), (57, 0), (58, 0), (59, 0), (60, 0)]
def zm_ix (k i : Nat) : Nat := zm_xl.findIdx (fun q => q == (k, i))
def zm_ds (k i : Nat) : zD := if k < 9 then (k, 0, (mm_fs k).map (fun t => if t.1 = 2 then some (.inr (zm_ix t.2.1 (i + t.2.2))) else some (.inl 0))) else match mm_as k with
  | some (0, n, _, _) => (9, n, [])
  | some (1, n, _, _) => (10, n, [])
  | some (_, n, k', off) => (k, n, (List.range n).map (fun j => some (.inr (zm_ix k' (j + off)))))
  | none => (99, 0, [])
theorem zm_ix_ok : mm_all.all (fun q => decide (zm_w2[zm_ix q.1 q.2]? = some (zm_ds q.1 q.2))) = true := by decide +kernel
theorem zm_ix_inj : mm_all.all (fun p => mm_all.all (fun q => !(zm_ix p.1 p.2 == zm_ix q.1 q.2) || decide (p = q))) = true := by decide +kernel
