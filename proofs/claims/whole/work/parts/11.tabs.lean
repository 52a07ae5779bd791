def mm_rn : Nat → String
  | 0 => RX0
  | 1 => RX1
  | 2 => RX2
  | 3 => RX3
  | 4 => RX4
  | 5 => RX5
  | 6 => RX6
  | 7 => RX7
  | 8 => RX8
  | _ => RJ9
def mm_yn : Nat → MethodName
  | 0 => yX0_read
  | 1 => yX0_add
  | 2 => yX0_mostWorth
  | 3 => yX0_tryLastBox
  | 4 => yX0_addBox
  | 5 => yX1_seek
  | 6 => yX1_seekFrom
  | 7 => yX1_firstBoreFrom
  | 8 => yX1_weigh
  | 9 => yX3_note
  | 10 => yX3_giveBack
  | 11 => yX4_note
  | 12 => yX4_narrow
  | 13 => yX4_addRow
  | 14 => yX4_leaveOnly
  | 15 => yX4_cutOut
  | 16 => yX4_count
  | 17 => yX4_countWithin
  | 18 => yX4_leastSize
  | 19 => yX4_greatestSize
  | 20 => yX4_shaftToTry
  | 21 => yX5_read
  | 22 => yX5_addShaft
  | 23 => yX5_closesAfter
  | 24 => yX5_addBore
  | 25 => yX5_dropLatestBore
  | 26 => yX5_pair
  | 27 => yX5_firstToClose
  | 28 => yX5_leastPlay
  | 29 => yX5_greatestPlay
  | 30 => yX5_playOf
  | 31 => yX5_ease
  | 32 => yX5_sizeOfOneMore
  | 33 => yX5_pairsWith
  | 34 => yX6_copyFrom
  | 35 => yX6_parts
  | 36 => yX6_sortOf
  | 37 => yX6_hasRoom
  | 38 => yX6_put
  | 39 => yX6_countInSort
  | 40 => yX6_sortAnew
  | 41 => yX6_dropShaft
  | 42 => yX6_dropBore
  | 43 => yX6_empty
  | 44 => yX6_partsOfKind
  | 45 => yX6_shaftsOfGrade
  | 46 => yX6_shaftsFittedBy
  | 47 => yX6_begin
  | 48 => yX6_end
  | 49 => yX7_told
  | 50 => yX7_shaftAt
  | 51 => yX7_boreAt
  | 52 => yX7_gradeAt
  | 53 => yX7_sort
  | 54 => yX7_find
  | 55 => yX7_shaft
  | 56 => yX7_bore
  | 57 => yX7_takeShaft
  | 58 => yX7_takeBore
  | 59 => yX7_grade
  | 60 => yX7_putAway
  | 61 => yX7_batch
  | 62 => yX7_clear
  | 63 => yX7_undo
  | 64 => yX7_crowd
  | 65 => yX7_boxes
  | 66 => yX7_withBore
  | 67 => yX7_see
  | 68 => yX7_forget
  | 69 => yX7_seed
  | 70 => yX7_keep
  | 71 => yX7_goBack
  | 72 => yX7_pairUp
  | 73 => yX7_putAsDeed
  | 74 => yX7_draw
  | 75 => yX7_isIn
  | 76 => yX7_kindOf
  | 77 => yX7_gradeOf
  | 78 => yX7_sizeOf
  | 79 => yX8_in
  | 80 => yX8_copy
  | 81 => yX8_isGrade
  | 82 => yX8_isSize
  | 83 => yX8_isShaft
  | 84 => yX8_isBore
  | 85 => yX8_begin
  | 86 => yX8_end
  | 87 => yX8_fits
  | 88 => yX8_closesFirst
  | 89 => yX8_pairs
  | 90 => yX8_now
  | 91 => yX8_playOf
  | 92 => yX8_ease
  | 93 => yX8_more
  | 94 => yX8_isSo
  | 95 => yX8_laySizes
  | 96 => yX8_fitting
  | 97 => yX8_tryNext
  | 98 => yX8_sizesTell
  | 99 => yX8_told
  | 100 => yX8_sortOf
  | 101 => yX8_shaftTells
  | 102 => yX8_shaftAt
  | 103 => yX8_fitsMany
  | 104 => yX8_boreTells
  | 105 => yX8_boreAt
  | 106 => yX8_ofGrade
  | 107 => yX8_gradeAt
  | 108 => yX8_sort
  | 109 => yX8_find
  | 110 => yX8_remember
  | 111 => yX8_isRoomFor
  | 112 => yX8_comesSort
  | 113 => yX8_comes
  | 114 => yX8_shaft
  | 115 => yX8_bore
  | 116 => yX8_shaftGoes
  | 117 => yX8_boreGoes
  | 118 => yX8_takeShaft
  | 119 => yX8_takeBore
  | 120 => yX8_grade
  | 121 => yX8_putAway
  | 122 => yX8_draw
  | 123 => yX8_batch
  | 124 => yX8_clear
  | 125 => yX8_undo
  | 126 => yX8_shaftsWithin
  | 127 => yX8_boresWithin
  | 128 => yX8_crowd
  | 129 => yX8_keyOf
  | 130 => yX8_isAhead
  | 131 => yX8_lines
  | 132 => yX8_goesWith
  | 133 => yX8_boxes
  | 134 => yX8_withBore
  | 135 => yX8_see
  | 136 => yX8_forget
  | 137 => yX8_seed
  | 138 => yX8_keep
  | 139 => yX8_goBack
  | 140 => yJ9_floorMod_7cf53
  | 141 => yJ9_max_7cf53
  | 142 => yJ9_min_7cf53
  | _ => yX0_init
def mm_cn : Nat → ByteArray
  | 0 => cX0_read
  | 1 => cX0_add
  | 2 => cX0_mostWorth
  | 3 => cX0_tryLastBox
  | 4 => cX0_addBox
  | 5 => cX1_seek
  | 6 => cX1_seekFrom
  | 7 => cX1_firstBoreFrom
  | 8 => cX1_weigh
  | 9 => cX3_note
  | 10 => cX3_giveBack
  | 11 => cX4_note
  | 12 => cX4_narrow
  | 13 => cX4_addRow
  | 14 => cX4_leaveOnly
  | 15 => cX4_cutOut
  | 16 => cX4_count
  | 17 => cX4_countWithin
  | 18 => cX4_leastSize
  | 19 => cX4_greatestSize
  | 20 => cX4_shaftToTry
  | 21 => cX5_read
  | 22 => cX5_addShaft
  | 23 => cX5_closesAfter
  | 24 => cX5_addBore
  | 25 => cX5_dropLatestBore
  | 26 => cX5_pair
  | 27 => cX5_firstToClose
  | 28 => cX5_leastPlay
  | 29 => cX5_greatestPlay
  | 30 => cX5_playOf
  | 31 => cX5_ease
  | 32 => cX5_sizeOfOneMore
  | 33 => cX5_pairsWith
  | 34 => cX6_copyFrom
  | 35 => cX6_parts
  | 36 => cX6_sortOf
  | 37 => cX6_hasRoom
  | 38 => cX6_put
  | 39 => cX6_countInSort
  | 40 => cX6_sortAnew
  | 41 => cX6_dropShaft
  | 42 => cX6_dropBore
  | 43 => cX6_empty
  | 44 => cX6_partsOfKind
  | 45 => cX6_shaftsOfGrade
  | 46 => cX6_shaftsFittedBy
  | 47 => cX6_begin
  | 48 => cX6_end
  | 49 => cX7_told
  | 50 => cX7_shaftAt
  | 51 => cX7_boreAt
  | 52 => cX7_gradeAt
  | 53 => cX7_sort
  | 54 => cX7_find
  | 55 => cX7_shaft
  | 56 => cX7_bore
  | 57 => cX7_takeShaft
  | 58 => cX7_takeBore
  | 59 => cX7_grade
  | 60 => cX7_putAway
  | 61 => cX7_batch
  | 62 => cX7_clear
  | 63 => cX7_undo
  | 64 => cX7_crowd
  | 65 => cX7_boxes
  | 66 => cX7_withBore
  | 67 => cX7_see
  | 68 => cX7_forget
  | 69 => cX7_seed
  | 70 => cX7_keep
  | 71 => cX7_goBack
  | 72 => cX7_pairUp
  | 73 => cX7_putAsDeed
  | 74 => cX7_draw
  | 75 => cX7_isIn
  | 76 => cX7_kindOf
  | 77 => cX7_gradeOf
  | 78 => cX7_sizeOf
  | 79 => cX8_in
  | 80 => cX8_copy
  | 81 => cX8_isGrade
  | 82 => cX8_isSize
  | 83 => cX8_isShaft
  | 84 => cX8_isBore
  | 85 => cX8_begin
  | 86 => cX8_end
  | 87 => cX8_fits
  | 88 => cX8_closesFirst
  | 89 => cX8_pairs
  | 90 => cX8_now
  | 91 => cX8_playOf
  | 92 => cX8_ease
  | 93 => cX8_more
  | 94 => cX8_isSo
  | 95 => cX8_laySizes
  | 96 => cX8_fitting
  | 97 => cX8_tryNext
  | 98 => cX8_sizesTell
  | 99 => cX8_told
  | 100 => cX8_sortOf
  | 101 => cX8_shaftTells
  | 102 => cX8_shaftAt
  | 103 => cX8_fitsMany
  | 104 => cX8_boreTells
  | 105 => cX8_boreAt
  | 106 => cX8_ofGrade
  | 107 => cX8_gradeAt
  | 108 => cX8_sort
  | 109 => cX8_find
  | 110 => cX8_remember
  | 111 => cX8_isRoomFor
  | 112 => cX8_comesSort
  | 113 => cX8_comes
  | 114 => cX8_shaft
  | 115 => cX8_bore
  | 116 => cX8_shaftGoes
  | 117 => cX8_boreGoes
  | 118 => cX8_takeShaft
  | 119 => cX8_takeBore
  | 120 => cX8_grade
  | 121 => cX8_putAway
  | 122 => cX8_draw
  | 123 => cX8_batch
  | 124 => cX8_clear
  | 125 => cX8_undo
  | 126 => cX8_shaftsWithin
  | 127 => cX8_boresWithin
  | 128 => cX8_crowd
  | 129 => cX8_keyOf
  | 130 => cX8_isAhead
  | 131 => cX8_lines
  | 132 => cX8_goesWith
  | 133 => cX8_boxes
  | 134 => cX8_withBore
  | 135 => cX8_see
  | 136 => cX8_forget
  | 137 => cX8_seed
  | 138 => cX8_keep
  | 139 => cX8_goBack
  | 140 => cJ9_floorMod_7cf53
  | 141 => cJ9_max_7cf53
  | 142 => cJ9_min_7cf53
  | _ => cX0_init
/-- locals, answer (0 none, 1 int, 2 boolean), height, parameters, the place of its code among the words, of its class initialised -/
def mm_qn : Nat → Nat × Nat × Nat × Nat × Nat × Nat
  | 0 => (4, 0, 3, 1, 619, 61)
  | 1 => (5, 0, 1, 3, 625, 61)
  | 2 => (4, 1, 4, 1, 630, 61)
  | 3 => (10, 0, 3, 2, 634, 61)
  | 4 => (6, 0, 2, 4, 640, 61)
  | 5 => (3, 0, 3, 1, 599, 60)
  | 6 => (8, 0, 2, 2, 603, 60)
  | 7 => (4, 1, 1, 2, 607, 60)
  | 8 => (6, 0, 1, 4, 611, 60)
  | 9 => (2, 0, 2, 1, 509, 58)
  | 10 => (3, 0, 2, 2, 588, 58)
  | 11 => (3, 1, 1, 2, 653, 62)
  | 12 => (3, 0, 3, 1, 402, 62)
  | 13 => (3, 0, 1, 2, 406, 62)
  | 14 => (4, 0, 2, 2, 412, 62)
  | 15 => (6, 0, 2, 2, 422, 62)
  | 16 => (1, 1, 3, 0, 426, 62)
  | 17 => (5, 1, 2, 2, 430, 62)
  | 18 => (3, 1, 1, 0, 434, 62)
  | 19 => (3, 1, 2, 0, 438, 62)
  | 20 => (8, 1, 4, 1, 442, 62)
  | 21 => (4, 0, 3, 1, 331, 59)
  | 22 => (5, 0, 2, 3, 353, 59)
  | 23 => (3, 2, 1, 2, 357, 59)
  | 24 => (3, 0, 1, 1, 361, 59)
  | 25 => (3, 0, 1, 0, 398, 59)
  | 26 => (6, 1, 2, 1, 365, 59)
  | 27 => (5, 1, 1, 2, 369, 59)
  | 28 => (3, 1, 2, 0, 373, 59)
  | 29 => (3, 1, 2, 0, 381, 59)
  | 30 => (2, 1, 1, 1, 377, 59)
  | 31 => (4, 1, 3, 0, 385, 59)
  | 32 => (5, 1, 4, 0, 390, 59)
  | 33 => (3, 1, 3, 1, 394, 59)
  | 34 => (2, 0, 1, 1, 513, 57)
  | 35 => (1, 1, 1, 0, 576, 57)
  | 36 => (3, 1, 1, 1, 458, 57)
  | 37 => (3, 2, 2, 1, 503, 57)
  | 38 => (2, 1, 3, 1, 521, 57)
  | 39 => (3, 0, 2, 1, 527, 57)
  | 40 => (2, 0, 3, 0, 675, 57)
  | 41 => (3, 0, 2, 1, 539, 57)
  | 42 => (3, 0, 2, 1, 547, 57)
  | 43 => (1, 0, 1, 0, 580, 57)
  | 44 => (4, 1, 1, 1, 484, 57)
  | 45 => (4, 1, 2, 1, 476, 57)
  | 46 => (4, 1, 3, 1, 466, 57)
  | 47 => (3, 1, 2, 1, 338, 57)
  | 48 => (3, 1, 2, 1, 349, 57)
  | 49 => (2, 1, 5, 1, 323, 56)
  | 50 => (3, 1, 5, 2, 448, 56)
  | 51 => (3, 1, 5, 2, 462, 56)
  | 52 => (3, 1, 3, 2, 472, 56)
  | 53 => (3, 1, 2, 2, 480, 56)
  | 54 => (3, 1, 2, 2, 488, 56)
  | 55 => (3, 1, 5, 2, 495, 56)
  | 56 => (2, 1, 5, 1, 531, 56)
  | 57 => (3, 1, 3, 1, 535, 56)
  | 58 => (3, 1, 3, 1, 543, 56)
  | 59 => (4, 1, 5, 3, 551, 56)
  | 60 => (3, 1, 5, 0, 555, 56)
  | 61 => (6, 1, 4, 1, 560, 56)
  | 62 => (2, 1, 3, 0, 572, 56)
  | 63 => (2, 1, 3, 1, 584, 56)
  | 64 => (2, 1, 4, 1, 595, 56)
  | 65 => (2, 1, 5, 1, 615, 56)
  | 66 => (2, 1, 4, 1, 644, 56)
  | 67 => (4, 1, 2, 3, 649, 56)
  | 68 => (2, 1, 1, 0, 658, 56)
  | 69 => (3, 1, 1, 1, 662, 56)
  | 70 => (2, 1, 2, 1, 666, 56)
  | 71 => (2, 1, 4, 1, 671, 56)
  | 72 => (1, 1, 4, 0, 327, 56)
  | 73 => (2, 1, 4, 1, 499, 56)
  | 74 => (2, 1, 1, 1, 564, 56)
  | 75 => (2, 2, 1, 2, 344, 56)
  | 76 => (2, 1, 1, 2, 491, 56)
  | 77 => (1, 1, 1, 1, 341, 56)
  | 78 => (1, 1, 1, 1, 334, 56)
  | 79 => (6, 3, 1, 3, 760, 64)
  | 80 => (4, 0, 1, 2, 872, 64)
  | 81 => (1, 2, 2, 1, 841, 64)
  | 82 => (1, 2, 2, 1, 775, 64)
  | 83 => (2, 2, 2, 1, 805, 64)
  | 84 => (2, 2, 2, 1, 822, 64)
  | 85 => (2, 1, 1, 1, 753, 64)
  | 86 => (2, 1, 1, 1, 757, 64)
  | 87 => (3, 2, 2, 2, 834, 64)
  | 88 => (6, 1, 2, 2, 749, 64)
  | 89 => (11, 1, 3, 2, 745, 64)
  | 90 => (1, 1, 4, 0, 741, 64)
  | 91 => (6, 1, 5, 1, 764, 64)
  | 92 => (4, 1, 4, 0, 768, 64)
  | 93 => (6, 1, 5, 0, 772, 64)
  | 94 => (5, 2, 2, 1, 788, 64)
  | 95 => (3, 0, 3, 0, 784, 64)
  | 96 => (4, 1, 3, 1, 796, 64)
  | 97 => (6, 1, 4, 0, 792, 64)
  | 98 => (2, 1, 4, 1, 780, 64)
  | 99 => (2, 1, 6, 1, 737, 64)
  | 100 => (4, 1, 1, 2, 813, 64)
  | 101 => (4, 1, 5, 2, 809, 64)
  | 102 => (3, 1, 6, 2, 801, 64)
  | 103 => (4, 1, 3, 1, 830, 64)
  | 104 => (4, 1, 5, 2, 826, 64)
  | 105 => (3, 1, 6, 2, 818, 64)
  | 106 => (4, 1, 1, 1, 846, 64)
  | 107 => (3, 1, 3, 2, 838, 64)
  | 108 => (3, 1, 2, 2, 850, 64)
  | 109 => (3, 1, 3, 2, 854, 64)
  | 110 => (2, 0, 2, 0, 868, 64)
  | 111 => (3, 2, 2, 2, 863, 64)
  | 112 => (4, 0, 2, 2, 880, 64)
  | 113 => (3, 0, 3, 2, 876, 64)
  | 114 => (3, 1, 4, 2, 859, 64)
  | 115 => (2, 1, 4, 1, 884, 64)
  | 116 => (3, 0, 2, 1, 892, 64)
  | 117 => (3, 0, 2, 1, 900, 64)
  | 118 => (3, 1, 3, 1, 888, 64)
  | 119 => (3, 1, 3, 1, 896, 64)
  | 120 => (4, 1, 5, 3, 904, 64)
  | 121 => (3, 1, 5, 0, 909, 64)
  | 122 => (2, 1, 1, 1, 919, 64)
  | 123 => (6, 1, 4, 1, 914, 64)
  | 124 => (2, 1, 3, 0, 927, 64)
  | 125 => (2, 1, 2, 1, 931, 64)
  | 126 => (5, 1, 2, 2, 940, 64)
  | 127 => (5, 1, 2, 2, 944, 64)
  | 128 => (11, 1, 3, 1, 936, 64)
  | 129 => (2, 1, 2, 1, 961, 64)
  | 130 => (3, 2, 3, 2, 957, 64)
  | 131 => (5, 1, 4, 0, 953, 64)
  | 132 => (8, 2, 3, 3, 965, 64)
  | 133 => (11, 1, 5, 1, 948, 64)
  | 134 => (2, 1, 4, 1, 969, 64)
  | 135 => (4, 1, 3, 3, 973, 64)
  | 136 => (2, 1, 1, 0, 977, 64)
  | 137 => (3, 1, 1, 1, 981, 64)
  | 138 => (2, 1, 2, 1, 985, 64)
  | 139 => (3, 1, 3, 1, 989, 64)
  | 140 => (3, 1, 1, 2, 591, 65)
  | 141 => (2, 1, 1, 2, 415, 65)
  | 142 => (2, 1, 1, 2, 418, 65)
  | _ => (0, 0, 0, 0, 0, 0)
def mm_rf : Nat → Option FieldType
  | 0 => none
  | 1 => some .int
  | _ => some .boolean
def mm_fl : List (Nat × Nat × Nat × Nat × Nat) := [(0, 9, 0, 0, 230), (0, 15, 0, 1, 231), (0, 18, 0, 2, 232), (0, 24, 0, 3, 233), (0, 27, 0, 4, 234), (0, 31, 6, 6, 100), (0, 36, 6, 0, 83), (0, 50, 6, 7, 104), (0, 53, 6, 1, 87), (1, 7, 1, 0, 201), (1, 13, 1, 1, 203), (1, 16, 1, 2, 205), (1, 19, 1, 3, 207), (1, 22, 1, 4, 209), (1, 25, 5, 8, 171), (1, 28, 5, 1, 157), (1, 40, 5, 3, 161), (1, 43, 5, 9, 173), (1, 44, 5, 5, 165), (1, 47, 5, 6, 167), (1, 50, 5, 2, 159), (2, 10, 2, 0, 282), (2, 16, 2, 1, 284), (2, 20, 2, 2, 286), (3, 11, 3, 0, 138), (3, 17, 3, 1, 139), (3, 21, 3, 2, 140), (4, 9, 4, 0, 253), (4, 15, 4, 1, 254), (4, 19, 4, 2, 255), (4, 22, 4, 3, 256), (4, 25, 4, 4, 257), (4, 29, 4, 5, 259), (4, 68, 6, 6, 102), (4, 71, 6, 0, 85), (5, 9, 5, 0, 155), (5, 15, 5, 1, 156), (5, 18, 5, 2, 158), (5, 21, 5, 3, 160), (5, 24, 5, 4, 162), (5, 27, 5, 5, 164), (5, 30, 5, 6, 166), (5, 33, 5, 7, 168), (5, 36, 5, 8, 170), (5, 40, 5, 9, 172), (5, 43, 6, 6, 99), (5, 48, 6, 0, 82), (5, 62, 6, 7, 105), (5, 65, 6, 1, 88), (6, 9, 6, 0, 81), (6, 15, 6, 1, 86), (6, 18, 6, 2, 90), (6, 21, 6, 3, 92), (6, 24, 6, 4, 94), (6, 27, 6, 5, 96), (6, 30, 6, 6, 98), (6, 34, 6, 7, 103), (6, 37, 6, 8, 107), (7, 10, 7, 0, 295), (7, 19, 7, 1, 296), (7, 26, 7, 2, 297), (7, 33, 7, 3, 298), (7, 40, 7, 4, 299), (7, 47, 7, 5, 300), (7, 53, 7, 6, 301), (7, 57, 7, 7, 302), (7, 62, 6, 6, 101), (7, 65, 6, 7, 106), (7, 68, 6, 8, 108), (7, 91, 4, 4, 258), (7, 110, 3, 2, 141), (7, 119, 6, 0, 84), (7, 130, 5, 4, 163), (7, 142, 6, 1, 89), (7, 145, 5, 7, 169), (7, 151, 6, 2, 91), (7, 154, 6, 3, 93), (7, 160, 6, 4, 95), (7, 166, 6, 5, 97), (7, 208, 1, 4, 210), (7, 211, 1, 0, 202), (7, 214, 1, 1, 204), (7, 217, 1, 2, 206), (7, 219, 1, 3, 208), (7, 231, 2, 0, 283), (7, 235, 2, 1, 285), (7, 238, 2, 2, 287), (8, 7, 8, 0, 682), (8, 13, 8, 1, 683), (8, 17, 8, 2, 684), (8, 20, 8, 5, 687), (8, 23, 8, 6, 688), (8, 26, 8, 7, 689), (8, 29, 8, 9, 691), (8, 32, 8, 10, 692), (8, 35, 8, 11, 693), (8, 38, 8, 15, 697), (8, 41, 8, 16, 698), (8, 44, 8, 4, 686), (8, 78, 8, 8, 690), (8, 81, 8, 12, 694), (8, 84, 8, 13, 695), (8, 87, 8, 14, 696), (8, 115, 8, 3, 685)]
def mm_kl : List (Nat × Nat × Int32 × Nat) := [(4, 32, -1000000004, 654), (6, 57, -1000000004, 523), (7, 113, -1000000002, 444), (7, 118, -1000000001, 450), (7, 186, -1000000003, 556), (7, 193, -1000000004, 505), (7, 258, 65536, 568), (8, 118, -1000000002, 797), (8, 128, -1000000001, 814), (8, 160, -1000000004, 864), (8, 176, -1000000003, 910), (8, 183, 65536, 923)]
def mm_ll : List (Nat × Nat × Int64 × Nat) := [(7, 252, 1103515245, 565), (7, 254, 12345, 566), (7, 256, 2147483648, 567), (8, 48, 3, 842), (8, 54, 9999, 776), (8, 148, 4, 855), (8, 174, 999, 905), (8, 177, 1103515245, 920), (8, 179, 12345, 921), (8, 181, 2147483648, 922), (8, 184, 20, 915), (8, 189, 16, 932), (8, 203, 9, 949)]
def mm_ml : List (Nat × Nat × Nat × Nat × Nat × Nat × Nat × Nat) := [(0, 39, 0, 47, 6, 620, 336, 337), (0, 43, 0, 48, 6, 621, 347, 348), (0, 46, 0, 1, 0, 622, 624, 17), (0, 56, 2, 78, 7, 626, 333, 0), (0, 59, 0, 3, 0, 631, 633, 18), (0, 63, 1, 142, 9, 635, 417, 0), (0, 69, 1, 141, 9, 636, 414, 0), (0, 72, 0, 4, 0, 637, 639, 19), (1, 32, 0, 6, 1, 600, 602, 14), (1, 36, 0, 7, 1, 604, 606, 15), (1, 53, 0, 8, 1, 608, 610, 16), (3, 25, 0, 34, 6, 510, 511, 512), (3, 29, 1, 142, 9, 517, 417, 0), (3, 35, 1, 140, 9, 589, 590, 0), (4, 33, 0, 13, 4, 403, 405, 7), (4, 37, 0, 47, 6, 407, 336, 337), (4, 43, 0, 48, 6, 408, 347, 348), (4, 46, 0, 14, 4, 409, 411, 8), (4, 49, 0, 15, 4, 419, 421, 9), (4, 52, 1, 141, 9, 413, 414, 0), (4, 58, 1, 142, 9, 416, 417, 0), (4, 61, 0, 17, 4, 427, 429, 10), (4, 64, 0, 16, 4, 443, 424, 425), (5, 50, 2, 78, 7, 332, 333, 0), (5, 54, 0, 47, 6, 335, 336, 337), (5, 56, 0, 48, 6, 346, 347, 348), (5, 58, 0, 22, 5, 350, 352, 1), (5, 67, 0, 24, 5, 358, 360, 3), (5, 71, 0, 23, 5, 354, 356, 2), (5, 75, 0, 27, 5, 366, 368, 4), (5, 79, 0, 30, 5, 374, 376, 5), (5, 82, 0, 26, 5, 386, 363, 364), (5, 85, 0, 33, 5, 391, 392, 393), (5, 88, 0, 25, 5, 395, 397, 6), (6, 40, 3, 0, 0, 514, 516, 515), (6, 46, 2, 77, 7, 339, 340, 0), (6, 50, 0, 36, 6, 504, 456, 457), (6, 53, 0, 37, 6, 522, 501, 502), (6, 58, 0, 39, 6, 524, 526, 12), (6, 62, 2, 75, 7, 342, 343, 0), (6, 66, 0, 47, 6, 467, 336, 337), (6, 69, 0, 48, 6, 468, 347, 348), (6, 72, 2, 78, 7, 345, 333, 0), (7, 71, 0, 72, 7, 324, 326, 0), (7, 75, 0, 28, 5, 370, 371, 372), (7, 78, 0, 29, 5, 378, 379, 380), (7, 81, 0, 21, 5, 328, 329, 330), (7, 85, 0, 31, 5, 382, 383, 384), (7, 88, 0, 32, 5, 387, 388, 389), (7, 94, 0, 12, 4, 399, 400, 401), (7, 97, 0, 16, 4, 423, 424, 425), (7, 100, 0, 18, 4, 431, 432, 433), (7, 103, 0, 19, 4, 435, 436, 437), (7, 106, 0, 20, 4, 439, 440, 441), (7, 114, 1, 75, 7, 449, 343, 0), (7, 123, 1, 77, 7, 451, 340, 0), (7, 127, 1, 78, 7, 452, 333, 0), (7, 133, 0, 47, 6, 453, 336, 337), (7, 136, 0, 48, 6, 454, 347, 348), (7, 139, 0, 36, 6, 455, 456, 457), (7, 148, 0, 46, 6, 463, 464, 465), (7, 157, 0, 45, 6, 473, 474, 475), (7, 163, 0, 44, 6, 481, 482, 483), (7, 169, 1, 76, 7, 489, 490, 0), (7, 173, 0, 73, 7, 496, 498, 11), (7, 176, 0, 9, 3, 506, 507, 508), (7, 179, 0, 41, 6, 536, 537, 538), (7, 183, 0, 42, 6, 544, 545, 546), (7, 187, 0, 74, 7, 561, 563, 13), (7, 190, 0, 38, 6, 518, 519, 520), (7, 194, 0, 35, 6, 573, 574, 575), (7, 197, 0, 43, 6, 577, 578, 579), (7, 200, 0, 10, 3, 585, 586, 587), (7, 204, 0, 5, 1, 596, 597, 598), (7, 221, 0, 0, 0, 616, 617, 618), (7, 222, 0, 2, 0, 627, 628, 629), (7, 225, 0, 33, 5, 645, 392, 393), (7, 228, 0, 11, 4, 650, 651, 652), (7, 232, 0, 34, 6, 667, 511, 512), (7, 242, 0, 40, 6, 672, 673, 674), (7, 245, 0, 26, 5, 362, 363, 364), (7, 248, 0, 37, 6, 500, 501, 502), (8, 50, 1, 79, 8, 758, 759, 0), (8, 56, 0, 85, 8, 750, 752, 23), (8, 60, 0, 86, 8, 754, 756, 24), (8, 63, 0, 88, 8, 746, 748, 22), (8, 67, 0, 89, 8, 742, 744, 21), (8, 70, 0, 90, 8, 738, 740, 20), (8, 74, 1, 82, 8, 773, 774, 0), (8, 90, 0, 94, 8, 785, 787, 30), (8, 93, 0, 95, 8, 781, 783, 29), (8, 96, 0, 96, 8, 793, 795, 32), (8, 99, 0, 91, 8, 761, 763, 25), (8, 103, 0, 92, 8, 765, 767, 26), (8, 106, 0, 93, 8, 769, 771, 27), (8, 109, 0, 98, 8, 777, 779, 28), (8, 112, 0, 97, 8, 789, 791, 31), (8, 119, 0, 100, 8, 810, 812, 35), (8, 122, 0, 83, 8, 802, 804, 33), (8, 125, 0, 101, 8, 806, 808, 34), (8, 129, 0, 87, 8, 831, 833, 39), (8, 133, 0, 103, 8, 827, 829, 38), (8, 136, 0, 84, 8, 819, 821, 36), (8, 139, 0, 104, 8, 823, 825, 37), (8, 142, 1, 81, 8, 839, 840, 0), (8, 145, 0, 106, 8, 843, 845, 40), (8, 150, 0, 80, 8, 869, 871, 43), (8, 154, 0, 112, 8, 877, 879, 45), (8, 157, 0, 111, 8, 860, 862, 41), (8, 161, 0, 110, 8, 865, 867, 42), (8, 164, 0, 113, 8, 873, 875, 44), (8, 167, 0, 116, 8, 889, 891, 46), (8, 171, 0, 117, 8, 897, 899, 47), (8, 186, 0, 122, 8, 916, 918, 48), (8, 191, 0, 126, 8, 937, 939, 49), (8, 194, 0, 127, 8, 941, 943, 50), (8, 197, 0, 129, 8, 958, 960, 53), (8, 200, 0, 130, 8, 954, 956, 52), (8, 205, 0, 131, 8, 950, 952, 51), (8, 208, 0, 132, 8, 962, 964, 54)]
def mm_ft (o i : Nat) : Option (Nat × Nat × Nat) := (mm_fl.find? (fun q => q.1 == o && q.2.1 == i)).map (fun q => (q.2.2.1, q.2.2.2.1, q.2.2.2.2))
def mm_kt (o i : Nat) : Option (Int32 × Nat) := (mm_kl.find? (fun q => q.1 == o && q.2.1 == i)).map (fun q => (q.2.2.1, q.2.2.2))
def mm_lt (o i : Nat) : Option (Int64 × Nat) := (mm_ll.find? (fun q => q.1 == o && q.2.1 == i)).map (fun q => (q.2.2.1, q.2.2.2))
def mm_mt (o i : Nat) : Option (Nat × Nat × Nat × Nat × Nat × Nat) := (mm_ml.find? (fun q => q.1 == o && q.2.1 == i)).map (fun q => (q.2.2.1, q.2.2.2.1, q.2.2.2.2.1, q.2.2.2.2.2.1, q.2.2.2.2.2.2.1, q.2.2.2.2.2.2.2))
theorem ft_0_9 : mm_ft 0 9 = some (0, 0, 230) := by decide +kernel
theorem ft_0_15 : mm_ft 0 15 = some (0, 1, 231) := by decide +kernel
theorem ft_0_18 : mm_ft 0 18 = some (0, 2, 232) := by decide +kernel
theorem ft_0_24 : mm_ft 0 24 = some (0, 3, 233) := by decide +kernel
theorem ft_0_27 : mm_ft 0 27 = some (0, 4, 234) := by decide +kernel
theorem ft_0_31 : mm_ft 0 31 = some (6, 6, 100) := by decide +kernel
theorem ft_0_36 : mm_ft 0 36 = some (6, 0, 83) := by decide +kernel
theorem ft_0_50 : mm_ft 0 50 = some (6, 7, 104) := by decide +kernel
theorem ft_0_53 : mm_ft 0 53 = some (6, 1, 87) := by decide +kernel
theorem ft_1_7 : mm_ft 1 7 = some (1, 0, 201) := by decide +kernel
theorem ft_1_13 : mm_ft 1 13 = some (1, 1, 203) := by decide +kernel
theorem ft_1_16 : mm_ft 1 16 = some (1, 2, 205) := by decide +kernel
theorem ft_1_19 : mm_ft 1 19 = some (1, 3, 207) := by decide +kernel
theorem ft_1_22 : mm_ft 1 22 = some (1, 4, 209) := by decide +kernel
theorem ft_1_25 : mm_ft 1 25 = some (5, 8, 171) := by decide +kernel
theorem ft_1_28 : mm_ft 1 28 = some (5, 1, 157) := by decide +kernel
theorem ft_1_40 : mm_ft 1 40 = some (5, 3, 161) := by decide +kernel
theorem ft_1_43 : mm_ft 1 43 = some (5, 9, 173) := by decide +kernel
theorem ft_1_44 : mm_ft 1 44 = some (5, 5, 165) := by decide +kernel
theorem ft_1_47 : mm_ft 1 47 = some (5, 6, 167) := by decide +kernel
theorem ft_1_50 : mm_ft 1 50 = some (5, 2, 159) := by decide +kernel
theorem ft_2_10 : mm_ft 2 10 = some (2, 0, 282) := by decide +kernel
theorem ft_2_16 : mm_ft 2 16 = some (2, 1, 284) := by decide +kernel
theorem ft_2_20 : mm_ft 2 20 = some (2, 2, 286) := by decide +kernel
theorem ft_3_11 : mm_ft 3 11 = some (3, 0, 138) := by decide +kernel
theorem ft_3_17 : mm_ft 3 17 = some (3, 1, 139) := by decide +kernel
theorem ft_3_21 : mm_ft 3 21 = some (3, 2, 140) := by decide +kernel
theorem ft_4_9 : mm_ft 4 9 = some (4, 0, 253) := by decide +kernel
theorem ft_4_15 : mm_ft 4 15 = some (4, 1, 254) := by decide +kernel
theorem ft_4_19 : mm_ft 4 19 = some (4, 2, 255) := by decide +kernel
theorem ft_4_22 : mm_ft 4 22 = some (4, 3, 256) := by decide +kernel
theorem ft_4_25 : mm_ft 4 25 = some (4, 4, 257) := by decide +kernel
theorem ft_4_29 : mm_ft 4 29 = some (4, 5, 259) := by decide +kernel
theorem ft_4_68 : mm_ft 4 68 = some (6, 6, 102) := by decide +kernel
theorem ft_4_71 : mm_ft 4 71 = some (6, 0, 85) := by decide +kernel
theorem ft_5_9 : mm_ft 5 9 = some (5, 0, 155) := by decide +kernel
theorem ft_5_15 : mm_ft 5 15 = some (5, 1, 156) := by decide +kernel
theorem ft_5_18 : mm_ft 5 18 = some (5, 2, 158) := by decide +kernel
theorem ft_5_21 : mm_ft 5 21 = some (5, 3, 160) := by decide +kernel
theorem ft_5_24 : mm_ft 5 24 = some (5, 4, 162) := by decide +kernel
theorem ft_5_27 : mm_ft 5 27 = some (5, 5, 164) := by decide +kernel
theorem ft_5_30 : mm_ft 5 30 = some (5, 6, 166) := by decide +kernel
theorem ft_5_33 : mm_ft 5 33 = some (5, 7, 168) := by decide +kernel
theorem ft_5_36 : mm_ft 5 36 = some (5, 8, 170) := by decide +kernel
theorem ft_5_40 : mm_ft 5 40 = some (5, 9, 172) := by decide +kernel
theorem ft_5_43 : mm_ft 5 43 = some (6, 6, 99) := by decide +kernel
theorem ft_5_48 : mm_ft 5 48 = some (6, 0, 82) := by decide +kernel
theorem ft_5_62 : mm_ft 5 62 = some (6, 7, 105) := by decide +kernel
theorem ft_5_65 : mm_ft 5 65 = some (6, 1, 88) := by decide +kernel
theorem ft_6_9 : mm_ft 6 9 = some (6, 0, 81) := by decide +kernel
theorem ft_6_15 : mm_ft 6 15 = some (6, 1, 86) := by decide +kernel
theorem ft_6_18 : mm_ft 6 18 = some (6, 2, 90) := by decide +kernel
theorem ft_6_21 : mm_ft 6 21 = some (6, 3, 92) := by decide +kernel
theorem ft_6_24 : mm_ft 6 24 = some (6, 4, 94) := by decide +kernel
theorem ft_6_27 : mm_ft 6 27 = some (6, 5, 96) := by decide +kernel
theorem ft_6_30 : mm_ft 6 30 = some (6, 6, 98) := by decide +kernel
theorem ft_6_34 : mm_ft 6 34 = some (6, 7, 103) := by decide +kernel
theorem ft_6_37 : mm_ft 6 37 = some (6, 8, 107) := by decide +kernel
theorem ft_7_10 : mm_ft 7 10 = some (7, 0, 295) := by decide +kernel
theorem ft_7_19 : mm_ft 7 19 = some (7, 1, 296) := by decide +kernel
theorem ft_7_26 : mm_ft 7 26 = some (7, 2, 297) := by decide +kernel
theorem ft_7_33 : mm_ft 7 33 = some (7, 3, 298) := by decide +kernel
theorem ft_7_40 : mm_ft 7 40 = some (7, 4, 299) := by decide +kernel
theorem ft_7_47 : mm_ft 7 47 = some (7, 5, 300) := by decide +kernel
theorem ft_7_53 : mm_ft 7 53 = some (7, 6, 301) := by decide +kernel
theorem ft_7_57 : mm_ft 7 57 = some (7, 7, 302) := by decide +kernel
theorem ft_7_62 : mm_ft 7 62 = some (6, 6, 101) := by decide +kernel
theorem ft_7_65 : mm_ft 7 65 = some (6, 7, 106) := by decide +kernel
theorem ft_7_68 : mm_ft 7 68 = some (6, 8, 108) := by decide +kernel
theorem ft_7_91 : mm_ft 7 91 = some (4, 4, 258) := by decide +kernel
theorem ft_7_110 : mm_ft 7 110 = some (3, 2, 141) := by decide +kernel
theorem ft_7_119 : mm_ft 7 119 = some (6, 0, 84) := by decide +kernel
theorem ft_7_130 : mm_ft 7 130 = some (5, 4, 163) := by decide +kernel
theorem ft_7_142 : mm_ft 7 142 = some (6, 1, 89) := by decide +kernel
theorem ft_7_145 : mm_ft 7 145 = some (5, 7, 169) := by decide +kernel
theorem ft_7_151 : mm_ft 7 151 = some (6, 2, 91) := by decide +kernel
theorem ft_7_154 : mm_ft 7 154 = some (6, 3, 93) := by decide +kernel
theorem ft_7_160 : mm_ft 7 160 = some (6, 4, 95) := by decide +kernel
theorem ft_7_166 : mm_ft 7 166 = some (6, 5, 97) := by decide +kernel
theorem ft_7_208 : mm_ft 7 208 = some (1, 4, 210) := by decide +kernel
theorem ft_7_211 : mm_ft 7 211 = some (1, 0, 202) := by decide +kernel
theorem ft_7_214 : mm_ft 7 214 = some (1, 1, 204) := by decide +kernel
theorem ft_7_217 : mm_ft 7 217 = some (1, 2, 206) := by decide +kernel
theorem ft_7_219 : mm_ft 7 219 = some (1, 3, 208) := by decide +kernel
theorem ft_7_231 : mm_ft 7 231 = some (2, 0, 283) := by decide +kernel
theorem ft_7_235 : mm_ft 7 235 = some (2, 1, 285) := by decide +kernel
theorem ft_7_238 : mm_ft 7 238 = some (2, 2, 287) := by decide +kernel
theorem ft_8_7 : mm_ft 8 7 = some (8, 0, 682) := by decide +kernel
theorem ft_8_13 : mm_ft 8 13 = some (8, 1, 683) := by decide +kernel
theorem ft_8_17 : mm_ft 8 17 = some (8, 2, 684) := by decide +kernel
theorem ft_8_20 : mm_ft 8 20 = some (8, 5, 687) := by decide +kernel
theorem ft_8_23 : mm_ft 8 23 = some (8, 6, 688) := by decide +kernel
theorem ft_8_26 : mm_ft 8 26 = some (8, 7, 689) := by decide +kernel
theorem ft_8_29 : mm_ft 8 29 = some (8, 9, 691) := by decide +kernel
theorem ft_8_32 : mm_ft 8 32 = some (8, 10, 692) := by decide +kernel
theorem ft_8_35 : mm_ft 8 35 = some (8, 11, 693) := by decide +kernel
theorem ft_8_38 : mm_ft 8 38 = some (8, 15, 697) := by decide +kernel
theorem ft_8_41 : mm_ft 8 41 = some (8, 16, 698) := by decide +kernel
theorem ft_8_44 : mm_ft 8 44 = some (8, 4, 686) := by decide +kernel
theorem ft_8_78 : mm_ft 8 78 = some (8, 8, 690) := by decide +kernel
theorem ft_8_81 : mm_ft 8 81 = some (8, 12, 694) := by decide +kernel
theorem ft_8_84 : mm_ft 8 84 = some (8, 13, 695) := by decide +kernel
theorem ft_8_87 : mm_ft 8 87 = some (8, 14, 696) := by decide +kernel
theorem ft_8_115 : mm_ft 8 115 = some (8, 3, 685) := by decide +kernel
theorem kt_4_32 : mm_kt 4 32 = some (-1000000004, 654) := by decide +kernel
theorem kt_6_57 : mm_kt 6 57 = some (-1000000004, 523) := by decide +kernel
theorem kt_7_113 : mm_kt 7 113 = some (-1000000002, 444) := by decide +kernel
theorem kt_7_118 : mm_kt 7 118 = some (-1000000001, 450) := by decide +kernel
theorem kt_7_186 : mm_kt 7 186 = some (-1000000003, 556) := by decide +kernel
theorem kt_7_193 : mm_kt 7 193 = some (-1000000004, 505) := by decide +kernel
theorem kt_7_258 : mm_kt 7 258 = some (65536, 568) := by decide +kernel
theorem kt_8_118 : mm_kt 8 118 = some (-1000000002, 797) := by decide +kernel
theorem kt_8_128 : mm_kt 8 128 = some (-1000000001, 814) := by decide +kernel
theorem kt_8_160 : mm_kt 8 160 = some (-1000000004, 864) := by decide +kernel
theorem kt_8_176 : mm_kt 8 176 = some (-1000000003, 910) := by decide +kernel
theorem kt_8_183 : mm_kt 8 183 = some (65536, 923) := by decide +kernel
theorem lt_7_252 : mm_lt 7 252 = some (1103515245, 565) := by decide +kernel
theorem lt_7_254 : mm_lt 7 254 = some (12345, 566) := by decide +kernel
theorem lt_7_256 : mm_lt 7 256 = some (2147483648, 567) := by decide +kernel
theorem lt_8_48 : mm_lt 8 48 = some (3, 842) := by decide +kernel
theorem lt_8_54 : mm_lt 8 54 = some (9999, 776) := by decide +kernel
theorem lt_8_148 : mm_lt 8 148 = some (4, 855) := by decide +kernel
theorem lt_8_174 : mm_lt 8 174 = some (999, 905) := by decide +kernel
theorem lt_8_177 : mm_lt 8 177 = some (1103515245, 920) := by decide +kernel
theorem lt_8_179 : mm_lt 8 179 = some (12345, 921) := by decide +kernel
theorem lt_8_181 : mm_lt 8 181 = some (2147483648, 922) := by decide +kernel
theorem lt_8_184 : mm_lt 8 184 = some (20, 915) := by decide +kernel
theorem lt_8_189 : mm_lt 8 189 = some (16, 932) := by decide +kernel
theorem lt_8_203 : mm_lt 8 203 = some (9, 949) := by decide +kernel
theorem mt_0_39 : mm_mt 0 39 = some (0, 47, 6, 620, 336, 337) := by decide +kernel
theorem mt_0_43 : mm_mt 0 43 = some (0, 48, 6, 621, 347, 348) := by decide +kernel
theorem mt_0_46 : mm_mt 0 46 = some (0, 1, 0, 622, 624, 17) := by decide +kernel
theorem mt_0_56 : mm_mt 0 56 = some (2, 78, 7, 626, 333, 0) := by decide +kernel
theorem mt_0_59 : mm_mt 0 59 = some (0, 3, 0, 631, 633, 18) := by decide +kernel
theorem mt_0_63 : mm_mt 0 63 = some (1, 142, 9, 635, 417, 0) := by decide +kernel
theorem mt_0_69 : mm_mt 0 69 = some (1, 141, 9, 636, 414, 0) := by decide +kernel
theorem mt_0_72 : mm_mt 0 72 = some (0, 4, 0, 637, 639, 19) := by decide +kernel
theorem mt_1_32 : mm_mt 1 32 = some (0, 6, 1, 600, 602, 14) := by decide +kernel
theorem mt_1_36 : mm_mt 1 36 = some (0, 7, 1, 604, 606, 15) := by decide +kernel
theorem mt_1_53 : mm_mt 1 53 = some (0, 8, 1, 608, 610, 16) := by decide +kernel
theorem mt_3_25 : mm_mt 3 25 = some (0, 34, 6, 510, 511, 512) := by decide +kernel
theorem mt_3_29 : mm_mt 3 29 = some (1, 142, 9, 517, 417, 0) := by decide +kernel
theorem mt_3_35 : mm_mt 3 35 = some (1, 140, 9, 589, 590, 0) := by decide +kernel
theorem mt_4_33 : mm_mt 4 33 = some (0, 13, 4, 403, 405, 7) := by decide +kernel
theorem mt_4_37 : mm_mt 4 37 = some (0, 47, 6, 407, 336, 337) := by decide +kernel
theorem mt_4_43 : mm_mt 4 43 = some (0, 48, 6, 408, 347, 348) := by decide +kernel
theorem mt_4_46 : mm_mt 4 46 = some (0, 14, 4, 409, 411, 8) := by decide +kernel
theorem mt_4_49 : mm_mt 4 49 = some (0, 15, 4, 419, 421, 9) := by decide +kernel
theorem mt_4_52 : mm_mt 4 52 = some (1, 141, 9, 413, 414, 0) := by decide +kernel
theorem mt_4_58 : mm_mt 4 58 = some (1, 142, 9, 416, 417, 0) := by decide +kernel
theorem mt_4_61 : mm_mt 4 61 = some (0, 17, 4, 427, 429, 10) := by decide +kernel
theorem mt_4_64 : mm_mt 4 64 = some (0, 16, 4, 443, 424, 425) := by decide +kernel
theorem mt_5_50 : mm_mt 5 50 = some (2, 78, 7, 332, 333, 0) := by decide +kernel
theorem mt_5_54 : mm_mt 5 54 = some (0, 47, 6, 335, 336, 337) := by decide +kernel
theorem mt_5_56 : mm_mt 5 56 = some (0, 48, 6, 346, 347, 348) := by decide +kernel
theorem mt_5_58 : mm_mt 5 58 = some (0, 22, 5, 350, 352, 1) := by decide +kernel
theorem mt_5_67 : mm_mt 5 67 = some (0, 24, 5, 358, 360, 3) := by decide +kernel
theorem mt_5_71 : mm_mt 5 71 = some (0, 23, 5, 354, 356, 2) := by decide +kernel
theorem mt_5_75 : mm_mt 5 75 = some (0, 27, 5, 366, 368, 4) := by decide +kernel
theorem mt_5_79 : mm_mt 5 79 = some (0, 30, 5, 374, 376, 5) := by decide +kernel
theorem mt_5_82 : mm_mt 5 82 = some (0, 26, 5, 386, 363, 364) := by decide +kernel
theorem mt_5_85 : mm_mt 5 85 = some (0, 33, 5, 391, 392, 393) := by decide +kernel
theorem mt_5_88 : mm_mt 5 88 = some (0, 25, 5, 395, 397, 6) := by decide +kernel
theorem mt_6_40 : mm_mt 6 40 = some (3, 0, 0, 514, 516, 515) := by decide +kernel
theorem mt_6_46 : mm_mt 6 46 = some (2, 77, 7, 339, 340, 0) := by decide +kernel
theorem mt_6_50 : mm_mt 6 50 = some (0, 36, 6, 504, 456, 457) := by decide +kernel
theorem mt_6_53 : mm_mt 6 53 = some (0, 37, 6, 522, 501, 502) := by decide +kernel
theorem mt_6_58 : mm_mt 6 58 = some (0, 39, 6, 524, 526, 12) := by decide +kernel
theorem mt_6_62 : mm_mt 6 62 = some (2, 75, 7, 342, 343, 0) := by decide +kernel
theorem mt_6_66 : mm_mt 6 66 = some (0, 47, 6, 467, 336, 337) := by decide +kernel
theorem mt_6_69 : mm_mt 6 69 = some (0, 48, 6, 468, 347, 348) := by decide +kernel
theorem mt_6_72 : mm_mt 6 72 = some (2, 78, 7, 345, 333, 0) := by decide +kernel
theorem mt_7_71 : mm_mt 7 71 = some (0, 72, 7, 324, 326, 0) := by decide +kernel
theorem mt_7_75 : mm_mt 7 75 = some (0, 28, 5, 370, 371, 372) := by decide +kernel
theorem mt_7_78 : mm_mt 7 78 = some (0, 29, 5, 378, 379, 380) := by decide +kernel
theorem mt_7_81 : mm_mt 7 81 = some (0, 21, 5, 328, 329, 330) := by decide +kernel
theorem mt_7_85 : mm_mt 7 85 = some (0, 31, 5, 382, 383, 384) := by decide +kernel
theorem mt_7_88 : mm_mt 7 88 = some (0, 32, 5, 387, 388, 389) := by decide +kernel
theorem mt_7_94 : mm_mt 7 94 = some (0, 12, 4, 399, 400, 401) := by decide +kernel
theorem mt_7_97 : mm_mt 7 97 = some (0, 16, 4, 423, 424, 425) := by decide +kernel
theorem mt_7_100 : mm_mt 7 100 = some (0, 18, 4, 431, 432, 433) := by decide +kernel
theorem mt_7_103 : mm_mt 7 103 = some (0, 19, 4, 435, 436, 437) := by decide +kernel
theorem mt_7_106 : mm_mt 7 106 = some (0, 20, 4, 439, 440, 441) := by decide +kernel
theorem mt_7_114 : mm_mt 7 114 = some (1, 75, 7, 449, 343, 0) := by decide +kernel
theorem mt_7_123 : mm_mt 7 123 = some (1, 77, 7, 451, 340, 0) := by decide +kernel
theorem mt_7_127 : mm_mt 7 127 = some (1, 78, 7, 452, 333, 0) := by decide +kernel
theorem mt_7_133 : mm_mt 7 133 = some (0, 47, 6, 453, 336, 337) := by decide +kernel
theorem mt_7_136 : mm_mt 7 136 = some (0, 48, 6, 454, 347, 348) := by decide +kernel
theorem mt_7_139 : mm_mt 7 139 = some (0, 36, 6, 455, 456, 457) := by decide +kernel
theorem mt_7_148 : mm_mt 7 148 = some (0, 46, 6, 463, 464, 465) := by decide +kernel
theorem mt_7_157 : mm_mt 7 157 = some (0, 45, 6, 473, 474, 475) := by decide +kernel
theorem mt_7_163 : mm_mt 7 163 = some (0, 44, 6, 481, 482, 483) := by decide +kernel
theorem mt_7_169 : mm_mt 7 169 = some (1, 76, 7, 489, 490, 0) := by decide +kernel
theorem mt_7_173 : mm_mt 7 173 = some (0, 73, 7, 496, 498, 11) := by decide +kernel
theorem mt_7_176 : mm_mt 7 176 = some (0, 9, 3, 506, 507, 508) := by decide +kernel
theorem mt_7_179 : mm_mt 7 179 = some (0, 41, 6, 536, 537, 538) := by decide +kernel
theorem mt_7_183 : mm_mt 7 183 = some (0, 42, 6, 544, 545, 546) := by decide +kernel
theorem mt_7_187 : mm_mt 7 187 = some (0, 74, 7, 561, 563, 13) := by decide +kernel
theorem mt_7_190 : mm_mt 7 190 = some (0, 38, 6, 518, 519, 520) := by decide +kernel
theorem mt_7_194 : mm_mt 7 194 = some (0, 35, 6, 573, 574, 575) := by decide +kernel
theorem mt_7_197 : mm_mt 7 197 = some (0, 43, 6, 577, 578, 579) := by decide +kernel
theorem mt_7_200 : mm_mt 7 200 = some (0, 10, 3, 585, 586, 587) := by decide +kernel
theorem mt_7_204 : mm_mt 7 204 = some (0, 5, 1, 596, 597, 598) := by decide +kernel
theorem mt_7_221 : mm_mt 7 221 = some (0, 0, 0, 616, 617, 618) := by decide +kernel
theorem mt_7_222 : mm_mt 7 222 = some (0, 2, 0, 627, 628, 629) := by decide +kernel
theorem mt_7_225 : mm_mt 7 225 = some (0, 33, 5, 645, 392, 393) := by decide +kernel
theorem mt_7_228 : mm_mt 7 228 = some (0, 11, 4, 650, 651, 652) := by decide +kernel
theorem mt_7_232 : mm_mt 7 232 = some (0, 34, 6, 667, 511, 512) := by decide +kernel
theorem mt_7_242 : mm_mt 7 242 = some (0, 40, 6, 672, 673, 674) := by decide +kernel
theorem mt_7_245 : mm_mt 7 245 = some (0, 26, 5, 362, 363, 364) := by decide +kernel
theorem mt_7_248 : mm_mt 7 248 = some (0, 37, 6, 500, 501, 502) := by decide +kernel
theorem mt_8_50 : mm_mt 8 50 = some (1, 79, 8, 758, 759, 0) := by decide +kernel
theorem mt_8_56 : mm_mt 8 56 = some (0, 85, 8, 750, 752, 23) := by decide +kernel
theorem mt_8_60 : mm_mt 8 60 = some (0, 86, 8, 754, 756, 24) := by decide +kernel
theorem mt_8_63 : mm_mt 8 63 = some (0, 88, 8, 746, 748, 22) := by decide +kernel
theorem mt_8_67 : mm_mt 8 67 = some (0, 89, 8, 742, 744, 21) := by decide +kernel
theorem mt_8_70 : mm_mt 8 70 = some (0, 90, 8, 738, 740, 20) := by decide +kernel
theorem mt_8_74 : mm_mt 8 74 = some (1, 82, 8, 773, 774, 0) := by decide +kernel
theorem mt_8_90 : mm_mt 8 90 = some (0, 94, 8, 785, 787, 30) := by decide +kernel
theorem mt_8_93 : mm_mt 8 93 = some (0, 95, 8, 781, 783, 29) := by decide +kernel
theorem mt_8_96 : mm_mt 8 96 = some (0, 96, 8, 793, 795, 32) := by decide +kernel
theorem mt_8_99 : mm_mt 8 99 = some (0, 91, 8, 761, 763, 25) := by decide +kernel
theorem mt_8_103 : mm_mt 8 103 = some (0, 92, 8, 765, 767, 26) := by decide +kernel
theorem mt_8_106 : mm_mt 8 106 = some (0, 93, 8, 769, 771, 27) := by decide +kernel
theorem mt_8_109 : mm_mt 8 109 = some (0, 98, 8, 777, 779, 28) := by decide +kernel
theorem mt_8_112 : mm_mt 8 112 = some (0, 97, 8, 789, 791, 31) := by decide +kernel
theorem mt_8_119 : mm_mt 8 119 = some (0, 100, 8, 810, 812, 35) := by decide +kernel
theorem mt_8_122 : mm_mt 8 122 = some (0, 83, 8, 802, 804, 33) := by decide +kernel
theorem mt_8_125 : mm_mt 8 125 = some (0, 101, 8, 806, 808, 34) := by decide +kernel
theorem mt_8_129 : mm_mt 8 129 = some (0, 87, 8, 831, 833, 39) := by decide +kernel
theorem mt_8_133 : mm_mt 8 133 = some (0, 103, 8, 827, 829, 38) := by decide +kernel
theorem mt_8_136 : mm_mt 8 136 = some (0, 84, 8, 819, 821, 36) := by decide +kernel
theorem mt_8_139 : mm_mt 8 139 = some (0, 104, 8, 823, 825, 37) := by decide +kernel
theorem mt_8_142 : mm_mt 8 142 = some (1, 81, 8, 839, 840, 0) := by decide +kernel
theorem mt_8_145 : mm_mt 8 145 = some (0, 106, 8, 843, 845, 40) := by decide +kernel
theorem mt_8_150 : mm_mt 8 150 = some (0, 80, 8, 869, 871, 43) := by decide +kernel
theorem mt_8_154 : mm_mt 8 154 = some (0, 112, 8, 877, 879, 45) := by decide +kernel
theorem mt_8_157 : mm_mt 8 157 = some (0, 111, 8, 860, 862, 41) := by decide +kernel
theorem mt_8_161 : mm_mt 8 161 = some (0, 110, 8, 865, 867, 42) := by decide +kernel
theorem mt_8_164 : mm_mt 8 164 = some (0, 113, 8, 873, 875, 44) := by decide +kernel
theorem mt_8_167 : mm_mt 8 167 = some (0, 116, 8, 889, 891, 46) := by decide +kernel
theorem mt_8_171 : mm_mt 8 171 = some (0, 117, 8, 897, 899, 47) := by decide +kernel
theorem mt_8_186 : mm_mt 8 186 = some (0, 122, 8, 916, 918, 48) := by decide +kernel
theorem mt_8_191 : mm_mt 8 191 = some (0, 126, 8, 937, 939, 49) := by decide +kernel
theorem mt_8_194 : mm_mt 8 194 = some (0, 127, 8, 941, 943, 50) := by decide +kernel
theorem mt_8_197 : mm_mt 8 197 = some (0, 129, 8, 958, 960, 53) := by decide +kernel
theorem mt_8_200 : mm_mt 8 200 = some (0, 130, 8, 954, 956, 52) := by decide +kernel
theorem mt_8_205 : mm_mt 8 205 = some (0, 131, 8, 950, 952, 51) := by decide +kernel
theorem mt_8_208 : mm_mt 8 208 = some (0, 132, 8, 962, 964, 54) := by decide +kernel
theorem mm_find {α : Type} {l : List α} {f : α → Bool} {P : α → Prop} (h : ∀ q ∈ l, P q) {q : α} (hq : l.find? f = some q) : P q := h q (List.mem_of_find?_eq_some hq)
theorem mm_all_of {α : Type} {l : List α} {f : α → Bool} (h : l.all f = true) : ∀ q ∈ l, f q = true := List.all_eq_true.mp h
/-- the words that every method has: those of the tables that hold in every state of the same tables -/
def mm_gt : List Cond := lw_tbl.filter goodWord
theorem mm_gw {i : Nat} {w : Cond} (h : lw_tbl[i]? = some w) (g : goodWord w = true) : w ∈ mm_gt := List.mem_filter.mpr ⟨List.mem_of_getElem? h, g⟩
def mm_w1 (i : Nat) (w : Cond) : Bool := decide (lw_tbl[i]? = some w) && goodWord w
theorem mm_w1_in {i : Nat} {w : Cond} (h : mm_w1 i w = true) : w ∈ mm_gt := by
  simp only [mm_w1, Bool.and_eq_true, decide_eq_true_eq] at h
  exact mm_gw h.1 h.2
def mm_fchk (q : Nat × Nat × Nat × Nat × Nat) : Bool := match vwCl[q.2.2.1]? with
  | some r => decide (q.2.2.2.1 < r.2.2) && mm_w1 q.2.2.2.2 (.fieldLink (mm_rn q.1) q.2.1 (r.2.1 q.2.2.2.1).1 (r.2.1 q.2.2.2.1).2.1 (r.2.1 q.2.2.2.1).2.2.1)
  | none => false
set_option maxRecDepth 100000 in
theorem mm_fl_ok : mm_fl.all mm_fchk = true := by decide +kernel
set_option maxRecDepth 100000 in
theorem mm_kl_ok : mm_kl.all (fun q => mm_w1 q.2.2.2 (.constant (mm_rn q.1) q.2.1 q.2.2.1)) = true := by decide +kernel
set_option maxRecDepth 100000 in
theorem mm_ll_ok : mm_ll.all (fun q => mm_w1 q.2.2.2 (.constantLong (mm_rn q.1) q.2.1 q.2.2.1)) = true := by decide +kernel
def mm_mchk (q : Nat × Nat × Nat × Nat × Nat × Nat × Nat × Nat) : Bool := match q with
  | (o, i, 0, m, c, a, b, d) => mm_w1 a (.methodLink (mm_rn o) i (mm_yn m)) && mm_w1 b (.instanceMethod (mm_yn m)) && mm_w1 d (.selects (mm_rn c) (mm_yn m) (mm_yn m)) && decide ((mm_yn m).cls = mm_rn c) && decide (c < 9)
  | (o, i, 1, m, _, a, b, _) => mm_w1 a (.methodLink (mm_rn o) i (mm_yn m)) && mm_w1 b (.static (mm_yn m))
  | (o, i, 2, m, _, a, b, _) => decide (lw_tbl[a]? = some (.methodLinkNest (mm_rn o) i (mm_yn m) "BoreSpans")) && mm_w1 b (.static (mm_yn m))
  | (o, i, 3, _, _, a, b, d) => mm_w1 a (.methodLink (mm_rn o) i arraycopyName) && mm_w1 b (.native arraycopyName) && mm_w1 d (.static arraycopyName)
  | _ => false
set_option maxRecDepth 100000 in
theorem mm_ml_ok : mm_ml.all mm_mchk = true := by decide +kernel
set_option maxRecDepth 20000 in
theorem mw_0 : lw_tbl[619]? = some (.code (mm_yn 0) (mm_cn 0) 4 (mm_rf 0)) := rfl
set_option maxRecDepth 20000 in
theorem mw_1 : lw_tbl[625]? = some (.code (mm_yn 1) (mm_cn 1) 5 (mm_rf 0)) := rfl
set_option maxRecDepth 20000 in
theorem mw_2 : lw_tbl[630]? = some (.code (mm_yn 2) (mm_cn 2) 4 (mm_rf 1)) := rfl
set_option maxRecDepth 20000 in
theorem mw_3 : lw_tbl[634]? = some (.code (mm_yn 3) (mm_cn 3) 10 (mm_rf 0)) := rfl
set_option maxRecDepth 20000 in
theorem mw_4 : lw_tbl[640]? = some (.code (mm_yn 4) (mm_cn 4) 6 (mm_rf 0)) := rfl
set_option maxRecDepth 20000 in
theorem mw_5 : lw_tbl[599]? = some (.code (mm_yn 5) (mm_cn 5) 3 (mm_rf 0)) := rfl
set_option maxRecDepth 20000 in
theorem mw_6 : lw_tbl[603]? = some (.code (mm_yn 6) (mm_cn 6) 8 (mm_rf 0)) := rfl
set_option maxRecDepth 20000 in
theorem mw_7 : lw_tbl[607]? = some (.code (mm_yn 7) (mm_cn 7) 4 (mm_rf 1)) := rfl
set_option maxRecDepth 20000 in
theorem mw_8 : lw_tbl[611]? = some (.code (mm_yn 8) (mm_cn 8) 6 (mm_rf 0)) := rfl
set_option maxRecDepth 20000 in
theorem mw_9 : lw_tbl[509]? = some (.code (mm_yn 9) (mm_cn 9) 2 (mm_rf 0)) := rfl
set_option maxRecDepth 20000 in
theorem mw_10 : lw_tbl[588]? = some (.code (mm_yn 10) (mm_cn 10) 3 (mm_rf 0)) := rfl
set_option maxRecDepth 20000 in
theorem mw_11 : lw_tbl[653]? = some (.code (mm_yn 11) (mm_cn 11) 3 (mm_rf 1)) := rfl
set_option maxRecDepth 20000 in
theorem mw_12 : lw_tbl[402]? = some (.code (mm_yn 12) (mm_cn 12) 3 (mm_rf 0)) := rfl
set_option maxRecDepth 20000 in
theorem mw_13 : lw_tbl[406]? = some (.code (mm_yn 13) (mm_cn 13) 3 (mm_rf 0)) := rfl
set_option maxRecDepth 20000 in
theorem mw_14 : lw_tbl[412]? = some (.code (mm_yn 14) (mm_cn 14) 4 (mm_rf 0)) := rfl
set_option maxRecDepth 20000 in
theorem mw_15 : lw_tbl[422]? = some (.code (mm_yn 15) (mm_cn 15) 6 (mm_rf 0)) := rfl
set_option maxRecDepth 20000 in
theorem mw_16 : lw_tbl[426]? = some (.code (mm_yn 16) (mm_cn 16) 1 (mm_rf 1)) := rfl
set_option maxRecDepth 20000 in
theorem mw_17 : lw_tbl[430]? = some (.code (mm_yn 17) (mm_cn 17) 5 (mm_rf 1)) := rfl
set_option maxRecDepth 20000 in
theorem mw_18 : lw_tbl[434]? = some (.code (mm_yn 18) (mm_cn 18) 3 (mm_rf 1)) := rfl
set_option maxRecDepth 20000 in
theorem mw_19 : lw_tbl[438]? = some (.code (mm_yn 19) (mm_cn 19) 3 (mm_rf 1)) := rfl
set_option maxRecDepth 20000 in
theorem mw_20 : lw_tbl[442]? = some (.code (mm_yn 20) (mm_cn 20) 8 (mm_rf 1)) := rfl
set_option maxRecDepth 20000 in
theorem mw_21 : lw_tbl[331]? = some (.code (mm_yn 21) (mm_cn 21) 4 (mm_rf 0)) := rfl
set_option maxRecDepth 20000 in
theorem mw_22 : lw_tbl[353]? = some (.code (mm_yn 22) (mm_cn 22) 5 (mm_rf 0)) := rfl
set_option maxRecDepth 20000 in
theorem mw_23 : lw_tbl[357]? = some (.code (mm_yn 23) (mm_cn 23) 3 (mm_rf 2)) := rfl
set_option maxRecDepth 20000 in
theorem mw_24 : lw_tbl[361]? = some (.code (mm_yn 24) (mm_cn 24) 3 (mm_rf 0)) := rfl
set_option maxRecDepth 20000 in
theorem mw_25 : lw_tbl[398]? = some (.code (mm_yn 25) (mm_cn 25) 3 (mm_rf 0)) := rfl
set_option maxRecDepth 20000 in
theorem mw_26 : lw_tbl[365]? = some (.code (mm_yn 26) (mm_cn 26) 6 (mm_rf 1)) := rfl
set_option maxRecDepth 20000 in
theorem mw_27 : lw_tbl[369]? = some (.code (mm_yn 27) (mm_cn 27) 5 (mm_rf 1)) := rfl
set_option maxRecDepth 20000 in
theorem mw_28 : lw_tbl[373]? = some (.code (mm_yn 28) (mm_cn 28) 3 (mm_rf 1)) := rfl
set_option maxRecDepth 20000 in
theorem mw_29 : lw_tbl[381]? = some (.code (mm_yn 29) (mm_cn 29) 3 (mm_rf 1)) := rfl
set_option maxRecDepth 20000 in
theorem mw_30 : lw_tbl[377]? = some (.code (mm_yn 30) (mm_cn 30) 2 (mm_rf 1)) := rfl
set_option maxRecDepth 20000 in
theorem mw_31 : lw_tbl[385]? = some (.code (mm_yn 31) (mm_cn 31) 4 (mm_rf 1)) := rfl
set_option maxRecDepth 20000 in
theorem mw_32 : lw_tbl[390]? = some (.code (mm_yn 32) (mm_cn 32) 5 (mm_rf 1)) := rfl
set_option maxRecDepth 20000 in
theorem mw_33 : lw_tbl[394]? = some (.code (mm_yn 33) (mm_cn 33) 3 (mm_rf 1)) := rfl
set_option maxRecDepth 20000 in
theorem mw_34 : lw_tbl[513]? = some (.code (mm_yn 34) (mm_cn 34) 2 (mm_rf 0)) := rfl
set_option maxRecDepth 20000 in
theorem mw_35 : lw_tbl[576]? = some (.code (mm_yn 35) (mm_cn 35) 1 (mm_rf 1)) := rfl
set_option maxRecDepth 20000 in
theorem mw_36 : lw_tbl[458]? = some (.code (mm_yn 36) (mm_cn 36) 3 (mm_rf 1)) := rfl
set_option maxRecDepth 20000 in
theorem mw_37 : lw_tbl[503]? = some (.code (mm_yn 37) (mm_cn 37) 3 (mm_rf 2)) := rfl
set_option maxRecDepth 20000 in
theorem mw_38 : lw_tbl[521]? = some (.code (mm_yn 38) (mm_cn 38) 2 (mm_rf 1)) := rfl
set_option maxRecDepth 20000 in
theorem mw_39 : lw_tbl[527]? = some (.code (mm_yn 39) (mm_cn 39) 3 (mm_rf 0)) := rfl
set_option maxRecDepth 20000 in
theorem mw_40 : lw_tbl[675]? = some (.code (mm_yn 40) (mm_cn 40) 2 (mm_rf 0)) := rfl
set_option maxRecDepth 20000 in
theorem mw_41 : lw_tbl[539]? = some (.code (mm_yn 41) (mm_cn 41) 3 (mm_rf 0)) := rfl
set_option maxRecDepth 20000 in
theorem mw_42 : lw_tbl[547]? = some (.code (mm_yn 42) (mm_cn 42) 3 (mm_rf 0)) := rfl
set_option maxRecDepth 20000 in
theorem mw_43 : lw_tbl[580]? = some (.code (mm_yn 43) (mm_cn 43) 1 (mm_rf 0)) := rfl
set_option maxRecDepth 20000 in
theorem mw_44 : lw_tbl[484]? = some (.code (mm_yn 44) (mm_cn 44) 4 (mm_rf 1)) := rfl
set_option maxRecDepth 20000 in
theorem mw_45 : lw_tbl[476]? = some (.code (mm_yn 45) (mm_cn 45) 4 (mm_rf 1)) := rfl
set_option maxRecDepth 20000 in
theorem mw_46 : lw_tbl[466]? = some (.code (mm_yn 46) (mm_cn 46) 4 (mm_rf 1)) := rfl
set_option maxRecDepth 20000 in
theorem mw_47 : lw_tbl[338]? = some (.code (mm_yn 47) (mm_cn 47) 3 (mm_rf 1)) := rfl
set_option maxRecDepth 20000 in
theorem mw_48 : lw_tbl[349]? = some (.code (mm_yn 48) (mm_cn 48) 3 (mm_rf 1)) := rfl
set_option maxRecDepth 20000 in
theorem mw_49 : lw_tbl[323]? = some (.code (mm_yn 49) (mm_cn 49) 2 (mm_rf 1)) := rfl
set_option maxRecDepth 20000 in
theorem mw_50 : lw_tbl[448]? = some (.code (mm_yn 50) (mm_cn 50) 3 (mm_rf 1)) := rfl
set_option maxRecDepth 20000 in
theorem mw_51 : lw_tbl[462]? = some (.code (mm_yn 51) (mm_cn 51) 3 (mm_rf 1)) := rfl
set_option maxRecDepth 20000 in
theorem mw_52 : lw_tbl[472]? = some (.code (mm_yn 52) (mm_cn 52) 3 (mm_rf 1)) := rfl
set_option maxRecDepth 20000 in
theorem mw_53 : lw_tbl[480]? = some (.code (mm_yn 53) (mm_cn 53) 3 (mm_rf 1)) := rfl
set_option maxRecDepth 20000 in
theorem mw_54 : lw_tbl[488]? = some (.code (mm_yn 54) (mm_cn 54) 3 (mm_rf 1)) := rfl
set_option maxRecDepth 20000 in
theorem mw_55 : lw_tbl[495]? = some (.code (mm_yn 55) (mm_cn 55) 3 (mm_rf 1)) := rfl
set_option maxRecDepth 20000 in
theorem mw_56 : lw_tbl[531]? = some (.code (mm_yn 56) (mm_cn 56) 2 (mm_rf 1)) := rfl
set_option maxRecDepth 20000 in
theorem mw_57 : lw_tbl[535]? = some (.code (mm_yn 57) (mm_cn 57) 3 (mm_rf 1)) := rfl
set_option maxRecDepth 20000 in
theorem mw_58 : lw_tbl[543]? = some (.code (mm_yn 58) (mm_cn 58) 3 (mm_rf 1)) := rfl
set_option maxRecDepth 20000 in
theorem mw_59 : lw_tbl[551]? = some (.code (mm_yn 59) (mm_cn 59) 4 (mm_rf 1)) := rfl
set_option maxRecDepth 20000 in
theorem mw_60 : lw_tbl[555]? = some (.code (mm_yn 60) (mm_cn 60) 3 (mm_rf 1)) := rfl
set_option maxRecDepth 20000 in
theorem mw_61 : lw_tbl[560]? = some (.code (mm_yn 61) (mm_cn 61) 6 (mm_rf 1)) := rfl
set_option maxRecDepth 20000 in
theorem mw_62 : lw_tbl[572]? = some (.code (mm_yn 62) (mm_cn 62) 2 (mm_rf 1)) := rfl
set_option maxRecDepth 20000 in
theorem mw_63 : lw_tbl[584]? = some (.code (mm_yn 63) (mm_cn 63) 2 (mm_rf 1)) := rfl
set_option maxRecDepth 20000 in
theorem mw_64 : lw_tbl[595]? = some (.code (mm_yn 64) (mm_cn 64) 2 (mm_rf 1)) := rfl
set_option maxRecDepth 20000 in
theorem mw_65 : lw_tbl[615]? = some (.code (mm_yn 65) (mm_cn 65) 2 (mm_rf 1)) := rfl
set_option maxRecDepth 20000 in
theorem mw_66 : lw_tbl[644]? = some (.code (mm_yn 66) (mm_cn 66) 2 (mm_rf 1)) := rfl
set_option maxRecDepth 20000 in
theorem mw_67 : lw_tbl[649]? = some (.code (mm_yn 67) (mm_cn 67) 4 (mm_rf 1)) := rfl
set_option maxRecDepth 20000 in
theorem mw_68 : lw_tbl[658]? = some (.code (mm_yn 68) (mm_cn 68) 2 (mm_rf 1)) := rfl
set_option maxRecDepth 20000 in
theorem mw_69 : lw_tbl[662]? = some (.code (mm_yn 69) (mm_cn 69) 3 (mm_rf 1)) := rfl
set_option maxRecDepth 20000 in
theorem mw_70 : lw_tbl[666]? = some (.code (mm_yn 70) (mm_cn 70) 2 (mm_rf 1)) := rfl
set_option maxRecDepth 20000 in
theorem mw_71 : lw_tbl[671]? = some (.code (mm_yn 71) (mm_cn 71) 2 (mm_rf 1)) := rfl
set_option maxRecDepth 20000 in
theorem mw_72 : lw_tbl[327]? = some (.code (mm_yn 72) (mm_cn 72) 1 (mm_rf 1)) := rfl
set_option maxRecDepth 20000 in
theorem mw_73 : lw_tbl[499]? = some (.code (mm_yn 73) (mm_cn 73) 2 (mm_rf 1)) := rfl
set_option maxRecDepth 20000 in
theorem mw_74 : lw_tbl[564]? = some (.code (mm_yn 74) (mm_cn 74) 2 (mm_rf 1)) := rfl
set_option maxRecDepth 20000 in
theorem mw_75 : lw_tbl[344]? = some (.code (mm_yn 75) (mm_cn 75) 2 (mm_rf 2)) := rfl
set_option maxRecDepth 20000 in
theorem mw_76 : lw_tbl[491]? = some (.code (mm_yn 76) (mm_cn 76) 2 (mm_rf 1)) := rfl
set_option maxRecDepth 20000 in
theorem mw_77 : lw_tbl[341]? = some (.code (mm_yn 77) (mm_cn 77) 1 (mm_rf 1)) := rfl
set_option maxRecDepth 20000 in
theorem mw_78 : lw_tbl[334]? = some (.code (mm_yn 78) (mm_cn 78) 1 (mm_rf 1)) := rfl
set_option maxRecDepth 20000 in
theorem mw_79 : lw_tbl[760]? = some (.code (mm_yn 79) (mm_cn 79) 6 (mm_rf 2)) := rfl
set_option maxRecDepth 20000 in
theorem mw_80 : lw_tbl[872]? = some (.code (mm_yn 80) (mm_cn 80) 4 (mm_rf 0)) := rfl
set_option maxRecDepth 20000 in
theorem mw_81 : lw_tbl[841]? = some (.code (mm_yn 81) (mm_cn 81) 1 (mm_rf 2)) := rfl
set_option maxRecDepth 20000 in
theorem mw_82 : lw_tbl[775]? = some (.code (mm_yn 82) (mm_cn 82) 1 (mm_rf 2)) := rfl
set_option maxRecDepth 20000 in
theorem mw_83 : lw_tbl[805]? = some (.code (mm_yn 83) (mm_cn 83) 2 (mm_rf 2)) := rfl
set_option maxRecDepth 20000 in
theorem mw_84 : lw_tbl[822]? = some (.code (mm_yn 84) (mm_cn 84) 2 (mm_rf 2)) := rfl
set_option maxRecDepth 20000 in
theorem mw_85 : lw_tbl[753]? = some (.code (mm_yn 85) (mm_cn 85) 2 (mm_rf 1)) := rfl
set_option maxRecDepth 20000 in
theorem mw_86 : lw_tbl[757]? = some (.code (mm_yn 86) (mm_cn 86) 2 (mm_rf 1)) := rfl
set_option maxRecDepth 20000 in
theorem mw_87 : lw_tbl[834]? = some (.code (mm_yn 87) (mm_cn 87) 3 (mm_rf 2)) := rfl
set_option maxRecDepth 20000 in
theorem mw_88 : lw_tbl[749]? = some (.code (mm_yn 88) (mm_cn 88) 6 (mm_rf 1)) := rfl
set_option maxRecDepth 20000 in
theorem mw_89 : lw_tbl[745]? = some (.code (mm_yn 89) (mm_cn 89) 11 (mm_rf 1)) := rfl
set_option maxRecDepth 20000 in
theorem mw_90 : lw_tbl[741]? = some (.code (mm_yn 90) (mm_cn 90) 1 (mm_rf 1)) := rfl
set_option maxRecDepth 20000 in
theorem mw_91 : lw_tbl[764]? = some (.code (mm_yn 91) (mm_cn 91) 6 (mm_rf 1)) := rfl
set_option maxRecDepth 20000 in
theorem mw_92 : lw_tbl[768]? = some (.code (mm_yn 92) (mm_cn 92) 4 (mm_rf 1)) := rfl
set_option maxRecDepth 20000 in
theorem mw_93 : lw_tbl[772]? = some (.code (mm_yn 93) (mm_cn 93) 6 (mm_rf 1)) := rfl
set_option maxRecDepth 20000 in
theorem mw_94 : lw_tbl[788]? = some (.code (mm_yn 94) (mm_cn 94) 5 (mm_rf 2)) := rfl
set_option maxRecDepth 20000 in
theorem mw_95 : lw_tbl[784]? = some (.code (mm_yn 95) (mm_cn 95) 3 (mm_rf 0)) := rfl
set_option maxRecDepth 20000 in
theorem mw_96 : lw_tbl[796]? = some (.code (mm_yn 96) (mm_cn 96) 4 (mm_rf 1)) := rfl
set_option maxRecDepth 20000 in
theorem mw_97 : lw_tbl[792]? = some (.code (mm_yn 97) (mm_cn 97) 6 (mm_rf 1)) := rfl
set_option maxRecDepth 20000 in
theorem mw_98 : lw_tbl[780]? = some (.code (mm_yn 98) (mm_cn 98) 2 (mm_rf 1)) := rfl
set_option maxRecDepth 20000 in
theorem mw_99 : lw_tbl[737]? = some (.code (mm_yn 99) (mm_cn 99) 2 (mm_rf 1)) := rfl
set_option maxRecDepth 20000 in
theorem mw_100 : lw_tbl[813]? = some (.code (mm_yn 100) (mm_cn 100) 4 (mm_rf 1)) := rfl
set_option maxRecDepth 20000 in
theorem mw_101 : lw_tbl[809]? = some (.code (mm_yn 101) (mm_cn 101) 4 (mm_rf 1)) := rfl
set_option maxRecDepth 20000 in
theorem mw_102 : lw_tbl[801]? = some (.code (mm_yn 102) (mm_cn 102) 3 (mm_rf 1)) := rfl
set_option maxRecDepth 20000 in
theorem mw_103 : lw_tbl[830]? = some (.code (mm_yn 103) (mm_cn 103) 4 (mm_rf 1)) := rfl
set_option maxRecDepth 20000 in
theorem mw_104 : lw_tbl[826]? = some (.code (mm_yn 104) (mm_cn 104) 4 (mm_rf 1)) := rfl
set_option maxRecDepth 20000 in
theorem mw_105 : lw_tbl[818]? = some (.code (mm_yn 105) (mm_cn 105) 3 (mm_rf 1)) := rfl
set_option maxRecDepth 20000 in
theorem mw_106 : lw_tbl[846]? = some (.code (mm_yn 106) (mm_cn 106) 4 (mm_rf 1)) := rfl
set_option maxRecDepth 20000 in
theorem mw_107 : lw_tbl[838]? = some (.code (mm_yn 107) (mm_cn 107) 3 (mm_rf 1)) := rfl
set_option maxRecDepth 20000 in
theorem mw_108 : lw_tbl[850]? = some (.code (mm_yn 108) (mm_cn 108) 3 (mm_rf 1)) := rfl
set_option maxRecDepth 20000 in
theorem mw_109 : lw_tbl[854]? = some (.code (mm_yn 109) (mm_cn 109) 3 (mm_rf 1)) := rfl
set_option maxRecDepth 20000 in
theorem mw_110 : lw_tbl[868]? = some (.code (mm_yn 110) (mm_cn 110) 2 (mm_rf 0)) := rfl
set_option maxRecDepth 20000 in
theorem mw_111 : lw_tbl[863]? = some (.code (mm_yn 111) (mm_cn 111) 3 (mm_rf 2)) := rfl
set_option maxRecDepth 20000 in
theorem mw_112 : lw_tbl[880]? = some (.code (mm_yn 112) (mm_cn 112) 4 (mm_rf 0)) := rfl
set_option maxRecDepth 20000 in
theorem mw_113 : lw_tbl[876]? = some (.code (mm_yn 113) (mm_cn 113) 3 (mm_rf 0)) := rfl
set_option maxRecDepth 20000 in
theorem mw_114 : lw_tbl[859]? = some (.code (mm_yn 114) (mm_cn 114) 3 (mm_rf 1)) := rfl
set_option maxRecDepth 20000 in
theorem mw_115 : lw_tbl[884]? = some (.code (mm_yn 115) (mm_cn 115) 2 (mm_rf 1)) := rfl
set_option maxRecDepth 20000 in
theorem mw_116 : lw_tbl[892]? = some (.code (mm_yn 116) (mm_cn 116) 3 (mm_rf 0)) := rfl
set_option maxRecDepth 20000 in
theorem mw_117 : lw_tbl[900]? = some (.code (mm_yn 117) (mm_cn 117) 3 (mm_rf 0)) := rfl
set_option maxRecDepth 20000 in
theorem mw_118 : lw_tbl[888]? = some (.code (mm_yn 118) (mm_cn 118) 3 (mm_rf 1)) := rfl
set_option maxRecDepth 20000 in
theorem mw_119 : lw_tbl[896]? = some (.code (mm_yn 119) (mm_cn 119) 3 (mm_rf 1)) := rfl
set_option maxRecDepth 20000 in
theorem mw_120 : lw_tbl[904]? = some (.code (mm_yn 120) (mm_cn 120) 4 (mm_rf 1)) := rfl
set_option maxRecDepth 20000 in
theorem mw_121 : lw_tbl[909]? = some (.code (mm_yn 121) (mm_cn 121) 3 (mm_rf 1)) := rfl
set_option maxRecDepth 20000 in
theorem mw_122 : lw_tbl[919]? = some (.code (mm_yn 122) (mm_cn 122) 2 (mm_rf 1)) := rfl
set_option maxRecDepth 20000 in
theorem mw_123 : lw_tbl[914]? = some (.code (mm_yn 123) (mm_cn 123) 6 (mm_rf 1)) := rfl
set_option maxRecDepth 20000 in
theorem mw_124 : lw_tbl[927]? = some (.code (mm_yn 124) (mm_cn 124) 2 (mm_rf 1)) := rfl
set_option maxRecDepth 20000 in
theorem mw_125 : lw_tbl[931]? = some (.code (mm_yn 125) (mm_cn 125) 2 (mm_rf 1)) := rfl
set_option maxRecDepth 20000 in
theorem mw_126 : lw_tbl[940]? = some (.code (mm_yn 126) (mm_cn 126) 5 (mm_rf 1)) := rfl
set_option maxRecDepth 20000 in
theorem mw_127 : lw_tbl[944]? = some (.code (mm_yn 127) (mm_cn 127) 5 (mm_rf 1)) := rfl
set_option maxRecDepth 20000 in
theorem mw_128 : lw_tbl[936]? = some (.code (mm_yn 128) (mm_cn 128) 11 (mm_rf 1)) := rfl
set_option maxRecDepth 20000 in
theorem mw_129 : lw_tbl[961]? = some (.code (mm_yn 129) (mm_cn 129) 2 (mm_rf 1)) := rfl
set_option maxRecDepth 20000 in
theorem mw_130 : lw_tbl[957]? = some (.code (mm_yn 130) (mm_cn 130) 3 (mm_rf 2)) := rfl
set_option maxRecDepth 20000 in
theorem mw_131 : lw_tbl[953]? = some (.code (mm_yn 131) (mm_cn 131) 5 (mm_rf 1)) := rfl
set_option maxRecDepth 20000 in
theorem mw_132 : lw_tbl[965]? = some (.code (mm_yn 132) (mm_cn 132) 8 (mm_rf 2)) := rfl
set_option maxRecDepth 20000 in
theorem mw_133 : lw_tbl[948]? = some (.code (mm_yn 133) (mm_cn 133) 11 (mm_rf 1)) := rfl
set_option maxRecDepth 20000 in
theorem mw_134 : lw_tbl[969]? = some (.code (mm_yn 134) (mm_cn 134) 2 (mm_rf 1)) := rfl
set_option maxRecDepth 20000 in
theorem mw_135 : lw_tbl[973]? = some (.code (mm_yn 135) (mm_cn 135) 4 (mm_rf 1)) := rfl
set_option maxRecDepth 20000 in
theorem mw_136 : lw_tbl[977]? = some (.code (mm_yn 136) (mm_cn 136) 2 (mm_rf 1)) := rfl
set_option maxRecDepth 20000 in
theorem mw_137 : lw_tbl[981]? = some (.code (mm_yn 137) (mm_cn 137) 3 (mm_rf 1)) := rfl
set_option maxRecDepth 20000 in
theorem mw_138 : lw_tbl[985]? = some (.code (mm_yn 138) (mm_cn 138) 2 (mm_rf 1)) := rfl
set_option maxRecDepth 20000 in
theorem mw_139 : lw_tbl[989]? = some (.code (mm_yn 139) (mm_cn 139) 3 (mm_rf 1)) := rfl
set_option maxRecDepth 20000 in
theorem mw_140 : lw_tbl[591]? = some (.code (mm_yn 140) (mm_cn 140) 3 (mm_rf 1)) := rfl
set_option maxRecDepth 20000 in
theorem mw_141 : lw_tbl[415]? = some (.code (mm_yn 141) (mm_cn 141) 2 (mm_rf 1)) := rfl
set_option maxRecDepth 20000 in
theorem mw_142 : lw_tbl[418]? = some (.code (mm_yn 142) (mm_cn 142) 2 (mm_rf 1)) := rfl
theorem mm_cw : ∀ id, id < 143 → Cond.code (mm_yn id) (mm_cn id) (mm_qn id).1 (mm_rf (mm_qn id).2.1) ∈ mm_gt := by
  intro id hid
  match id, hid with
  | 0, _ => exact mm_gw mw_0 rfl
  | 1, _ => exact mm_gw mw_1 rfl
  | 2, _ => exact mm_gw mw_2 rfl
  | 3, _ => exact mm_gw mw_3 rfl
  | 4, _ => exact mm_gw mw_4 rfl
  | 5, _ => exact mm_gw mw_5 rfl
  | 6, _ => exact mm_gw mw_6 rfl
  | 7, _ => exact mm_gw mw_7 rfl
  | 8, _ => exact mm_gw mw_8 rfl
  | 9, _ => exact mm_gw mw_9 rfl
  | 10, _ => exact mm_gw mw_10 rfl
  | 11, _ => exact mm_gw mw_11 rfl
  | 12, _ => exact mm_gw mw_12 rfl
  | 13, _ => exact mm_gw mw_13 rfl
  | 14, _ => exact mm_gw mw_14 rfl
  | 15, _ => exact mm_gw mw_15 rfl
  | 16, _ => exact mm_gw mw_16 rfl
  | 17, _ => exact mm_gw mw_17 rfl
  | 18, _ => exact mm_gw mw_18 rfl
  | 19, _ => exact mm_gw mw_19 rfl
  | 20, _ => exact mm_gw mw_20 rfl
  | 21, _ => exact mm_gw mw_21 rfl
  | 22, _ => exact mm_gw mw_22 rfl
  | 23, _ => exact mm_gw mw_23 rfl
  | 24, _ => exact mm_gw mw_24 rfl
  | 25, _ => exact mm_gw mw_25 rfl
  | 26, _ => exact mm_gw mw_26 rfl
  | 27, _ => exact mm_gw mw_27 rfl
  | 28, _ => exact mm_gw mw_28 rfl
  | 29, _ => exact mm_gw mw_29 rfl
  | 30, _ => exact mm_gw mw_30 rfl
  | 31, _ => exact mm_gw mw_31 rfl
  | 32, _ => exact mm_gw mw_32 rfl
  | 33, _ => exact mm_gw mw_33 rfl
  | 34, _ => exact mm_gw mw_34 rfl
  | 35, _ => exact mm_gw mw_35 rfl
  | 36, _ => exact mm_gw mw_36 rfl
  | 37, _ => exact mm_gw mw_37 rfl
  | 38, _ => exact mm_gw mw_38 rfl
  | 39, _ => exact mm_gw mw_39 rfl
  | 40, _ => exact mm_gw mw_40 rfl
  | 41, _ => exact mm_gw mw_41 rfl
  | 42, _ => exact mm_gw mw_42 rfl
  | 43, _ => exact mm_gw mw_43 rfl
  | 44, _ => exact mm_gw mw_44 rfl
  | 45, _ => exact mm_gw mw_45 rfl
  | 46, _ => exact mm_gw mw_46 rfl
  | 47, _ => exact mm_gw mw_47 rfl
  | 48, _ => exact mm_gw mw_48 rfl
  | 49, _ => exact mm_gw mw_49 rfl
  | 50, _ => exact mm_gw mw_50 rfl
  | 51, _ => exact mm_gw mw_51 rfl
  | 52, _ => exact mm_gw mw_52 rfl
  | 53, _ => exact mm_gw mw_53 rfl
  | 54, _ => exact mm_gw mw_54 rfl
  | 55, _ => exact mm_gw mw_55 rfl
  | 56, _ => exact mm_gw mw_56 rfl
  | 57, _ => exact mm_gw mw_57 rfl
  | 58, _ => exact mm_gw mw_58 rfl
  | 59, _ => exact mm_gw mw_59 rfl
  | 60, _ => exact mm_gw mw_60 rfl
  | 61, _ => exact mm_gw mw_61 rfl
  | 62, _ => exact mm_gw mw_62 rfl
  | 63, _ => exact mm_gw mw_63 rfl
  | 64, _ => exact mm_gw mw_64 rfl
  | 65, _ => exact mm_gw mw_65 rfl
  | 66, _ => exact mm_gw mw_66 rfl
  | 67, _ => exact mm_gw mw_67 rfl
  | 68, _ => exact mm_gw mw_68 rfl
  | 69, _ => exact mm_gw mw_69 rfl
  | 70, _ => exact mm_gw mw_70 rfl
  | 71, _ => exact mm_gw mw_71 rfl
  | 72, _ => exact mm_gw mw_72 rfl
  | 73, _ => exact mm_gw mw_73 rfl
  | 74, _ => exact mm_gw mw_74 rfl
  | 75, _ => exact mm_gw mw_75 rfl
  | 76, _ => exact mm_gw mw_76 rfl
  | 77, _ => exact mm_gw mw_77 rfl
  | 78, _ => exact mm_gw mw_78 rfl
  | 79, _ => exact mm_gw mw_79 rfl
  | 80, _ => exact mm_gw mw_80 rfl
  | 81, _ => exact mm_gw mw_81 rfl
  | 82, _ => exact mm_gw mw_82 rfl
  | 83, _ => exact mm_gw mw_83 rfl
  | 84, _ => exact mm_gw mw_84 rfl
  | 85, _ => exact mm_gw mw_85 rfl
  | 86, _ => exact mm_gw mw_86 rfl
  | 87, _ => exact mm_gw mw_87 rfl
  | 88, _ => exact mm_gw mw_88 rfl
  | 89, _ => exact mm_gw mw_89 rfl
  | 90, _ => exact mm_gw mw_90 rfl
  | 91, _ => exact mm_gw mw_91 rfl
  | 92, _ => exact mm_gw mw_92 rfl
  | 93, _ => exact mm_gw mw_93 rfl
  | 94, _ => exact mm_gw mw_94 rfl
  | 95, _ => exact mm_gw mw_95 rfl
  | 96, _ => exact mm_gw mw_96 rfl
  | 97, _ => exact mm_gw mw_97 rfl
  | 98, _ => exact mm_gw mw_98 rfl
  | 99, _ => exact mm_gw mw_99 rfl
  | 100, _ => exact mm_gw mw_100 rfl
  | 101, _ => exact mm_gw mw_101 rfl
  | 102, _ => exact mm_gw mw_102 rfl
  | 103, _ => exact mm_gw mw_103 rfl
  | 104, _ => exact mm_gw mw_104 rfl
  | 105, _ => exact mm_gw mw_105 rfl
  | 106, _ => exact mm_gw mw_106 rfl
  | 107, _ => exact mm_gw mw_107 rfl
  | 108, _ => exact mm_gw mw_108 rfl
  | 109, _ => exact mm_gw mw_109 rfl
  | 110, _ => exact mm_gw mw_110 rfl
  | 111, _ => exact mm_gw mw_111 rfl
  | 112, _ => exact mm_gw mw_112 rfl
  | 113, _ => exact mm_gw mw_113 rfl
  | 114, _ => exact mm_gw mw_114 rfl
  | 115, _ => exact mm_gw mw_115 rfl
  | 116, _ => exact mm_gw mw_116 rfl
  | 117, _ => exact mm_gw mw_117 rfl
  | 118, _ => exact mm_gw mw_118 rfl
  | 119, _ => exact mm_gw mw_119 rfl
  | 120, _ => exact mm_gw mw_120 rfl
  | 121, _ => exact mm_gw mw_121 rfl
  | 122, _ => exact mm_gw mw_122 rfl
  | 123, _ => exact mm_gw mw_123 rfl
  | 124, _ => exact mm_gw mw_124 rfl
  | 125, _ => exact mm_gw mw_125 rfl
  | 126, _ => exact mm_gw mw_126 rfl
  | 127, _ => exact mm_gw mw_127 rfl
  | 128, _ => exact mm_gw mw_128 rfl
  | 129, _ => exact mm_gw mw_129 rfl
  | 130, _ => exact mm_gw mw_130 rfl
  | 131, _ => exact mm_gw mw_131 rfl
  | 132, _ => exact mm_gw mw_132 rfl
  | 133, _ => exact mm_gw mw_133 rfl
  | 134, _ => exact mm_gw mw_134 rfl
  | 135, _ => exact mm_gw mw_135 rfl
  | 136, _ => exact mm_gw mw_136 rfl
  | 137, _ => exact mm_gw mw_137 rfl
  | 138, _ => exact mm_gw mw_138 rfl
  | 139, _ => exact mm_gw mw_139 rfl
  | 140, _ => exact mm_gw mw_140 rfl
  | 141, _ => exact mm_gw mw_141 rfl
  | 142, _ => exact mm_gw mw_142 rfl
  | k + 143, h => exact absurd h (by omega)
theorem mm_sysini : Cond.initialized "java/lang/System" ∈ mm_gt := mm_w1_in (i := 66) (by decide +kernel)
