def RRc : Nat → String := fun k => match k with
  | 0 => RX0
  | 1 => RX1
  | 2 => RX2
  | 3 => RX3
  | 4 => RX4
  | 5 => RX5
  | 6 => RX6
  | 7 => RX7
  | 8 => RX8
  | 9 => RX9
  | 10 => RX10
  | 11 => RX11
  | 12 => RJ0
  | 13 => RJ1
  | 14 => RJ3
  | _ => RL
def TTc : Nat → u_T := fun k => match k with
  | 0 => TX0
  | 1 => TX1
  | 2 => TX2
  | 3 => TX3
  | 4 => TX4
  | 5 => TX5
  | 6 => TX6
  | 7 => TX7
  | 8 => TX8
  | 9 => TX9
  | 10 => TX10
  | _ => TX11
def TYc : Nat → (Nat → FieldType) := fun k => match k with
  | 0 => tyX0
  | 1 => tyX1
  | 2 => tyX2
  | 3 => tyX3
  | 4 => tyX4
  | 5 => tyX5
  | 6 => tyX6
  | 7 => tyX7
  | 8 => tyX8
  | 9 => tyX9
  | 10 => tyX10
  | _ => tyX11
def NFc : Nat → Nat := fun k => match k with
  | 0 => 2
  | 1 => 8
  | 2 => 14
  | 3 => 2
  | 4 => 5
  | 5 => 10
  | 6 => 3
  | 7 => 3
  | 8 => 5
  | 9 => 7
  | 10 => 7
  | _ => 54
theorem c_nm : ∀ t, t < 12 → ∀ a, a < NFc t → ∀ b, b < NFc t → a ≠ b → (TTc t a).2.1 ≠ (TTc t b).2.1 := fun t ht => match t, ht with
  | 0, _ => nmX0
  | 1, _ => nmX1
  | 2, _ => nmX2
  | 3, _ => nmX3
  | 4, _ => nmX4
  | 5, _ => nmX5
  | 6, _ => nmX6
  | 7, _ => nmX7
  | 8, _ => nmX8
  | 9, _ => nmX9
  | 10, _ => nmX10
  | 11, _ => nmX11
  | n + 12, h => absurd h (by omega)
theorem c_ty : ∀ t, t < 12 → ∀ k, k < NFc t → parseFieldDescriptor (TTc t k).2.2.1 = some (TYc t k) := fun t ht => match t, ht with
  | 0, _ => tyX0_ok
  | 1, _ => tyX1_ok
  | 2, _ => tyX2_ok
  | 3, _ => tyX3_ok
  | 4, _ => tyX4_ok
  | 5, _ => tyX5_ok
  | 6, _ => tyX6_ok
  | 7, _ => tyX7_ok
  | 8, _ => tyX8_ok
  | 9, _ => tyX9_ok
  | 10, _ => tyX10_ok
  | 11, _ => tyX11_ok
  | n + 12, h => absurd h (by omega)
theorem c_dc : ∀ t, t < 12 → ∀ k, k < NFc t → (TTc t k).1 = RRc t := by decide +kernel
def mYs : List MethodName := [yX0_init, yX0_isName, yX0_orderTo, yX1_init, yX1_read, yX1_addPart, yX1_kindOf, yX1_kindOfMinus, yX1_readOperand, yX1_readKind, yX1_readNumber, yX2_init, yX2_begin, yX2_search, yX2_visit, yX2_visitBelow, yX2_ask, yX2_isTrue, yX2_compares, yX2_printPath, yX3_init, yX3_matches, yX3_fromLeastOn, yX3_closing, yX3_isInSet, yX4_init, yX4_charactersIn, yX4_add, yX4_split, yX4_start, yX4_end, yX4_wordLength, yX4_letter, yX4_is, yX4_beginsWithPath, yX4_lastStepEnd, yX4_lastStepStart, yX4_lastStep, yX5_init, yX5_entry, yX5_insert, yX5_remove, yX6_init, yX6_writeLine, yX6_beginAtBack, yX6_putInFront, yX6_moveToFront, yX7_init, yX7_at, yX7_isDirectory, yX7_add, yX7_join, yX7_part, yX8_init, yX8_begin, yX8_clearLevel, yX8_isOpen, yX8_value, yX8_join, yX8_turn, yX8_nextAnd, yX8_enter, yX8_leave, yX9_init, yX9_along, yX9_putInFront, yX9_takeStep, yX9_dotsAlone, yX9_follow, yX10_init, yX10_type, yX10_erase, yX10_make, yX10_link, yX10_tie, yX10_drop, yX10_bits, yX10_go, yX10_node, yX10_real, yX10_find, yX10_place, yX10_output, yX10_tell, yX10_count, yX10_isOutOfBounds, yX10_nodeOfWord, yX10_newPlace, yX10_settle, yX10_lookUpNewer, yX11_init, yX11_thrown, yX11_refused, yX11_put, yX11_type, yX11_erase, yX11_cut, yX11_wordSize, yX11_isWord, yX11_isSign, yX11_isName, yX11_compare, yX11_nameAt, yX11_addName, yX11_removeName, yX11_layWay, yX11_layText, yX11_walk, yX11_walkWord, yX11_newPlace, yX11_freeNode, yX11_makeNode, yX11_isIn, yX11_make, yX11_link, yX11_tie, yX11_drop, yX11_bits, yX11_go, yX11_node, yX11_entryOf, yX11_real, yX11_write, yX11_testOf, yX11_same, yX11_isNumber, yX11_addPart, yX11_parse, yX11_mayFollow, yX11_applyNots, yX11_applyTwo, yX11_setEnd, yX11_inSet, yX11_matches, yX11_compares, yX11_print, yX11_test, yX11_ask, yX11_nextName, yX11_goThrough, yX11_enter, yX11_lookUp, yX11_find, yX11_nameTop, yX11_place, yX11_output, yX11_tell, yX11_count, yJ0_length_8abf5, yJ0_charAt_5068e, yJ0_coder_7d493, yJ0_isLatin1_aae02, yJ0_checkIndex_df160, yJ1_charAt_3b067, yJ3_checkIndex_8e157, yL_type, yL_make, yL_link, yL_bits, yL_find, yL_tell, yL_law]
def mBs : List ByteArray := [cX0_init, cX0_isName, cX0_orderTo, cX1_init, cX1_read, cX1_addPart, cX1_kindOf, cX1_kindOfMinus, cX1_readOperand, cX1_readKind, cX1_readNumber, cX2_init, cX2_begin, cX2_search, cX2_visit, cX2_visitBelow, cX2_ask, cX2_isTrue, cX2_compares, cX2_printPath, cX3_init, cX3_matches, cX3_fromLeastOn, cX3_closing, cX3_isInSet, cX4_init, cX4_charactersIn, cX4_add, cX4_split, cX4_start, cX4_end, cX4_wordLength, cX4_letter, cX4_is, cX4_beginsWithPath, cX4_lastStepEnd, cX4_lastStepStart, cX4_lastStep, cX5_init, cX5_entry, cX5_insert, cX5_remove, cX6_init, cX6_writeLine, cX6_beginAtBack, cX6_putInFront, cX6_moveToFront, cX7_init, cX7_at, cX7_isDirectory, cX7_add, cX7_join, cX7_part, cX8_init, cX8_begin, cX8_clearLevel, cX8_isOpen, cX8_value, cX8_join, cX8_turn, cX8_nextAnd, cX8_enter, cX8_leave, cX9_init, cX9_along, cX9_putInFront, cX9_takeStep, cX9_dotsAlone, cX9_follow, cX10_init, cX10_type, cX10_erase, cX10_make, cX10_link, cX10_tie, cX10_drop, cX10_bits, cX10_go, cX10_node, cX10_real, cX10_find, cX10_place, cX10_output, cX10_tell, cX10_count, cX10_isOutOfBounds, cX10_nodeOfWord, cX10_newPlace, cX10_settle, cX10_lookUpNewer, cX11_init, cX11_thrown, cX11_refused, cX11_put, cX11_type, cX11_erase, cX11_cut, cX11_wordSize, cX11_isWord, cX11_isSign, cX11_isName, cX11_compare, cX11_nameAt, cX11_addName, cX11_removeName, cX11_layWay, cX11_layText, cX11_walk, cX11_walkWord, cX11_newPlace, cX11_freeNode, cX11_makeNode, cX11_isIn, cX11_make, cX11_link, cX11_tie, cX11_drop, cX11_bits, cX11_go, cX11_node, cX11_entryOf, cX11_real, cX11_write, cX11_testOf, cX11_same, cX11_isNumber, cX11_addPart, cX11_parse, cX11_mayFollow, cX11_applyNots, cX11_applyTwo, cX11_setEnd, cX11_inSet, cX11_matches, cX11_compares, cX11_print, cX11_test, cX11_ask, cX11_nextName, cX11_goThrough, cX11_enter, cX11_lookUp, cX11_find, cX11_nameTop, cX11_place, cX11_output, cX11_tell, cX11_count, cJ0_length_8abf5, cJ0_charAt_5068e, cJ0_coder_7d493, cJ0_isLatin1_aae02, cJ0_checkIndex_df160, cJ1_charAt_3b067, cJ3_checkIndex_8e157, cL_type, cL_make, cL_link, cL_bits, cL_find, cL_tell, cL_law]
def mLs : List Nat := [3, 8, 5, 2, 6, 2, 2, 2, 3, 3, 9, 5, 2, 8, 8, 8, 7, 4, 4, 1, 2, 15, 3, 5, 9, 1, 3, 4, 4, 2, 2, 2, 3, 4, 1, 4, 4, 4, 5, 6, 3, 4, 1, 3, 1, 3, 1, 2, 2, 3, 3, 7, 5, 1, 1, 2, 1, 1, 2, 1, 1, 2, 2, 2, 9, 4, 7, 3, 3, 1, 7, 2, 6, 5, 3, 4, 5, 3, 2, 5, 5, 1, 2, 4, 2, 1, 3, 8, 5, 4, 2, 1, 2, 4, 10, 2, 2, 2, 5, 1, 6, 9, 6, 8, 5, 4, 6, 8, 3, 6, 3, 6, 1, 5, 5, 3, 2, 4, 2, 2, 4, 6, 2, 2, 9, 5, 4, 9, 3, 4, 3, 5, 7, 10, 7, 2, 4, 8, 6, 7, 3, 3, 6, 3, 1, 2, 3, 4, 1, 2, 1, 1, 2, 2, 3, 8, 6, 4, 4, 4, 5, 7]
def mRs : List (Option FieldType) := [none, some .boolean, some .int, none, some .int, none, some .int, some .int, some .boolean, some .boolean, some .boolean, none, none, some .int, none, none, none, some .boolean, some .boolean, none, none, some .boolean, some .int, some .int, some .boolean, none, some .int, none, none, some .int, some .int, some .int, some .char, some .boolean, some .boolean, some .int, some .int, some (.array .char), none, some (.object "FindTree$Entry"), none, none, none, some .boolean, none, none, none, none, some (.object "FindTree$Node"), some .boolean, some .int, none, none, none, none, none, some .boolean, some .boolean, none, none, none, none, none, none, some .int, none, some .int, some .int, some .int, none, some .int, some .int, some .int, some .int, some .int, some .int, some .int, some .int, some .int, some .int, some .int, some .int, some .char, some .int, some .int, some .boolean, some .int, some .int, some .int, some .int, none, some .int, some .boolean, none, some .int, some .int, none, some .int, some .boolean, some .boolean, some .boolean, some .int, some .int, none, none, none, none, some .int, some .int, some .int, some .int, some .int, some .boolean, some .int, some .int, some .int, some .int, some .int, some .int, some .int, some .int, some .int, none, some .int, some .boolean, some .boolean, some .int, some .int, some .boolean, some .int, some .int, some .int, some .boolean, some .boolean, some .boolean, none, some .boolean, none, some .int, none, some .boolean, some .int, some .int, none, some .int, some .char, some .int, some .int, some .int, some .char, some .byte, some .boolean, none, some .char, some .int, some .int, some .int, some .int, some .int, some .int, some .int, some .boolean]
def mCs : List Nat := [0, 0, 0, 1, 1, 1, 1, 1, 1, 1, 1, 2, 2, 2, 2, 2, 2, 2, 2, 2, 3, 3, 3, 3, 3, 4, 4, 4, 4, 4, 4, 4, 4, 4, 4, 4, 4, 4, 5, 5, 5, 5, 6, 6, 6, 6, 6, 7, 7, 7, 7, 7, 7, 8, 8, 8, 8, 8, 8, 8, 8, 8, 8, 9, 9, 9, 9, 9, 9, 10, 10, 10, 10, 10, 10, 10, 10, 10, 10, 10, 10, 10, 10, 10, 10, 10, 10, 10, 10, 10, 11, 11, 11, 11, 11, 11, 11, 11, 11, 11, 11, 11, 11, 11, 11, 11, 11, 11, 11, 11, 11, 11, 11, 11, 11, 11, 11, 11, 11, 11, 11, 11, 11, 11, 11, 11, 11, 11, 11, 11, 11, 11, 11, 11, 11, 11, 11, 11, 11, 11, 11, 11, 11, 11, 11, 11, 11, 11, 12, 12, 12, 12, 12, 13, 14, 15, 15, 15, 15, 15, 15, 15]
def mHs : List (List (Nat × Nat × Nat × Nat)) := [[], [], [], [], [], [], [], [], [], [], [], [], [], [], [], [], [], [], [], [], [], [], [], [], [], [], [], [], [], [], [], [], [], [], [], [], [], [], [], [], [], [], [], [], [], [], [], [], [], [], [], [], [], [], [], [], [], [], [], [], [], [], [], [], [], [], [], [], [], [], [], [], [], [], [], [], [], [], [], [], [], [], [], [], [], [], [], [], [], [], [], [], [], [], [], [], [], [], [], [], [], [], [], [], [], [], [], [], [], [], [], [], [], [], [], [], [], [], [], [], [], [], [], [], [], [], [], [], [], [], [], [], [], [], [], [], [], [], [], [], [], [], [], [], [], [], [], [], [], [], [], [], [], [], [], [(0, 16, 19, 13)], [(0, 12, 15, 19)], [(0, 9, 12, 19)], [(0, 9, 12, 19)], [(0, 9, 12, 19)], [(0, 10, 13, 35)], []]
def mKs : List (Nat × Nat) := [(0, 0), (0, 0), (0, 0), (4, 200), (0, 0), (0, 0), (0, 0), (0, 0), (0, 0), (0, 0), (0, 0), (7, 1031), (0, 0), (0, 0), (0, 0), (0, 0), (0, 0), (0, 0), (0, 0), (0, 0), (0, 0), (0, 0), (0, 0), (0, 0), (0, 0), (3, 200), (0, 0), (0, 0), (0, 0), (0, 0), (0, 0), (0, 0), (0, 0), (0, 0), (0, 0), (0, 0), (0, 0), (1, 100), (2, 112), (0, 0), (0, 0), (0, 0), (1, 1500), (0, 0), (0, 0), (0, 0), (0, 0), (4, 170), (0, 0), (0, 0), (0, 0), (1, 2), (0, 0), (4, 204), (0, 0), (0, 0), (0, 0), (0, 0), (0, 0), (0, 0), (0, 0), (0, 0), (0, 0), (1, 420), (0, 0), (0, 0), (0, 0), (0, 0), (0, 0), (26, 3561), (1, 6), (0, 0), (9, 352), (6, 230), (2, 102), (0, 0), (1, 6), (0, 0), (0, 0), (0, 0), (1, 6), (0, 0), (0, 0), (1, 6), (0, 0), (0, 0), (0, 0), (0, 0), (2, 102), (0, 0), (31, 17956), (0, 0), (0, 0), (0, 0), (0, 0), (0, 0), (0, 0), (0, 0), (0, 0), (0, 0), (0, 0), (0, 0), (0, 0), (0, 0), (0, 0), (0, 0), (0, 0), (0, 0), (0, 0), (0, 0), (0, 0), (0, 0), (0, 0), (0, 0), (0, 0), (0, 0), (0, 0), (0, 0), (0, 0), (0, 0), (0, 0), (0, 0), (0, 0), (0, 0), (0, 0), (0, 0), (0, 0), (0, 0), (0, 0), (0, 0), (0, 0), (0, 0), (0, 0), (0, 0), (0, 0), (0, 0), (0, 0), (0, 0), (0, 0), (0, 0), (0, 0), (0, 0), (0, 0), (0, 0), (0, 0), (0, 0), (0, 0), (0, 0), (0, 0), (0, 0), (0, 0), (0, 0), (0, 0), (0, 0), (0, 0), (1, 6), (9, 352), (6, 230), (1, 6), (1, 6), (1, 6), (601024, 7293034)]
def mNs : List Nat := [3, 3, 4, 2, 2, 2, 2, 2, 3, 2, 2, 5, 2, 5, 6, 4, 5, 3, 3, 1, 2, 5, 2, 2, 4, 1, 1, 2, 1, 2, 2, 2, 3, 3, 1, 2, 2, 2, 5, 4, 2, 2, 1, 3, 1, 2, 1, 1, 2, 2, 2, 4, 3, 1, 1, 2, 1, 1, 2, 1, 1, 1, 1, 2, 5, 4, 2, 2, 2, 1, 6, 1, 4, 2, 1, 1, 2, 1, 2, 1, 2, 1, 2, 3, 2, 1, 3, 3, 4, 1, 1, 1, 2, 3, 6, 1, 1, 2, 4, 1, 3, 5, 5, 6, 2, 3, 3, 2, 3, 3, 1, 5, 1, 4, 2, 1, 1, 2, 1, 2, 2, 1, 2, 2, 8, 2, 4, 2, 3, 3, 3, 3, 4, 2, 3, 1, 3, 2, 3, 2, 2, 1, 2, 1, 1, 2, 3, 2, 1, 2, 1, 1, 2, 2, 3, 7, 5, 3, 3, 3, 4, 1]
def mSs : List Bool := [false, true, false, false, false, false, false, false, false, false, false, false, false, false, false, false, false, false, false, false, false, false, true, false, false, false, true, false, false, false, false, false, false, false, false, false, false, false, false, false, false, false, false, false, false, false, false, false, false, false, false, false, false, false, false, false, false, false, false, false, false, false, false, false, false, false, false, false, false, false, false, false, false, false, false, false, false, false, false, false, false, false, false, false, false, true, false, false, false, false, false, false, false, false, false, false, false, false, false, true, true, false, false, false, false, false, false, false, false, false, false, false, true, false, false, false, false, false, false, false, false, false, false, false, false, false, false, false, false, false, false, false, false, false, false, false, false, false, false, false, false, false, false, false, false, false, false, false, false, false, false, false, true, true, true, true, true, true, true, true, true, true]
def mLen : List Nat := [15, 149, 80, 42, 208, 74, 69, 178, 70, 76, 163, 53, 26, 136, 137, 185, 190, 171, 73, 45, 10, 263, 14, 86, 155, 29, 30, 56, 119, 29, 29, 12, 30, 48, 44, 38, 38, 34, 63, 58, 95, 82, 14, 73, 8, 60, 61, 53, 21, 23, 44, 68, 71, 37, 11, 41, 42, 30, 45, 27, 49, 30, 28, 19, 185, 43, 226, 58, 56, 100, 110, 25, 81, 100, 59, 114, 70, 58, 7, 131, 184, 5, 37, 112, 54, 16, 46, 209, 39, 86, 311, 5, 15, 43, 126, 17, 91, 14, 63, 48, 118, 72, 48, 79, 94, 38, 124, 372, 33, 231, 32, 102, 16, 76, 129, 77, 117, 69, 55, 16, 63, 174, 21, 310, 90, 124, 47, 566, 67, 50, 33, 114, 174, 280, 132, 73, 199, 208, 115, 337, 101, 58, 264, 88, 10, 29, 161, 72, 11, 25, 15, 19, 10, 15, 18, 25, 21, 17, 17, 17, 19, 729]
def mPs : List (Nat × Nat × Nat × Nat) := [(505, 504, 0, 80), (487, 486, 0, 80), (464, 462, 463, 80), (259, 258, 0, 70), (793, 791, 792, 70), (797, 796, 8, 70), (801, 800, 9, 70), (806, 805, 10, 70), (825, 824, 11, 70), (829, 828, 12, 70), (834, 833, 13, 70), (301, 300, 0, 71), (726, 724, 725, 71), (844, 842, 843, 71), (850, 849, 15, 71), (932, 931, 23, 71), (855, 854, 16, 71), (896, 895, 18, 71), (918, 917, 21, 71), (922, 921, 22, 71), (330, 329, 0, 73), (900, 898, 899, 73), (910, 909, 0, 73), (906, 905, 19, 73), (914, 913, 20, 73), (99, 98, 0, 64), (583, 582, 0, 64), (655, 653, 654, 64), (412, 410, 411, 64), (424, 422, 423, 64), (428, 426, 427, 64), (705, 703, 704, 64), (734, 732, 733, 64), (740, 738, 739, 64), (730, 728, 729, 64), (482, 480, 481, 64), (477, 475, 476, 64), (493, 491, 492, 64), (135, 134, 0, 66), (460, 458, 459, 66), (523, 521, 522, 66), (535, 533, 534, 66), (241, 240, 0, 69), (926, 924, 925, 69), (551, 549, 550, 69), (555, 553, 554, 69), (560, 558, 559, 69), (128, 127, 0, 65), (447, 445, 446, 65), (443, 441, 442, 65), (693, 691, 692, 65), (500, 498, 499, 65), (531, 529, 530, 65), (307, 306, 0, 72), (859, 857, 858, 72), (863, 862, 17, 72), (875, 873, 874, 72), (883, 881, 882, 72), (887, 885, 886, 72), (867, 865, 866, 72), (891, 889, 890, 72), (871, 869, 870, 72), (879, 877, 878, 72), (211, 210, 0, 68), (432, 430, 431, 68), (436, 435, 1, 68), (451, 450, 2, 68), (456, 455, 3, 68), (468, 467, 4, 68), (91, 90, 0, 63), (580, 578, 579, 63), (408, 406, 407, 63), (663, 661, 662, 63), (700, 698, 699, 63), (416, 414, 415, 63), (527, 525, 526, 63), (713, 711, 712, 63), (539, 537, 538, 63), (543, 541, 542, 63), (547, 545, 546, 63), (721, 719, 720, 63), (564, 562, 563, 63), (568, 566, 567, 63), (940, 938, 939, 63), (572, 570, 571, 63), (666, 665, 0, 63), (420, 419, 0, 63), (473, 472, 5, 63), (689, 688, 7, 63), (838, 837, 14, 63), (961, 960, 0, 74), (1129, 1127, 1128, 74), (1141, 1140, 25, 74), (1137, 1136, 24, 74), (1133, 1131, 1132, 74), (1145, 1143, 1144, 74), (1157, 1156, 26, 74), (1207, 1206, 36, 74), (1255, 1254, 41, 74), (1167, 1166, 0, 74), (1164, 1163, 0, 74), (1183, 1182, 31, 74), (1179, 1178, 30, 74), (1199, 1198, 35, 74), (1223, 1222, 38, 74), (1171, 1170, 28, 74), (1187, 1186, 32, 74), (1175, 1174, 29, 74), (1215, 1214, 37, 74), (1161, 1160, 27, 74), (1191, 1190, 33, 74), (1195, 1194, 34, 74), (1152, 1151, 0, 74), (1149, 1147, 1148, 74), (1203, 1201, 1202, 74), (1211, 1209, 1210, 74), (1219, 1217, 1218, 74), (1227, 1225, 1226, 74), (1231, 1229, 1230, 74), (1235, 1233, 1234, 74), (1243, 1242, 39, 74), (1239, 1237, 1238, 74), (1247, 1246, 40, 74), (1267, 1266, 44, 74), (1271, 1270, 45, 74), (1279, 1278, 47, 74), (1263, 1262, 43, 74), (1259, 1258, 42, 74), (1275, 1274, 46, 74), (1283, 1282, 48, 74), (1287, 1286, 49, 74), (1319, 1318, 57, 74), (1323, 1322, 58, 74), (1315, 1314, 56, 74), (1327, 1326, 59, 74), (1331, 1330, 60, 74), (1311, 1310, 55, 74), (1307, 1306, 54, 74), (1335, 1334, 61, 74), (1299, 1298, 52, 74), (1303, 1302, 53, 74), (1291, 1290, 50, 74), (1251, 1249, 1250, 74), (1295, 1294, 51, 74), (1339, 1337, 1338, 74), (1343, 1341, 1342, 74), (1347, 1345, 1346, 74), (1351, 1349, 1350, 74), (744, 742, 743, 82), (754, 752, 753, 82), (748, 746, 747, 82), (758, 756, 757, 82), (764, 763, 0, 82), (761, 760, 0, 83), (769, 768, 0, 84), (575, 574, 0, 62), (658, 657, 0, 62), (696, 695, 0, 62), (709, 708, 0, 62), (717, 716, 0, 62), (935, 934, 0, 62), (0, 0, 0, 0)]
def mY (k : Nat) : MethodName := mYs.getD k (yL_law)
def mB (k : Nat) : ByteArray := mBs.getD k (code)
def mL (k : Nat) : Nat := mLs.getD k (7)
def mR (k : Nat) : Option FieldType := mRs.getD k (none)
def mC (k : Nat) : Nat := mCs.getD k (15)
def mHh (k : Nat) : List (Nat × Nat × Nat × Nat) := mHs.getD k ([])
def mK (k : Nat) : Nat × Nat := mKs.getD k ((0, 0))
def mNa (k : Nat) : Nat := mNs.getD k (0)
def mSt (k : Nat) : Bool := mSs.getD k (true)
def mLn (k : Nat) : Nat := mLen.getD k (0)
def mPo (k : Nat) : Nat × Nat × Nat × Nat := mPs.getD k ((0, 0, 0, 0))
theorem mL_law : mY 161 = yL_law := rfl
def pF : List (List (Nat × Nat)) := [[(9, 507), (15, 511)], [(9, 262), (15, 265), (18, 268), (21, 271), (25, 261), (29, 273), (33, 276), (37, 278), (40, 108)], [(12, 343), (18, 344), (22, 339), (26, 340), (30, 341), (39, 342), (43, 345), (47, 346), (50, 347), (53, 349), (57, 350), (82, 279), (91, 145), (100, 163), (103, 159), (106, 157), (110, 510), (115, 513), (118, 351), (121, 352), (124, 353), (130, 274), (133, 263), (161, 277), (170, 269), (173, 266), (180, 148), (187, 151), (190, 166), (193, 272)], [(9, 332), (15, 102), (25, 333)], [(9, 101), (15, 104), (19, 105), (22, 107), (26, 109)], [(9, 142), (15, 147), (18, 150), (27, 153), (33, 156), (37, 161), (40, 158), (47, 508)], [(9, 243), (15, 245), (25, 247), (28, 509)], [(11, 194), (20, 165), (24, 168), (27, 195), (30, 197), (37, 143), (49, 171), (53, 514)], [(9, 309), (15, 310), (18, 311), (21, 312), (24, 313)], [(9, 214), (15, 213), (19, 215), (23, 217), (26, 198), (31, 216), (52, 220), (60, 144), (65, 162), (72, 169), (79, 512), (88, 218), (91, 155)], [(12, 383), (19, 384), (28, 385), (35, 386), (44, 387), (53, 388), (57, 389), (65, 106), (109, 103), (116, 154), (139, 221), (143, 199), (146, 219), (153, 164), (156, 160), (165, 146), (175, 172), (178, 170), (184, 246), (201, 839), (215, 244), (221, 149), (224, 152), (227, 167), (230, 196), (233, 348), (237, 110), (259, 275), (262, 264), (266, 267), (269, 270)], [(7, 964), (13, 965), (16, 966), (19, 967), (22, 968), (25, 969), (28, 970), (31, 971), (35, 972), (38, 973), (41, 974), (44, 975), (47, 977), (50, 980), (53, 981), (56, 982), (59, 985), (63, 986), (66, 987), (69, 991), (72, 992), (75, 993), (78, 994), (81, 995), (84, 996), (87, 997), (90, 1005), (93, 1009), (96, 1010), (99, 1011), (102, 1012), (105, 1013), (109, 963), (112, 978), (123, 979), (138, 988), (141, 989), (144, 976), (164, 1014), (167, 1015), (203, 983), (214, 990), (217, 999), (221, 1000), (228, 998), (252, 1008), (255, 1007), (265, 1003), (268, 1006), (271, 1002), (280, 1001), (283, 1004), (298, 1016), (304, 984)], [(9, 1354), (15, 1355), (38, 749), (1053, 765)], [], [], []]
def pM : List (List (Nat × Nat)) := [[(3, 506)], [(3, 260), (45, 794), (49, 798), (53, 822), (57, 802), (61, 803), (66, 808), (96, 826), (100, 831), (103, 830)], [(3, 302), (11, 305), (36, 328), (60, 845), (66, 846), (72, 847), (76, 851), (87, 852), (96, 929), (127, 856), (137, 864), (140, 868), (143, 876), (146, 888), (149, 892), (153, 893), (157, 927), (164, 928), (167, 919), (176, 897), (183, 915), (196, 923)], [(3, 331), (21, 901), (29, 902), (32, 903), (35, 907), (41, 908), (44, 911)], [(3, 100), (29, 483), (33, 478), (36, 735), (39, 741), (44, 731), (48, 751), (54, 737), (60, 479), (63, 494), (66, 495), (72, 496)], [(3, 136), (21, 137), (43, 461)], [(3, 242), (19, 556)], [(3, 129), (17, 133), (33, 444), (42, 503), (45, 520), (56, 532)], [(3, 308), (28, 860), (32, 872), (36, 880), (39, 884)], [(3, 212), (34, 433), (38, 440), (42, 448), (46, 437), (56, 452), (68, 453), (75, 457), (84, 465)], [(3, 92), (11, 97), (18, 126), (25, 209), (34, 239), (41, 257), (50, 299), (61, 581), (72, 626), (75, 652), (79, 409), (82, 664), (90, 678), (91, 470), (97, 685), (100, 686), (106, 702), (113, 421), (119, 706), (125, 417), (128, 469), (131, 490), (135, 497), (149, 488), (159, 528), (168, 548), (171, 552), (181, 557), (187, 723), (190, 727), (194, 790), (197, 835), (204, 429), (208, 841), (212, 425), (220, 951), (240, 474), (243, 484), (246, 485), (252, 489), (256, 690)], [(1, 962), (115, 1134), (119, 1138), (126, 1204), (130, 1165), (134, 1180), (147, 1176), (150, 1184), (153, 1168), (156, 1172), (160, 1162), (170, 1188), (174, 1196), (179, 1150), (182, 1154), (185, 1158), (189, 1192), (193, 1212), (196, 1220), (200, 1240), (206, 1244), (210, 1268), (224, 1260), (231, 1264), (234, 1252), (238, 1272), (242, 1280), (246, 1284), (249, 1276), (258, 1316), (261, 1320), (274, 1312), (277, 1324), (286, 1328), (289, 1308), (292, 1300), (295, 1332), (301, 1304), (307, 1256), (310, 1288), (313, 1292), (316, 1296)], [(335, 745), (492, 755), (495, 759), (498, 770), (1059, 767)], [(9, 762)], [], [(7, 577), (15, 660), (21, 697), (25, 710), (28, 718), (31, 937), (37, 89), (40, 959), (41, 573), (46, 1130), (47, 1126), (51, 405), (54, 1142), (55, 656), (58, 1146), (59, 694), (62, 1200), (63, 413), (66, 1208), (67, 524), (70, 1216), (71, 707), (73, 1224), (74, 536), (77, 1228), (78, 540), (82, 1232), (83, 544), (86, 1236), (87, 715), (89, 1248), (90, 561), (93, 1336), (94, 565), (98, 1340), (99, 933), (102, 1344), (103, 569), (106, 1348)]]
def pC : List (List (Nat × Nat)) := [[], [], [(9, 303), (34, 326)], [], [], [(31, 140)], [], [(9, 130), (40, 501)], [], [], [(9, 95), (16, 124), (23, 207), (32, 237), (39, 255), (48, 297), (68, 584), (86, 668), (95, 684), (216, 941)], [], [], [], [], [(8, 87), (13, 576), (19, 659), (35, 936), (38, 957)]]
def pK : List (List (Nat × Nat)) := [[], [], [], [], [], [], [], [], [], [], [(236, 667)], [(178, 1153)], [], [], [], []]
def asc : List (Nat × Nat) → Nat → Nat
  | [], _ => 100000
  | (a, b) :: l, i => if a = i then b else asc l i
def posj (T : List (List (Nat × Nat))) (c i : Nat) : Nat := asc (T.getD c []) i
def wAt (n : Nat) (w : Cond) : Bool := decide (lw_tbl[n]? = some w)
def inRb (z : Int) : Bool := decide (-2147483648 ≤ z) && decide (z ≤ 2147483647)
def sTx : List String := ["!", "(", ")", "-a", "-o", "-name", "-type", "-size", "-mtime", "-links", "-newer", "-prune", "-print", "-depth"]
def sRf : List (Nat × Nat × Nat) := [(1, 64, 1), (1, 70, 2), (1, 72, 3), (1, 74, 4), (1, 76, 5), (1, 78, 6), (1, 80, 7), (1, 82, 8), (1, 84, 9), (1, 86, 10), (1, 88, 11), (1, 90, 12), (1, 92, 13), (1, 94, 14), (4, 52, 2), (4, 58, 1)]
def nestL : List (Nat × Nat × MethodName) := [(10, 11, ⟨RX4, "<init>", "()V"⟩), (10, 34, ⟨RX6, "<init>", "()V"⟩), (2, 11, ⟨RX8, "<init>", "()V"⟩)]
def thrL : List (Nat × Nat × Nat) := [(70, 43, 0), (72, 14, 1), (73, 7, 1), (76, 10, 1), (80, 7, 1), (83, 13, 2)]
def ety (t : Nat) : FieldType := if t = 20 ∨ t = 50 then .int else if t = 21 ∨ t = 51 then .char else if t = 22 then .boolean else if t = 52 then .byte else if t = 23 then .long else if t = 24 then .object RX5 else .object RX0
def aty : ArrayType → Nat
  | .int => 20
  | .char => 21
  | .boolean => 22
  | .long => 23
  | _ => 0
def rkd : Option FieldType → Nat
  | some .int => 0
  | some .boolean => 2
  | some .char => 3
  | some .byte => 4
  | _ => 9
def eNm : Nat → String
  | 0 => "java/lang/IllegalStateException"
  | 1 => "java/lang/IllegalArgumentException"
  | _ => "java/lang/IndexOutOfBoundsException"
def fkd (t : FieldType) : Nat := match t with
  | .int => 0
  | .boolean => 2
  | _ => 1
/-- what a switch's targets are -/
def okT (rp : Nat) : List Int → List Nat → Bool
  | [], [] => true
  | o :: os, t :: ts => decide ((rp : Int) + o = ((t % 100000 : Nat) : Int)) && okT rp os ts
  | _, _ => false
def okFj (c i x j kd n : Nat) : Bool := decide (x < 12) && decide (n = NFc x) && decide (j < n) && wAt (posj pF c i) (.fieldLink (RRc c) i (RRc x) (TTc x j).2.1 (TTc x j).2.2.1)
def okC (k kk na mc ms mx : Nat) : Bool := decide (kk < 162) && decide (na = mNa kk) && decide ((mc, ms) = mK kk) && decide (mx = mL kk)
def ilen : Instr → Nat
  | .bipush _ | .ldc _ | .iload _ | .aload _ | .istore _ | .astore _ | .newarray _ => 2
  | .sipush _ | .ldc_w _ | .iinc _ _ | .goto _ | .ifCond _ _ | .if_icmp _ _ | .if_acmp _ _ | .ifnull _ | .ifnonnull _ | .getfield _ | .putfield _ | .getstatic _ | .invokespecial _ | .invokestatic _ | .invokevirtual _ | .new _ | .anewarray _ => 3
  | .tableswitch _ _ _ _ => 0
  | _ => 1
def okE (k pc : Nat) (e : mE) : Bool :=
  let rp := pc % 100000
  let rn := e.2.1 % 100000
  let c := mC k
  let x := e.2.2.1
  let rx := x % 100000
  decide (decode (mB k) rp = .ok (e.1, rn - rp)) && (decide (ilen e.1 = 0) || decide (rn = rp + ilen e.1)) &&
  match e.1, e.2.2.2 with
  | .iconst v, _ => inRb v
  | .bipush v, _ => inRb v && decide ((Int8.ofInt v).toInt32 = Int32.ofInt v)
  | .sipush v, _ => inRb v && decide ((Int16.ofInt v).toInt32 = Int32.ofInt v)
  | .ldc i, y => (decide (x = 0) && (match y with
      | [v] => inRb v && wAt (posj pK c i) (.constant (RRc c) i (Int32.ofInt v))
      | _ => false)) || (decide (x = 1) && (match y with
      | [s] => decide ((c, i, s) ∈ sRf)
      | _ => false))
  | .ldc_w i, [v] => decide (x = 0) && inRb v && wAt (posj pK c i) (.constant (RRc c) i (Int32.ofInt v))
  | .iload n, _ => decide (n = x)
  | .aload n, _ => decide (n = x)
  | .istore n, _ => decide (n = x) && decide (x < mL k)
  | .astore n, _ => decide (n = x) && decide (x < mL k)
  | .iload_n n, _ => decide (n.val = x)
  | .aload_n n, _ => decide (n.val = x)
  | .istore_n n, _ => decide (n.val = x) && decide (x < mL k)
  | .astore_n n, _ => decide (n.val = x) && decide (x < mL k)
  | .iinc n v, _ => decide (n = x) && decide (x < mL k) && inRb v
  | .goto o, _ => decide ((rp : Int) + o = (rx : Int))
  | .ifCond _ o, _ => decide ((rp : Int) + o = (rx : Int))
  | .if_icmp _ o, _ => decide ((rp : Int) + o = (rx : Int))
  | .if_acmp _ o, _ => decide ((rp : Int) + o = (rx : Int))
  | .ifnull o, _ => decide ((rp : Int) + o = (rx : Int))
  | .ifnonnull o, _ => decide ((rp : Int) + o = (rx : Int))
  | .tableswitch df lo hi os, y => decide ((rp : Int) + df = (rx : Int)) && okT rp os.toList y && decide (lo + y.length = hi + 1) && inRb lo && inRb hi
  | .getfield i, [j] => (decide (j = 0) && wAt (posj pF c i) (.fieldLink (RRc c) i RJ0 "value" "[B")) || (decide (j = 1) && wAt (posj pF c i) (.fieldLink (RRc c) i RJ0 "coder" "B"))
  | .getfield i, [j, kd, n] => okFj c i x j kd n && decide ((kd = 0) = ¬ (fkd (TYc x j) = 1))
  | .putfield i, [j, kd, n] => decide (x < 12) && okFj c i x j kd n && decide (kd = fkd (TYc x j)) && ((decide ((TTc x j).2.2.2 = false)) || (decide (c = x) && decide ((mY k).name = "<init>")))
  | .getstatic i, _ => (decide (x = 0) && wAt (posj pF c i) (.fieldLink (RRc c) i RX10 "DOT" "[C")) || (decide (x = 1) && wAt (posj pF c i) (.fieldLink (RRc c) i RJ0 "COMPACT_STRINGS" "Z")) || (decide (x = 2) && wAt (posj pF c i) (.fieldLink (RRc c) i RJ3 "SIOOBE_FORMATTER" "Ljava/util/function/BiFunction;"))
  | .newarray t, _ => decide (x = aty t) && decide (20 ≤ x)
  | .anewarray i, _ => (decide (x = 24) && wAt (posj pC c i) (.classLink (RRc c) i RX5)) || (decide (x = 25) && wAt (posj pC c i) (.classLink (RRc c) i RX0))
  | .new i, [n] => decide (x < 12) && decide (n = NFc x) && wAt (posj pC c i) (.classLink (RRc c) i (RRc x))
  | .new i, [] => decide (c = 10) && decide (x < 3) && wAt (posj pC c i) (.classLink (RRc c) i (eNm x)) && decide (mHh k = []) && decide ((k, rp, x) ∈ thrL)
  | .invokespecial i, [] => decide (x = 1000) && wAt (posj pM c i) (.methodLink (RRc c) i objectInit)
  | .invokestatic i, [] => (decide (x = 1001) && wAt (posj pM c i) (.methodLink (RRc c) i arraycopyName)) || (decide (x = 1002) && wAt (posj pM c i) (.methodLink (RRc c) i Lib.Math.max.name))
  | .invokevirtual i, [na, mc, ms, mx, rt, e1, hp] => okC k x na mc ms mx && decide (rt = mC x + 1) && decide (mSt x = false) && wAt (posj pM c i) (.methodLink (RRc c) i (mY x)) && wAt (mPo x).2.2.1 (.selects (mY x).cls (mY x) (mY x)) && decide (mHh x = [])
      && (match mHh k with
        | [] => decide (e1 = 0)
        | [(hs, he, hq, ct)] => decide (hs ≤ rp) && decide (rp < he) && decide (hq = hp % 100000) && wAt (posj pC c ct) (.classLink (RRc c) ct (eNm (e1 - 1))) && decide (1 ≤ e1) && decide (e1 ≤ 3) && decide (ct ≠ 0)
        | _ => false)
  | .invokestatic i, [na, mc, ms, mx] => okC k x na mc ms mx && decide (mSt x = true) && wAt (posj pM c i) (.methodLink (RRc c) i (mY x))
  | .invokespecial i, [na, mc, ms, mx, rt] => okC k x na mc ms mx && decide (rt = mC x + 1) && decide (mSt x = false) && decide ((mY x).name = "<init>") && decide (mHh x = []) && (wAt (posj pM c i) (.methodLink (RRc c) i (mY x)) || decide ((c, i, mY x) ∈ nestL))
  | .ireturn, _ => decide (x = rkd (mR k)) && decide (x ≤ 4)
  | .areturn, _ => decide (mR k = some (.array .char)) || decide (mR k = some (.object RX5)) || decide (mR k = some (.object RX0))
  | .return_, _ => decide (mR k = none)
  | _, _ => true
def okO (k pc : Nat) (e : Option mE) : Bool := match e with
  | some e => okE k pc e
  | none => true

theorem okM0 : ∀ k, k < 162 → k = 161 ∨ (mY k).cls = RRc (mC k) := by decide +kernel
theorem okM1 : ∀ k, k < 162 → k = 161 ∨ plainName (mY k).cls = true := by decide +kernel
theorem okM2 : ∀ k, k < 162 → k = 161 ∨ (mY k).cls ≠ "java/lang/invoke/MethodHandle" := by decide +kernel
theorem okM3 : ∀ k, k < 162 → k = 161 ∨ (mY k).cls ≠ "java/lang/invoke/VarHandle" := by decide +kernel
theorem okM4 : ∀ k, k < 162 → k = 161 ∨ (parseMethodDescriptor (mY k).desc).map (fun d => d.parameters.length) = some (mNa k - (if mSt k then 0 else 1)) := by decide +kernel
theorem okM5 : ∀ k, k < 162 → k = 161 ∨ mNa k ≤ mL k := by decide +kernel
theorem okM6 : ∀ k, k < 162 → k = 161 ∨ mL k ≤ 20 := by decide +kernel
theorem okM7 : ∀ k, k < 162 → k = 161 ∨ (mSt k = true ∨ 1 ≤ mNa k) := by decide +kernel
theorem okM8 : ∀ k, k < 162 → k = 161 ∨ (if mSt k then wAt (mPo k).2.1 (.static (mY k)) else wAt (mPo k).2.1 (.instanceMethod (mY k))) = true := by decide +kernel
theorem okM9 : ∀ k, k < 162 → k = 161 ∨ wAt (mPo k).2.2.2 (.initialized (mY k).cls) = true := by decide +kernel
def cwd (k : Nat) : Cond := if mHh k = [] then .code (mY k) (mB k) (mL k) (mR k) else .codeWith (mY k) (mB k) (mL k) (mR k) (mHh k)
set_option maxRecDepth 100000 in
theorem cw_X0_init : lw_tbl[505]? = some (.code yX0_init cX0_init 3 (none)) := rfl
set_option maxRecDepth 100000 in
theorem cw_X0_isName : lw_tbl[487]? = some (.code yX0_isName cX0_isName 8 (some .boolean)) := rfl
set_option maxRecDepth 100000 in
theorem cw_X0_orderTo : lw_tbl[464]? = some (.code yX0_orderTo cX0_orderTo 5 (some .int)) := rfl
set_option maxRecDepth 100000 in
theorem cw_X1_init : lw_tbl[259]? = some (.code yX1_init cX1_init 2 (none)) := rfl
set_option maxRecDepth 100000 in
theorem cw_X1_read : lw_tbl[793]? = some (.code yX1_read cX1_read 6 (some .int)) := rfl
set_option maxRecDepth 100000 in
theorem cw_X1_addPart : lw_tbl[797]? = some (.code yX1_addPart cX1_addPart 2 (none)) := rfl
set_option maxRecDepth 100000 in
theorem cw_X1_kindOf : lw_tbl[801]? = some (.code yX1_kindOf cX1_kindOf 2 (some .int)) := rfl
set_option maxRecDepth 100000 in
theorem cw_X1_kindOfMinus : lw_tbl[806]? = some (.code yX1_kindOfMinus cX1_kindOfMinus 2 (some .int)) := rfl
set_option maxRecDepth 100000 in
theorem cw_X1_readOperand : lw_tbl[825]? = some (.code yX1_readOperand cX1_readOperand 3 (some .boolean)) := rfl
set_option maxRecDepth 100000 in
theorem cw_X1_readKind : lw_tbl[829]? = some (.code yX1_readKind cX1_readKind 3 (some .boolean)) := rfl
set_option maxRecDepth 100000 in
theorem cw_X1_readNumber : lw_tbl[834]? = some (.code yX1_readNumber cX1_readNumber 9 (some .boolean)) := rfl
set_option maxRecDepth 100000 in
theorem cw_X2_init : lw_tbl[301]? = some (.code yX2_init cX2_init 5 (none)) := rfl
set_option maxRecDepth 100000 in
theorem cw_X2_begin : lw_tbl[726]? = some (.code yX2_begin cX2_begin 2 (none)) := rfl
set_option maxRecDepth 100000 in
theorem cw_X2_search : lw_tbl[844]? = some (.code yX2_search cX2_search 8 (some .int)) := rfl
set_option maxRecDepth 100000 in
theorem cw_X2_visit : lw_tbl[850]? = some (.code yX2_visit cX2_visit 8 (none)) := rfl
set_option maxRecDepth 100000 in
theorem cw_X2_visitBelow : lw_tbl[932]? = some (.code yX2_visitBelow cX2_visitBelow 8 (none)) := rfl
set_option maxRecDepth 100000 in
theorem cw_X2_ask : lw_tbl[855]? = some (.code yX2_ask cX2_ask 7 (none)) := rfl
set_option maxRecDepth 100000 in
theorem cw_X2_isTrue : lw_tbl[896]? = some (.code yX2_isTrue cX2_isTrue 4 (some .boolean)) := rfl
set_option maxRecDepth 100000 in
theorem cw_X2_compares : lw_tbl[918]? = some (.code yX2_compares cX2_compares 4 (some .boolean)) := rfl
set_option maxRecDepth 100000 in
theorem cw_X2_printPath : lw_tbl[922]? = some (.code yX2_printPath cX2_printPath 1 (none)) := rfl
set_option maxRecDepth 100000 in
theorem cw_X3_init : lw_tbl[330]? = some (.code yX3_init cX3_init 2 (none)) := rfl
set_option maxRecDepth 100000 in
theorem cw_X3_matches : lw_tbl[900]? = some (.code yX3_matches cX3_matches 15 (some .boolean)) := rfl
set_option maxRecDepth 100000 in
theorem cw_X3_fromLeastOn : lw_tbl[910]? = some (.code yX3_fromLeastOn cX3_fromLeastOn 3 (some .int)) := rfl
set_option maxRecDepth 100000 in
theorem cw_X3_closing : lw_tbl[906]? = some (.code yX3_closing cX3_closing 5 (some .int)) := rfl
set_option maxRecDepth 100000 in
theorem cw_X3_isInSet : lw_tbl[914]? = some (.code yX3_isInSet cX3_isInSet 9 (some .boolean)) := rfl
set_option maxRecDepth 100000 in
theorem cw_X4_init : lw_tbl[99]? = some (.code yX4_init cX4_init 1 (none)) := rfl
set_option maxRecDepth 100000 in
theorem cw_X4_charactersIn : lw_tbl[583]? = some (.code yX4_charactersIn cX4_charactersIn 3 (some .int)) := rfl
set_option maxRecDepth 100000 in
theorem cw_X4_add : lw_tbl[655]? = some (.code yX4_add cX4_add 4 (none)) := rfl
set_option maxRecDepth 100000 in
theorem cw_X4_split : lw_tbl[412]? = some (.code yX4_split cX4_split 4 (none)) := rfl
set_option maxRecDepth 100000 in
theorem cw_X4_start : lw_tbl[424]? = some (.code yX4_start cX4_start 2 (some .int)) := rfl
set_option maxRecDepth 100000 in
theorem cw_X4_end : lw_tbl[428]? = some (.code yX4_end cX4_end 2 (some .int)) := rfl
set_option maxRecDepth 100000 in
theorem cw_X4_wordLength : lw_tbl[705]? = some (.code yX4_wordLength cX4_wordLength 2 (some .int)) := rfl
set_option maxRecDepth 100000 in
theorem cw_X4_letter : lw_tbl[734]? = some (.code yX4_letter cX4_letter 3 (some .char)) := rfl
set_option maxRecDepth 100000 in
theorem cw_X4_is : lw_tbl[740]? = some (.code yX4_is cX4_is 4 (some .boolean)) := rfl
set_option maxRecDepth 100000 in
theorem cw_X4_beginsWithPath : lw_tbl[730]? = some (.code yX4_beginsWithPath cX4_beginsWithPath 1 (some .boolean)) := rfl
set_option maxRecDepth 100000 in
theorem cw_X4_lastStepEnd : lw_tbl[482]? = some (.code yX4_lastStepEnd cX4_lastStepEnd 4 (some .int)) := rfl
set_option maxRecDepth 100000 in
theorem cw_X4_lastStepStart : lw_tbl[477]? = some (.code yX4_lastStepStart cX4_lastStepStart 4 (some .int)) := rfl
set_option maxRecDepth 100000 in
theorem cw_X4_lastStep : lw_tbl[493]? = some (.code yX4_lastStep cX4_lastStep 4 (some (.array .char))) := rfl
set_option maxRecDepth 100000 in
theorem cw_X5_init : lw_tbl[135]? = some (.code yX5_init cX5_init 5 (none)) := rfl
set_option maxRecDepth 100000 in
theorem cw_X5_entry : lw_tbl[460]? = some (.code yX5_entry cX5_entry 6 (some (.object "FindTree$Entry"))) := rfl
set_option maxRecDepth 100000 in
theorem cw_X5_insert : lw_tbl[523]? = some (.code yX5_insert cX5_insert 3 (none)) := rfl
set_option maxRecDepth 100000 in
theorem cw_X5_remove : lw_tbl[535]? = some (.code yX5_remove cX5_remove 4 (none)) := rfl
set_option maxRecDepth 100000 in
theorem cw_X6_init : lw_tbl[241]? = some (.code yX6_init cX6_init 1 (none)) := rfl
set_option maxRecDepth 100000 in
theorem cw_X6_writeLine : lw_tbl[926]? = some (.code yX6_writeLine cX6_writeLine 3 (some .boolean)) := rfl
set_option maxRecDepth 100000 in
theorem cw_X6_beginAtBack : lw_tbl[551]? = some (.code yX6_beginAtBack cX6_beginAtBack 1 (none)) := rfl
set_option maxRecDepth 100000 in
theorem cw_X6_putInFront : lw_tbl[555]? = some (.code yX6_putInFront cX6_putInFront 3 (none)) := rfl
set_option maxRecDepth 100000 in
theorem cw_X6_moveToFront : lw_tbl[560]? = some (.code yX6_moveToFront cX6_moveToFront 1 (none)) := rfl
set_option maxRecDepth 100000 in
theorem cw_X7_init : lw_tbl[128]? = some (.code yX7_init cX7_init 2 (none)) := rfl
set_option maxRecDepth 100000 in
theorem cw_X7_at : lw_tbl[447]? = some (.code yX7_at cX7_at 2 (some (.object "FindTree$Node"))) := rfl
set_option maxRecDepth 100000 in
theorem cw_X7_isDirectory : lw_tbl[443]? = some (.code yX7_isDirectory cX7_isDirectory 3 (some .boolean)) := rfl
set_option maxRecDepth 100000 in
theorem cw_X7_add : lw_tbl[693]? = some (.code yX7_add cX7_add 3 (some .int)) := rfl
set_option maxRecDepth 100000 in
theorem cw_X7_join : lw_tbl[500]? = some (.code yX7_join cX7_join 7 (none)) := rfl
set_option maxRecDepth 100000 in
theorem cw_X7_part : lw_tbl[531]? = some (.code yX7_part cX7_part 5 (none)) := rfl
set_option maxRecDepth 100000 in
theorem cw_X8_init : lw_tbl[307]? = some (.code yX8_init cX8_init 1 (none)) := rfl
set_option maxRecDepth 100000 in
theorem cw_X8_begin : lw_tbl[859]? = some (.code yX8_begin cX8_begin 1 (none)) := rfl
set_option maxRecDepth 100000 in
theorem cw_X8_clearLevel : lw_tbl[863]? = some (.code yX8_clearLevel cX8_clearLevel 2 (none)) := rfl
set_option maxRecDepth 100000 in
theorem cw_X8_isOpen : lw_tbl[875]? = some (.code yX8_isOpen cX8_isOpen 1 (some .boolean)) := rfl
set_option maxRecDepth 100000 in
theorem cw_X8_value : lw_tbl[883]? = some (.code yX8_value cX8_value 1 (some .boolean)) := rfl
set_option maxRecDepth 100000 in
theorem cw_X8_join : lw_tbl[887]? = some (.code yX8_join cX8_join 2 (none)) := rfl
set_option maxRecDepth 100000 in
theorem cw_X8_turn : lw_tbl[867]? = some (.code yX8_turn cX8_turn 1 (none)) := rfl
set_option maxRecDepth 100000 in
theorem cw_X8_nextAnd : lw_tbl[891]? = some (.code yX8_nextAnd cX8_nextAnd 1 (none)) := rfl
set_option maxRecDepth 100000 in
theorem cw_X8_enter : lw_tbl[871]? = some (.code yX8_enter cX8_enter 2 (none)) := rfl
set_option maxRecDepth 100000 in
theorem cw_X8_leave : lw_tbl[879]? = some (.code yX8_leave cX8_leave 2 (none)) := rfl
set_option maxRecDepth 100000 in
theorem cw_X9_init : lw_tbl[211]? = some (.code yX9_init cX9_init 2 (none)) := rfl
set_option maxRecDepth 100000 in
theorem cw_X9_along : lw_tbl[432]? = some (.code yX9_along cX9_along 9 (some .int)) := rfl
set_option maxRecDepth 100000 in
theorem cw_X9_putInFront : lw_tbl[436]? = some (.code yX9_putInFront cX9_putInFront 4 (none)) := rfl
set_option maxRecDepth 100000 in
theorem cw_X9_takeStep : lw_tbl[451]? = some (.code yX9_takeStep cX9_takeStep 7 (some .int)) := rfl
set_option maxRecDepth 100000 in
theorem cw_X9_dotsAlone : lw_tbl[456]? = some (.code yX9_dotsAlone cX9_dotsAlone 3 (some .int)) := rfl
set_option maxRecDepth 100000 in
theorem cw_X9_follow : lw_tbl[468]? = some (.code yX9_follow cX9_follow 3 (some .int)) := rfl
set_option maxRecDepth 100000 in
theorem cw_X10_init : lw_tbl[91]? = some (.code yX10_init cX10_init 1 (none)) := rfl
set_option maxRecDepth 100000 in
theorem cw_X10_type : lw_tbl[580]? = some (.code yX10_type cX10_type 7 (some .int)) := rfl
set_option maxRecDepth 100000 in
theorem cw_X10_erase : lw_tbl[408]? = some (.code yX10_erase cX10_erase 2 (some .int)) := rfl
set_option maxRecDepth 100000 in
theorem cw_X10_make : lw_tbl[663]? = some (.code yX10_make cX10_make 6 (some .int)) := rfl
set_option maxRecDepth 100000 in
theorem cw_X10_link : lw_tbl[700]? = some (.code yX10_link cX10_link 5 (some .int)) := rfl
set_option maxRecDepth 100000 in
theorem cw_X10_tie : lw_tbl[416]? = some (.code yX10_tie cX10_tie 3 (some .int)) := rfl
set_option maxRecDepth 100000 in
theorem cw_X10_drop : lw_tbl[527]? = some (.code yX10_drop cX10_drop 4 (some .int)) := rfl
set_option maxRecDepth 100000 in
theorem cw_X10_bits : lw_tbl[713]? = some (.code yX10_bits cX10_bits 5 (some .int)) := rfl
set_option maxRecDepth 100000 in
theorem cw_X10_go : lw_tbl[539]? = some (.code yX10_go cX10_go 3 (some .int)) := rfl
set_option maxRecDepth 100000 in
theorem cw_X10_node : lw_tbl[543]? = some (.code yX10_node cX10_node 2 (some .int)) := rfl
set_option maxRecDepth 100000 in
theorem cw_X10_real : lw_tbl[547]? = some (.code yX10_real cX10_real 5 (some .int)) := rfl
set_option maxRecDepth 100000 in
theorem cw_X10_find : lw_tbl[721]? = some (.code yX10_find cX10_find 5 (some .int)) := rfl
set_option maxRecDepth 100000 in
theorem cw_X10_place : lw_tbl[564]? = some (.code yX10_place cX10_place 1 (some .int)) := rfl
set_option maxRecDepth 100000 in
theorem cw_X10_output : lw_tbl[568]? = some (.code yX10_output cX10_output 2 (some .char)) := rfl
set_option maxRecDepth 100000 in
theorem cw_X10_tell : lw_tbl[940]? = some (.code yX10_tell cX10_tell 4 (some .int)) := rfl
set_option maxRecDepth 100000 in
theorem cw_X10_count : lw_tbl[572]? = some (.code yX10_count cX10_count 2 (some .int)) := rfl
set_option maxRecDepth 100000 in
theorem cw_X10_isOutOfBounds : lw_tbl[666]? = some (.code yX10_isOutOfBounds cX10_isOutOfBounds 1 (some .boolean)) := rfl
set_option maxRecDepth 100000 in
theorem cw_X10_nodeOfWord : lw_tbl[420]? = some (.code yX10_nodeOfWord cX10_nodeOfWord 3 (some .int)) := rfl
set_option maxRecDepth 100000 in
theorem cw_X10_newPlace : lw_tbl[473]? = some (.code yX10_newPlace cX10_newPlace 8 (some .int)) := rfl
set_option maxRecDepth 100000 in
theorem cw_X10_settle : lw_tbl[689]? = some (.code yX10_settle cX10_settle 5 (some .int)) := rfl
set_option maxRecDepth 100000 in
theorem cw_X10_lookUpNewer : lw_tbl[838]? = some (.code yX10_lookUpNewer cX10_lookUpNewer 4 (some .int)) := rfl
set_option maxRecDepth 100000 in
theorem cw_X11_init : lw_tbl[961]? = some (.code yX11_init cX11_init 2 (none)) := rfl
set_option maxRecDepth 100000 in
theorem cw_X11_thrown : lw_tbl[1129]? = some (.code yX11_thrown cX11_thrown 1 (some .int)) := rfl
set_option maxRecDepth 100000 in
theorem cw_X11_refused : lw_tbl[1141]? = some (.code yX11_refused cX11_refused 2 (some .boolean)) := rfl
set_option maxRecDepth 100000 in
theorem cw_X11_put : lw_tbl[1137]? = some (.code yX11_put cX11_put 4 (none)) := rfl
set_option maxRecDepth 100000 in
theorem cw_X11_type : lw_tbl[1133]? = some (.code yX11_type cX11_type 10 (some .int)) := rfl
set_option maxRecDepth 100000 in
theorem cw_X11_erase : lw_tbl[1145]? = some (.code yX11_erase cX11_erase 2 (some .int)) := rfl
set_option maxRecDepth 100000 in
theorem cw_X11_cut : lw_tbl[1157]? = some (.code yX11_cut cX11_cut 2 (none)) := rfl
set_option maxRecDepth 100000 in
theorem cw_X11_wordSize : lw_tbl[1207]? = some (.code yX11_wordSize cX11_wordSize 2 (some .int)) := rfl
set_option maxRecDepth 100000 in
theorem cw_X11_isWord : lw_tbl[1255]? = some (.code yX11_isWord cX11_isWord 5 (some .boolean)) := rfl
set_option maxRecDepth 100000 in
theorem cw_X11_isSign : lw_tbl[1167]? = some (.code yX11_isSign cX11_isSign 1 (some .boolean)) := rfl
set_option maxRecDepth 100000 in
theorem cw_X11_isName : lw_tbl[1164]? = some (.code yX11_isName cX11_isName 6 (some .boolean)) := rfl
set_option maxRecDepth 100000 in
theorem cw_X11_compare : lw_tbl[1183]? = some (.code yX11_compare cX11_compare 9 (some .int)) := rfl
set_option maxRecDepth 100000 in
theorem cw_X11_nameAt : lw_tbl[1179]? = some (.code yX11_nameAt cX11_nameAt 6 (some .int)) := rfl
set_option maxRecDepth 100000 in
theorem cw_X11_addName : lw_tbl[1199]? = some (.code yX11_addName cX11_addName 8 (none)) := rfl
set_option maxRecDepth 100000 in
theorem cw_X11_removeName : lw_tbl[1223]? = some (.code yX11_removeName cX11_removeName 5 (none)) := rfl
set_option maxRecDepth 100000 in
theorem cw_X11_layWay : lw_tbl[1171]? = some (.code yX11_layWay cX11_layWay 4 (none)) := rfl
set_option maxRecDepth 100000 in
theorem cw_X11_layText : lw_tbl[1187]? = some (.code yX11_layText cX11_layText 6 (none)) := rfl
set_option maxRecDepth 100000 in
theorem cw_X11_walk : lw_tbl[1175]? = some (.code yX11_walk cX11_walk 8 (some .int)) := rfl
set_option maxRecDepth 100000 in
theorem cw_X11_walkWord : lw_tbl[1215]? = some (.code yX11_walkWord cX11_walkWord 3 (some .int)) := rfl
set_option maxRecDepth 100000 in
theorem cw_X11_newPlace : lw_tbl[1161]? = some (.code yX11_newPlace cX11_newPlace 6 (some .int)) := rfl
set_option maxRecDepth 100000 in
theorem cw_X11_freeNode : lw_tbl[1191]? = some (.code yX11_freeNode cX11_freeNode 3 (some .int)) := rfl
set_option maxRecDepth 100000 in
theorem cw_X11_makeNode : lw_tbl[1195]? = some (.code yX11_makeNode cX11_makeNode 6 (some .int)) := rfl
set_option maxRecDepth 100000 in
theorem cw_X11_isIn : lw_tbl[1152]? = some (.code yX11_isIn cX11_isIn 1 (some .boolean)) := rfl
set_option maxRecDepth 100000 in
theorem cw_X11_make : lw_tbl[1149]? = some (.code yX11_make cX11_make 5 (some .int)) := rfl
set_option maxRecDepth 100000 in
theorem cw_X11_link : lw_tbl[1203]? = some (.code yX11_link cX11_link 5 (some .int)) := rfl
set_option maxRecDepth 100000 in
theorem cw_X11_tie : lw_tbl[1211]? = some (.code yX11_tie cX11_tie 3 (some .int)) := rfl
set_option maxRecDepth 100000 in
theorem cw_X11_drop : lw_tbl[1219]? = some (.code yX11_drop cX11_drop 2 (some .int)) := rfl
set_option maxRecDepth 100000 in
theorem cw_X11_bits : lw_tbl[1227]? = some (.code yX11_bits cX11_bits 4 (some .int)) := rfl
set_option maxRecDepth 100000 in
theorem cw_X11_go : lw_tbl[1231]? = some (.code yX11_go cX11_go 2 (some .int)) := rfl
set_option maxRecDepth 100000 in
theorem cw_X11_node : lw_tbl[1235]? = some (.code yX11_node cX11_node 2 (some .int)) := rfl
set_option maxRecDepth 100000 in
theorem cw_X11_entryOf : lw_tbl[1243]? = some (.code yX11_entryOf cX11_entryOf 4 (some .int)) := rfl
set_option maxRecDepth 100000 in
theorem cw_X11_real : lw_tbl[1239]? = some (.code yX11_real cX11_real 6 (some .int)) := rfl
set_option maxRecDepth 100000 in
theorem cw_X11_write : lw_tbl[1247]? = some (.code yX11_write cX11_write 2 (none)) := rfl
set_option maxRecDepth 100000 in
theorem cw_X11_testOf : lw_tbl[1267]? = some (.code yX11_testOf cX11_testOf 2 (some .int)) := rfl
set_option maxRecDepth 100000 in
theorem cw_X11_same : lw_tbl[1271]? = some (.code yX11_same cX11_same 9 (some .boolean)) := rfl
set_option maxRecDepth 100000 in
theorem cw_X11_isNumber : lw_tbl[1279]? = some (.code yX11_isNumber cX11_isNumber 5 (some .boolean)) := rfl
set_option maxRecDepth 100000 in
theorem cw_X11_addPart : lw_tbl[1263]? = some (.code yX11_addPart cX11_addPart 4 (some .int)) := rfl
set_option maxRecDepth 100000 in
theorem cw_X11_parse : lw_tbl[1259]? = some (.code yX11_parse cX11_parse 9 (some .int)) := rfl
set_option maxRecDepth 100000 in
theorem cw_X11_mayFollow : lw_tbl[1275]? = some (.code yX11_mayFollow cX11_mayFollow 3 (some .boolean)) := rfl
set_option maxRecDepth 100000 in
theorem cw_X11_applyNots : lw_tbl[1283]? = some (.code yX11_applyNots cX11_applyNots 4 (some .int)) := rfl
set_option maxRecDepth 100000 in
theorem cw_X11_applyTwo : lw_tbl[1287]? = some (.code yX11_applyTwo cX11_applyTwo 3 (some .int)) := rfl
set_option maxRecDepth 100000 in
theorem cw_X11_setEnd : lw_tbl[1319]? = some (.code yX11_setEnd cX11_setEnd 5 (some .int)) := rfl
set_option maxRecDepth 100000 in
theorem cw_X11_inSet : lw_tbl[1323]? = some (.code yX11_inSet cX11_inSet 7 (some .boolean)) := rfl
set_option maxRecDepth 100000 in
theorem cw_X11_matches : lw_tbl[1315]? = some (.code yX11_matches cX11_matches 10 (some .boolean)) := rfl
set_option maxRecDepth 100000 in
theorem cw_X11_compares : lw_tbl[1327]? = some (.code yX11_compares cX11_compares 7 (some .boolean)) := rfl
set_option maxRecDepth 100000 in
theorem cw_X11_print : lw_tbl[1331]? = some (.code yX11_print cX11_print 2 (none)) := rfl
set_option maxRecDepth 100000 in
theorem cw_X11_test : lw_tbl[1311]? = some (.code yX11_test cX11_test 4 (some .boolean)) := rfl
set_option maxRecDepth 100000 in
theorem cw_X11_ask : lw_tbl[1307]? = some (.code yX11_ask cX11_ask 8 (none)) := rfl
set_option maxRecDepth 100000 in
theorem cw_X11_nextName : lw_tbl[1335]? = some (.code yX11_nextName cX11_nextName 6 (some .int)) := rfl
set_option maxRecDepth 100000 in
theorem cw_X11_goThrough : lw_tbl[1299]? = some (.code yX11_goThrough cX11_goThrough 7 (none)) := rfl
set_option maxRecDepth 100000 in
theorem cw_X11_enter : lw_tbl[1303]? = some (.code yX11_enter cX11_enter 3 (some .boolean)) := rfl
set_option maxRecDepth 100000 in
theorem cw_X11_lookUp : lw_tbl[1291]? = some (.code yX11_lookUp cX11_lookUp 3 (some .int)) := rfl
set_option maxRecDepth 100000 in
theorem cw_X11_find : lw_tbl[1251]? = some (.code yX11_find cX11_find 6 (some .int)) := rfl
set_option maxRecDepth 100000 in
theorem cw_X11_nameTop : lw_tbl[1295]? = some (.code yX11_nameTop cX11_nameTop 3 (none)) := rfl
set_option maxRecDepth 100000 in
theorem cw_X11_place : lw_tbl[1339]? = some (.code yX11_place cX11_place 1 (some .int)) := rfl
set_option maxRecDepth 100000 in
theorem cw_X11_output : lw_tbl[1343]? = some (.code yX11_output cX11_output 2 (some .char)) := rfl
set_option maxRecDepth 100000 in
theorem cw_X11_tell : lw_tbl[1347]? = some (.code yX11_tell cX11_tell 3 (some .int)) := rfl
set_option maxRecDepth 100000 in
theorem cw_X11_count : lw_tbl[1351]? = some (.code yX11_count cX11_count 4 (some .int)) := rfl
set_option maxRecDepth 100000 in
theorem cw_J0_length : lw_tbl[744]? = some (.code yJ0_length_8abf5 cJ0_length_8abf5 1 (some .int)) := rfl
set_option maxRecDepth 100000 in
theorem cw_J0_charAt : lw_tbl[754]? = some (.code yJ0_charAt_5068e cJ0_charAt_5068e 2 (some .char)) := rfl
set_option maxRecDepth 100000 in
theorem cw_J0_coder : lw_tbl[748]? = some (.code yJ0_coder_7d493 cJ0_coder_7d493 1 (some .byte)) := rfl
set_option maxRecDepth 100000 in
theorem cw_J0_isLatin1 : lw_tbl[758]? = some (.code yJ0_isLatin1_aae02 cJ0_isLatin1_aae02 1 (some .boolean)) := rfl
set_option maxRecDepth 100000 in
theorem cw_J0_checkIndex : lw_tbl[764]? = some (.code yJ0_checkIndex_df160 cJ0_checkIndex_df160 2 (none)) := rfl
set_option maxRecDepth 100000 in
theorem cw_J1_charAt : lw_tbl[761]? = some (.code yJ1_charAt_3b067 cJ1_charAt_3b067 2 (some .char)) := rfl
set_option maxRecDepth 100000 in
theorem cw_J3_checkIndex : lw_tbl[769]? = some (.code yJ3_checkIndex_8e157 cJ3_checkIndex_8e157 3 (some .int)) := rfl
set_option maxRecDepth 100000 in
theorem cw_L_type : lw_tbl[575]? = some (.codeWith yL_type cL_type 8 (some .int) [(0, 16, 19, 13)]) := rfl
set_option maxRecDepth 100000 in
theorem cw_L_make : lw_tbl[658]? = some (.codeWith yL_make cL_make 6 (some .int) [(0, 12, 15, 19)]) := rfl
set_option maxRecDepth 100000 in
theorem cw_L_link : lw_tbl[696]? = some (.codeWith yL_link cL_link 4 (some .int) [(0, 9, 12, 19)]) := rfl
set_option maxRecDepth 100000 in
theorem cw_L_bits : lw_tbl[709]? = some (.codeWith yL_bits cL_bits 4 (some .int) [(0, 9, 12, 19)]) := rfl
set_option maxRecDepth 100000 in
theorem cw_L_find : lw_tbl[717]? = some (.codeWith yL_find cL_find 4 (some .int) [(0, 9, 12, 19)]) := rfl
set_option maxRecDepth 100000 in
theorem cw_L_tell : lw_tbl[935]? = some (.codeWith yL_tell cL_tell 5 (some .int) [(0, 10, 13, 35)]) := rfl
set_option maxRecDepth 100000 in
theorem cw_all : ∀ k, k < 162 → k = 161 ∨ lw_tbl[(mPo k).1]? = some (cwd k) := fun k hk => match k, hk with
  | 0, _ => Or.inr cw_X0_init
  | 1, _ => Or.inr cw_X0_isName
  | 2, _ => Or.inr cw_X0_orderTo
  | 3, _ => Or.inr cw_X1_init
  | 4, _ => Or.inr cw_X1_read
  | 5, _ => Or.inr cw_X1_addPart
  | 6, _ => Or.inr cw_X1_kindOf
  | 7, _ => Or.inr cw_X1_kindOfMinus
  | 8, _ => Or.inr cw_X1_readOperand
  | 9, _ => Or.inr cw_X1_readKind
  | 10, _ => Or.inr cw_X1_readNumber
  | 11, _ => Or.inr cw_X2_init
  | 12, _ => Or.inr cw_X2_begin
  | 13, _ => Or.inr cw_X2_search
  | 14, _ => Or.inr cw_X2_visit
  | 15, _ => Or.inr cw_X2_visitBelow
  | 16, _ => Or.inr cw_X2_ask
  | 17, _ => Or.inr cw_X2_isTrue
  | 18, _ => Or.inr cw_X2_compares
  | 19, _ => Or.inr cw_X2_printPath
  | 20, _ => Or.inr cw_X3_init
  | 21, _ => Or.inr cw_X3_matches
  | 22, _ => Or.inr cw_X3_fromLeastOn
  | 23, _ => Or.inr cw_X3_closing
  | 24, _ => Or.inr cw_X3_isInSet
  | 25, _ => Or.inr cw_X4_init
  | 26, _ => Or.inr cw_X4_charactersIn
  | 27, _ => Or.inr cw_X4_add
  | 28, _ => Or.inr cw_X4_split
  | 29, _ => Or.inr cw_X4_start
  | 30, _ => Or.inr cw_X4_end
  | 31, _ => Or.inr cw_X4_wordLength
  | 32, _ => Or.inr cw_X4_letter
  | 33, _ => Or.inr cw_X4_is
  | 34, _ => Or.inr cw_X4_beginsWithPath
  | 35, _ => Or.inr cw_X4_lastStepEnd
  | 36, _ => Or.inr cw_X4_lastStepStart
  | 37, _ => Or.inr cw_X4_lastStep
  | 38, _ => Or.inr cw_X5_init
  | 39, _ => Or.inr cw_X5_entry
  | 40, _ => Or.inr cw_X5_insert
  | 41, _ => Or.inr cw_X5_remove
  | 42, _ => Or.inr cw_X6_init
  | 43, _ => Or.inr cw_X6_writeLine
  | 44, _ => Or.inr cw_X6_beginAtBack
  | 45, _ => Or.inr cw_X6_putInFront
  | 46, _ => Or.inr cw_X6_moveToFront
  | 47, _ => Or.inr cw_X7_init
  | 48, _ => Or.inr cw_X7_at
  | 49, _ => Or.inr cw_X7_isDirectory
  | 50, _ => Or.inr cw_X7_add
  | 51, _ => Or.inr cw_X7_join
  | 52, _ => Or.inr cw_X7_part
  | 53, _ => Or.inr cw_X8_init
  | 54, _ => Or.inr cw_X8_begin
  | 55, _ => Or.inr cw_X8_clearLevel
  | 56, _ => Or.inr cw_X8_isOpen
  | 57, _ => Or.inr cw_X8_value
  | 58, _ => Or.inr cw_X8_join
  | 59, _ => Or.inr cw_X8_turn
  | 60, _ => Or.inr cw_X8_nextAnd
  | 61, _ => Or.inr cw_X8_enter
  | 62, _ => Or.inr cw_X8_leave
  | 63, _ => Or.inr cw_X9_init
  | 64, _ => Or.inr cw_X9_along
  | 65, _ => Or.inr cw_X9_putInFront
  | 66, _ => Or.inr cw_X9_takeStep
  | 67, _ => Or.inr cw_X9_dotsAlone
  | 68, _ => Or.inr cw_X9_follow
  | 69, _ => Or.inr cw_X10_init
  | 70, _ => Or.inr cw_X10_type
  | 71, _ => Or.inr cw_X10_erase
  | 72, _ => Or.inr cw_X10_make
  | 73, _ => Or.inr cw_X10_link
  | 74, _ => Or.inr cw_X10_tie
  | 75, _ => Or.inr cw_X10_drop
  | 76, _ => Or.inr cw_X10_bits
  | 77, _ => Or.inr cw_X10_go
  | 78, _ => Or.inr cw_X10_node
  | 79, _ => Or.inr cw_X10_real
  | 80, _ => Or.inr cw_X10_find
  | 81, _ => Or.inr cw_X10_place
  | 82, _ => Or.inr cw_X10_output
  | 83, _ => Or.inr cw_X10_tell
  | 84, _ => Or.inr cw_X10_count
  | 85, _ => Or.inr cw_X10_isOutOfBounds
  | 86, _ => Or.inr cw_X10_nodeOfWord
  | 87, _ => Or.inr cw_X10_newPlace
  | 88, _ => Or.inr cw_X10_settle
  | 89, _ => Or.inr cw_X10_lookUpNewer
  | 90, _ => Or.inr cw_X11_init
  | 91, _ => Or.inr cw_X11_thrown
  | 92, _ => Or.inr cw_X11_refused
  | 93, _ => Or.inr cw_X11_put
  | 94, _ => Or.inr cw_X11_type
  | 95, _ => Or.inr cw_X11_erase
  | 96, _ => Or.inr cw_X11_cut
  | 97, _ => Or.inr cw_X11_wordSize
  | 98, _ => Or.inr cw_X11_isWord
  | 99, _ => Or.inr cw_X11_isSign
  | 100, _ => Or.inr cw_X11_isName
  | 101, _ => Or.inr cw_X11_compare
  | 102, _ => Or.inr cw_X11_nameAt
  | 103, _ => Or.inr cw_X11_addName
  | 104, _ => Or.inr cw_X11_removeName
  | 105, _ => Or.inr cw_X11_layWay
  | 106, _ => Or.inr cw_X11_layText
  | 107, _ => Or.inr cw_X11_walk
  | 108, _ => Or.inr cw_X11_walkWord
  | 109, _ => Or.inr cw_X11_newPlace
  | 110, _ => Or.inr cw_X11_freeNode
  | 111, _ => Or.inr cw_X11_makeNode
  | 112, _ => Or.inr cw_X11_isIn
  | 113, _ => Or.inr cw_X11_make
  | 114, _ => Or.inr cw_X11_link
  | 115, _ => Or.inr cw_X11_tie
  | 116, _ => Or.inr cw_X11_drop
  | 117, _ => Or.inr cw_X11_bits
  | 118, _ => Or.inr cw_X11_go
  | 119, _ => Or.inr cw_X11_node
  | 120, _ => Or.inr cw_X11_entryOf
  | 121, _ => Or.inr cw_X11_real
  | 122, _ => Or.inr cw_X11_write
  | 123, _ => Or.inr cw_X11_testOf
  | 124, _ => Or.inr cw_X11_same
  | 125, _ => Or.inr cw_X11_isNumber
  | 126, _ => Or.inr cw_X11_addPart
  | 127, _ => Or.inr cw_X11_parse
  | 128, _ => Or.inr cw_X11_mayFollow
  | 129, _ => Or.inr cw_X11_applyNots
  | 130, _ => Or.inr cw_X11_applyTwo
  | 131, _ => Or.inr cw_X11_setEnd
  | 132, _ => Or.inr cw_X11_inSet
  | 133, _ => Or.inr cw_X11_matches
  | 134, _ => Or.inr cw_X11_compares
  | 135, _ => Or.inr cw_X11_print
  | 136, _ => Or.inr cw_X11_test
  | 137, _ => Or.inr cw_X11_ask
  | 138, _ => Or.inr cw_X11_nextName
  | 139, _ => Or.inr cw_X11_goThrough
  | 140, _ => Or.inr cw_X11_enter
  | 141, _ => Or.inr cw_X11_lookUp
  | 142, _ => Or.inr cw_X11_find
  | 143, _ => Or.inr cw_X11_nameTop
  | 144, _ => Or.inr cw_X11_place
  | 145, _ => Or.inr cw_X11_output
  | 146, _ => Or.inr cw_X11_tell
  | 147, _ => Or.inr cw_X11_count
  | 148, _ => Or.inr cw_J0_length
  | 149, _ => Or.inr cw_J0_charAt
  | 150, _ => Or.inr cw_J0_coder
  | 151, _ => Or.inr cw_J0_isLatin1
  | 152, _ => Or.inr cw_J0_checkIndex
  | 153, _ => Or.inr cw_J1_charAt
  | 154, _ => Or.inr cw_J3_checkIndex
  | 155, _ => Or.inr cw_L_type
  | 156, _ => Or.inr cw_L_make
  | 157, _ => Or.inr cw_L_link
  | 158, _ => Or.inr cw_L_bits
  | 159, _ => Or.inr cw_L_find
  | 160, _ => Or.inr cw_L_tell
  | 161, _ => Or.inl rfl
  | n + 162, h => absurd h (by omega)
