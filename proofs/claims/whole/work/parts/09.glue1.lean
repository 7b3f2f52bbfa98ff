theorem okm {k L : Nat} {f : Nat → Option mE} (hk : ∀ pc, mcode k pc = mg L pc (f pc)) (hL : mLn k = L) (hok : ∀ pc, pc < mLn k → okO k pc (f pc) = true ∧ okO k (100000 + pc) (f (100000 + pc)) = true) : ∀ pc e, mcode k pc = some e → okE k pc e = true := by
  intro pc e he
  rw [hk] at he
  unfold mg at he
  split at he
  · rename_i hg
    rw [hL] at hok
    by_cases hp : pc < 100000
    · have h1 := (hok pc (by omega)).1
      rw [he] at h1
      exact h1
    · have h1 := (hok (pc - 100000) (by omega)).2
      rw [show 100000 + (pc - 100000) = pc by omega, he] at h1
      exact h1
  · cases he
theorem ok_all : ∀ k, k < 162 → ∀ pc e, mcode k pc = some e → okE k pc e = true := fun k hk => match k, hk with
  | 0, _ => okm mk_X0_init rfl ok_X0_init
  | 1, _ => okm mk_X0_isName rfl ok_X0_isName
  | 2, _ => okm mk_X0_orderTo rfl ok_X0_orderTo
  | 3, _ => okm mk_X1_init rfl ok_X1_init
  | 4, _ => okm mk_X1_read rfl ok_X1_read
  | 5, _ => okm mk_X1_addPart rfl ok_X1_addPart
  | 6, _ => okm mk_X1_kindOf rfl ok_X1_kindOf
  | 7, _ => okm mk_X1_kindOfMinus rfl ok_X1_kindOfMinus
  | 8, _ => okm mk_X1_readOperand rfl ok_X1_readOperand
  | 9, _ => okm mk_X1_readKind rfl ok_X1_readKind
  | 10, _ => okm mk_X1_readNumber rfl ok_X1_readNumber
  | 11, _ => okm mk_X2_init rfl ok_X2_init
  | 12, _ => okm mk_X2_begin rfl ok_X2_begin
  | 13, _ => okm mk_X2_search rfl ok_X2_search
  | 14, _ => okm mk_X2_visit rfl ok_X2_visit
  | 15, _ => okm mk_X2_visitBelow rfl ok_X2_visitBelow
  | 16, _ => okm mk_X2_ask rfl ok_X2_ask
  | 17, _ => okm mk_X2_isTrue rfl ok_X2_isTrue
  | 18, _ => okm mk_X2_compares rfl ok_X2_compares
  | 19, _ => okm mk_X2_printPath rfl ok_X2_printPath
  | 20, _ => okm mk_X3_init rfl ok_X3_init
  | 21, _ => okm mk_X3_matches rfl ok_X3_matches
  | 22, _ => okm mk_X3_fromLeastOn rfl ok_X3_fromLeastOn
  | 23, _ => okm mk_X3_closing rfl ok_X3_closing
  | 24, _ => okm mk_X3_isInSet rfl ok_X3_isInSet
  | 25, _ => okm mk_X4_init rfl ok_X4_init
  | 26, _ => okm mk_X4_charactersIn rfl ok_X4_charactersIn
  | 27, _ => okm mk_X4_add rfl ok_X4_add
  | 28, _ => okm mk_X4_split rfl ok_X4_split
  | 29, _ => okm mk_X4_start rfl ok_X4_start
  | 30, _ => okm mk_X4_end rfl ok_X4_end
  | 31, _ => okm mk_X4_wordLength rfl ok_X4_wordLength
  | 32, _ => okm mk_X4_letter rfl ok_X4_letter
  | 33, _ => okm mk_X4_is rfl ok_X4_is
  | 34, _ => okm mk_X4_beginsWithPath rfl ok_X4_beginsWithPath
  | 35, _ => okm mk_X4_lastStepEnd rfl ok_X4_lastStepEnd
  | 36, _ => okm mk_X4_lastStepStart rfl ok_X4_lastStepStart
  | 37, _ => okm mk_X4_lastStep rfl ok_X4_lastStep
  | 38, _ => okm mk_X5_init rfl ok_X5_init
  | 39, _ => okm mk_X5_entry rfl ok_X5_entry
  | 40, _ => okm mk_X5_insert rfl ok_X5_insert
  | 41, _ => okm mk_X5_remove rfl ok_X5_remove
  | 42, _ => okm mk_X6_init rfl ok_X6_init
  | 43, _ => okm mk_X6_writeLine rfl ok_X6_writeLine
  | 44, _ => okm mk_X6_beginAtBack rfl ok_X6_beginAtBack
  | 45, _ => okm mk_X6_putInFront rfl ok_X6_putInFront
  | 46, _ => okm mk_X6_moveToFront rfl ok_X6_moveToFront
  | 47, _ => okm mk_X7_init rfl ok_X7_init
  | 48, _ => okm mk_X7_at rfl ok_X7_at
  | 49, _ => okm mk_X7_isDirectory rfl ok_X7_isDirectory
  | 50, _ => okm mk_X7_add rfl ok_X7_add
  | 51, _ => okm mk_X7_join rfl ok_X7_join
  | 52, _ => okm mk_X7_part rfl ok_X7_part
  | 53, _ => okm mk_X8_init rfl ok_X8_init
  | 54, _ => okm mk_X8_begin rfl ok_X8_begin
  | 55, _ => okm mk_X8_clearLevel rfl ok_X8_clearLevel
  | 56, _ => okm mk_X8_isOpen rfl ok_X8_isOpen
  | 57, _ => okm mk_X8_value rfl ok_X8_value
  | 58, _ => okm mk_X8_join rfl ok_X8_join
  | 59, _ => okm mk_X8_turn rfl ok_X8_turn
  | 60, _ => okm mk_X8_nextAnd rfl ok_X8_nextAnd
  | 61, _ => okm mk_X8_enter rfl ok_X8_enter
  | 62, _ => okm mk_X8_leave rfl ok_X8_leave
  | 63, _ => okm mk_X9_init rfl ok_X9_init
  | 64, _ => okm mk_X9_along rfl ok_X9_along
  | 65, _ => okm mk_X9_putInFront rfl ok_X9_putInFront
  | 66, _ => okm mk_X9_takeStep rfl ok_X9_takeStep
  | 67, _ => okm mk_X9_dotsAlone rfl ok_X9_dotsAlone
  | 68, _ => okm mk_X9_follow rfl ok_X9_follow
  | 69, _ => okm mk_X10_init rfl ok_X10_init
  | 70, _ => okm mk_X10_type rfl ok_X10_type
  | 71, _ => okm mk_X10_erase rfl ok_X10_erase
  | 72, _ => okm mk_X10_make rfl ok_X10_make
  | 73, _ => okm mk_X10_link rfl ok_X10_link
  | 74, _ => okm mk_X10_tie rfl ok_X10_tie
  | 75, _ => okm mk_X10_drop rfl ok_X10_drop
  | 76, _ => okm mk_X10_bits rfl ok_X10_bits
  | 77, _ => okm mk_X10_go rfl ok_X10_go
  | 78, _ => okm mk_X10_node rfl ok_X10_node
  | 79, _ => okm mk_X10_real rfl ok_X10_real
  | 80, _ => okm mk_X10_find rfl ok_X10_find
  | 81, _ => okm mk_X10_place rfl ok_X10_place
  | 82, _ => okm mk_X10_output rfl ok_X10_output
  | 83, _ => okm mk_X10_tell rfl ok_X10_tell
  | 84, _ => okm mk_X10_count rfl ok_X10_count
  | 85, _ => okm mk_X10_isOutOfBounds rfl ok_X10_isOutOfBounds
  | 86, _ => okm mk_X10_nodeOfWord rfl ok_X10_nodeOfWord
  | 87, _ => okm mk_X10_newPlace rfl ok_X10_newPlace
  | 88, _ => okm mk_X10_settle rfl ok_X10_settle
  | 89, _ => okm mk_X10_lookUpNewer rfl ok_X10_lookUpNewer
  | 90, _ => okm mk_X11_init rfl ok_X11_init
  | 91, _ => okm mk_X11_thrown rfl ok_X11_thrown
  | 92, _ => okm mk_X11_refused rfl ok_X11_refused
  | 93, _ => okm mk_X11_put rfl ok_X11_put
  | 94, _ => okm mk_X11_type rfl ok_X11_type
  | 95, _ => okm mk_X11_erase rfl ok_X11_erase
  | 96, _ => okm mk_X11_cut rfl ok_X11_cut
  | 97, _ => okm mk_X11_wordSize rfl ok_X11_wordSize
  | 98, _ => okm mk_X11_isWord rfl ok_X11_isWord
  | 99, _ => okm mk_X11_isSign rfl ok_X11_isSign
  | 100, _ => okm mk_X11_isName rfl ok_X11_isName
  | 101, _ => okm mk_X11_compare rfl ok_X11_compare
  | 102, _ => okm mk_X11_nameAt rfl ok_X11_nameAt
  | 103, _ => okm mk_X11_addName rfl ok_X11_addName
  | 104, _ => okm mk_X11_removeName rfl ok_X11_removeName
  | 105, _ => okm mk_X11_layWay rfl ok_X11_layWay
  | 106, _ => okm mk_X11_layText rfl ok_X11_layText
  | 107, _ => okm mk_X11_walk rfl ok_X11_walk
  | 108, _ => okm mk_X11_walkWord rfl ok_X11_walkWord
  | 109, _ => okm mk_X11_newPlace rfl ok_X11_newPlace
  | 110, _ => okm mk_X11_freeNode rfl ok_X11_freeNode
  | 111, _ => okm mk_X11_makeNode rfl ok_X11_makeNode
  | 112, _ => okm mk_X11_isIn rfl ok_X11_isIn
  | 113, _ => okm mk_X11_make rfl ok_X11_make
  | 114, _ => okm mk_X11_link rfl ok_X11_link
  | 115, _ => okm mk_X11_tie rfl ok_X11_tie
  | 116, _ => okm mk_X11_drop rfl ok_X11_drop
  | 117, _ => okm mk_X11_bits rfl ok_X11_bits
  | 118, _ => okm mk_X11_go rfl ok_X11_go
  | 119, _ => okm mk_X11_node rfl ok_X11_node
  | 120, _ => okm mk_X11_entryOf rfl ok_X11_entryOf
  | 121, _ => okm mk_X11_real rfl ok_X11_real
  | 122, _ => okm mk_X11_write rfl ok_X11_write
  | 123, _ => okm mk_X11_testOf rfl ok_X11_testOf
  | 124, _ => okm mk_X11_same rfl ok_X11_same
  | 125, _ => okm mk_X11_isNumber rfl ok_X11_isNumber
  | 126, _ => okm mk_X11_addPart rfl ok_X11_addPart
  | 127, _ => okm mk_X11_parse rfl ok_X11_parse
  | 128, _ => okm mk_X11_mayFollow rfl ok_X11_mayFollow
  | 129, _ => okm mk_X11_applyNots rfl ok_X11_applyNots
  | 130, _ => okm mk_X11_applyTwo rfl ok_X11_applyTwo
  | 131, _ => okm mk_X11_setEnd rfl ok_X11_setEnd
  | 132, _ => okm mk_X11_inSet rfl ok_X11_inSet
  | 133, _ => okm mk_X11_matches rfl ok_X11_matches
  | 134, _ => okm mk_X11_compares rfl ok_X11_compares
  | 135, _ => okm mk_X11_print rfl ok_X11_print
  | 136, _ => okm mk_X11_test rfl ok_X11_test
  | 137, _ => okm mk_X11_ask rfl ok_X11_ask
  | 138, _ => okm mk_X11_nextName rfl ok_X11_nextName
  | 139, _ => okm mk_X11_goThrough rfl ok_X11_goThrough
  | 140, _ => okm mk_X11_enter rfl ok_X11_enter
  | 141, _ => okm mk_X11_lookUp rfl ok_X11_lookUp
  | 142, _ => okm mk_X11_find rfl ok_X11_find
  | 143, _ => okm mk_X11_nameTop rfl ok_X11_nameTop
  | 144, _ => okm mk_X11_place rfl ok_X11_place
  | 145, _ => okm mk_X11_output rfl ok_X11_output
  | 146, _ => okm mk_X11_tell rfl ok_X11_tell
  | 147, _ => okm mk_X11_count rfl ok_X11_count
  | 148, _ => okm mk_J0_length rfl ok_J0_length
  | 149, _ => okm mk_J0_charAt rfl ok_J0_charAt
  | 150, _ => okm mk_J0_coder rfl ok_J0_coder
  | 151, _ => okm mk_J0_isLatin1 rfl ok_J0_isLatin1
  | 152, _ => okm mk_J0_checkIndex rfl ok_J0_checkIndex
  | 153, _ => okm mk_J1_charAt rfl ok_J1_charAt
  | 154, _ => okm mk_J3_checkIndex rfl ok_J3_checkIndex
  | 155, _ => okm mk_L_type rfl ok_L_type
  | 156, _ => okm mk_L_make rfl ok_L_make
  | 157, _ => okm mk_L_link rfl ok_L_link
  | 158, _ => okm mk_L_bits rfl ok_L_bits
  | 159, _ => okm mk_L_find rfl ok_L_find
  | 160, _ => okm mk_L_tell rfl ok_L_tell
  | 161, _ => okm mk_L_law rfl ok_L_law
  | n + 162, h => absurd h (by omega)
set_option maxRecDepth 100000 in
theorem mcs_len : mcs.length = 162 := rfl
theorem mcode_lt {k pc : Nat} {e : mE} (h : mcode k pc = some e) : k < 162 := by
  rcases Nat.lt_or_ge k 162 with q | q
  · exact q
  · unfold mcode at h
    rw [List.getElem?_eq_none (by rw [mcs_len]; exact q)] at h
    cases h
theorem ok_tab (k pc : Nat) (e : mE) (h : mcode k pc = some e) : okE k pc e = true := ok_all k (mcode_lt h) pc e h
def nlE (e : Option mE) : Bool := match e with
  | some (.invokestatic _, _, x, _) => x != 161
  | _ => true
theorem nlm {k L : Nat} {f : Nat → Option mE} (hk : ∀ pc, mcode k pc = mg L pc (f pc)) (hok : ∀ pc, pc < L → nlE (f pc) = true ∧ nlE (f (100000 + pc)) = true) : ∀ pc, nlE (mcode k pc) = true := by
  intro pc
  rw [hk]
  unfold mg
  split
  · rename_i hg
    by_cases hp : pc < 100000
    · exact (hok pc (by omega)).1
    · have h1 := (hok (pc - 100000) (by omega)).2
      rw [show 100000 + (pc - 100000) = pc by omega] at h1
      exact h1
  · rfl
theorem nl_X0_init : ∀ pc, nlE (mcode 0 pc) = true := nlm mk_X0_init (by decide +kernel)
theorem nl_X0_isName : ∀ pc, nlE (mcode 1 pc) = true := nlm mk_X0_isName (by decide +kernel)
theorem nl_X0_orderTo : ∀ pc, nlE (mcode 2 pc) = true := nlm mk_X0_orderTo (by decide +kernel)
theorem nl_X1_init : ∀ pc, nlE (mcode 3 pc) = true := nlm mk_X1_init (by decide +kernel)
theorem nl_X1_read : ∀ pc, nlE (mcode 4 pc) = true := nlm mk_X1_read (by decide +kernel)
theorem nl_X1_addPart : ∀ pc, nlE (mcode 5 pc) = true := nlm mk_X1_addPart (by decide +kernel)
theorem nl_X1_kindOf : ∀ pc, nlE (mcode 6 pc) = true := nlm mk_X1_kindOf (by decide +kernel)
theorem nl_X1_kindOfMinus : ∀ pc, nlE (mcode 7 pc) = true := nlm mk_X1_kindOfMinus (by decide +kernel)
theorem nl_X1_readOperand : ∀ pc, nlE (mcode 8 pc) = true := nlm mk_X1_readOperand (by decide +kernel)
theorem nl_X1_readKind : ∀ pc, nlE (mcode 9 pc) = true := nlm mk_X1_readKind (by decide +kernel)
theorem nl_X1_readNumber : ∀ pc, nlE (mcode 10 pc) = true := nlm mk_X1_readNumber (by decide +kernel)
theorem nl_X2_init : ∀ pc, nlE (mcode 11 pc) = true := nlm mk_X2_init (by decide +kernel)
theorem nl_X2_begin : ∀ pc, nlE (mcode 12 pc) = true := nlm mk_X2_begin (by decide +kernel)
theorem nl_X2_search : ∀ pc, nlE (mcode 13 pc) = true := nlm mk_X2_search (by decide +kernel)
theorem nl_X2_visit : ∀ pc, nlE (mcode 14 pc) = true := nlm mk_X2_visit (by decide +kernel)
theorem nl_X2_visitBelow : ∀ pc, nlE (mcode 15 pc) = true := nlm mk_X2_visitBelow (by decide +kernel)
theorem nl_X2_ask : ∀ pc, nlE (mcode 16 pc) = true := nlm mk_X2_ask (by decide +kernel)
theorem nl_X2_isTrue : ∀ pc, nlE (mcode 17 pc) = true := nlm mk_X2_isTrue (by decide +kernel)
theorem nl_X2_compares : ∀ pc, nlE (mcode 18 pc) = true := nlm mk_X2_compares (by decide +kernel)
theorem nl_X2_printPath : ∀ pc, nlE (mcode 19 pc) = true := nlm mk_X2_printPath (by decide +kernel)
theorem nl_X3_init : ∀ pc, nlE (mcode 20 pc) = true := nlm mk_X3_init (by decide +kernel)
theorem nl_X3_matches : ∀ pc, nlE (mcode 21 pc) = true := nlm mk_X3_matches (by decide +kernel)
theorem nl_X3_fromLeastOn : ∀ pc, nlE (mcode 22 pc) = true := nlm mk_X3_fromLeastOn (by decide +kernel)
theorem nl_X3_closing : ∀ pc, nlE (mcode 23 pc) = true := nlm mk_X3_closing (by decide +kernel)
theorem nl_X3_isInSet : ∀ pc, nlE (mcode 24 pc) = true := nlm mk_X3_isInSet (by decide +kernel)
theorem nl_X4_init : ∀ pc, nlE (mcode 25 pc) = true := nlm mk_X4_init (by decide +kernel)
theorem nl_X4_charactersIn : ∀ pc, nlE (mcode 26 pc) = true := nlm mk_X4_charactersIn (by decide +kernel)
theorem nl_X4_add : ∀ pc, nlE (mcode 27 pc) = true := nlm mk_X4_add (by decide +kernel)
theorem nl_X4_split : ∀ pc, nlE (mcode 28 pc) = true := nlm mk_X4_split (by decide +kernel)
theorem nl_X4_start : ∀ pc, nlE (mcode 29 pc) = true := nlm mk_X4_start (by decide +kernel)
theorem nl_X4_end : ∀ pc, nlE (mcode 30 pc) = true := nlm mk_X4_end (by decide +kernel)
theorem nl_X4_wordLength : ∀ pc, nlE (mcode 31 pc) = true := nlm mk_X4_wordLength (by decide +kernel)
theorem nl_X4_letter : ∀ pc, nlE (mcode 32 pc) = true := nlm mk_X4_letter (by decide +kernel)
theorem nl_X4_is : ∀ pc, nlE (mcode 33 pc) = true := nlm mk_X4_is (by decide +kernel)
theorem nl_X4_beginsWithPath : ∀ pc, nlE (mcode 34 pc) = true := nlm mk_X4_beginsWithPath (by decide +kernel)
theorem nl_X4_lastStepEnd : ∀ pc, nlE (mcode 35 pc) = true := nlm mk_X4_lastStepEnd (by decide +kernel)
theorem nl_X4_lastStepStart : ∀ pc, nlE (mcode 36 pc) = true := nlm mk_X4_lastStepStart (by decide +kernel)
theorem nl_X4_lastStep : ∀ pc, nlE (mcode 37 pc) = true := nlm mk_X4_lastStep (by decide +kernel)
theorem nl_X5_init : ∀ pc, nlE (mcode 38 pc) = true := nlm mk_X5_init (by decide +kernel)
theorem nl_X5_entry : ∀ pc, nlE (mcode 39 pc) = true := nlm mk_X5_entry (by decide +kernel)
theorem nl_X5_insert : ∀ pc, nlE (mcode 40 pc) = true := nlm mk_X5_insert (by decide +kernel)
theorem nl_X5_remove : ∀ pc, nlE (mcode 41 pc) = true := nlm mk_X5_remove (by decide +kernel)
theorem nl_X6_init : ∀ pc, nlE (mcode 42 pc) = true := nlm mk_X6_init (by decide +kernel)
theorem nl_X6_writeLine : ∀ pc, nlE (mcode 43 pc) = true := nlm mk_X6_writeLine (by decide +kernel)
theorem nl_X6_beginAtBack : ∀ pc, nlE (mcode 44 pc) = true := nlm mk_X6_beginAtBack (by decide +kernel)
theorem nl_X6_putInFront : ∀ pc, nlE (mcode 45 pc) = true := nlm mk_X6_putInFront (by decide +kernel)
theorem nl_X6_moveToFront : ∀ pc, nlE (mcode 46 pc) = true := nlm mk_X6_moveToFront (by decide +kernel)
theorem nl_X7_init : ∀ pc, nlE (mcode 47 pc) = true := nlm mk_X7_init (by decide +kernel)
theorem nl_X7_at : ∀ pc, nlE (mcode 48 pc) = true := nlm mk_X7_at (by decide +kernel)
theorem nl_X7_isDirectory : ∀ pc, nlE (mcode 49 pc) = true := nlm mk_X7_isDirectory (by decide +kernel)
theorem nl_X7_add : ∀ pc, nlE (mcode 50 pc) = true := nlm mk_X7_add (by decide +kernel)
theorem nl_X7_join : ∀ pc, nlE (mcode 51 pc) = true := nlm mk_X7_join (by decide +kernel)
theorem nl_X7_part : ∀ pc, nlE (mcode 52 pc) = true := nlm mk_X7_part (by decide +kernel)
theorem nl_X8_init : ∀ pc, nlE (mcode 53 pc) = true := nlm mk_X8_init (by decide +kernel)
theorem nl_X8_begin : ∀ pc, nlE (mcode 54 pc) = true := nlm mk_X8_begin (by decide +kernel)
theorem nl_X8_clearLevel : ∀ pc, nlE (mcode 55 pc) = true := nlm mk_X8_clearLevel (by decide +kernel)
theorem nl_X8_isOpen : ∀ pc, nlE (mcode 56 pc) = true := nlm mk_X8_isOpen (by decide +kernel)
theorem nl_X8_value : ∀ pc, nlE (mcode 57 pc) = true := nlm mk_X8_value (by decide +kernel)
theorem nl_X8_join : ∀ pc, nlE (mcode 58 pc) = true := nlm mk_X8_join (by decide +kernel)
theorem nl_X8_turn : ∀ pc, nlE (mcode 59 pc) = true := nlm mk_X8_turn (by decide +kernel)
theorem nl_X8_nextAnd : ∀ pc, nlE (mcode 60 pc) = true := nlm mk_X8_nextAnd (by decide +kernel)
theorem nl_X8_enter : ∀ pc, nlE (mcode 61 pc) = true := nlm mk_X8_enter (by decide +kernel)
theorem nl_X8_leave : ∀ pc, nlE (mcode 62 pc) = true := nlm mk_X8_leave (by decide +kernel)
theorem nl_X9_init : ∀ pc, nlE (mcode 63 pc) = true := nlm mk_X9_init (by decide +kernel)
theorem nl_X9_along : ∀ pc, nlE (mcode 64 pc) = true := nlm mk_X9_along (by decide +kernel)
theorem nl_X9_putInFront : ∀ pc, nlE (mcode 65 pc) = true := nlm mk_X9_putInFront (by decide +kernel)
theorem nl_X9_takeStep : ∀ pc, nlE (mcode 66 pc) = true := nlm mk_X9_takeStep (by decide +kernel)
theorem nl_X9_dotsAlone : ∀ pc, nlE (mcode 67 pc) = true := nlm mk_X9_dotsAlone (by decide +kernel)
theorem nl_X9_follow : ∀ pc, nlE (mcode 68 pc) = true := nlm mk_X9_follow (by decide +kernel)
theorem nl_X10_init : ∀ pc, nlE (mcode 69 pc) = true := nlm mk_X10_init (by decide +kernel)
theorem nl_X10_type : ∀ pc, nlE (mcode 70 pc) = true := nlm mk_X10_type (by decide +kernel)
theorem nl_X10_erase : ∀ pc, nlE (mcode 71 pc) = true := nlm mk_X10_erase (by decide +kernel)
theorem nl_X10_make : ∀ pc, nlE (mcode 72 pc) = true := nlm mk_X10_make (by decide +kernel)
theorem nl_X10_link : ∀ pc, nlE (mcode 73 pc) = true := nlm mk_X10_link (by decide +kernel)
theorem nl_X10_tie : ∀ pc, nlE (mcode 74 pc) = true := nlm mk_X10_tie (by decide +kernel)
theorem nl_X10_drop : ∀ pc, nlE (mcode 75 pc) = true := nlm mk_X10_drop (by decide +kernel)
theorem nl_X10_bits : ∀ pc, nlE (mcode 76 pc) = true := nlm mk_X10_bits (by decide +kernel)
theorem nl_X10_go : ∀ pc, nlE (mcode 77 pc) = true := nlm mk_X10_go (by decide +kernel)
theorem nl_X10_node : ∀ pc, nlE (mcode 78 pc) = true := nlm mk_X10_node (by decide +kernel)
theorem nl_X10_real : ∀ pc, nlE (mcode 79 pc) = true := nlm mk_X10_real (by decide +kernel)
theorem nl_X10_find : ∀ pc, nlE (mcode 80 pc) = true := nlm mk_X10_find (by decide +kernel)
theorem nl_X10_place : ∀ pc, nlE (mcode 81 pc) = true := nlm mk_X10_place (by decide +kernel)
theorem nl_X10_output : ∀ pc, nlE (mcode 82 pc) = true := nlm mk_X10_output (by decide +kernel)
theorem nl_X10_tell : ∀ pc, nlE (mcode 83 pc) = true := nlm mk_X10_tell (by decide +kernel)
theorem nl_X10_count : ∀ pc, nlE (mcode 84 pc) = true := nlm mk_X10_count (by decide +kernel)
theorem nl_X10_isOutOfBounds : ∀ pc, nlE (mcode 85 pc) = true := nlm mk_X10_isOutOfBounds (by decide +kernel)
theorem nl_X10_nodeOfWord : ∀ pc, nlE (mcode 86 pc) = true := nlm mk_X10_nodeOfWord (by decide +kernel)
theorem nl_X10_newPlace : ∀ pc, nlE (mcode 87 pc) = true := nlm mk_X10_newPlace (by decide +kernel)
theorem nl_X10_settle : ∀ pc, nlE (mcode 88 pc) = true := nlm mk_X10_settle (by decide +kernel)
theorem nl_X10_lookUpNewer : ∀ pc, nlE (mcode 89 pc) = true := nlm mk_X10_lookUpNewer (by decide +kernel)
theorem nl_X11_init : ∀ pc, nlE (mcode 90 pc) = true := nlm mk_X11_init (by decide +kernel)
theorem nl_X11_thrown : ∀ pc, nlE (mcode 91 pc) = true := nlm mk_X11_thrown (by decide +kernel)
theorem nl_X11_refused : ∀ pc, nlE (mcode 92 pc) = true := nlm mk_X11_refused (by decide +kernel)
theorem nl_X11_put : ∀ pc, nlE (mcode 93 pc) = true := nlm mk_X11_put (by decide +kernel)
theorem nl_X11_type : ∀ pc, nlE (mcode 94 pc) = true := nlm mk_X11_type (by decide +kernel)
theorem nl_X11_erase : ∀ pc, nlE (mcode 95 pc) = true := nlm mk_X11_erase (by decide +kernel)
theorem nl_X11_cut : ∀ pc, nlE (mcode 96 pc) = true := nlm mk_X11_cut (by decide +kernel)
theorem nl_X11_wordSize : ∀ pc, nlE (mcode 97 pc) = true := nlm mk_X11_wordSize (by decide +kernel)
theorem nl_X11_isWord : ∀ pc, nlE (mcode 98 pc) = true := nlm mk_X11_isWord (by decide +kernel)
theorem nl_X11_isSign : ∀ pc, nlE (mcode 99 pc) = true := nlm mk_X11_isSign (by decide +kernel)
theorem nl_X11_isName : ∀ pc, nlE (mcode 100 pc) = true := nlm mk_X11_isName (by decide +kernel)
theorem nl_X11_compare : ∀ pc, nlE (mcode 101 pc) = true := nlm mk_X11_compare (by decide +kernel)
theorem nl_X11_nameAt : ∀ pc, nlE (mcode 102 pc) = true := nlm mk_X11_nameAt (by decide +kernel)
theorem nl_X11_addName : ∀ pc, nlE (mcode 103 pc) = true := nlm mk_X11_addName (by decide +kernel)
theorem nl_X11_removeName : ∀ pc, nlE (mcode 104 pc) = true := nlm mk_X11_removeName (by decide +kernel)
theorem nl_X11_layWay : ∀ pc, nlE (mcode 105 pc) = true := nlm mk_X11_layWay (by decide +kernel)
theorem nl_X11_layText : ∀ pc, nlE (mcode 106 pc) = true := nlm mk_X11_layText (by decide +kernel)
theorem nl_X11_walk : ∀ pc, nlE (mcode 107 pc) = true := nlm mk_X11_walk (by decide +kernel)
theorem nl_X11_walkWord : ∀ pc, nlE (mcode 108 pc) = true := nlm mk_X11_walkWord (by decide +kernel)
theorem nl_X11_newPlace : ∀ pc, nlE (mcode 109 pc) = true := nlm mk_X11_newPlace (by decide +kernel)
theorem nl_X11_freeNode : ∀ pc, nlE (mcode 110 pc) = true := nlm mk_X11_freeNode (by decide +kernel)
theorem nl_X11_makeNode : ∀ pc, nlE (mcode 111 pc) = true := nlm mk_X11_makeNode (by decide +kernel)
theorem nl_X11_isIn : ∀ pc, nlE (mcode 112 pc) = true := nlm mk_X11_isIn (by decide +kernel)
theorem nl_X11_make : ∀ pc, nlE (mcode 113 pc) = true := nlm mk_X11_make (by decide +kernel)
theorem nl_X11_link : ∀ pc, nlE (mcode 114 pc) = true := nlm mk_X11_link (by decide +kernel)
theorem nl_X11_tie : ∀ pc, nlE (mcode 115 pc) = true := nlm mk_X11_tie (by decide +kernel)
theorem nl_X11_drop : ∀ pc, nlE (mcode 116 pc) = true := nlm mk_X11_drop (by decide +kernel)
theorem nl_X11_bits : ∀ pc, nlE (mcode 117 pc) = true := nlm mk_X11_bits (by decide +kernel)
theorem nl_X11_go : ∀ pc, nlE (mcode 118 pc) = true := nlm mk_X11_go (by decide +kernel)
theorem nl_X11_node : ∀ pc, nlE (mcode 119 pc) = true := nlm mk_X11_node (by decide +kernel)
theorem nl_X11_entryOf : ∀ pc, nlE (mcode 120 pc) = true := nlm mk_X11_entryOf (by decide +kernel)
theorem nl_X11_real : ∀ pc, nlE (mcode 121 pc) = true := nlm mk_X11_real (by decide +kernel)
theorem nl_X11_write : ∀ pc, nlE (mcode 122 pc) = true := nlm mk_X11_write (by decide +kernel)
theorem nl_X11_testOf : ∀ pc, nlE (mcode 123 pc) = true := nlm mk_X11_testOf (by decide +kernel)
theorem nl_X11_same : ∀ pc, nlE (mcode 124 pc) = true := nlm mk_X11_same (by decide +kernel)
theorem nl_X11_isNumber : ∀ pc, nlE (mcode 125 pc) = true := nlm mk_X11_isNumber (by decide +kernel)
theorem nl_X11_addPart : ∀ pc, nlE (mcode 126 pc) = true := nlm mk_X11_addPart (by decide +kernel)
theorem nl_X11_parse : ∀ pc, nlE (mcode 127 pc) = true := nlm mk_X11_parse (by decide +kernel)
theorem nl_X11_mayFollow : ∀ pc, nlE (mcode 128 pc) = true := nlm mk_X11_mayFollow (by decide +kernel)
theorem nl_X11_applyNots : ∀ pc, nlE (mcode 129 pc) = true := nlm mk_X11_applyNots (by decide +kernel)
theorem nl_X11_applyTwo : ∀ pc, nlE (mcode 130 pc) = true := nlm mk_X11_applyTwo (by decide +kernel)
theorem nl_X11_setEnd : ∀ pc, nlE (mcode 131 pc) = true := nlm mk_X11_setEnd (by decide +kernel)
theorem nl_X11_inSet : ∀ pc, nlE (mcode 132 pc) = true := nlm mk_X11_inSet (by decide +kernel)
theorem nl_X11_matches : ∀ pc, nlE (mcode 133 pc) = true := nlm mk_X11_matches (by decide +kernel)
theorem nl_X11_compares : ∀ pc, nlE (mcode 134 pc) = true := nlm mk_X11_compares (by decide +kernel)
theorem nl_X11_print : ∀ pc, nlE (mcode 135 pc) = true := nlm mk_X11_print (by decide +kernel)
theorem nl_X11_test : ∀ pc, nlE (mcode 136 pc) = true := nlm mk_X11_test (by decide +kernel)
theorem nl_X11_ask : ∀ pc, nlE (mcode 137 pc) = true := nlm mk_X11_ask (by decide +kernel)
theorem nl_X11_nextName : ∀ pc, nlE (mcode 138 pc) = true := nlm mk_X11_nextName (by decide +kernel)
theorem nl_X11_goThrough : ∀ pc, nlE (mcode 139 pc) = true := nlm mk_X11_goThrough (by decide +kernel)
theorem nl_X11_enter : ∀ pc, nlE (mcode 140 pc) = true := nlm mk_X11_enter (by decide +kernel)
theorem nl_X11_lookUp : ∀ pc, nlE (mcode 141 pc) = true := nlm mk_X11_lookUp (by decide +kernel)
theorem nl_X11_find : ∀ pc, nlE (mcode 142 pc) = true := nlm mk_X11_find (by decide +kernel)
theorem nl_X11_nameTop : ∀ pc, nlE (mcode 143 pc) = true := nlm mk_X11_nameTop (by decide +kernel)
theorem nl_X11_place : ∀ pc, nlE (mcode 144 pc) = true := nlm mk_X11_place (by decide +kernel)
theorem nl_X11_output : ∀ pc, nlE (mcode 145 pc) = true := nlm mk_X11_output (by decide +kernel)
theorem nl_X11_tell : ∀ pc, nlE (mcode 146 pc) = true := nlm mk_X11_tell (by decide +kernel)
theorem nl_X11_count : ∀ pc, nlE (mcode 147 pc) = true := nlm mk_X11_count (by decide +kernel)
theorem nl_J0_length : ∀ pc, nlE (mcode 148 pc) = true := nlm mk_J0_length (by decide +kernel)
theorem nl_J0_charAt : ∀ pc, nlE (mcode 149 pc) = true := nlm mk_J0_charAt (by decide +kernel)
theorem nl_J0_coder : ∀ pc, nlE (mcode 150 pc) = true := nlm mk_J0_coder (by decide +kernel)
theorem nl_J0_isLatin1 : ∀ pc, nlE (mcode 151 pc) = true := nlm mk_J0_isLatin1 (by decide +kernel)
theorem nl_J0_checkIndex : ∀ pc, nlE (mcode 152 pc) = true := nlm mk_J0_checkIndex (by decide +kernel)
theorem nl_J1_charAt : ∀ pc, nlE (mcode 153 pc) = true := nlm mk_J1_charAt (by decide +kernel)
theorem nl_J3_checkIndex : ∀ pc, nlE (mcode 154 pc) = true := nlm mk_J3_checkIndex (by decide +kernel)
theorem nl_L_type : ∀ pc, nlE (mcode 155 pc) = true := nlm mk_L_type (by decide +kernel)
theorem nl_L_make : ∀ pc, nlE (mcode 156 pc) = true := nlm mk_L_make (by decide +kernel)
theorem nl_L_link : ∀ pc, nlE (mcode 157 pc) = true := nlm mk_L_link (by decide +kernel)
theorem nl_L_bits : ∀ pc, nlE (mcode 158 pc) = true := nlm mk_L_bits (by decide +kernel)
theorem nl_L_find : ∀ pc, nlE (mcode 159 pc) = true := nlm mk_L_find (by decide +kernel)
theorem nl_L_tell : ∀ pc, nlE (mcode 160 pc) = true := nlm mk_L_tell (by decide +kernel)
theorem nl_L_law : ∀ pc, nlE (mcode 161 pc) = true := nlm mk_L_law (by decide +kernel)
theorem nl_all : ∀ k, k < 162 → ∀ pc, nlE (mcode k pc) = true := fun k hk => match k, hk with
  | 0, _ => nl_X0_init
  | 1, _ => nl_X0_isName
  | 2, _ => nl_X0_orderTo
  | 3, _ => nl_X1_init
  | 4, _ => nl_X1_read
  | 5, _ => nl_X1_addPart
  | 6, _ => nl_X1_kindOf
  | 7, _ => nl_X1_kindOfMinus
  | 8, _ => nl_X1_readOperand
  | 9, _ => nl_X1_readKind
  | 10, _ => nl_X1_readNumber
  | 11, _ => nl_X2_init
  | 12, _ => nl_X2_begin
  | 13, _ => nl_X2_search
  | 14, _ => nl_X2_visit
  | 15, _ => nl_X2_visitBelow
  | 16, _ => nl_X2_ask
  | 17, _ => nl_X2_isTrue
  | 18, _ => nl_X2_compares
  | 19, _ => nl_X2_printPath
  | 20, _ => nl_X3_init
  | 21, _ => nl_X3_matches
  | 22, _ => nl_X3_fromLeastOn
  | 23, _ => nl_X3_closing
  | 24, _ => nl_X3_isInSet
  | 25, _ => nl_X4_init
  | 26, _ => nl_X4_charactersIn
  | 27, _ => nl_X4_add
  | 28, _ => nl_X4_split
  | 29, _ => nl_X4_start
  | 30, _ => nl_X4_end
  | 31, _ => nl_X4_wordLength
  | 32, _ => nl_X4_letter
  | 33, _ => nl_X4_is
  | 34, _ => nl_X4_beginsWithPath
  | 35, _ => nl_X4_lastStepEnd
  | 36, _ => nl_X4_lastStepStart
  | 37, _ => nl_X4_lastStep
  | 38, _ => nl_X5_init
  | 39, _ => nl_X5_entry
  | 40, _ => nl_X5_insert
  | 41, _ => nl_X5_remove
  | 42, _ => nl_X6_init
  | 43, _ => nl_X6_writeLine
  | 44, _ => nl_X6_beginAtBack
  | 45, _ => nl_X6_putInFront
  | 46, _ => nl_X6_moveToFront
  | 47, _ => nl_X7_init
  | 48, _ => nl_X7_at
  | 49, _ => nl_X7_isDirectory
  | 50, _ => nl_X7_add
  | 51, _ => nl_X7_join
  | 52, _ => nl_X7_part
  | 53, _ => nl_X8_init
  | 54, _ => nl_X8_begin
  | 55, _ => nl_X8_clearLevel
  | 56, _ => nl_X8_isOpen
  | 57, _ => nl_X8_value
  | 58, _ => nl_X8_join
  | 59, _ => nl_X8_turn
  | 60, _ => nl_X8_nextAnd
  | 61, _ => nl_X8_enter
  | 62, _ => nl_X8_leave
  | 63, _ => nl_X9_init
  | 64, _ => nl_X9_along
  | 65, _ => nl_X9_putInFront
  | 66, _ => nl_X9_takeStep
  | 67, _ => nl_X9_dotsAlone
  | 68, _ => nl_X9_follow
  | 69, _ => nl_X10_init
  | 70, _ => nl_X10_type
  | 71, _ => nl_X10_erase
  | 72, _ => nl_X10_make
  | 73, _ => nl_X10_link
  | 74, _ => nl_X10_tie
  | 75, _ => nl_X10_drop
  | 76, _ => nl_X10_bits
  | 77, _ => nl_X10_go
  | 78, _ => nl_X10_node
  | 79, _ => nl_X10_real
  | 80, _ => nl_X10_find
  | 81, _ => nl_X10_place
  | 82, _ => nl_X10_output
  | 83, _ => nl_X10_tell
  | 84, _ => nl_X10_count
  | 85, _ => nl_X10_isOutOfBounds
  | 86, _ => nl_X10_nodeOfWord
  | 87, _ => nl_X10_newPlace
  | 88, _ => nl_X10_settle
  | 89, _ => nl_X10_lookUpNewer
  | 90, _ => nl_X11_init
  | 91, _ => nl_X11_thrown
  | 92, _ => nl_X11_refused
  | 93, _ => nl_X11_put
  | 94, _ => nl_X11_type
  | 95, _ => nl_X11_erase
  | 96, _ => nl_X11_cut
  | 97, _ => nl_X11_wordSize
  | 98, _ => nl_X11_isWord
  | 99, _ => nl_X11_isSign
  | 100, _ => nl_X11_isName
  | 101, _ => nl_X11_compare
  | 102, _ => nl_X11_nameAt
  | 103, _ => nl_X11_addName
  | 104, _ => nl_X11_removeName
  | 105, _ => nl_X11_layWay
  | 106, _ => nl_X11_layText
  | 107, _ => nl_X11_walk
  | 108, _ => nl_X11_walkWord
  | 109, _ => nl_X11_newPlace
  | 110, _ => nl_X11_freeNode
  | 111, _ => nl_X11_makeNode
  | 112, _ => nl_X11_isIn
  | 113, _ => nl_X11_make
  | 114, _ => nl_X11_link
  | 115, _ => nl_X11_tie
  | 116, _ => nl_X11_drop
  | 117, _ => nl_X11_bits
  | 118, _ => nl_X11_go
  | 119, _ => nl_X11_node
  | 120, _ => nl_X11_entryOf
  | 121, _ => nl_X11_real
  | 122, _ => nl_X11_write
  | 123, _ => nl_X11_testOf
  | 124, _ => nl_X11_same
  | 125, _ => nl_X11_isNumber
  | 126, _ => nl_X11_addPart
  | 127, _ => nl_X11_parse
  | 128, _ => nl_X11_mayFollow
  | 129, _ => nl_X11_applyNots
  | 130, _ => nl_X11_applyTwo
  | 131, _ => nl_X11_setEnd
  | 132, _ => nl_X11_inSet
  | 133, _ => nl_X11_matches
  | 134, _ => nl_X11_compares
  | 135, _ => nl_X11_print
  | 136, _ => nl_X11_test
  | 137, _ => nl_X11_ask
  | 138, _ => nl_X11_nextName
  | 139, _ => nl_X11_goThrough
  | 140, _ => nl_X11_enter
  | 141, _ => nl_X11_lookUp
  | 142, _ => nl_X11_find
  | 143, _ => nl_X11_nameTop
  | 144, _ => nl_X11_place
  | 145, _ => nl_X11_output
  | 146, _ => nl_X11_tell
  | 147, _ => nl_X11_count
  | 148, _ => nl_J0_length
  | 149, _ => nl_J0_charAt
  | 150, _ => nl_J0_coder
  | 151, _ => nl_J0_isLatin1
  | 152, _ => nl_J0_checkIndex
  | 153, _ => nl_J1_charAt
  | 154, _ => nl_J3_checkIndex
  | 155, _ => nl_L_type
  | 156, _ => nl_L_make
  | 157, _ => nl_L_link
  | 158, _ => nl_L_bits
  | 159, _ => nl_L_find
  | 160, _ => nl_L_tell
  | 161, _ => nl_L_law
  | n + 162, h => absurd h (by omega)
theorem nl_tab (k pc : Nat) (i nx x : Nat) (y : List Nat) (h : mcode k pc = some (.invokestatic i, nx, x, y)) : x ≠ 161 := by
  have h1 := nl_all k (mcode_lt h) pc
  rw [h] at h1
  exact bne_iff_ne.mp h1
