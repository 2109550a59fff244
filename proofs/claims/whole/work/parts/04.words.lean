/-- a method: its name, its code, its locals, what it answers -/
abbrev zMe : Type := MethodName × ByteArray × Nat × Option FieldType
/-- the tables' words that last -/
def zGW : List Cond := lw_tbl.filter goodWord
theorem zgw {i : Nat} {w : Cond} (h : lw_tbl[i]? = some w) (hg : goodWord w = true) : w ∈ zGW := List.mem_filter.mpr ⟨List.mem_of_getElem? h, hg⟩
/-- the words that a method takes as given: its own code, and all of the tables that last -/
def zws (me : zMe) : List Cond := Cond.code me.1 me.2.1 me.2.2.1 me.2.2.2 :: zGW
/-- the room of a method of height k -/
def zRM (k : Nat) : Room := { frames := k, cells := 0, slots := 0, locals := 40 * k }
theorem zgood {me : zMe} (h : Cond.code me.1 me.2.1 me.2.2.1 me.2.2.2 ∈ zGW) : GoodIn zGW (zws me) := by
  intro w hw
  rcases List.mem_cons.mp hw with rfl | hw
  · exact ⟨h, good_of_word (List.mem_filter.mp h).2⟩
  · exact ⟨hw, good_of_word (List.mem_filter.mp hw).2⟩
/-- what a call's link says, but for the link's own word -/
def zLK (me : zMe) (n : Nat) (w : Cond) : Prop := Cond.code me.1 me.2.1 me.2.2.1 me.2.2.2 ∈ zGW ∧ Cond.initialized me.1.cls ∈ zGW ∧ (me.1.cls ≠ "java/lang/invoke/MethodHandle" ∧ me.1.cls ≠ "java/lang/invoke/VarHandle") ∧ (parseMethodDescriptor me.1.desc).map (fun d => d.parameters.length) = some n ∧ w ∈ zGW
def zLS (own : String) (i : Nat) (me : zMe) (n : Nat) : Prop := zLK me n (.methodLink own i me.1) ∧ Cond.static me.1 ∈ zGW
def zLV (own : String) (i : Nat) (me : zMe) (n : Nat) : Prop := zLK me n (.methodLink own i me.1) ∧ Cond.instanceMethod me.1 ∈ zGW ∧ Cond.selects me.1.cls me.1 me.1 ∈ zGW
def zLI (own : String) (i : Nat) (me : zMe) (n : Nat) : Prop := zLK me n (.methodLink own i me.1) ∧ Cond.instanceMethod me.1 ∈ zGW
def zLSN (_ : String) (_ : Nat) (_ : String) (me : zMe) (n : Nat) : Prop := zLK me n (.code me.1 me.2.1 me.2.2.1 me.2.2.2) ∧ Cond.static me.1 ∈ zGW
def zLIN (_ : String) (_ : Nat) (_ : String) (me : zMe) (n : Nat) : Prop := zLK me n (.code me.1 me.2.1 me.2.2.1 me.2.2.2) ∧ Cond.instanceMethod me.1 ∈ zGW
abbrev mX5_init : zMe := (yX5_init, cX5_init, 2, none)
abbrev mX3_init : zMe := (yX3_init, cX3_init, 1, none)
abbrev mX2_init : zMe := (yX2_init, cX2_init, 1, none)
abbrev mX1_init : zMe := (yX1_init, cX1_init, 1, none)
abbrev mX5_town : zMe := (yX5_town, cX5_town, 3, (some .int))
abbrev mX5_within : zMe := (yX5_within, cX5_within, 3, (some .boolean))
abbrev mX5_found : zMe := (yX5_found, cX5_found, 3, (some .int))
abbrev mX3_changeFigure : zMe := (yX3_changeFigure, cX3_changeFigure, 4, (some .int))
abbrev mX5_street : zMe := (yX5_street, cX5_street, 4, (some .int))
abbrev mX5_isStreet : zMe := (yX5_isStreet, cX5_isStreet, 1, (some .boolean))
abbrev mX5_put : zMe := (yX5_put, cX5_put, 4, (some .int))
abbrev mX5_streetOf : zMe := (yX5_streetOf, cX5_streetOf, 3, (some .int))
abbrev mX3_holesIn : zMe := (yX3_holesIn, cX3_holesIn, 4, (some .int))
abbrev mX3_openHoles : zMe := (yX3_openHoles, cX3_openHoles, 3, (some .int))
abbrev mX5_hole : zMe := (yX5_hole, cX5_hole, 3, (some .int))
abbrev mX5_isKind : zMe := (yX5_isKind, cX5_isKind, 1, (some .boolean))
abbrev mX3_isFull : zMe := (yX3_isFull, cX3_isFull, 1, (some .boolean))
abbrev mX3_addHole : zMe := (yX3_addHole, cX3_addHole, 4, (some .int))
abbrev mX5_of : zMe := (yX5_of, cX5_of, 3, (some .int))
abbrev mX3_has : zMe := (yX3_has, cX3_has, 2, (some .boolean))
abbrev mX3_growth : zMe := (yX3_growth, cX3_growth, 4, (some .int))
abbrev mX3_weekOfYear : zMe := (yX3_weekOfYear, cX3_weekOfYear, 1, (some .int))
abbrev mX0_growth : zMe := (yX0_growth, cX0_growth, 7, (some .int))
abbrev mX0_isFrost : zMe := (yX0_isFrost, cX0_isFrost, 1, (some .boolean))
abbrev mJ9_max_7cf53 : zMe := (yJ9_max_7cf53, cJ9_max_7cf53, 2, (some .int))
abbrev mX3_price : zMe := (yX3_price, cX3_price, 4, (some .int))
abbrev mX0_coldPrice : zMe := (yX0_coldPrice, cX0_coldPrice, 3, (some .int))
abbrev mX0_holds : zMe := (yX0_holds, cX0_holds, 3, (some .int))
abbrev mX3_rowOfHoles : zMe := (yX3_rowOfHoles, cX3_rowOfHoles, 2, (some (.array .int)))
abbrev mX5_set : zMe := (yX5_set, cX5_set, 4, (some .int))
abbrev mX5_turn : zMe := (yX5_turn, cX5_turn, 3, (some .int))
abbrev mX5_as : zMe := (yX5_as, cX5_as, 3, (some .int))
abbrev mX0_isUnder : zMe := (yX0_isUnder, cX0_isUnder, 2, (some .boolean))
abbrev mX5_fill : zMe := (yX5_fill, cX5_fill, 4, (some .int))
abbrev mX3_fillNow : zMe := (yX3_fillNow, cX3_fillNow, 4, none)
abbrev mJ9_min_7cf53 : zMe := (yJ9_min_7cf53, cJ9_min_7cf53, 2, (some .int))
abbrev mX5_next : zMe := (yX5_next, cX5_next, 2, (some .int))
abbrev mX3_firstToFill : zMe := (yX3_firstToFill, cX3_firstToFill, 4, (some .int))
abbrev mX3_isLetGo : zMe := (yX3_isLetGo, cX3_isLetGo, 3, (some .boolean))
abbrev mX3_comesAheadOf : zMe := (yX3_comesAheadOf, cX3_comesAheadOf, 4, (some .boolean))
abbrev mX5_weeks : zMe := (yX5_weeks, cX5_weeks, 2, (some .int))
abbrev mX3_goWeeks : zMe := (yX3_goWeeks, cX3_goWeeks, 3, (some (.object "HoleFills$Town")))
abbrev mX3_goWeek : zMe := (yX3_goWeek, cX3_goWeek, 2, none)
abbrev mX3_sendMen : zMe := (yX3_sendMen, cX3_sendMen, 3, none)
abbrev mX3_wear : zMe := (yX3_wear, cX3_wear, 2, none)
abbrev mX5_now : zMe := (yX5_now, cX5_now, 2, (some .int))
abbrev mX3_openSize : zMe := (yX3_openSize, cX3_openSize, 3, (some .int))
abbrev mX5_on : zMe := (yX5_on, cX5_on, 5, (some .int))
abbrev mX5_asItIs : zMe := (yX5_asItIs, cX5_asItIs, 1, (some (.object "HoleFills$Town")))
abbrev mX3_become : zMe := (yX3_become, cX3_become, 2, none)
abbrev mX5_worse : zMe := (yX5_worse, cX5_worse, 2, (some .int))
abbrev mX5_cost : zMe := (yX5_cost, cX5_cost, 3, (some .int))
abbrev mX5_filled : zMe := (yX5_filled, cX5_filled, 3, (some .int))
abbrev mX5_weeksUntil : zMe := (yX5_weeksUntil, cX5_weeksUntil, 5, (some .int))
abbrev mX5_breaks : zMe := (yX5_breaks, cX5_breaks, 3, (some .int))
abbrev mX5_how : zMe := (yX5_how, cX5_how, 4, (some .int))
abbrev mX5_ring : zMe := (yX5_ring, cX5_ring, 7, (some .int))
abbrev mX5_men : zMe := (yX5_men, cX5_men, 5, (some .int))
abbrev mX5_budget : zMe := (yX5_budget, cX5_budget, 6, (some .int))
abbrev mX5_kind : zMe := (yX5_kind, cX5_kind, 7, (some .int))
abbrev mX5_let : zMe := (yX5_let, cX5_let, 7, (some .int))
abbrev mX3_letGoAll : zMe := (yX3_letGoAll, cX3_letGoAll, 3, none)
abbrev mX5_worst : zMe := (yX5_worst, cX5_worst, 5, (some .int))
abbrev mX3_openSizeOf : zMe := (yX3_openSizeOf, cX3_openSizeOf, 4, (some .int))
abbrev mX5_feed : zMe := (yX5_feed, cX5_feed, 4, (some .int))
abbrev mX2_add : zMe := (yX2_add, cX2_add, 2, none)
abbrev mX5_wipe : zMe := (yX5_wipe, cX5_wipe, 1, (some .int))
abbrev mX2_clear : zMe := (yX2_clear, cX2_clear, 2, (some .int))
abbrev mX5_text : zMe := (yX5_text, cX5_text, 3, (some .int))
abbrev mX4_readAll : zMe := (yX4_readAll, cX4_readAll, 3, (some .int))
abbrev mX2_begin : zMe := (yX2_begin, cX2_begin, 1, none)
abbrev mX2_advance : zMe := (yX2_advance, cX2_advance, 2, none)
abbrev mX2_endOfRun : zMe := (yX2_endOfRun, cX2_endOfRun, 5, (some .int))
abbrev mX2_valueOfToken : zMe := (yX2_valueOfToken, cX2_valueOfToken, 3, (some .int))
abbrev mX4_readItem : zMe := (yX4_readItem, cX4_readItem, 3, (some .boolean))
abbrev mX0_nameOf : zMe := (yX0_nameOf, cX0_nameOf, 1, (some (.object "java/lang/String")))
abbrev mX2_isAt : zMe := (yX2_isAt, cX2_isAt, 3, (some .boolean))
abbrev mJ0_length_8abf5 : zMe := (yJ0_length_8abf5, cJ0_length_8abf5, 1, (some .int))
abbrev mJ0_coder_7d493 : zMe := (yJ0_coder_7d493, cJ0_coder_7d493, 1, (some .byte))
abbrev mJ0_charAt_5068e : zMe := (yJ0_charAt_5068e, cJ0_charAt_5068e, 2, (some .char))
abbrev mJ0_isLatin1_aae02 : zMe := (yJ0_isLatin1_aae02, cJ0_isLatin1_aae02, 1, (some .boolean))
abbrev mJ1_charAt_3b067 : zMe := (yJ1_charAt_3b067, cJ1_charAt_3b067, 2, (some .char))
abbrev mJ0_checkIndex_df160 : zMe := (yJ0_checkIndex_df160, cJ0_checkIndex_df160, 2, none)
abbrev mJ3_checkIndex_8e157 : zMe := (yJ3_checkIndex_8e157, cJ3_checkIndex_8e157, 3, (some .int))
abbrev mJ2_charAt_3b067 : zMe := (yJ2_charAt_3b067, cJ2_charAt_3b067, 2, (some .char))
abbrev mJ2_checkIndex_2214a : zMe := (yJ2_checkIndex_2214a, cJ2_checkIndex_2214a, 2, none)
abbrev mJ2_length_9d52b : zMe := (yJ2_length_9d52b, cJ2_length_9d52b, 1, (some .int))
abbrev mJ2_getChar_3b067 : zMe := (yJ2_getChar_3b067, cJ2_getChar_3b067, 2, (some .char))
abbrev mX4_readHole : zMe := (yX4_readHole, cX4_readHole, 6, (some .boolean))
abbrev mX2_pass : zMe := (yX2_pass, cX2_pass, 3, (some .boolean))
abbrev mX2_passNumber : zMe := (yX2_passNumber, cX2_passNumber, 3, (some .int))
abbrev mX4_readStreet : zMe := (yX4_readStreet, cX4_readStreet, 4, (some .boolean))
abbrev mX5_sheet : zMe := (yX5_sheet, cX5_sheet, 5, (some .int))
abbrev mX5_sheetAt : zMe := (yX5_sheetAt, cX5_sheetAt, 2, (some (.object "HoleFills$Sheet")))
abbrev mX1_begin : zMe := (yX1_begin, cX1_begin, 4, none)
abbrev mX5_write : zMe := (yX5_write, cX5_write, 8, (some .long))
abbrev mX1_isMissing : zMe := (yX1_isMissing, cX1_isMissing, 1, (some .boolean))
abbrev mX1_put : zMe := (yX1_put, cX1_put, 4, none)
abbrev mX5_copy : zMe := (yX5_copy, cX5_copy, 8, (some .int))
abbrev mX1_hasSpan : zMe := (yX1_hasSpan, cX1_hasSpan, 3, (some .boolean))
abbrev mX5_lays : zMe := (yX5_lays, cX5_lays, 7, (some .int))
abbrev mX5_book : zMe := (yX5_book, cX5_book, 6, (some .int))
abbrev mX5_read : zMe := (yX5_read, cX5_read, 8, (some .int))
abbrev mX5_growsAs : zMe := (yX5_growsAs, cX5_growsAs, 4, (some .boolean))
abbrev mX5_image : zMe := (yX5_image, cX5_image, 1, (some .int))
abbrev mX5_undo : zMe := (yX5_undo, cX5_undo, 1, (some .int))
abbrev mX5_tear : zMe := (yX5_tear, cX5_tear, 2, (some .int))
abbrev mX5_count : zMe := (yX5_count, cX5_count, 2, (some .int))
abbrev mJ6_bitCount_0f7a4 : zMe := (yJ6_bitCount_0f7a4, cJ6_bitCount_0f7a4, 1, (some .int))
abbrev mX3_holesRungFor : zMe := (yX3_holesRungFor, cX3_holesRungFor, 3, (some .int))
abbrev mX5_status : zMe := (yX5_status, cX5_status, 4, (some .int))
abbrev mX6_init : zMe := (yX6_init, cX6_init, 2, none)
abbrev mX6_roadOf : zMe := (yX6_roadOf, cX6_roadOf, 2, (some .int))
abbrev mX6_town : zMe := (yX6_town, cX6_town, 4, (some .int))
abbrev mX6_in : zMe := (yX6_in, cX6_in, 6, (some .boolean))
abbrev mX6_becomes : zMe := (yX6_becomes, cX6_becomes, 4, (some .int))
abbrev mX6_finds : zMe := (yX6_finds, cX6_finds, 2, (some .int))
abbrev mX6_street : zMe := (yX6_street, cX6_street, 5, (some .int))
abbrev mX6_isStreet : zMe := (yX6_isStreet, cX6_isStreet, 1, (some .boolean))
abbrev mX6_streetOf : zMe := (yX6_streetOf, cX6_streetOf, 4, (some .int))
abbrev mX6_thoseAs : zMe := (yX6_thoseAs, cX6_thoseAs, 5, (some .int))
abbrev mX6_its : zMe := (yX6_its, cX6_its, 3, (some .int))
abbrev mX6_spotOf : zMe := (yX6_spotOf, cX6_spotOf, 2, (some .int))
abbrev mX6_hole : zMe := (yX6_hole, cX6_hole, 3, (some .int))
abbrev mX6_isKind : zMe := (yX6_isKind, cX6_isKind, 1, (some .boolean))
abbrev mX6_adds : zMe := (yX6_adds, cX6_adds, 4, (some .int))
abbrev mX6_of : zMe := (yX6_of, cX6_of, 3, (some .int))
abbrev mX6_isHole : zMe := (yX6_isHole, cX6_isHole, 2, (some .boolean))
abbrev mX6_growsOf : zMe := (yX6_growsOf, cX6_growsOf, 4, (some .int))
abbrev mX6_isFrost : zMe := (yX6_isFrost, cX6_isFrost, 1, (some .boolean))
abbrev mX6_weekOfYear : zMe := (yX6_weekOfYear, cX6_weekOfYear, 1, (some .int))
abbrev mX6_costsOf : zMe := (yX6_costsOf, cX6_costsOf, 3, (some .int))
abbrev mX6_holdsOf : zMe := (yX6_holdsOf, cX6_holdsOf, 4, (some .int))
abbrev mX6_set : zMe := (yX6_set, cX6_set, 4, (some .int))
abbrev mX6_isPart : zMe := (yX6_isPart, cX6_isPart, 2, (some .boolean))
abbrev mX6_turn : zMe := (yX6_turn, cX6_turn, 3, (some .int))
abbrev mX6_as : zMe := (yX6_as, cX6_as, 3, (some .int))
abbrev mX6_isUnder : zMe := (yX6_isUnder, cX6_isUnder, 2, (some .boolean))
abbrev mX6_fill : zMe := (yX6_fill, cX6_fill, 3, (some .int))
abbrev mX6_mayFill : zMe := (yX6_mayFill, cX6_mayFill, 3, (some .boolean))
abbrev mX6_priceOf : zMe := (yX6_priceOf, cX6_priceOf, 3, (some .int))
abbrev mX6_fills : zMe := (yX6_fills, cX6_fills, 4, (some .int))
abbrev mX6_heldTo : zMe := (yX6_heldTo, cX6_heldTo, 2, (some .int))
abbrev mX6_next : zMe := (yX6_next, cX6_next, 2, (some .int))
abbrev mX6_nextOne : zMe := (yX6_nextOne, cX6_nextOne, 4, (some .int))
abbrev mX6_isAhead : zMe := (yX6_isAhead, cX6_isAhead, 4, (some .boolean))
abbrev mX6_weeks : zMe := (yX6_weeks, cX6_weeks, 2, (some .int))
abbrev mX6_weeksGo : zMe := (yX6_weeksGo, cX6_weeksGo, 3, none)
abbrev mX6_week : zMe := (yX6_week, cX6_week, 4, none)
abbrev mX6_ages : zMe := (yX6_ages, cX6_ages, 2, none)
abbrev mX6_now : zMe := (yX6_now, cX6_now, 2, (some .int))
abbrev mX6_worseNow : zMe := (yX6_worseNow, cX6_worseNow, 1, (some .int))
abbrev mX6_sizesOf : zMe := (yX6_sizesOf, cX6_sizesOf, 4, (some .int))
abbrev mX6_on : zMe := (yX6_on, cX6_on, 4, (some .int))
abbrev mX6_isFar : zMe := (yX6_isFar, cX6_isFar, 3, (some .boolean))
abbrev mX6_laysAside : zMe := (yX6_laysAside, cX6_laysAside, 2, none)
abbrev mX6_takesBack : zMe := (yX6_takesBack, cX6_takesBack, 3, (some .int))
abbrev mX6_worse : zMe := (yX6_worse, cX6_worse, 2, (some .int))
abbrev mX6_worseIn : zMe := (yX6_worseIn, cX6_worseIn, 2, (some .int))
abbrev mX6_cost : zMe := (yX6_cost, cX6_cost, 3, (some .int))
abbrev mX6_filled : zMe := (yX6_filled, cX6_filled, 2, (some .int))
abbrev mX6_firstSo : zMe := (yX6_firstSo, cX6_firstSo, 5, (some .int))
abbrev mX6_breaks : zMe := (yX6_breaks, cX6_breaks, 2, (some .int))
abbrev mX6_how : zMe := (yX6_how, cX6_how, 5, (some .int))
abbrev mX6_ring : zMe := (yX6_ring, cX6_ring, 7, (some .int))
abbrev mX6_men : zMe := (yX6_men, cX6_men, 3, (some .int))
abbrev mX6_leastBy : zMe := (yX6_leastBy, cX6_leastBy, 8, (some .int))
abbrev mX6_budget : zMe := (yX6_budget, cX6_budget, 3, (some .int))
abbrev mX6_kind : zMe := (yX6_kind, cX6_kind, 7, (some .int))
abbrev mX6_let : zMe := (yX6_let, cX6_let, 6, (some .int))
abbrev mX6_worst : zMe := (yX6_worst, cX6_worst, 5, (some .int))
abbrev mX6_feed : zMe := (yX6_feed, cX6_feed, 4, (some .int))
abbrev mX6_wipe : zMe := (yX6_wipe, cX6_wipe, 2, (some .int))
abbrev mX6_text : zMe := (yX6_text, cX6_text, 2, (some .int))
abbrev mX6_saves : zMe := (yX6_saves, cX6_saves, 2, none)
abbrev mX6_token : zMe := (yX6_token, cX6_token, 3, none)
abbrev mX6_byteAt : zMe := (yX6_byteAt, cX6_byteAt, 2, (some .int))
abbrev mX6_isLetter : zMe := (yX6_isLetter, cX6_isLetter, 1, (some .boolean))
abbrev mX6_isDigit : zMe := (yX6_isDigit, cX6_isDigit, 1, (some .boolean))
abbrev mX6_item : zMe := (yX6_item, cX6_item, 6, none)
abbrev mX6_kindHere : zMe := (yX6_kindHere, cX6_kindHere, 3, (some .int))
abbrev mX6_word : zMe := (yX6_word, cX6_word, 4, (some .long))
abbrev mX6_holeItem : zMe := (yX6_holeItem, cX6_holeItem, 3, none)
abbrev mX6_must : zMe := (yX6_must, cX6_must, 2, none)
abbrev mX6_partItem : zMe := (yX6_partItem, cX6_partItem, 5, none)
abbrev mX6_number : zMe := (yX6_number, cX6_number, 6, none)
abbrev mX6_wordItem : zMe := (yX6_wordItem, cX6_wordItem, 5, none)
abbrev mX6_streetItem : zMe := (yX6_streetItem, cX6_streetItem, 2, none)
abbrev mX6_putsBack : zMe := (yX6_putsBack, cX6_putsBack, 2, none)
abbrev mX6_sheet : zMe := (yX6_sheet, cX6_sheet, 5, (some .int))
abbrev mX6_isOne : zMe := (yX6_isOne, cX6_isOne, 1, (some .boolean))
abbrev mX6_write : zMe := (yX6_write, cX6_write, 8, (some .long))
abbrev mX6_wrongSheet : zMe := (yX6_wrongSheet, cX6_wrongSheet, 2, (some .int))
abbrev mX6_narrowed : zMe := (yX6_narrowed, cX6_narrowed, 3, (some .long))
abbrev mX6_copy : zMe := (yX6_copy, cX6_copy, 7, (some .int))
abbrev mX6_lays : zMe := (yX6_lays, cX6_lays, 6, (some .int))
abbrev mX6_book : zMe := (yX6_book, cX6_book, 5, (some .int))
abbrev mX6_wrongBook : zMe := (yX6_wrongBook, cX6_wrongBook, 4, (some .int))
abbrev mX6_read : zMe := (yX6_read, cX6_read, 6, (some .int))
abbrev mX6_isBook : zMe := (yX6_isBook, cX6_isBook, 4, (some .boolean))
abbrev mX6_image : zMe := (yX6_image, cX6_image, 2, (some .int))
abbrev mX6_undo : zMe := (yX6_undo, cX6_undo, 2, (some .int))
abbrev mX6_tear : zMe := (yX6_tear, cX6_tear, 2, (some .int))
abbrev mX6_count : zMe := (yX6_count, cX6_count, 2, (some .int))
abbrev mX6_ones : zMe := (yX6_ones, cX6_ones, 3, (some .int))
abbrev mX6_status : zMe := (yX6_status, cX6_status, 4, (some .int))
theorem lkL_9 : zLI RL 9 mX5_init 0 := ⟨⟨zgw (i := 71) (by decide +kernel) rfl, zgw (i := 53) (by decide +kernel) rfl, ⟨by decide +kernel, by decide +kernel⟩, (by decide +kernel), zgw (i := 69) (by decide +kernel) rfl⟩, zgw (i := 70) (by decide +kernel) rfl⟩
-- no own method: X5 1 ('java/lang/Object', '<init>', '()V')
theorem lkX5_9 : zLIN RX5 9 "HoleFills" mX3_init 0 := ⟨⟨zgw (i := 79) (by decide +kernel) rfl, zgw (i := 54) (by decide +kernel) rfl, ⟨by decide +kernel, by decide +kernel⟩, (by decide +kernel), zgw (i := 79) (by decide +kernel) rfl⟩, zgw (i := 78) (by decide +kernel) rfl⟩
-- no own method: X3 3 ('java/lang/Object', '<init>', '()V')
theorem fkX3_9 : Cond.fieldLink RX3 9 "HoleFills$Town" "week" "I" ∈ zGW := zgw (i := 81) (by decide +kernel) rfl
theorem fkX5_143 : Cond.fieldLink RX5 143 "HoleFills$Town" "week" "I" ∈ zGW := zgw (i := 82) (by decide +kernel) rfl
theorem fkX3_15 : Cond.fieldLink RX3 15 "HoleFills$Town" "budget" "I" ∈ zGW := zgw (i := 83) (by decide +kernel) rfl
theorem fkX4_58 : Cond.fieldLink RX4 58 "HoleFills$Town" "budget" "I" ∈ zGW := zgw (i := 84) (by decide +kernel) rfl
theorem fkX5_130 : Cond.fieldLink RX5 130 "HoleFills$Town" "budget" "I" ∈ zGW := zgw (i := 85) (by decide +kernel) rfl
theorem fkX3_18 : Cond.fieldLink RX3 18 "HoleFills$Town" "yearly" "I" ∈ zGW := zgw (i := 86) (by decide +kernel) rfl
theorem fkX5_150 : Cond.fieldLink RX5 150 "HoleFills$Town" "yearly" "I" ∈ zGW := zgw (i := 87) (by decide +kernel) rfl
theorem fkX3_21 : Cond.fieldLink RX3 21 "HoleFills$Town" "men" "I" ∈ zGW := zgw (i := 88) (by decide +kernel) rfl
theorem fkX4_64 : Cond.fieldLink RX4 64 "HoleFills$Town" "men" "I" ∈ zGW := zgw (i := 89) (by decide +kernel) rfl
theorem fkX5_153 : Cond.fieldLink RX5 153 "HoleFills$Town" "men" "I" ∈ zGW := zgw (i := 90) (by decide +kernel) rfl
theorem fkX3_24 : Cond.fieldLink RX3 24 "HoleFills$Town" "hot" "I" ∈ zGW := zgw (i := 91) (by decide +kernel) rfl
theorem fkX5_156 : Cond.fieldLink RX5 156 "HoleFills$Town" "hot" "I" ∈ zGW := zgw (i := 92) (by decide +kernel) rfl
theorem fkX3_27 : Cond.fieldLink RX3 27 "HoleFills$Town" "spent" "I" ∈ zGW := zgw (i := 93) (by decide +kernel) rfl
theorem fkX5_159 : Cond.fieldLink RX5 159 "HoleFills$Town" "spent" "I" ∈ zGW := zgw (i := 94) (by decide +kernel) rfl
theorem fkX3_30 : Cond.fieldLink RX3 30 "HoleFills$Town" "lacked" "I" ∈ zGW := zgw (i := 95) (by decide +kernel) rfl
theorem fkX5_185 : Cond.fieldLink RX5 185 "HoleFills$Town" "lacked" "I" ∈ zGW := zgw (i := 96) (by decide +kernel) rfl
theorem fkX3_33 : Cond.fieldLink RX3 33 "HoleFills$Town" "traffic" "[I" ∈ zGW := zgw (i := 97) (by decide +kernel) rfl
theorem fkX5_67 : Cond.fieldLink RX5 67 "HoleFills$Town" "traffic" "[I" ∈ zGW := zgw (i := 98) (by decide +kernel) rfl
theorem fkX4_100 : Cond.fieldLink RX4 100 "HoleFills$Town" "traffic" "[I" ∈ zGW := zgw (i := 99) (by decide +kernel) rfl
theorem fkX3_37 : Cond.fieldLink RX3 37 "HoleFills$Town" "letGo" "[I" ∈ zGW := zgw (i := 100) (by decide +kernel) rfl
theorem fkX5_70 : Cond.fieldLink RX5 70 "HoleFills$Town" "letGo" "[I" ∈ zGW := zgw (i := 101) (by decide +kernel) rfl
theorem fkX4_102 : Cond.fieldLink RX4 102 "HoleFills$Town" "letGo" "[I" ∈ zGW := zgw (i := 102) (by decide +kernel) rfl
theorem fkX3_40 : Cond.fieldLink RX3 40 "HoleFills$Town" "holes" "I" ∈ zGW := zgw (i := 103) (by decide +kernel) rfl
theorem fkX5_179 : Cond.fieldLink RX5 179 "HoleFills$Town" "holes" "I" ∈ zGW := zgw (i := 104) (by decide +kernel) rfl
theorem fkX3_43 : Cond.fieldLink RX3 43 "HoleFills$Town" "kinds" "[I" ∈ zGW := zgw (i := 105) (by decide +kernel) rfl
theorem fkX5_104 : Cond.fieldLink RX5 104 "HoleFills$Town" "kinds" "[I" ∈ zGW := zgw (i := 106) (by decide +kernel) rfl
theorem fkX3_46 : Cond.fieldLink RX3 46 "HoleFills$Town" "streets" "[I" ∈ zGW := zgw (i := 107) (by decide +kernel) rfl
theorem fkX3_49 : Cond.fieldLink RX3 49 "HoleFills$Town" "sizes" "[I" ∈ zGW := zgw (i := 108) (by decide +kernel) rfl
theorem fkX4_78 : Cond.fieldLink RX4 78 "HoleFills$Town" "sizes" "[I" ∈ zGW := zgw (i := 109) (by decide +kernel) rfl
theorem fkX5_124 : Cond.fieldLink RX5 124 "HoleFills$Town" "sizes" "[I" ∈ zGW := zgw (i := 110) (by decide +kernel) rfl
theorem fkX3_52 : Cond.fieldLink RX3 52 "HoleFills$Town" "fills" "[I" ∈ zGW := zgw (i := 111) (by decide +kernel) rfl
theorem fkX4_84 : Cond.fieldLink RX4 84 "HoleFills$Town" "fills" "[I" ∈ zGW := zgw (i := 112) (by decide +kernel) rfl
theorem fkX5_127 : Cond.fieldLink RX5 127 "HoleFills$Town" "fills" "[I" ∈ zGW := zgw (i := 113) (by decide +kernel) rfl
theorem fkX3_55 : Cond.fieldLink RX3 55 "HoleFills$Town" "ages" "[I" ∈ zGW := zgw (i := 114) (by decide +kernel) rfl
theorem fkX5_256 : Cond.fieldLink RX5 256 "HoleFills$Town" "ages" "[I" ∈ zGW := zgw (i := 115) (by decide +kernel) rfl
theorem fkX3_58 : Cond.fieldLink RX3 58 "HoleFills$Town" "rungs" "[I" ∈ zGW := zgw (i := 116) (by decide +kernel) rfl
theorem fkX4_89 : Cond.fieldLink RX4 89 "HoleFills$Town" "rungs" "[I" ∈ zGW := zgw (i := 117) (by decide +kernel) rfl
theorem fkX5_182 : Cond.fieldLink RX5 182 "HoleFills$Town" "rungs" "[I" ∈ zGW := zgw (i := 118) (by decide +kernel) rfl
theorem lkX5_28 : zLIN RX5 28 "HoleFills" mX2_init 0 := ⟨⟨zgw (i := 157) (by decide +kernel) rfl, zgw (i := 55) (by decide +kernel) rfl, ⟨by decide +kernel, by decide +kernel⟩, (by decide +kernel), zgw (i := 157) (by decide +kernel) rfl⟩, zgw (i := 156) (by decide +kernel) rfl⟩
-- no own method: X2 3 ('java/lang/Object', '<init>', '()V')
theorem fkX2_9 : Cond.fieldLink RX2 9 "HoleFills$Tape" "bytes" "[I" ∈ zGW := zgw (i := 159) (by decide +kernel) rfl
theorem fkX2_15 : Cond.fieldLink RX2 15 "HoleFills$Tape" "length" "I" ∈ zGW := zgw (i := 160) (by decide +kernel) rfl
theorem fkX5_200 : Cond.fieldLink RX5 200 "HoleFills$Tape" "length" "I" ∈ zGW := zgw (i := 161) (by decide +kernel) rfl
theorem fkX2_19 : Cond.fieldLink RX2 19 "HoleFills$Tape" "token" "I" ∈ zGW := zgw (i := 162) (by decide +kernel) rfl
theorem fkX4_20 : Cond.fieldLink RX4 20 "HoleFills$Tape" "token" "I" ∈ zGW := zgw (i := 163) (by decide +kernel) rfl
theorem fkX2_22 : Cond.fieldLink RX2 22 "HoleFills$Tape" "start" "I" ∈ zGW := zgw (i := 164) (by decide +kernel) rfl
theorem fkX4_27 : Cond.fieldLink RX4 27 "HoleFills$Tape" "start" "I" ∈ zGW := zgw (i := 165) (by decide +kernel) rfl
theorem fkX2_25 : Cond.fieldLink RX2 25 "HoleFills$Tape" "end" "I" ∈ zGW := zgw (i := 166) (by decide +kernel) rfl
theorem fkX2_28 : Cond.fieldLink RX2 28 "HoleFills$Tape" "value" "I" ∈ zGW := zgw (i := 167) (by decide +kernel) rfl
theorem lkX5_43 : zLIN RX5 43 "HoleFills" mX1_init 0 := ⟨⟨zgw (i := 186) (by decide +kernel) rfl, zgw (i := 56) (by decide +kernel) rfl, ⟨by decide +kernel, by decide +kernel⟩, (by decide +kernel), zgw (i := 186) (by decide +kernel) rfl⟩, zgw (i := 185) (by decide +kernel) rfl⟩
-- no own method: X1 3 ('java/lang/Object', '<init>', '()V')
theorem fkX1_9 : Cond.fieldLink RX1 9 "HoleFills$Sheet" "bits" "I" ∈ zGW := zgw (i := 188) (by decide +kernel) rfl
theorem fkX5_239 : Cond.fieldLink RX5 239 "HoleFills$Sheet" "bits" "I" ∈ zGW := zgw (i := 189) (by decide +kernel) rfl
theorem fkX1_15 : Cond.fieldLink RX1 15 "HoleFills$Sheet" "length" "I" ∈ zGW := zgw (i := 190) (by decide +kernel) rfl
theorem fkX5_227 : Cond.fieldLink RX5 227 "HoleFills$Sheet" "length" "I" ∈ zGW := zgw (i := 191) (by decide +kernel) rfl
theorem fkX1_18 : Cond.fieldLink RX1 18 "HoleFills$Sheet" "numbers" "[J" ∈ zGW := zgw (i := 192) (by decide +kernel) rfl
theorem fkX5_232 : Cond.fieldLink RX5 232 "HoleFills$Sheet" "numbers" "[J" ∈ zGW := zgw (i := 193) (by decide +kernel) rfl
theorem fkX5_10 : Cond.fieldLink RX5 10 "HoleFills" "here" "LHoleFills$Town;" ∈ zGW := zgw (i := 202) (by decide +kernel) rfl
theorem fkX5_16 : Cond.fieldLink RX5 16 "HoleFills" "trial" "LHoleFills$Town;" ∈ zGW := zgw (i := 203) (by decide +kernel) rfl
theorem fkX5_19 : Cond.fieldLink RX5 19 "HoleFills" "kept" "LHoleFills$Town;" ∈ zGW := zgw (i := 204) (by decide +kernel) rfl
theorem fkX5_22 : Cond.fieldLink RX5 22 "HoleFills" "isKept" "Z" ∈ zGW := zgw (i := 205) (by decide +kernel) rfl
theorem fkX5_29 : Cond.fieldLink RX5 29 "HoleFills" "tape" "LHoleFills$Tape;" ∈ zGW := zgw (i := 206) (by decide +kernel) rfl
theorem fkX5_35 : Cond.fieldLink RX5 35 "HoleFills" "sheets" "[LHoleFills$Sheet;" ∈ zGW := zgw (i := 207) (by decide +kernel) rfl
theorem fkX5_39 : Cond.fieldLink RX5 39 "HoleFills" "findings" "[I" ∈ zGW := zgw (i := 208) (by decide +kernel) rfl
theorem lkL_13 : zLV RL 13 mX5_town 2 := ⟨⟨zgw (i := 227) (by decide +kernel) rfl, zgw (i := 53) (by decide +kernel) rfl, ⟨by decide +kernel, by decide +kernel⟩, (by decide +kernel), zgw (i := 224) (by decide +kernel) rfl⟩, zgw (i := 225) (by decide +kernel) rfl, zgw (i := 226) (by decide +kernel) rfl⟩
theorem lkX5_44 : zLS RX5 44 mX5_within 3 := ⟨⟨zgw (i := 230) (by decide +kernel) rfl, zgw (i := 53) (by decide +kernel) rfl, ⟨by decide +kernel, by decide +kernel⟩, (by decide +kernel), zgw (i := 228) (by decide +kernel) rfl⟩, zgw (i := 229) (by decide +kernel) rfl⟩
theorem fkX5_48 : Cond.fieldLink RX5 48 "HoleFills" "MOST_OF_TOWN" "[I" ∈ zGW := zgw (i := 231) (by decide +kernel) rfl
theorem ckX5_51 : Cond.constant RX5 51 (-1000000001) ∈ zGW := zgw (i := 233) (by decide +kernel) rfl
theorem lkX5_52 : zLV RX5 52 mX5_found 1 := ⟨⟨zgw (i := 237) (by decide +kernel) rfl, zgw (i := 53) (by decide +kernel) rfl, ⟨by decide +kernel, by decide +kernel⟩, (by decide +kernel), zgw (i := 234) (by decide +kernel) rfl⟩, zgw (i := 236) (by decide +kernel) rfl, zgw (i := 0) (by decide +kernel) rfl⟩
theorem lkX5_56 : zLV RX5 56 mX3_changeFigure 2 := ⟨⟨zgw (i := 241) (by decide +kernel) rfl, zgw (i := 54) (by decide +kernel) rfl, ⟨by decide +kernel, by decide +kernel⟩, (by decide +kernel), zgw (i := 238) (by decide +kernel) rfl⟩, zgw (i := 239) (by decide +kernel) rfl, zgw (i := 240) (by decide +kernel) rfl⟩
theorem lkL_18 : zLV RL 18 mX5_street 3 := ⟨⟨zgw (i := 245) (by decide +kernel) rfl, zgw (i := 53) (by decide +kernel) rfl, ⟨by decide +kernel, by decide +kernel⟩, (by decide +kernel), zgw (i := 242) (by decide +kernel) rfl⟩, zgw (i := 243) (by decide +kernel) rfl, zgw (i := 244) (by decide +kernel) rfl⟩
theorem lkX5_60 : zLS RX5 60 mX5_isStreet 1 := ⟨⟨zgw (i := 248) (by decide +kernel) rfl, zgw (i := 53) (by decide +kernel) rfl, ⟨by decide +kernel, by decide +kernel⟩, (by decide +kernel), zgw (i := 246) (by decide +kernel) rfl⟩, zgw (i := 247) (by decide +kernel) rfl⟩
theorem fkX5_64 : Cond.fieldLink RX5 64 "HoleFills" "MOST_OF_STREET" "[I" ∈ zGW := zgw (i := 249) (by decide +kernel) rfl
theorem lkX5_73 : zLS RX5 73 mX5_put 3 := ⟨⟨zgw (i := 253) (by decide +kernel) rfl, zgw (i := 53) (by decide +kernel) rfl, ⟨by decide +kernel, by decide +kernel⟩, (by decide +kernel), zgw (i := 251) (by decide +kernel) rfl⟩, zgw (i := 252) (by decide +kernel) rfl⟩
theorem lkL_23 : zLV RL 23 mX5_streetOf 2 := ⟨⟨zgw (i := 257) (by decide +kernel) rfl, zgw (i := 53) (by decide +kernel) rfl, ⟨by decide +kernel, by decide +kernel⟩, (by decide +kernel), zgw (i := 254) (by decide +kernel) rfl⟩, zgw (i := 255) (by decide +kernel) rfl, zgw (i := 256) (by decide +kernel) rfl⟩
theorem lkX5_77 : zLV RX5 77 mX3_holesIn 1 := ⟨⟨zgw (i := 261) (by decide +kernel) rfl, zgw (i := 54) (by decide +kernel) rfl, ⟨by decide +kernel, by decide +kernel⟩, (by decide +kernel), zgw (i := 258) (by decide +kernel) rfl⟩, zgw (i := 259) (by decide +kernel) rfl, zgw (i := 260) (by decide +kernel) rfl⟩
theorem lkX5_80 : zLV RX5 80 mX3_openHoles 0 := ⟨⟨zgw (i := 265) (by decide +kernel) rfl, zgw (i := 54) (by decide +kernel) rfl, ⟨by decide +kernel, by decide +kernel⟩, (by decide +kernel), zgw (i := 262) (by decide +kernel) rfl⟩, zgw (i := 263) (by decide +kernel) rfl, zgw (i := 264) (by decide +kernel) rfl⟩
theorem lkL_27 : zLV RL 27 mX5_hole 2 := ⟨⟨zgw (i := 269) (by decide +kernel) rfl, zgw (i := 53) (by decide +kernel) rfl, ⟨by decide +kernel, by decide +kernel⟩, (by decide +kernel), zgw (i := 266) (by decide +kernel) rfl⟩, zgw (i := 267) (by decide +kernel) rfl, zgw (i := 268) (by decide +kernel) rfl⟩
theorem lkX5_84 : zLS RX5 84 mX5_isKind 1 := ⟨⟨zgw (i := 272) (by decide +kernel) rfl, zgw (i := 53) (by decide +kernel) rfl, ⟨by decide +kernel, by decide +kernel⟩, (by decide +kernel), zgw (i := 270) (by decide +kernel) rfl⟩, zgw (i := 271) (by decide +kernel) rfl⟩
theorem lkX5_87 : zLV RX5 87 mX3_isFull 0 := ⟨⟨zgw (i := 276) (by decide +kernel) rfl, zgw (i := 54) (by decide +kernel) rfl, ⟨by decide +kernel, by decide +kernel⟩, (by decide +kernel), zgw (i := 273) (by decide +kernel) rfl⟩, zgw (i := 274) (by decide +kernel) rfl, zgw (i := 275) (by decide +kernel) rfl⟩
theorem ckX5_91 : Cond.constant RX5 91 (-1000000002) ∈ zGW := zgw (i := 277) (by decide +kernel) rfl
theorem lkX5_92 : zLV RX5 92 mX3_addHole 2 := ⟨⟨zgw (i := 281) (by decide +kernel) rfl, zgw (i := 54) (by decide +kernel) rfl, ⟨by decide +kernel, by decide +kernel⟩, (by decide +kernel), zgw (i := 278) (by decide +kernel) rfl⟩, zgw (i := 279) (by decide +kernel) rfl, zgw (i := 280) (by decide +kernel) rfl⟩
theorem lkL_31 : zLV RL 31 mX5_of 2 := ⟨⟨zgw (i := 285) (by decide +kernel) rfl, zgw (i := 53) (by decide +kernel) rfl, ⟨by decide +kernel, by decide +kernel⟩, (by decide +kernel), zgw (i := 282) (by decide +kernel) rfl⟩, zgw (i := 283) (by decide +kernel) rfl, zgw (i := 284) (by decide +kernel) rfl⟩
theorem lkX5_95 : zLV RX5 95 mX3_has 1 := ⟨⟨zgw (i := 289) (by decide +kernel) rfl, zgw (i := 54) (by decide +kernel) rfl, ⟨by decide +kernel, by decide +kernel⟩, (by decide +kernel), zgw (i := 286) (by decide +kernel) rfl⟩, zgw (i := 287) (by decide +kernel) rfl, zgw (i := 288) (by decide +kernel) rfl⟩
theorem lkX5_98 : zLV RX5 98 mX3_growth 1 := ⟨⟨zgw (i := 293) (by decide +kernel) rfl, zgw (i := 54) (by decide +kernel) rfl, ⟨by decide +kernel, by decide +kernel⟩, (by decide +kernel), zgw (i := 290) (by decide +kernel) rfl⟩, zgw (i := 291) (by decide +kernel) rfl, zgw (i := 292) (by decide +kernel) rfl⟩
theorem lkX3_67 : zLSN RX3 67 "HoleFills" mX5_isStreet 1 := ⟨⟨zgw (i := 248) (by decide +kernel) rfl, zgw (i := 53) (by decide +kernel) rfl, ⟨by decide +kernel, by decide +kernel⟩, (by decide +kernel), zgw (i := 248) (by decide +kernel) rfl⟩, zgw (i := 247) (by decide +kernel) rfl⟩
theorem lkX3_71 : zLV RX3 71 mX3_weekOfYear 0 := ⟨⟨zgw (i := 298) (by decide +kernel) rfl, zgw (i := 54) (by decide +kernel) rfl, ⟨by decide +kernel, by decide +kernel⟩, (by decide +kernel), zgw (i := 295) (by decide +kernel) rfl⟩, zgw (i := 296) (by decide +kernel) rfl, zgw (i := 297) (by decide +kernel) rfl⟩
theorem lkX3_75 : zLS RX3 75 mX0_growth 4 := ⟨⟨zgw (i := 301) (by decide +kernel) rfl, zgw (i := 58) (by decide +kernel) rfl, ⟨by decide +kernel, by decide +kernel⟩, (by decide +kernel), zgw (i := 299) (by decide +kernel) rfl⟩, zgw (i := 300) (by decide +kernel) rfl⟩
theorem lkX0_9 : zLS RX0 9 mX0_isFrost 1 := ⟨⟨zgw (i := 304) (by decide +kernel) rfl, zgw (i := 58) (by decide +kernel) rfl, ⟨by decide +kernel, by decide +kernel⟩, (by decide +kernel), zgw (i := 302) (by decide +kernel) rfl⟩, zgw (i := 303) (by decide +kernel) rfl⟩
theorem lkX0_15 : zLS RX0 15 mJ9_max_7cf53 2 := ⟨⟨zgw (i := 307) (by decide +kernel) rfl, zgw (i := 59) (by decide +kernel) rfl, ⟨by decide +kernel, by decide +kernel⟩, (by decide +kernel), zgw (i := 305) (by decide +kernel) rfl⟩, zgw (i := 306) (by decide +kernel) rfl⟩
theorem lkX5_101 : zLV RX5 101 mX3_price 2 := ⟨⟨zgw (i := 311) (by decide +kernel) rfl, zgw (i := 54) (by decide +kernel) rfl, ⟨by decide +kernel, by decide +kernel⟩, (by decide +kernel), zgw (i := 308) (by decide +kernel) rfl⟩, zgw (i := 309) (by decide +kernel) rfl, zgw (i := 310) (by decide +kernel) rfl⟩
theorem lkX3_81 : zLS RX3 81 mX0_coldPrice 2 := ⟨⟨zgw (i := 314) (by decide +kernel) rfl, zgw (i := 58) (by decide +kernel) rfl, ⟨by decide +kernel, by decide +kernel⟩, (by decide +kernel), zgw (i := 312) (by decide +kernel) rfl⟩, zgw (i := 313) (by decide +kernel) rfl⟩
theorem lkX5_107 : zLS RX5 107 mX0_holds 2 := ⟨⟨zgw (i := 317) (by decide +kernel) rfl, zgw (i := 58) (by decide +kernel) rfl, ⟨by decide +kernel, by decide +kernel⟩, (by decide +kernel), zgw (i := 315) (by decide +kernel) rfl⟩, zgw (i := 316) (by decide +kernel) rfl⟩
theorem lkX5_112 : zLV RX5 112 mX3_rowOfHoles 1 := ⟨⟨zgw (i := 321) (by decide +kernel) rfl, zgw (i := 54) (by decide +kernel) rfl, ⟨by decide +kernel, by decide +kernel⟩, (by decide +kernel), zgw (i := 318) (by decide +kernel) rfl⟩, zgw (i := 319) (by decide +kernel) rfl, zgw (i := 320) (by decide +kernel) rfl⟩
theorem lkL_35 : zLV RL 35 mX5_set 3 := ⟨⟨zgw (i := 325) (by decide +kernel) rfl, zgw (i := 53) (by decide +kernel) rfl, ⟨by decide +kernel, by decide +kernel⟩, (by decide +kernel), zgw (i := 322) (by decide +kernel) rfl⟩, zgw (i := 323) (by decide +kernel) rfl, zgw (i := 324) (by decide +kernel) rfl⟩
theorem fkX5_116 : Cond.fieldLink RX5 116 "HoleFills" "MOST_OF_HOLE" "[I" ∈ zGW := zgw (i := 326) (by decide +kernel) rfl
theorem lkL_39 : zLV RL 39 mX5_turn 2 := ⟨⟨zgw (i := 331) (by decide +kernel) rfl, zgw (i := 53) (by decide +kernel) rfl, ⟨by decide +kernel, by decide +kernel⟩, (by decide +kernel), zgw (i := 328) (by decide +kernel) rfl⟩, zgw (i := 329) (by decide +kernel) rfl, zgw (i := 330) (by decide +kernel) rfl⟩
theorem lkL_43 : zLV RL 43 mX5_as 2 := ⟨⟨zgw (i := 335) (by decide +kernel) rfl, zgw (i := 53) (by decide +kernel) rfl, ⟨by decide +kernel, by decide +kernel⟩, (by decide +kernel), zgw (i := 332) (by decide +kernel) rfl⟩, zgw (i := 333) (by decide +kernel) rfl, zgw (i := 334) (by decide +kernel) rfl⟩
theorem lkX5_119 : zLS RX5 119 mX0_isUnder 2 := ⟨⟨zgw (i := 338) (by decide +kernel) rfl, zgw (i := 58) (by decide +kernel) rfl, ⟨by decide +kernel, by decide +kernel⟩, (by decide +kernel), zgw (i := 336) (by decide +kernel) rfl⟩, zgw (i := 337) (by decide +kernel) rfl⟩
theorem ckX5_123 : Cond.constant RX5 123 (-1000000003) ∈ zGW := zgw (i := 339) (by decide +kernel) rfl
theorem lkL_47 : zLV RL 47 mX5_fill 2 := ⟨⟨zgw (i := 343) (by decide +kernel) rfl, zgw (i := 53) (by decide +kernel) rfl, ⟨by decide +kernel, by decide +kernel⟩, (by decide +kernel), zgw (i := 340) (by decide +kernel) rfl⟩, zgw (i := 341) (by decide +kernel) rfl, zgw (i := 342) (by decide +kernel) rfl⟩
theorem ckX5_134 : Cond.constant RX5 134 (-1000000005) ∈ zGW := zgw (i := 344) (by decide +kernel) rfl
theorem lkX5_135 : zLV RX5 135 mX3_fillNow 2 := ⟨⟨zgw (i := 348) (by decide +kernel) rfl, zgw (i := 54) (by decide +kernel) rfl, ⟨by decide +kernel, by decide +kernel⟩, (by decide +kernel), zgw (i := 345) (by decide +kernel) rfl⟩, zgw (i := 346) (by decide +kernel) rfl, zgw (i := 347) (by decide +kernel) rfl⟩
theorem lkX3_88 : zLV RX3 88 mX3_price 2 := ⟨⟨zgw (i := 311) (by decide +kernel) rfl, zgw (i := 54) (by decide +kernel) rfl, ⟨by decide +kernel, by decide +kernel⟩, (by decide +kernel), zgw (i := 349) (by decide +kernel) rfl⟩, zgw (i := 309) (by decide +kernel) rfl, zgw (i := 310) (by decide +kernel) rfl⟩
theorem ckX3_100 : Cond.constant RX3 100 (9999999) ∈ zGW := zgw (i := 350) (by decide +kernel) rfl
theorem lkX3_91 : zLS RX3 91 mJ9_min_7cf53 2 := ⟨⟨zgw (i := 353) (by decide +kernel) rfl, zgw (i := 59) (by decide +kernel) rfl, ⟨by decide +kernel, by decide +kernel⟩, (by decide +kernel), zgw (i := 351) (by decide +kernel) rfl⟩, zgw (i := 352) (by decide +kernel) rfl⟩
theorem lkL_51 : zLV RL 51 mX5_next 0 := ⟨⟨zgw (i := 357) (by decide +kernel) rfl, zgw (i := 53) (by decide +kernel) rfl, ⟨by decide +kernel, by decide +kernel⟩, (by decide +kernel), zgw (i := 354) (by decide +kernel) rfl⟩, zgw (i := 355) (by decide +kernel) rfl, zgw (i := 356) (by decide +kernel) rfl⟩
theorem lkX5_139 : zLV RX5 139 mX3_firstToFill 0 := ⟨⟨zgw (i := 361) (by decide +kernel) rfl, zgw (i := 54) (by decide +kernel) rfl, ⟨by decide +kernel, by decide +kernel⟩, (by decide +kernel), zgw (i := 358) (by decide +kernel) rfl⟩, zgw (i := 359) (by decide +kernel) rfl, zgw (i := 360) (by decide +kernel) rfl⟩
theorem lkX3_85 : zLV RX3 85 mX3_isLetGo 1 := ⟨⟨zgw (i := 365) (by decide +kernel) rfl, zgw (i := 54) (by decide +kernel) rfl, ⟨by decide +kernel, by decide +kernel⟩, (by decide +kernel), zgw (i := 362) (by decide +kernel) rfl⟩, zgw (i := 364) (by decide +kernel) rfl, zgw (i := 1) (by decide +kernel) rfl⟩
theorem lkX3_96 : zLV RX3 96 mX3_comesAheadOf 2 := ⟨⟨zgw (i := 369) (by decide +kernel) rfl, zgw (i := 54) (by decide +kernel) rfl, ⟨by decide +kernel, by decide +kernel⟩, (by decide +kernel), zgw (i := 366) (by decide +kernel) rfl⟩, zgw (i := 368) (by decide +kernel) rfl, zgw (i := 2) (by decide +kernel) rfl⟩
theorem ckX5_142 : Cond.constant RX5 142 (-1000000004) ∈ zGW := zgw (i := 370) (by decide +kernel) rfl
theorem lkL_56 : zLV RL 56 mX5_weeks 1 := ⟨⟨zgw (i := 374) (by decide +kernel) rfl, zgw (i := 53) (by decide +kernel) rfl, ⟨by decide +kernel, by decide +kernel⟩, (by decide +kernel), zgw (i := 371) (by decide +kernel) rfl⟩, zgw (i := 372) (by decide +kernel) rfl, zgw (i := 373) (by decide +kernel) rfl⟩
theorem lkX5_146 : zLV RX5 146 mX3_goWeeks 1 := ⟨⟨zgw (i := 378) (by decide +kernel) rfl, zgw (i := 54) (by decide +kernel) rfl, ⟨by decide +kernel, by decide +kernel⟩, (by decide +kernel), zgw (i := 375) (by decide +kernel) rfl⟩, zgw (i := 376) (by decide +kernel) rfl, zgw (i := 377) (by decide +kernel) rfl⟩
theorem lkX3_121 : zLV RX3 121 mX3_goWeek 0 := ⟨⟨zgw (i := 382) (by decide +kernel) rfl, zgw (i := 54) (by decide +kernel) rfl, ⟨by decide +kernel, by decide +kernel⟩, (by decide +kernel), zgw (i := 379) (by decide +kernel) rfl⟩, zgw (i := 380) (by decide +kernel) rfl, zgw (i := 381) (by decide +kernel) rfl⟩
theorem lkX3_114 : zLV RX3 114 mX3_sendMen 0 := ⟨⟨zgw (i := 386) (by decide +kernel) rfl, zgw (i := 54) (by decide +kernel) rfl, ⟨by decide +kernel, by decide +kernel⟩, (by decide +kernel), zgw (i := 383) (by decide +kernel) rfl⟩, zgw (i := 385) (by decide +kernel) rfl, zgw (i := 3) (by decide +kernel) rfl⟩
theorem lkX3_101 : zLV RX3 101 mX3_firstToFill 0 := ⟨⟨zgw (i := 361) (by decide +kernel) rfl, zgw (i := 54) (by decide +kernel) rfl, ⟨by decide +kernel, by decide +kernel⟩, (by decide +kernel), zgw (i := 387) (by decide +kernel) rfl⟩, zgw (i := 359) (by decide +kernel) rfl, zgw (i := 360) (by decide +kernel) rfl⟩
theorem lkX3_104 : zLV RX3 104 mX3_fillNow 2 := ⟨⟨zgw (i := 348) (by decide +kernel) rfl, zgw (i := 54) (by decide +kernel) rfl, ⟨by decide +kernel, by decide +kernel⟩, (by decide +kernel), zgw (i := 388) (by decide +kernel) rfl⟩, zgw (i := 346) (by decide +kernel) rfl, zgw (i := 347) (by decide +kernel) rfl⟩
theorem lkX3_117 : zLV RX3 117 mX3_wear 1 := ⟨⟨zgw (i := 392) (by decide +kernel) rfl, zgw (i := 54) (by decide +kernel) rfl, ⟨by decide +kernel, by decide +kernel⟩, (by decide +kernel), zgw (i := 389) (by decide +kernel) rfl⟩, zgw (i := 391) (by decide +kernel) rfl, zgw (i := 4) (by decide +kernel) rfl⟩
theorem lkX3_108 : zLV RX3 108 mX3_growth 1 := ⟨⟨zgw (i := 293) (by decide +kernel) rfl, zgw (i := 54) (by decide +kernel) rfl, ⟨by decide +kernel, by decide +kernel⟩, (by decide +kernel), zgw (i := 393) (by decide +kernel) rfl⟩, zgw (i := 291) (by decide +kernel) rfl, zgw (i := 292) (by decide +kernel) rfl⟩
theorem lkX3_111 : zLS RX3 111 mX0_holds 2 := ⟨⟨zgw (i := 317) (by decide +kernel) rfl, zgw (i := 58) (by decide +kernel) rfl, ⟨by decide +kernel, by decide +kernel⟩, (by decide +kernel), zgw (i := 394) (by decide +kernel) rfl⟩, zgw (i := 316) (by decide +kernel) rfl⟩
theorem lkL_61 : zLV RL 61 mX5_now 1 := ⟨⟨zgw (i := 398) (by decide +kernel) rfl, zgw (i := 53) (by decide +kernel) rfl, ⟨by decide +kernel, by decide +kernel⟩, (by decide +kernel), zgw (i := 395) (by decide +kernel) rfl⟩, zgw (i := 396) (by decide +kernel) rfl, zgw (i := 397) (by decide +kernel) rfl⟩
theorem lkX5_162 : zLV RX5 162 mX3_weekOfYear 0 := ⟨⟨zgw (i := 298) (by decide +kernel) rfl, zgw (i := 54) (by decide +kernel) rfl, ⟨by decide +kernel, by decide +kernel⟩, (by decide +kernel), zgw (i := 399) (by decide +kernel) rfl⟩, zgw (i := 296) (by decide +kernel) rfl, zgw (i := 297) (by decide +kernel) rfl⟩
theorem lkX5_165 : zLS RX5 165 mX0_isFrost 1 := ⟨⟨zgw (i := 304) (by decide +kernel) rfl, zgw (i := 58) (by decide +kernel) rfl, ⟨by decide +kernel, by decide +kernel⟩, (by decide +kernel), zgw (i := 400) (by decide +kernel) rfl⟩, zgw (i := 303) (by decide +kernel) rfl⟩
theorem lkX5_168 : zLV RX5 168 mX3_openSize 0 := ⟨⟨zgw (i := 404) (by decide +kernel) rfl, zgw (i := 54) (by decide +kernel) rfl, ⟨by decide +kernel, by decide +kernel⟩, (by decide +kernel), zgw (i := 401) (by decide +kernel) rfl⟩, zgw (i := 402) (by decide +kernel) rfl, zgw (i := 403) (by decide +kernel) rfl⟩
theorem lkL_65 : zLV RL 65 mX5_on 3 := ⟨⟨zgw (i := 408) (by decide +kernel) rfl, zgw (i := 53) (by decide +kernel) rfl, ⟨by decide +kernel, by decide +kernel⟩, (by decide +kernel), zgw (i := 405) (by decide +kernel) rfl⟩, zgw (i := 406) (by decide +kernel) rfl, zgw (i := 407) (by decide +kernel) rfl⟩
theorem lkX5_171 : zLV RX5 171 mX5_asItIs 0 := ⟨⟨zgw (i := 412) (by decide +kernel) rfl, zgw (i := 53) (by decide +kernel) rfl, ⟨by decide +kernel, by decide +kernel⟩, (by decide +kernel), zgw (i := 409) (by decide +kernel) rfl⟩, zgw (i := 411) (by decide +kernel) rfl, zgw (i := 5) (by decide +kernel) rfl⟩
theorem lkX5_215 : zLV RX5 215 mX3_become 1 := ⟨⟨zgw (i := 416) (by decide +kernel) rfl, zgw (i := 54) (by decide +kernel) rfl, ⟨by decide +kernel, by decide +kernel⟩, (by decide +kernel), zgw (i := 413) (by decide +kernel) rfl⟩, zgw (i := 414) (by decide +kernel) rfl, zgw (i := 415) (by decide +kernel) rfl⟩
-- no own method: X3 61 ('java/lang/System', 'arraycopy', '(Ljava/lang/Object;ILjava/lang/Object;II)V')
theorem lkL_69 : zLV RL 69 mX5_worse 1 := ⟨⟨zgw (i := 423) (by decide +kernel) rfl, zgw (i := 53) (by decide +kernel) rfl, ⟨by decide +kernel, by decide +kernel⟩, (by decide +kernel), zgw (i := 420) (by decide +kernel) rfl⟩, zgw (i := 421) (by decide +kernel) rfl, zgw (i := 422) (by decide +kernel) rfl⟩
theorem lkL_73 : zLV RL 73 mX5_cost 1 := ⟨⟨zgw (i := 427) (by decide +kernel) rfl, zgw (i := 53) (by decide +kernel) rfl, ⟨by decide +kernel, by decide +kernel⟩, (by decide +kernel), zgw (i := 424) (by decide +kernel) rfl⟩, zgw (i := 425) (by decide +kernel) rfl, zgw (i := 426) (by decide +kernel) rfl⟩
theorem lkL_77 : zLV RL 77 mX5_filled 1 := ⟨⟨zgw (i := 431) (by decide +kernel) rfl, zgw (i := 53) (by decide +kernel) rfl, ⟨by decide +kernel, by decide +kernel⟩, (by decide +kernel), zgw (i := 428) (by decide +kernel) rfl⟩, zgw (i := 429) (by decide +kernel) rfl, zgw (i := 430) (by decide +kernel) rfl⟩
theorem lkX5_175 : zLV RX5 175 mX5_weeksUntil 2 := ⟨⟨zgw (i := 435) (by decide +kernel) rfl, zgw (i := 53) (by decide +kernel) rfl, ⟨by decide +kernel, by decide +kernel⟩, (by decide +kernel), zgw (i := 432) (by decide +kernel) rfl⟩, zgw (i := 434) (by decide +kernel) rfl, zgw (i := 6) (by decide +kernel) rfl⟩
theorem lkX5_253 : zLV RX5 253 mX3_goWeek 0 := ⟨⟨zgw (i := 382) (by decide +kernel) rfl, zgw (i := 54) (by decide +kernel) rfl, ⟨by decide +kernel, by decide +kernel⟩, (by decide +kernel), zgw (i := 436) (by decide +kernel) rfl⟩, zgw (i := 380) (by decide +kernel) rfl, zgw (i := 381) (by decide +kernel) rfl⟩
theorem lkL_81 : zLV RL 81 mX5_breaks 1 := ⟨⟨zgw (i := 440) (by decide +kernel) rfl, zgw (i := 53) (by decide +kernel) rfl, ⟨by decide +kernel, by decide +kernel⟩, (by decide +kernel), zgw (i := 437) (by decide +kernel) rfl⟩, zgw (i := 438) (by decide +kernel) rfl, zgw (i := 439) (by decide +kernel) rfl⟩
theorem lkL_85 : zLV RL 85 mX5_how 1 := ⟨⟨zgw (i := 444) (by decide +kernel) rfl, zgw (i := 53) (by decide +kernel) rfl, ⟨by decide +kernel, by decide +kernel⟩, (by decide +kernel), zgw (i := 441) (by decide +kernel) rfl⟩, zgw (i := 442) (by decide +kernel) rfl, zgw (i := 443) (by decide +kernel) rfl⟩
theorem lkL_89 : zLV RL 89 mX5_ring 1 := ⟨⟨zgw (i := 448) (by decide +kernel) rfl, zgw (i := 53) (by decide +kernel) rfl, ⟨by decide +kernel, by decide +kernel⟩, (by decide +kernel), zgw (i := 445) (by decide +kernel) rfl⟩, zgw (i := 446) (by decide +kernel) rfl, zgw (i := 447) (by decide +kernel) rfl⟩
theorem lkL_93 : zLV RL 93 mX5_men 2 := ⟨⟨zgw (i := 452) (by decide +kernel) rfl, zgw (i := 53) (by decide +kernel) rfl, ⟨by decide +kernel, by decide +kernel⟩, (by decide +kernel), zgw (i := 449) (by decide +kernel) rfl⟩, zgw (i := 450) (by decide +kernel) rfl, zgw (i := 451) (by decide +kernel) rfl⟩
theorem lkL_97 : zLV RL 97 mX5_budget 2 := ⟨⟨zgw (i := 456) (by decide +kernel) rfl, zgw (i := 53) (by decide +kernel) rfl, ⟨by decide +kernel, by decide +kernel⟩, (by decide +kernel), zgw (i := 453) (by decide +kernel) rfl⟩, zgw (i := 454) (by decide +kernel) rfl, zgw (i := 455) (by decide +kernel) rfl⟩
theorem lkX5_188 : zLS RX5 188 mJ9_max_7cf53 2 := ⟨⟨zgw (i := 307) (by decide +kernel) rfl, zgw (i := 59) (by decide +kernel) rfl, ⟨by decide +kernel, by decide +kernel⟩, (by decide +kernel), zgw (i := 457) (by decide +kernel) rfl⟩, zgw (i := 306) (by decide +kernel) rfl⟩
theorem lkL_101 : zLV RL 101 mX5_kind 2 := ⟨⟨zgw (i := 461) (by decide +kernel) rfl, zgw (i := 53) (by decide +kernel) rfl, ⟨by decide +kernel, by decide +kernel⟩, (by decide +kernel), zgw (i := 458) (by decide +kernel) rfl⟩, zgw (i := 459) (by decide +kernel) rfl, zgw (i := 460) (by decide +kernel) rfl⟩
theorem lkL_105 : zLV RL 105 mX5_let 1 := ⟨⟨zgw (i := 465) (by decide +kernel) rfl, zgw (i := 53) (by decide +kernel) rfl, ⟨by decide +kernel, by decide +kernel⟩, (by decide +kernel), zgw (i := 462) (by decide +kernel) rfl⟩, zgw (i := 463) (by decide +kernel) rfl, zgw (i := 464) (by decide +kernel) rfl⟩
theorem lkX5_193 : zLV RX5 193 mX3_letGoAll 1 := ⟨⟨zgw (i := 469) (by decide +kernel) rfl, zgw (i := 54) (by decide +kernel) rfl, ⟨by decide +kernel, by decide +kernel⟩, (by decide +kernel), zgw (i := 466) (by decide +kernel) rfl⟩, zgw (i := 467) (by decide +kernel) rfl, zgw (i := 468) (by decide +kernel) rfl⟩
theorem lkL_109 : zLV RL 109 mX5_worst 1 := ⟨⟨zgw (i := 473) (by decide +kernel) rfl, zgw (i := 53) (by decide +kernel) rfl, ⟨by decide +kernel, by decide +kernel⟩, (by decide +kernel), zgw (i := 470) (by decide +kernel) rfl⟩, zgw (i := 471) (by decide +kernel) rfl, zgw (i := 472) (by decide +kernel) rfl⟩
theorem lkX5_197 : zLV RX5 197 mX3_openSizeOf 1 := ⟨⟨zgw (i := 477) (by decide +kernel) rfl, zgw (i := 54) (by decide +kernel) rfl, ⟨by decide +kernel, by decide +kernel⟩, (by decide +kernel), zgw (i := 474) (by decide +kernel) rfl⟩, zgw (i := 475) (by decide +kernel) rfl, zgw (i := 476) (by decide +kernel) rfl⟩
theorem lkL_113 : zLV RL 113 mX5_feed 2 := ⟨⟨zgw (i := 481) (by decide +kernel) rfl, zgw (i := 53) (by decide +kernel) rfl, ⟨by decide +kernel, by decide +kernel⟩, (by decide +kernel), zgw (i := 478) (by decide +kernel) rfl⟩, zgw (i := 479) (by decide +kernel) rfl, zgw (i := 480) (by decide +kernel) rfl⟩
theorem lkX5_203 : zLV RX5 203 mX2_add 1 := ⟨⟨zgw (i := 485) (by decide +kernel) rfl, zgw (i := 55) (by decide +kernel) rfl, ⟨by decide +kernel, by decide +kernel⟩, (by decide +kernel), zgw (i := 482) (by decide +kernel) rfl⟩, zgw (i := 483) (by decide +kernel) rfl, zgw (i := 484) (by decide +kernel) rfl⟩
theorem lkL_117 : zLV RL 117 mX5_wipe 0 := ⟨⟨zgw (i := 489) (by decide +kernel) rfl, zgw (i := 53) (by decide +kernel) rfl, ⟨by decide +kernel, by decide +kernel⟩, (by decide +kernel), zgw (i := 486) (by decide +kernel) rfl⟩, zgw (i := 487) (by decide +kernel) rfl, zgw (i := 488) (by decide +kernel) rfl⟩
theorem lkX5_206 : zLV RX5 206 mX2_clear 0 := ⟨⟨zgw (i := 493) (by decide +kernel) rfl, zgw (i := 55) (by decide +kernel) rfl, ⟨by decide +kernel, by decide +kernel⟩, (by decide +kernel), zgw (i := 490) (by decide +kernel) rfl⟩, zgw (i := 491) (by decide +kernel) rfl, zgw (i := 492) (by decide +kernel) rfl⟩
theorem lkL_121 : zLV RL 121 mX5_text 0 := ⟨⟨zgw (i := 497) (by decide +kernel) rfl, zgw (i := 53) (by decide +kernel) rfl, ⟨by decide +kernel, by decide +kernel⟩, (by decide +kernel), zgw (i := 494) (by decide +kernel) rfl⟩, zgw (i := 495) (by decide +kernel) rfl, zgw (i := 496) (by decide +kernel) rfl⟩
theorem lkX5_209 : zLS RX5 209 mX4_readAll 2 := ⟨⟨zgw (i := 500) (by decide +kernel) rfl, zgw (i := 61) (by decide +kernel) rfl, ⟨by decide +kernel, by decide +kernel⟩, (by decide +kernel), zgw (i := 498) (by decide +kernel) rfl⟩, zgw (i := 499) (by decide +kernel) rfl⟩
theorem lkX4_9 : zLV RX4 9 mX2_begin 0 := ⟨⟨zgw (i := 504) (by decide +kernel) rfl, zgw (i := 55) (by decide +kernel) rfl, ⟨by decide +kernel, by decide +kernel⟩, (by decide +kernel), zgw (i := 501) (by decide +kernel) rfl⟩, zgw (i := 502) (by decide +kernel) rfl, zgw (i := 503) (by decide +kernel) rfl⟩
theorem lkX2_31 : zLV RX2 31 mX2_advance 0 := ⟨⟨zgw (i := 508) (by decide +kernel) rfl, zgw (i := 55) (by decide +kernel) rfl, ⟨by decide +kernel, by decide +kernel⟩, (by decide +kernel), zgw (i := 505) (by decide +kernel) rfl⟩, zgw (i := 506) (by decide +kernel) rfl, zgw (i := 507) (by decide +kernel) rfl⟩
theorem lkX2_34 : zLV RX2 34 mX2_endOfRun 3 := ⟨⟨zgw (i := 512) (by decide +kernel) rfl, zgw (i := 55) (by decide +kernel) rfl, ⟨by decide +kernel, by decide +kernel⟩, (by decide +kernel), zgw (i := 509) (by decide +kernel) rfl⟩, zgw (i := 511) (by decide +kernel) rfl, zgw (i := 7) (by decide +kernel) rfl⟩
theorem lkX2_38 : zLV RX2 38 mX2_valueOfToken 0 := ⟨⟨zgw (i := 516) (by decide +kernel) rfl, zgw (i := 55) (by decide +kernel) rfl, ⟨by decide +kernel, by decide +kernel⟩, (by decide +kernel), zgw (i := 513) (by decide +kernel) rfl⟩, zgw (i := 515) (by decide +kernel) rfl, zgw (i := 8) (by decide +kernel) rfl⟩
theorem lkX4_14 : zLS RX4 14 mX4_readItem 2 := ⟨⟨zgw (i := 519) (by decide +kernel) rfl, zgw (i := 61) (by decide +kernel) rfl, ⟨by decide +kernel, by decide +kernel⟩, (by decide +kernel), zgw (i := 517) (by decide +kernel) rfl⟩, zgw (i := 518) (by decide +kernel) rfl⟩
theorem lkX4_30 : zLS RX4 30 mX0_nameOf 1 := ⟨⟨zgw (i := 522) (by decide +kernel) rfl, zgw (i := 58) (by decide +kernel) rfl, ⟨by decide +kernel, by decide +kernel⟩, (by decide +kernel), zgw (i := 520) (by decide +kernel) rfl⟩, zgw (i := 521) (by decide +kernel) rfl⟩
theorem lkX4_36 : zLV RX4 36 mX2_isAt 1 := ⟨⟨zgw (i := 532) (by decide +kernel) rfl, zgw (i := 55) (by decide +kernel) rfl, ⟨by decide +kernel, by decide +kernel⟩, (by decide +kernel), zgw (i := 529) (by decide +kernel) rfl⟩, zgw (i := 530) (by decide +kernel) rfl, zgw (i := 531) (by decide +kernel) rfl⟩
theorem lkX2_42 : zLV RX2 42 mJ0_length_8abf5 0 := ⟨⟨zgw (i := 536) (by decide +kernel) rfl, zgw (i := 62) (by decide +kernel) rfl, ⟨by decide +kernel, by decide +kernel⟩, (by decide +kernel), zgw (i := 533) (by decide +kernel) rfl⟩, zgw (i := 534) (by decide +kernel) rfl, zgw (i := 535) (by decide +kernel) rfl⟩
theorem lkJ0_335 : zLV RJ0 335 mJ0_coder_7d493 0 := ⟨⟨zgw (i := 540) (by decide +kernel) rfl, zgw (i := 62) (by decide +kernel) rfl, ⟨by decide +kernel, by decide +kernel⟩, (by decide +kernel), zgw (i := 537) (by decide +kernel) rfl⟩, zgw (i := 538) (by decide +kernel) rfl, zgw (i := 539) (by decide +kernel) rfl⟩
theorem fkJ0_38 : Cond.fieldLink RJ0 38 "java/lang/String" "COMPACT_STRINGS" "Z" ∈ zGW := zgw (i := 541) (by decide +kernel) rfl
theorem lkX2_46 : zLV RX2 46 mJ0_charAt_5068e 1 := ⟨⟨zgw (i := 546) (by decide +kernel) rfl, zgw (i := 62) (by decide +kernel) rfl, ⟨by decide +kernel, by decide +kernel⟩, (by decide +kernel), zgw (i := 543) (by decide +kernel) rfl⟩, zgw (i := 544) (by decide +kernel) rfl, zgw (i := 545) (by decide +kernel) rfl⟩
theorem lkJ0_492 : zLV RJ0 492 mJ0_isLatin1_aae02 0 := ⟨⟨zgw (i := 550) (by decide +kernel) rfl, zgw (i := 62) (by decide +kernel) rfl, ⟨by decide +kernel, by decide +kernel⟩, (by decide +kernel), zgw (i := 547) (by decide +kernel) rfl⟩, zgw (i := 548) (by decide +kernel) rfl, zgw (i := 549) (by decide +kernel) rfl⟩
theorem lkJ0_495 : zLS RJ0 495 mJ1_charAt_3b067 2 := ⟨⟨zgw (i := 553) (by decide +kernel) rfl, zgw (i := 63) (by decide +kernel) rfl, ⟨by decide +kernel, by decide +kernel⟩, (by decide +kernel), zgw (i := 551) (by decide +kernel) rfl⟩, zgw (i := 552) (by decide +kernel) rfl⟩
theorem lkJ1_9 : zLS RJ1 9 mJ0_checkIndex_df160 2 := ⟨⟨zgw (i := 556) (by decide +kernel) rfl, zgw (i := 62) (by decide +kernel) rfl, ⟨by decide +kernel, by decide +kernel⟩, (by decide +kernel), zgw (i := 554) (by decide +kernel) rfl⟩, zgw (i := 555) (by decide +kernel) rfl⟩
theorem fkJ0_1053 : Cond.fieldLink RJ0 1053 "jdk/internal/util/Preconditions" "SIOOBE_FORMATTER" "Ljava/util/function/BiFunction;" ∈ zGW := zgw (i := 557) (by decide +kernel) rfl
theorem lkJ0_1059 : zLS RJ0 1059 mJ3_checkIndex_8e157 3 := ⟨⟨zgw (i := 561) (by decide +kernel) rfl, zgw (i := 64) (by decide +kernel) rfl, ⟨by decide +kernel, by decide +kernel⟩, (by decide +kernel), zgw (i := 559) (by decide +kernel) rfl⟩, zgw (i := 560) (by decide +kernel) rfl⟩
theorem lkJ0_498 : zLS RJ0 498 mJ2_charAt_3b067 2 := ⟨⟨zgw (i := 564) (by decide +kernel) rfl, zgw (i := 65) (by decide +kernel) rfl, ⟨by decide +kernel, by decide +kernel⟩, (by decide +kernel), zgw (i := 562) (by decide +kernel) rfl⟩, zgw (i := 563) (by decide +kernel) rfl⟩
theorem lkJ2_67 : zLS RJ2 67 mJ2_checkIndex_2214a 2 := ⟨⟨zgw (i := 567) (by decide +kernel) rfl, zgw (i := 65) (by decide +kernel) rfl, ⟨by decide +kernel, by decide +kernel⟩, (by decide +kernel), zgw (i := 565) (by decide +kernel) rfl⟩, zgw (i := 566) (by decide +kernel) rfl⟩
theorem lkJ2_48 : zLS RJ2 48 mJ2_length_9d52b 1 := ⟨⟨zgw (i := 570) (by decide +kernel) rfl, zgw (i := 65) (by decide +kernel) rfl, ⟨by decide +kernel, by decide +kernel⟩, (by decide +kernel), zgw (i := 568) (by decide +kernel) rfl⟩, zgw (i := 569) (by decide +kernel) rfl⟩
theorem lkJ2_414 : zLS RJ2 414 mJ0_checkIndex_df160 2 := ⟨⟨zgw (i := 556) (by decide +kernel) rfl, zgw (i := 62) (by decide +kernel) rfl, ⟨by decide +kernel, by decide +kernel⟩, (by decide +kernel), zgw (i := 571) (by decide +kernel) rfl⟩, zgw (i := 555) (by decide +kernel) rfl⟩
theorem lkJ2_71 : zLS RJ2 71 mJ2_getChar_3b067 2 := ⟨⟨zgw (i := 574) (by decide +kernel) rfl, zgw (i := 65) (by decide +kernel) rfl, ⟨by decide +kernel, by decide +kernel⟩, (by decide +kernel), zgw (i := 572) (by decide +kernel) rfl⟩, zgw (i := 573) (by decide +kernel) rfl⟩
theorem fkJ2_44 : Cond.fieldLink RJ2 44 "java/lang/StringUTF16" "$assertionsDisabled" "Z" ∈ zGW := zgw (i := 575) (by decide +kernel) rfl
theorem fkJ2_59 : Cond.fieldLink RJ2 59 "java/lang/StringUTF16" "HI_BYTE_SHIFT" "I" ∈ zGW := zgw (i := 577) (by decide +kernel) rfl
theorem fkJ2_63 : Cond.fieldLink RJ2 63 "java/lang/StringUTF16" "LO_BYTE_SHIFT" "I" ∈ zGW := zgw (i := 579) (by decide +kernel) rfl
theorem lkX4_40 : zLS RX4 40 mX4_readHole 3 := ⟨⟨zgw (i := 583) (by decide +kernel) rfl, zgw (i := 61) (by decide +kernel) rfl, ⟨by decide +kernel, by decide +kernel⟩, (by decide +kernel), zgw (i := 581) (by decide +kernel) rfl⟩, zgw (i := 582) (by decide +kernel) rfl⟩
theorem lkX4_66 : zLV RX4 66 mX3_isFull 0 := ⟨⟨zgw (i := 276) (by decide +kernel) rfl, zgw (i := 54) (by decide +kernel) rfl, ⟨by decide +kernel, by decide +kernel⟩, (by decide +kernel), zgw (i := 584) (by decide +kernel) rfl⟩, zgw (i := 274) (by decide +kernel) rfl, zgw (i := 275) (by decide +kernel) rfl⟩
theorem lkX4_24 : zLV RX4 24 mX2_advance 0 := ⟨⟨zgw (i := 508) (by decide +kernel) rfl, zgw (i := 55) (by decide +kernel) rfl, ⟨by decide +kernel, by decide +kernel⟩, (by decide +kernel), zgw (i := 585) (by decide +kernel) rfl⟩, zgw (i := 506) (by decide +kernel) rfl, zgw (i := 507) (by decide +kernel) rfl⟩
theorem lkX4_46 : zLV RX4 46 mX2_pass 1 := ⟨⟨zgw (i := 590) (by decide +kernel) rfl, zgw (i := 55) (by decide +kernel) rfl, ⟨by decide +kernel, by decide +kernel⟩, (by decide +kernel), zgw (i := 587) (by decide +kernel) rfl⟩, zgw (i := 588) (by decide +kernel) rfl, zgw (i := 589) (by decide +kernel) rfl⟩
theorem lkX2_50 : zLV RX2 50 mX2_isAt 1 := ⟨⟨zgw (i := 532) (by decide +kernel) rfl, zgw (i := 55) (by decide +kernel) rfl, ⟨by decide +kernel, by decide +kernel⟩, (by decide +kernel), zgw (i := 591) (by decide +kernel) rfl⟩, zgw (i := 530) (by decide +kernel) rfl, zgw (i := 531) (by decide +kernel) rfl⟩
theorem lkX4_54 : zLV RX4 54 mX2_passNumber 1 := ⟨⟨zgw (i := 595) (by decide +kernel) rfl, zgw (i := 55) (by decide +kernel) rfl, ⟨by decide +kernel, by decide +kernel⟩, (by decide +kernel), zgw (i := 592) (by decide +kernel) rfl⟩, zgw (i := 593) (by decide +kernel) rfl, zgw (i := 594) (by decide +kernel) rfl⟩
theorem lkX4_74 : zLV RX4 74 mX3_addHole 2 := ⟨⟨zgw (i := 281) (by decide +kernel) rfl, zgw (i := 54) (by decide +kernel) rfl, ⟨by decide +kernel, by decide +kernel⟩, (by decide +kernel), zgw (i := 597) (by decide +kernel) rfl⟩, zgw (i := 279) (by decide +kernel) rfl, zgw (i := 280) (by decide +kernel) rfl⟩
theorem lkX4_49 : zLS RX4 49 mX4_readStreet 2 := ⟨⟨zgw (i := 604) (by decide +kernel) rfl, zgw (i := 61) (by decide +kernel) rfl, ⟨by decide +kernel, by decide +kernel⟩, (by decide +kernel), zgw (i := 602) (by decide +kernel) rfl⟩, zgw (i := 603) (by decide +kernel) rfl⟩
theorem lkX4_94 : zLSN RX4 94 "HoleFills" mX5_isStreet 1 := ⟨⟨zgw (i := 248) (by decide +kernel) rfl, zgw (i := 53) (by decide +kernel) rfl, ⟨by decide +kernel, by decide +kernel⟩, (by decide +kernel), zgw (i := 248) (by decide +kernel) rfl⟩, zgw (i := 247) (by decide +kernel) rfl⟩
theorem lkL_125 : zLV RL 125 mX5_sheet 3 := ⟨⟨zgw (i := 614) (by decide +kernel) rfl, zgw (i := 53) (by decide +kernel) rfl, ⟨by decide +kernel, by decide +kernel⟩, (by decide +kernel), zgw (i := 611) (by decide +kernel) rfl⟩, zgw (i := 612) (by decide +kernel) rfl, zgw (i := 613) (by decide +kernel) rfl⟩
theorem lkX5_219 : zLV RX5 219 mX5_sheetAt 1 := ⟨⟨zgw (i := 618) (by decide +kernel) rfl, zgw (i := 53) (by decide +kernel) rfl, ⟨by decide +kernel, by decide +kernel⟩, (by decide +kernel), zgw (i := 615) (by decide +kernel) rfl⟩, zgw (i := 617) (by decide +kernel) rfl, zgw (i := 9) (by decide +kernel) rfl⟩
theorem ckX5_223 : Cond.constant RX5 223 (-1000000007) ∈ zGW := zgw (i := 619) (by decide +kernel) rfl
theorem lkX5_224 : zLV RX5 224 mX1_begin 2 := ⟨⟨zgw (i := 623) (by decide +kernel) rfl, zgw (i := 56) (by decide +kernel) rfl, ⟨by decide +kernel, by decide +kernel⟩, (by decide +kernel), zgw (i := 620) (by decide +kernel) rfl⟩, zgw (i := 621) (by decide +kernel) rfl, zgw (i := 622) (by decide +kernel) rfl⟩
theorem lkL_131 : zLV RL 131 mX5_write 3 := ⟨⟨zgw (i := 627) (by decide +kernel) rfl, zgw (i := 53) (by decide +kernel) rfl, ⟨by decide +kernel, by decide +kernel⟩, (by decide +kernel), zgw (i := 624) (by decide +kernel) rfl⟩, zgw (i := 625) (by decide +kernel) rfl, zgw (i := 626) (by decide +kernel) rfl⟩
theorem lkX5_228 : zLV RX5 228 mX1_isMissing 0 := ⟨⟨zgw (i := 631) (by decide +kernel) rfl, zgw (i := 56) (by decide +kernel) rfl, ⟨by decide +kernel, by decide +kernel⟩, (by decide +kernel), zgw (i := 628) (by decide +kernel) rfl⟩, zgw (i := 629) (by decide +kernel) rfl, zgw (i := 630) (by decide +kernel) rfl⟩
theorem ckX5_231 : Cond.constant RX5 231 (-1000000006) ∈ zGW := zgw (i := 632) (by decide +kernel) rfl
theorem lkX5_236 : zLV RX5 236 mX1_put 2 := ⟨⟨zgw (i := 636) (by decide +kernel) rfl, zgw (i := 56) (by decide +kernel) rfl, ⟨by decide +kernel, by decide +kernel⟩, (by decide +kernel), zgw (i := 633) (by decide +kernel) rfl⟩, zgw (i := 634) (by decide +kernel) rfl, zgw (i := 635) (by decide +kernel) rfl⟩
theorem lkL_136 : zLV RL 136 mX5_copy 5 := ⟨⟨zgw (i := 640) (by decide +kernel) rfl, zgw (i := 53) (by decide +kernel) rfl, ⟨by decide +kernel, by decide +kernel⟩, (by decide +kernel), zgw (i := 637) (by decide +kernel) rfl⟩, zgw (i := 638) (by decide +kernel) rfl, zgw (i := 639) (by decide +kernel) rfl⟩
theorem lkX5_242 : zLV RX5 242 mX1_hasSpan 2 := ⟨⟨zgw (i := 644) (by decide +kernel) rfl, zgw (i := 56) (by decide +kernel) rfl, ⟨by decide +kernel, by decide +kernel⟩, (by decide +kernel), zgw (i := 641) (by decide +kernel) rfl⟩, zgw (i := 642) (by decide +kernel) rfl, zgw (i := 643) (by decide +kernel) rfl⟩
-- no own method: X5 245 ('java/lang/System', 'arraycopy', '(Ljava/lang/Object;ILjava/lang/Object;II)V')
theorem lkL_141 : zLV RL 141 mX5_lays 1 := ⟨⟨zgw (i := 649) (by decide +kernel) rfl, zgw (i := 53) (by decide +kernel) rfl, ⟨by decide +kernel, by decide +kernel⟩, (by decide +kernel), zgw (i := 646) (by decide +kernel) rfl⟩, zgw (i := 647) (by decide +kernel) rfl, zgw (i := 648) (by decide +kernel) rfl⟩
theorem ckX5_251 : Cond.constantLong RX5 251 (99) ∈ zGW := zgw (i := 650) (by decide +kernel) rfl
theorem lkL_145 : zLV RL 145 mX5_book 2 := ⟨⟨zgw (i := 654) (by decide +kernel) rfl, zgw (i := 53) (by decide +kernel) rfl, ⟨by decide +kernel, by decide +kernel⟩, (by decide +kernel), zgw (i := 651) (by decide +kernel) rfl⟩, zgw (i := 652) (by decide +kernel) rfl, zgw (i := 653) (by decide +kernel) rfl⟩
theorem lkL_149 : zLV RL 149 mX5_read 2 := ⟨⟨zgw (i := 658) (by decide +kernel) rfl, zgw (i := 53) (by decide +kernel) rfl, ⟨by decide +kernel, by decide +kernel⟩, (by decide +kernel), zgw (i := 655) (by decide +kernel) rfl⟩, zgw (i := 656) (by decide +kernel) rfl, zgw (i := 657) (by decide +kernel) rfl⟩
theorem lkX5_259 : zLS RX5 259 mX5_growsAs 3 := ⟨⟨zgw (i := 661) (by decide +kernel) rfl, zgw (i := 53) (by decide +kernel) rfl, ⟨by decide +kernel, by decide +kernel⟩, (by decide +kernel), zgw (i := 659) (by decide +kernel) rfl⟩, zgw (i := 660) (by decide +kernel) rfl⟩
theorem lkL_153 : zLV RL 153 mX5_image 0 := ⟨⟨zgw (i := 665) (by decide +kernel) rfl, zgw (i := 53) (by decide +kernel) rfl, ⟨by decide +kernel, by decide +kernel⟩, (by decide +kernel), zgw (i := 662) (by decide +kernel) rfl⟩, zgw (i := 663) (by decide +kernel) rfl, zgw (i := 664) (by decide +kernel) rfl⟩
theorem lkL_157 : zLV RL 157 mX5_undo 0 := ⟨⟨zgw (i := 669) (by decide +kernel) rfl, zgw (i := 53) (by decide +kernel) rfl, ⟨by decide +kernel, by decide +kernel⟩, (by decide +kernel), zgw (i := 666) (by decide +kernel) rfl⟩, zgw (i := 667) (by decide +kernel) rfl, zgw (i := 668) (by decide +kernel) rfl⟩
theorem lkL_161 : zLV RL 161 mX5_tear 0 := ⟨⟨zgw (i := 673) (by decide +kernel) rfl, zgw (i := 53) (by decide +kernel) rfl, ⟨by decide +kernel, by decide +kernel⟩, (by decide +kernel), zgw (i := 670) (by decide +kernel) rfl⟩, zgw (i := 671) (by decide +kernel) rfl, zgw (i := 672) (by decide +kernel) rfl⟩
theorem lkL_165 : zLV RL 165 mX5_count 1 := ⟨⟨zgw (i := 677) (by decide +kernel) rfl, zgw (i := 53) (by decide +kernel) rfl, ⟨by decide +kernel, by decide +kernel⟩, (by decide +kernel), zgw (i := 674) (by decide +kernel) rfl⟩, zgw (i := 675) (by decide +kernel) rfl, zgw (i := 676) (by decide +kernel) rfl⟩
theorem lkX5_263 : zLS RX5 263 mJ6_bitCount_0f7a4 1 := ⟨⟨zgw (i := 680) (by decide +kernel) rfl, zgw (i := 66) (by decide +kernel) rfl, ⟨by decide +kernel, by decide +kernel⟩, (by decide +kernel), zgw (i := 678) (by decide +kernel) rfl⟩, zgw (i := 679) (by decide +kernel) rfl⟩
theorem ckJ6_265 : Cond.constant RJ6 265 (1431655765) ∈ zGW := zgw (i := 681) (by decide +kernel) rfl
theorem ckJ6_266 : Cond.constant RJ6 266 (858993459) ∈ zGW := zgw (i := 682) (by decide +kernel) rfl
theorem ckJ6_267 : Cond.constant RJ6 267 (252645135) ∈ zGW := zgw (i := 683) (by decide +kernel) rfl
theorem lkX5_268 : zLV RX5 268 mX3_holesRungFor 0 := ⟨⟨zgw (i := 687) (by decide +kernel) rfl, zgw (i := 54) (by decide +kernel) rfl, ⟨by decide +kernel, by decide +kernel⟩, (by decide +kernel), zgw (i := 684) (by decide +kernel) rfl⟩, zgw (i := 685) (by decide +kernel) rfl, zgw (i := 686) (by decide +kernel) rfl⟩
theorem lkL_169 : zLV RL 169 mX5_status 1 := ⟨⟨zgw (i := 691) (by decide +kernel) rfl, zgw (i := 53) (by decide +kernel) rfl, ⟨by decide +kernel, by decide +kernel⟩, (by decide +kernel), zgw (i := 688) (by decide +kernel) rfl⟩, zgw (i := 689) (by decide +kernel) rfl, zgw (i := 690) (by decide +kernel) rfl⟩
theorem lkL_12 : zLI RL 12 mX6_init 0 := ⟨⟨zgw (i := 696) (by decide +kernel) rfl, zgw (i := 57) (by decide +kernel) rfl, ⟨by decide +kernel, by decide +kernel⟩, (by decide +kernel), zgw (i := 694) (by decide +kernel) rfl⟩, zgw (i := 695) (by decide +kernel) rfl⟩
-- no own method: X6 1 ('java/lang/Object', '<init>', '()V')
theorem lkX6_41 : zLS RX6 41 mX6_roadOf 2 := ⟨⟨zgw (i := 700) (by decide +kernel) rfl, zgw (i := 57) (by decide +kernel) rfl, ⟨by decide +kernel, by decide +kernel⟩, (by decide +kernel), zgw (i := 698) (by decide +kernel) rfl⟩, zgw (i := 699) (by decide +kernel) rfl⟩
theorem fkX6_7 : Cond.fieldLink RX6 7 "HoleFillsModel" "s" "[I" ∈ zGW := zgw (i := 701) (by decide +kernel) rfl
theorem fkX6_13 : Cond.fieldLink RX6 13 "HoleFillsModel" "keptS" "[I" ∈ zGW := zgw (i := 702) (by decide +kernel) rfl
theorem fkX6_16 : Cond.fieldLink RX6 16 "HoleFillsModel" "other" "[I" ∈ zGW := zgw (i := 703) (by decide +kernel) rfl
theorem fkX6_19 : Cond.fieldLink RX6 19 "HoleFillsModel" "aside" "[I" ∈ zGW := zgw (i := 704) (by decide +kernel) rfl
theorem fkX6_22 : Cond.fieldLink RX6 22 "HoleFillsModel" "statuses" "[I" ∈ zGW := zgw (i := 705) (by decide +kernel) rfl
theorem fkX6_311 : Cond.fieldLink RX6 311 "HoleFillsModel" "isKept" "Z" ∈ zGW := zgw (i := 706) (by decide +kernel) rfl
theorem fkX6_25 : Cond.fieldLink RX6 25 "HoleFillsModel" "tape" "[I" ∈ zGW := zgw (i := 707) (by decide +kernel) rfl
theorem fkX6_183 : Cond.fieldLink RX6 183 "HoleFillsModel" "taped" "I" ∈ zGW := zgw (i := 708) (by decide +kernel) rfl
theorem fkX6_198 : Cond.fieldLink RX6 198 "HoleFillsModel" "from" "I" ∈ zGW := zgw (i := 709) (by decide +kernel) rfl
theorem fkX6_195 : Cond.fieldLink RX6 195 "HoleFillsModel" "to" "I" ∈ zGW := zgw (i := 710) (by decide +kernel) rfl
theorem fkX6_221 : Cond.fieldLink RX6 221 "HoleFillsModel" "value" "I" ∈ zGW := zgw (i := 711) (by decide +kernel) rfl
theorem fkX6_210 : Cond.fieldLink RX6 210 "HoleFillsModel" "isWrong" "Z" ∈ zGW := zgw (i := 712) (by decide +kernel) rfl
theorem fkX6_28 : Cond.fieldLink RX6 28 "HoleFillsModel" "bitsOf" "[I" ∈ zGW := zgw (i := 713) (by decide +kernel) rfl
theorem fkX6_31 : Cond.fieldLink RX6 31 "HoleFillsModel" "sizeOf" "[I" ∈ zGW := zgw (i := 714) (by decide +kernel) rfl
theorem fkX6_34 : Cond.fieldLink RX6 34 "HoleFillsModel" "numbers" "[J" ∈ zGW := zgw (i := 715) (by decide +kernel) rfl
theorem fkX6_38 : Cond.fieldLink RX6 38 "HoleFillsModel" "moved" "[J" ∈ zGW := zgw (i := 716) (by decide +kernel) rfl
theorem lkL_17 : zLV RL 17 mX6_town 2 := ⟨⟨zgw (i := 753) (by decide +kernel) rfl, zgw (i := 57) (by decide +kernel) rfl, ⟨by decide +kernel, by decide +kernel⟩, (by decide +kernel), zgw (i := 750) (by decide +kernel) rfl⟩, zgw (i := 751) (by decide +kernel) rfl, zgw (i := 752) (by decide +kernel) rfl⟩
theorem ckX6_55 : Cond.constantLong RX6 55 (3) ∈ zGW := zgw (i := 754) (by decide +kernel) rfl
theorem lkX6_48 : zLS RX6 48 mX6_in 3 := ⟨⟨zgw (i := 757) (by decide +kernel) rfl, zgw (i := 57) (by decide +kernel) rfl, ⟨by decide +kernel, by decide +kernel⟩, (by decide +kernel), zgw (i := 755) (by decide +kernel) rfl⟩, zgw (i := 756) (by decide +kernel) rfl⟩
theorem ckX6_57 : Cond.constantLong RX6 57 (99999) ∈ zGW := zgw (i := 758) (by decide +kernel) rfl
theorem ckX6_59 : Cond.constantLong RX6 59 (6) ∈ zGW := zgw (i := 759) (by decide +kernel) rfl
theorem lkX6_61 : zLV RX6 61 mX6_becomes 2 := ⟨⟨zgw (i := 763) (by decide +kernel) rfl, zgw (i := 57) (by decide +kernel) rfl, ⟨by decide +kernel, by decide +kernel⟩, (by decide +kernel), zgw (i := 760) (by decide +kernel) rfl⟩, zgw (i := 762) (by decide +kernel) rfl, zgw (i := 10) (by decide +kernel) rfl⟩
theorem ckX6_45 : Cond.constant RX6 45 (-1000000001) ∈ zGW := zgw (i := 764) (by decide +kernel) rfl
theorem lkX6_64 : zLV RX6 64 mX6_finds 1 := ⟨⟨zgw (i := 768) (by decide +kernel) rfl, zgw (i := 57) (by decide +kernel) rfl, ⟨by decide +kernel, by decide +kernel⟩, (by decide +kernel), zgw (i := 765) (by decide +kernel) rfl⟩, zgw (i := 767) (by decide +kernel) rfl, zgw (i := 11) (by decide +kernel) rfl⟩
theorem lkL_22 : zLV RL 22 mX6_street 3 := ⟨⟨zgw (i := 772) (by decide +kernel) rfl, zgw (i := 57) (by decide +kernel) rfl, ⟨by decide +kernel, by decide +kernel⟩, (by decide +kernel), zgw (i := 769) (by decide +kernel) rfl⟩, zgw (i := 770) (by decide +kernel) rfl, zgw (i := 771) (by decide +kernel) rfl⟩
theorem ckX6_68 : Cond.constantLong RX6 68 (99) ∈ zGW := zgw (i := 773) (by decide +kernel) rfl
theorem lkX6_70 : zLS RX6 70 mX6_isStreet 1 := ⟨⟨zgw (i := 776) (by decide +kernel) rfl, zgw (i := 57) (by decide +kernel) rfl, ⟨by decide +kernel, by decide +kernel⟩, (by decide +kernel), zgw (i := 774) (by decide +kernel) rfl⟩, zgw (i := 775) (by decide +kernel) rfl⟩
theorem ckX6_46 : Cond.constantLong RX6 46 (5) ∈ zGW := zgw (i := 777) (by decide +kernel) rfl
theorem lkL_26 : zLV RL 26 mX6_streetOf 2 := ⟨⟨zgw (i := 781) (by decide +kernel) rfl, zgw (i := 57) (by decide +kernel) rfl, ⟨by decide +kernel, by decide +kernel⟩, (by decide +kernel), zgw (i := 778) (by decide +kernel) rfl⟩, zgw (i := 779) (by decide +kernel) rfl, zgw (i := 780) (by decide +kernel) rfl⟩
theorem lkX6_77 : zLV RX6 77 mX6_thoseAs 2 := ⟨⟨zgw (i := 785) (by decide +kernel) rfl, zgw (i := 57) (by decide +kernel) rfl, ⟨by decide +kernel, by decide +kernel⟩, (by decide +kernel), zgw (i := 782) (by decide +kernel) rfl⟩, zgw (i := 784) (by decide +kernel) rfl, zgw (i := 12) (by decide +kernel) rfl⟩
theorem lkX6_74 : zLV RX6 74 mX6_its 2 := ⟨⟨zgw (i := 789) (by decide +kernel) rfl, zgw (i := 57) (by decide +kernel) rfl, ⟨by decide +kernel, by decide +kernel⟩, (by decide +kernel), zgw (i := 786) (by decide +kernel) rfl⟩, zgw (i := 788) (by decide +kernel) rfl, zgw (i := 13) (by decide +kernel) rfl⟩
theorem lkX6_52 : zLS RX6 52 mX6_spotOf 2 := ⟨⟨zgw (i := 792) (by decide +kernel) rfl, zgw (i := 57) (by decide +kernel) rfl, ⟨by decide +kernel, by decide +kernel⟩, (by decide +kernel), zgw (i := 790) (by decide +kernel) rfl⟩, zgw (i := 791) (by decide +kernel) rfl⟩
theorem lkL_30 : zLV RL 30 mX6_hole 2 := ⟨⟨zgw (i := 796) (by decide +kernel) rfl, zgw (i := 57) (by decide +kernel) rfl, ⟨by decide +kernel, by decide +kernel⟩, (by decide +kernel), zgw (i := 793) (by decide +kernel) rfl⟩, zgw (i := 794) (by decide +kernel) rfl, zgw (i := 795) (by decide +kernel) rfl⟩
theorem lkX6_80 : zLS RX6 80 mX6_isKind 1 := ⟨⟨zgw (i := 799) (by decide +kernel) rfl, zgw (i := 57) (by decide +kernel) rfl, ⟨by decide +kernel, by decide +kernel⟩, (by decide +kernel), zgw (i := 797) (by decide +kernel) rfl⟩, zgw (i := 798) (by decide +kernel) rfl⟩
theorem ckX6_83 : Cond.constant RX6 83 (-1000000002) ∈ zGW := zgw (i := 800) (by decide +kernel) rfl
theorem lkX6_84 : zLV RX6 84 mX6_adds 2 := ⟨⟨zgw (i := 804) (by decide +kernel) rfl, zgw (i := 57) (by decide +kernel) rfl, ⟨by decide +kernel, by decide +kernel⟩, (by decide +kernel), zgw (i := 801) (by decide +kernel) rfl⟩, zgw (i := 803) (by decide +kernel) rfl, zgw (i := 14) (by decide +kernel) rfl⟩
theorem lkL_34 : zLV RL 34 mX6_of 2 := ⟨⟨zgw (i := 808) (by decide +kernel) rfl, zgw (i := 57) (by decide +kernel) rfl, ⟨by decide +kernel, by decide +kernel⟩, (by decide +kernel), zgw (i := 805) (by decide +kernel) rfl⟩, zgw (i := 806) (by decide +kernel) rfl, zgw (i := 807) (by decide +kernel) rfl⟩
theorem lkX6_98 : zLV RX6 98 mX6_isHole 1 := ⟨⟨zgw (i := 812) (by decide +kernel) rfl, zgw (i := 57) (by decide +kernel) rfl, ⟨by decide +kernel, by decide +kernel⟩, (by decide +kernel), zgw (i := 809) (by decide +kernel) rfl⟩, zgw (i := 811) (by decide +kernel) rfl, zgw (i := 15) (by decide +kernel) rfl⟩
theorem ckX6_101 : Cond.constantLong RX6 101 (9) ∈ zGW := zgw (i := 813) (by decide +kernel) rfl
theorem lkX6_103 : zLV RX6 103 mX6_growsOf 1 := ⟨⟨zgw (i := 817) (by decide +kernel) rfl, zgw (i := 57) (by decide +kernel) rfl, ⟨by decide +kernel, by decide +kernel⟩, (by decide +kernel), zgw (i := 814) (by decide +kernel) rfl⟩, zgw (i := 816) (by decide +kernel) rfl, zgw (i := 16) (by decide +kernel) rfl⟩
theorem lkX6_91 : zLV RX6 91 mX6_isFrost 0 := ⟨⟨zgw (i := 821) (by decide +kernel) rfl, zgw (i := 57) (by decide +kernel) rfl, ⟨by decide +kernel, by decide +kernel⟩, (by decide +kernel), zgw (i := 818) (by decide +kernel) rfl⟩, zgw (i := 820) (by decide +kernel) rfl, zgw (i := 17) (by decide +kernel) rfl⟩
theorem lkX6_87 : zLV RX6 87 mX6_weekOfYear 0 := ⟨⟨zgw (i := 825) (by decide +kernel) rfl, zgw (i := 57) (by decide +kernel) rfl, ⟨by decide +kernel, by decide +kernel⟩, (by decide +kernel), zgw (i := 822) (by decide +kernel) rfl⟩, zgw (i := 824) (by decide +kernel) rfl, zgw (i := 18) (by decide +kernel) rfl⟩
theorem lkX6_95 : zLV RX6 95 mX6_costsOf 1 := ⟨⟨zgw (i := 829) (by decide +kernel) rfl, zgw (i := 57) (by decide +kernel) rfl, ⟨by decide +kernel, by decide +kernel⟩, (by decide +kernel), zgw (i := 826) (by decide +kernel) rfl⟩, zgw (i := 828) (by decide +kernel) rfl, zgw (i := 19) (by decide +kernel) rfl⟩
theorem lkX6_106 : zLV RX6 106 mX6_holdsOf 2 := ⟨⟨zgw (i := 833) (by decide +kernel) rfl, zgw (i := 57) (by decide +kernel) rfl, ⟨by decide +kernel, by decide +kernel⟩, (by decide +kernel), zgw (i := 830) (by decide +kernel) rfl⟩, zgw (i := 832) (by decide +kernel) rfl, zgw (i := 20) (by decide +kernel) rfl⟩
theorem lkL_38 : zLV RL 38 mX6_set 3 := ⟨⟨zgw (i := 837) (by decide +kernel) rfl, zgw (i := 57) (by decide +kernel) rfl, ⟨by decide +kernel, by decide +kernel⟩, (by decide +kernel), zgw (i := 834) (by decide +kernel) rfl⟩, zgw (i := 835) (by decide +kernel) rfl, zgw (i := 836) (by decide +kernel) rfl⟩
theorem lkX6_114 : zLS RX6 114 mX6_isPart 2 := ⟨⟨zgw (i := 840) (by decide +kernel) rfl, zgw (i := 57) (by decide +kernel) rfl, ⟨by decide +kernel, by decide +kernel⟩, (by decide +kernel), zgw (i := 838) (by decide +kernel) rfl⟩, zgw (i := 839) (by decide +kernel) rfl⟩
theorem ckX6_110 : Cond.constantLong RX6 110 (2) ∈ zGW := zgw (i := 841) (by decide +kernel) rfl
theorem ckX6_112 : Cond.constantLong RX6 112 (999) ∈ zGW := zgw (i := 842) (by decide +kernel) rfl
theorem lkL_42 : zLV RL 42 mX6_turn 2 := ⟨⟨zgw (i := 846) (by decide +kernel) rfl, zgw (i := 57) (by decide +kernel) rfl, ⟨by decide +kernel, by decide +kernel⟩, (by decide +kernel), zgw (i := 843) (by decide +kernel) rfl⟩, zgw (i := 844) (by decide +kernel) rfl, zgw (i := 845) (by decide +kernel) rfl⟩
theorem lkL_46 : zLV RL 46 mX6_as 2 := ⟨⟨zgw (i := 850) (by decide +kernel) rfl, zgw (i := 57) (by decide +kernel) rfl, ⟨by decide +kernel, by decide +kernel⟩, (by decide +kernel), zgw (i := 847) (by decide +kernel) rfl⟩, zgw (i := 848) (by decide +kernel) rfl, zgw (i := 849) (by decide +kernel) rfl⟩
theorem lkX6_118 : zLS RX6 118 mX6_isUnder 2 := ⟨⟨zgw (i := 853) (by decide +kernel) rfl, zgw (i := 57) (by decide +kernel) rfl, ⟨by decide +kernel, by decide +kernel⟩, (by decide +kernel), zgw (i := 851) (by decide +kernel) rfl⟩, zgw (i := 852) (by decide +kernel) rfl⟩
theorem ckX6_121 : Cond.constant RX6 121 (-1000000003) ∈ zGW := zgw (i := 854) (by decide +kernel) rfl
theorem lkL_50 : zLV RL 50 mX6_fill 2 := ⟨⟨zgw (i := 858) (by decide +kernel) rfl, zgw (i := 57) (by decide +kernel) rfl, ⟨by decide +kernel, by decide +kernel⟩, (by decide +kernel), zgw (i := 855) (by decide +kernel) rfl⟩, zgw (i := 856) (by decide +kernel) rfl, zgw (i := 857) (by decide +kernel) rfl⟩
theorem lkX6_129 : zLV RX6 129 mX6_mayFill 2 := ⟨⟨zgw (i := 862) (by decide +kernel) rfl, zgw (i := 57) (by decide +kernel) rfl, ⟨by decide +kernel, by decide +kernel⟩, (by decide +kernel), zgw (i := 859) (by decide +kernel) rfl⟩, zgw (i := 861) (by decide +kernel) rfl, zgw (i := 21) (by decide +kernel) rfl⟩
theorem lkX6_122 : zLV RX6 122 mX6_priceOf 2 := ⟨⟨zgw (i := 866) (by decide +kernel) rfl, zgw (i := 57) (by decide +kernel) rfl, ⟨by decide +kernel, by decide +kernel⟩, (by decide +kernel), zgw (i := 863) (by decide +kernel) rfl⟩, zgw (i := 865) (by decide +kernel) rfl, zgw (i := 22) (by decide +kernel) rfl⟩
theorem lkX6_132 : zLV RX6 132 mX6_fills 2 := ⟨⟨zgw (i := 870) (by decide +kernel) rfl, zgw (i := 57) (by decide +kernel) rfl, ⟨by decide +kernel, by decide +kernel⟩, (by decide +kernel), zgw (i := 867) (by decide +kernel) rfl⟩, zgw (i := 869) (by decide +kernel) rfl, zgw (i := 23) (by decide +kernel) rfl⟩
theorem ckX6_125 : Cond.constant RX6 125 (9999999) ∈ zGW := zgw (i := 871) (by decide +kernel) rfl
theorem lkX6_126 : zLS RX6 126 mX6_heldTo 2 := ⟨⟨zgw (i := 874) (by decide +kernel) rfl, zgw (i := 57) (by decide +kernel) rfl, ⟨by decide +kernel, by decide +kernel⟩, (by decide +kernel), zgw (i := 872) (by decide +kernel) rfl⟩, zgw (i := 873) (by decide +kernel) rfl⟩
theorem ckX6_135 : Cond.constant RX6 135 (-1000000005) ∈ zGW := zgw (i := 875) (by decide +kernel) rfl
theorem lkL_55 : zLV RL 55 mX6_next 0 := ⟨⟨zgw (i := 879) (by decide +kernel) rfl, zgw (i := 57) (by decide +kernel) rfl, ⟨by decide +kernel, by decide +kernel⟩, (by decide +kernel), zgw (i := 876) (by decide +kernel) rfl⟩, zgw (i := 877) (by decide +kernel) rfl, zgw (i := 878) (by decide +kernel) rfl⟩
theorem lkX6_139 : zLV RX6 139 mX6_nextOne 0 := ⟨⟨zgw (i := 883) (by decide +kernel) rfl, zgw (i := 57) (by decide +kernel) rfl, ⟨by decide +kernel, by decide +kernel⟩, (by decide +kernel), zgw (i := 880) (by decide +kernel) rfl⟩, zgw (i := 882) (by decide +kernel) rfl, zgw (i := 24) (by decide +kernel) rfl⟩
theorem lkX6_136 : zLV RX6 136 mX6_isAhead 2 := ⟨⟨zgw (i := 887) (by decide +kernel) rfl, zgw (i := 57) (by decide +kernel) rfl, ⟨by decide +kernel, by decide +kernel⟩, (by decide +kernel), zgw (i := 884) (by decide +kernel) rfl⟩, zgw (i := 886) (by decide +kernel) rfl, zgw (i := 25) (by decide +kernel) rfl⟩
theorem ckX6_142 : Cond.constant RX6 142 (-1000000004) ∈ zGW := zgw (i := 888) (by decide +kernel) rfl
theorem lkL_60 : zLV RL 60 mX6_weeks 1 := ⟨⟨zgw (i := 892) (by decide +kernel) rfl, zgw (i := 57) (by decide +kernel) rfl, ⟨by decide +kernel, by decide +kernel⟩, (by decide +kernel), zgw (i := 889) (by decide +kernel) rfl⟩, zgw (i := 890) (by decide +kernel) rfl, zgw (i := 891) (by decide +kernel) rfl⟩
theorem ckX6_150 : Cond.constantLong RX6 150 (60) ∈ zGW := zgw (i := 893) (by decide +kernel) rfl
theorem lkX6_152 : zLV RX6 152 mX6_weeksGo 1 := ⟨⟨zgw (i := 897) (by decide +kernel) rfl, zgw (i := 57) (by decide +kernel) rfl, ⟨by decide +kernel, by decide +kernel⟩, (by decide +kernel), zgw (i := 894) (by decide +kernel) rfl⟩, zgw (i := 896) (by decide +kernel) rfl, zgw (i := 26) (by decide +kernel) rfl⟩
theorem lkX6_147 : zLV RX6 147 mX6_week 0 := ⟨⟨zgw (i := 901) (by decide +kernel) rfl, zgw (i := 57) (by decide +kernel) rfl, ⟨by decide +kernel, by decide +kernel⟩, (by decide +kernel), zgw (i := 898) (by decide +kernel) rfl⟩, zgw (i := 900) (by decide +kernel) rfl, zgw (i := 27) (by decide +kernel) rfl⟩
theorem lkX6_143 : zLV RX6 143 mX6_ages 1 := ⟨⟨zgw (i := 905) (by decide +kernel) rfl, zgw (i := 57) (by decide +kernel) rfl, ⟨by decide +kernel, by decide +kernel⟩, (by decide +kernel), zgw (i := 902) (by decide +kernel) rfl⟩, zgw (i := 904) (by decide +kernel) rfl, zgw (i := 28) (by decide +kernel) rfl⟩
theorem lkL_64 : zLV RL 64 mX6_now 1 := ⟨⟨zgw (i := 909) (by decide +kernel) rfl, zgw (i := 57) (by decide +kernel) rfl, ⟨by decide +kernel, by decide +kernel⟩, (by decide +kernel), zgw (i := 906) (by decide +kernel) rfl⟩, zgw (i := 907) (by decide +kernel) rfl, zgw (i := 908) (by decide +kernel) rfl⟩
theorem lkX6_158 : zLV RX6 158 mX6_worseNow 0 := ⟨⟨zgw (i := 913) (by decide +kernel) rfl, zgw (i := 57) (by decide +kernel) rfl, ⟨by decide +kernel, by decide +kernel⟩, (by decide +kernel), zgw (i := 910) (by decide +kernel) rfl⟩, zgw (i := 912) (by decide +kernel) rfl, zgw (i := 29) (by decide +kernel) rfl⟩
theorem lkX6_155 : zLV RX6 155 mX6_sizesOf 1 := ⟨⟨zgw (i := 917) (by decide +kernel) rfl, zgw (i := 57) (by decide +kernel) rfl, ⟨by decide +kernel, by decide +kernel⟩, (by decide +kernel), zgw (i := 914) (by decide +kernel) rfl⟩, zgw (i := 916) (by decide +kernel) rfl, zgw (i := 30) (by decide +kernel) rfl⟩
theorem lkL_68 : zLV RL 68 mX6_on 3 := ⟨⟨zgw (i := 921) (by decide +kernel) rfl, zgw (i := 57) (by decide +kernel) rfl, ⟨by decide +kernel, by decide +kernel⟩, (by decide +kernel), zgw (i := 918) (by decide +kernel) rfl⟩, zgw (i := 919) (by decide +kernel) rfl, zgw (i := 920) (by decide +kernel) rfl⟩
theorem lkX6_161 : zLS RX6 161 mX6_isFar 3 := ⟨⟨zgw (i := 924) (by decide +kernel) rfl, zgw (i := 57) (by decide +kernel) rfl, ⟨by decide +kernel, by decide +kernel⟩, (by decide +kernel), zgw (i := 922) (by decide +kernel) rfl⟩, zgw (i := 923) (by decide +kernel) rfl⟩
theorem lkX6_165 : zLV RX6 165 mX6_laysAside 0 := ⟨⟨zgw (i := 928) (by decide +kernel) rfl, zgw (i := 57) (by decide +kernel) rfl, ⟨by decide +kernel, by decide +kernel⟩, (by decide +kernel), zgw (i := 925) (by decide +kernel) rfl⟩, zgw (i := 927) (by decide +kernel) rfl, zgw (i := 31) (by decide +kernel) rfl⟩
theorem lkX6_168 : zLV RX6 168 mX6_takesBack 1 := ⟨⟨zgw (i := 932) (by decide +kernel) rfl, zgw (i := 57) (by decide +kernel) rfl, ⟨by decide +kernel, by decide +kernel⟩, (by decide +kernel), zgw (i := 929) (by decide +kernel) rfl⟩, zgw (i := 931) (by decide +kernel) rfl, zgw (i := 32) (by decide +kernel) rfl⟩
theorem lkL_72 : zLV RL 72 mX6_worse 1 := ⟨⟨zgw (i := 936) (by decide +kernel) rfl, zgw (i := 57) (by decide +kernel) rfl, ⟨by decide +kernel, by decide +kernel⟩, (by decide +kernel), zgw (i := 933) (by decide +kernel) rfl⟩, zgw (i := 934) (by decide +kernel) rfl, zgw (i := 935) (by decide +kernel) rfl⟩
theorem lkX6_171 : zLV RX6 171 mX6_worseIn 1 := ⟨⟨zgw (i := 940) (by decide +kernel) rfl, zgw (i := 57) (by decide +kernel) rfl, ⟨by decide +kernel, by decide +kernel⟩, (by decide +kernel), zgw (i := 937) (by decide +kernel) rfl⟩, zgw (i := 939) (by decide +kernel) rfl, zgw (i := 33) (by decide +kernel) rfl⟩
theorem lkL_76 : zLV RL 76 mX6_cost 1 := ⟨⟨zgw (i := 944) (by decide +kernel) rfl, zgw (i := 57) (by decide +kernel) rfl, ⟨by decide +kernel, by decide +kernel⟩, (by decide +kernel), zgw (i := 941) (by decide +kernel) rfl⟩, zgw (i := 942) (by decide +kernel) rfl, zgw (i := 943) (by decide +kernel) rfl⟩
theorem lkL_80 : zLV RL 80 mX6_filled 1 := ⟨⟨zgw (i := 948) (by decide +kernel) rfl, zgw (i := 57) (by decide +kernel) rfl, ⟨by decide +kernel, by decide +kernel⟩, (by decide +kernel), zgw (i := 945) (by decide +kernel) rfl⟩, zgw (i := 946) (by decide +kernel) rfl, zgw (i := 947) (by decide +kernel) rfl⟩
theorem lkX6_174 : zLV RX6 174 mX6_firstSo 2 := ⟨⟨zgw (i := 952) (by decide +kernel) rfl, zgw (i := 57) (by decide +kernel) rfl, ⟨by decide +kernel, by decide +kernel⟩, (by decide +kernel), zgw (i := 949) (by decide +kernel) rfl⟩, zgw (i := 951) (by decide +kernel) rfl, zgw (i := 34) (by decide +kernel) rfl⟩
theorem lkL_84 : zLV RL 84 mX6_breaks 1 := ⟨⟨zgw (i := 956) (by decide +kernel) rfl, zgw (i := 57) (by decide +kernel) rfl, ⟨by decide +kernel, by decide +kernel⟩, (by decide +kernel), zgw (i := 953) (by decide +kernel) rfl⟩, zgw (i := 954) (by decide +kernel) rfl, zgw (i := 955) (by decide +kernel) rfl⟩
theorem lkL_88 : zLV RL 88 mX6_how 1 := ⟨⟨zgw (i := 960) (by decide +kernel) rfl, zgw (i := 57) (by decide +kernel) rfl, ⟨by decide +kernel, by decide +kernel⟩, (by decide +kernel), zgw (i := 957) (by decide +kernel) rfl⟩, zgw (i := 958) (by decide +kernel) rfl, zgw (i := 959) (by decide +kernel) rfl⟩
theorem lkL_92 : zLV RL 92 mX6_ring 1 := ⟨⟨zgw (i := 964) (by decide +kernel) rfl, zgw (i := 57) (by decide +kernel) rfl, ⟨by decide +kernel, by decide +kernel⟩, (by decide +kernel), zgw (i := 961) (by decide +kernel) rfl⟩, zgw (i := 962) (by decide +kernel) rfl, zgw (i := 963) (by decide +kernel) rfl⟩
theorem lkL_96 : zLV RL 96 mX6_men 2 := ⟨⟨zgw (i := 968) (by decide +kernel) rfl, zgw (i := 57) (by decide +kernel) rfl, ⟨by decide +kernel, by decide +kernel⟩, (by decide +kernel), zgw (i := 965) (by decide +kernel) rfl⟩, zgw (i := 966) (by decide +kernel) rfl, zgw (i := 967) (by decide +kernel) rfl⟩
theorem lkX6_177 : zLV RX6 177 mX6_leastBy 4 := ⟨⟨zgw (i := 972) (by decide +kernel) rfl, zgw (i := 57) (by decide +kernel) rfl, ⟨by decide +kernel, by decide +kernel⟩, (by decide +kernel), zgw (i := 969) (by decide +kernel) rfl⟩, zgw (i := 971) (by decide +kernel) rfl, zgw (i := 35) (by decide +kernel) rfl⟩
theorem lkL_100 : zLV RL 100 mX6_budget 2 := ⟨⟨zgw (i := 976) (by decide +kernel) rfl, zgw (i := 57) (by decide +kernel) rfl, ⟨by decide +kernel, by decide +kernel⟩, (by decide +kernel), zgw (i := 973) (by decide +kernel) rfl⟩, zgw (i := 974) (by decide +kernel) rfl, zgw (i := 975) (by decide +kernel) rfl⟩
theorem lkL_104 : zLV RL 104 mX6_kind 2 := ⟨⟨zgw (i := 980) (by decide +kernel) rfl, zgw (i := 57) (by decide +kernel) rfl, ⟨by decide +kernel, by decide +kernel⟩, (by decide +kernel), zgw (i := 977) (by decide +kernel) rfl⟩, zgw (i := 978) (by decide +kernel) rfl, zgw (i := 979) (by decide +kernel) rfl⟩
theorem lkL_108 : zLV RL 108 mX6_let 1 := ⟨⟨zgw (i := 984) (by decide +kernel) rfl, zgw (i := 57) (by decide +kernel) rfl, ⟨by decide +kernel, by decide +kernel⟩, (by decide +kernel), zgw (i := 981) (by decide +kernel) rfl⟩, zgw (i := 982) (by decide +kernel) rfl, zgw (i := 983) (by decide +kernel) rfl⟩
theorem lkL_112 : zLV RL 112 mX6_worst 1 := ⟨⟨zgw (i := 988) (by decide +kernel) rfl, zgw (i := 57) (by decide +kernel) rfl, ⟨by decide +kernel, by decide +kernel⟩, (by decide +kernel), zgw (i := 985) (by decide +kernel) rfl⟩, zgw (i := 986) (by decide +kernel) rfl, zgw (i := 987) (by decide +kernel) rfl⟩
theorem lkL_116 : zLV RL 116 mX6_feed 2 := ⟨⟨zgw (i := 992) (by decide +kernel) rfl, zgw (i := 57) (by decide +kernel) rfl, ⟨by decide +kernel, by decide +kernel⟩, (by decide +kernel), zgw (i := 989) (by decide +kernel) rfl⟩, zgw (i := 990) (by decide +kernel) rfl, zgw (i := 991) (by decide +kernel) rfl⟩
theorem ckX6_181 : Cond.constantLong RX6 181 (4) ∈ zGW := zgw (i := 993) (by decide +kernel) rfl
theorem lkL_120 : zLV RL 120 mX6_wipe 0 := ⟨⟨zgw (i := 997) (by decide +kernel) rfl, zgw (i := 57) (by decide +kernel) rfl, ⟨by decide +kernel, by decide +kernel⟩, (by decide +kernel), zgw (i := 994) (by decide +kernel) rfl⟩, zgw (i := 995) (by decide +kernel) rfl, zgw (i := 996) (by decide +kernel) rfl⟩
theorem lkL_124 : zLV RL 124 mX6_text 0 := ⟨⟨zgw (i := 1001) (by decide +kernel) rfl, zgw (i := 57) (by decide +kernel) rfl, ⟨by decide +kernel, by decide +kernel⟩, (by decide +kernel), zgw (i := 998) (by decide +kernel) rfl⟩, zgw (i := 999) (by decide +kernel) rfl, zgw (i := 1000) (by decide +kernel) rfl⟩
theorem lkX6_284 : zLV RX6 284 mX6_saves 0 := ⟨⟨zgw (i := 1005) (by decide +kernel) rfl, zgw (i := 57) (by decide +kernel) rfl, ⟨by decide +kernel, by decide +kernel⟩, (by decide +kernel), zgw (i := 1002) (by decide +kernel) rfl⟩, zgw (i := 1004) (by decide +kernel) rfl, zgw (i := 36) (by decide +kernel) rfl⟩
theorem lkX6_214 : zLV RX6 214 mX6_token 0 := ⟨⟨zgw (i := 1009) (by decide +kernel) rfl, zgw (i := 57) (by decide +kernel) rfl, ⟨by decide +kernel, by decide +kernel⟩, (by decide +kernel), zgw (i := 1006) (by decide +kernel) rfl⟩, zgw (i := 1008) (by decide +kernel) rfl, zgw (i := 37) (by decide +kernel) rfl⟩
theorem lkX6_201 : zLV RX6 201 mX6_byteAt 1 := ⟨⟨zgw (i := 1013) (by decide +kernel) rfl, zgw (i := 57) (by decide +kernel) rfl, ⟨by decide +kernel, by decide +kernel⟩, (by decide +kernel), zgw (i := 1010) (by decide +kernel) rfl⟩, zgw (i := 1012) (by decide +kernel) rfl, zgw (i := 38) (by decide +kernel) rfl⟩
theorem lkX6_204 : zLS RX6 204 mX6_isLetter 1 := ⟨⟨zgw (i := 1016) (by decide +kernel) rfl, zgw (i := 57) (by decide +kernel) rfl, ⟨by decide +kernel, by decide +kernel⟩, (by decide +kernel), zgw (i := 1014) (by decide +kernel) rfl⟩, zgw (i := 1015) (by decide +kernel) rfl⟩
theorem ckX6_187 : Cond.constantLong RX6 187 (97) ∈ zGW := zgw (i := 1017) (by decide +kernel) rfl
theorem ckX6_189 : Cond.constantLong RX6 189 (122) ∈ zGW := zgw (i := 1018) (by decide +kernel) rfl
theorem lkX6_207 : zLS RX6 207 mX6_isDigit 1 := ⟨⟨zgw (i := 1021) (by decide +kernel) rfl, zgw (i := 57) (by decide +kernel) rfl, ⟨by decide +kernel, by decide +kernel⟩, (by decide +kernel), zgw (i := 1019) (by decide +kernel) rfl⟩, zgw (i := 1020) (by decide +kernel) rfl⟩
theorem ckX6_191 : Cond.constantLong RX6 191 (48) ∈ zGW := zgw (i := 1022) (by decide +kernel) rfl
theorem ckX6_193 : Cond.constantLong RX6 193 (57) ∈ zGW := zgw (i := 1023) (by decide +kernel) rfl
theorem lkX6_287 : zLV RX6 287 mX6_item 0 := ⟨⟨zgw (i := 1027) (by decide +kernel) rfl, zgw (i := 57) (by decide +kernel) rfl, ⟨by decide +kernel, by decide +kernel⟩, (by decide +kernel), zgw (i := 1024) (by decide +kernel) rfl⟩, zgw (i := 1026) (by decide +kernel) rfl, zgw (i := 39) (by decide +kernel) rfl⟩
theorem lkX6_269 : zLV RX6 269 mX6_kindHere 0 := ⟨⟨zgw (i := 1031) (by decide +kernel) rfl, zgw (i := 57) (by decide +kernel) rfl, ⟨by decide +kernel, by decide +kernel⟩, (by decide +kernel), zgw (i := 1028) (by decide +kernel) rfl⟩, zgw (i := 1030) (by decide +kernel) rfl, zgw (i := 40) (by decide +kernel) rfl⟩
theorem lkX6_228 : zLV RX6 228 mX6_word 0 := ⟨⟨zgw (i := 1035) (by decide +kernel) rfl, zgw (i := 57) (by decide +kernel) rfl, ⟨by decide +kernel, by decide +kernel⟩, (by decide +kernel), zgw (i := 1032) (by decide +kernel) rfl⟩, zgw (i := 1034) (by decide +kernel) rfl, zgw (i := 41) (by decide +kernel) rfl⟩
theorem ckX6_217 : Cond.constantLong RX6 217 (36028797018963967) ∈ zGW := zgw (i := 1036) (by decide +kernel) rfl
theorem ckX6_219 : Cond.constantLong RX6 219 (32) ∈ zGW := zgw (i := 1037) (by decide +kernel) rfl
theorem ckX6_232 : Cond.constantLong RX6 232 (277893) ∈ zGW := zgw (i := 1038) (by decide +kernel) rfl
theorem ckX6_234 : Cond.constantLong RX6 234 (67208) ∈ zGW := zgw (i := 1039) (by decide +kernel) rfl
theorem ckX6_236 : Cond.constantLong RX6 236 (3736683) ∈ zGW := zgw (i := 1040) (by decide +kernel) rfl
theorem ckX6_238 : Cond.constantLong RX6 238 (10986964) ∈ zGW := zgw (i := 1041) (by decide +kernel) rfl
theorem ckX6_240 : Cond.constantLong RX6 240 (152683) ∈ zGW := zgw (i := 1042) (by decide +kernel) rfl
theorem ckX6_242 : Cond.constantLong RX6 242 (627757) ∈ zGW := zgw (i := 1043) (by decide +kernel) rfl
theorem ckX6_272 : Cond.constantLong RX6 272 (89267380) ∈ zGW := zgw (i := 1044) (by decide +kernel) rfl
theorem lkX6_274 : zLV RX6 274 mX6_holeItem 1 := ⟨⟨zgw (i := 1048) (by decide +kernel) rfl, zgw (i := 57) (by decide +kernel) rfl, ⟨by decide +kernel, by decide +kernel⟩, (by decide +kernel), zgw (i := 1045) (by decide +kernel) rfl⟩, zgw (i := 1047) (by decide +kernel) rfl, zgw (i := 42) (by decide +kernel) rfl⟩
theorem lkX6_224 : zLV RX6 224 mX6_must 1 := ⟨⟨zgw (i := 1052) (by decide +kernel) rfl, zgw (i := 57) (by decide +kernel) rfl, ⟨by decide +kernel, by decide +kernel⟩, (by decide +kernel), zgw (i := 1049) (by decide +kernel) rfl⟩, zgw (i := 1051) (by decide +kernel) rfl, zgw (i := 43) (by decide +kernel) rfl⟩
theorem ckX6_248 : Cond.constantLong RX6 248 (302) ∈ zGW := zgw (i := 1053) (by decide +kernel) rfl
theorem lkX6_250 : zLV RX6 250 mX6_partItem 3 := ⟨⟨zgw (i := 1057) (by decide +kernel) rfl, zgw (i := 57) (by decide +kernel) rfl, ⟨by decide +kernel, by decide +kernel⟩, (by decide +kernel), zgw (i := 1054) (by decide +kernel) rfl⟩, zgw (i := 1056) (by decide +kernel) rfl, zgw (i := 44) (by decide +kernel) rfl⟩
theorem lkX6_244 : zLV RX6 244 mX6_number 2 := ⟨⟨zgw (i := 1061) (by decide +kernel) rfl, zgw (i := 57) (by decide +kernel) rfl, ⟨by decide +kernel, by decide +kernel⟩, (by decide +kernel), zgw (i := 1058) (by decide +kernel) rfl⟩, zgw (i := 1060) (by decide +kernel) rfl, zgw (i := 45) (by decide +kernel) rfl⟩
theorem ckX6_254 : Cond.constantLong RX6 254 (632645) ∈ zGW := zgw (i := 1062) (by decide +kernel) rfl
theorem ckX6_256 : Cond.constantLong RX6 256 (114052) ∈ zGW := zgw (i := 1063) (by decide +kernel) rfl
theorem lkX6_258 : zLV RX6 258 mX6_wordItem 3 := ⟨⟨zgw (i := 1067) (by decide +kernel) rfl, zgw (i := 57) (by decide +kernel) rfl, ⟨by decide +kernel, by decide +kernel⟩, (by decide +kernel), zgw (i := 1064) (by decide +kernel) rfl⟩, zgw (i := 1066) (by decide +kernel) rfl, zgw (i := 46) (by decide +kernel) rfl⟩
theorem ckX6_261 : Cond.constantLong RX6 261 (8692) ∈ zGW := zgw (i := 1068) (by decide +kernel) rfl
theorem ckX6_263 : Cond.constantLong RX6 263 (611783) ∈ zGW := zgw (i := 1069) (by decide +kernel) rfl
theorem ckX6_277 : Cond.constantLong RX6 277 (659100852) ∈ zGW := zgw (i := 1070) (by decide +kernel) rfl
theorem lkX6_279 : zLV RX6 279 mX6_streetItem 0 := ⟨⟨zgw (i := 1074) (by decide +kernel) rfl, zgw (i := 57) (by decide +kernel) rfl, ⟨by decide +kernel, by decide +kernel⟩, (by decide +kernel), zgw (i := 1071) (by decide +kernel) rfl⟩, zgw (i := 1073) (by decide +kernel) rfl, zgw (i := 47) (by decide +kernel) rfl⟩
theorem ckX6_265 : Cond.constantLong RX6 265 (22080067875) ∈ zGW := zgw (i := 1075) (by decide +kernel) rfl
theorem ckX6_267 : Cond.constantLong RX6 267 (12468) ∈ zGW := zgw (i := 1076) (by decide +kernel) rfl
theorem ckX6_282 : Cond.constantLong RX6 282 (13486) ∈ zGW := zgw (i := 1077) (by decide +kernel) rfl
theorem lkX6_290 : zLV RX6 290 mX6_putsBack 0 := ⟨⟨zgw (i := 1081) (by decide +kernel) rfl, zgw (i := 57) (by decide +kernel) rfl, ⟨by decide +kernel, by decide +kernel⟩, (by decide +kernel), zgw (i := 1078) (by decide +kernel) rfl⟩, zgw (i := 1080) (by decide +kernel) rfl, zgw (i := 48) (by decide +kernel) rfl⟩
theorem lkL_128 : zLV RL 128 mX6_sheet 3 := ⟨⟨zgw (i := 1085) (by decide +kernel) rfl, zgw (i := 57) (by decide +kernel) rfl, ⟨by decide +kernel, by decide +kernel⟩, (by decide +kernel), zgw (i := 1082) (by decide +kernel) rfl⟩, zgw (i := 1083) (by decide +kernel) rfl, zgw (i := 1084) (by decide +kernel) rfl⟩
theorem lkX6_293 : zLS RX6 293 mX6_isOne 1 := ⟨⟨zgw (i := 1088) (by decide +kernel) rfl, zgw (i := 57) (by decide +kernel) rfl, ⟨by decide +kernel, by decide +kernel⟩, (by decide +kernel), zgw (i := 1086) (by decide +kernel) rfl⟩, zgw (i := 1087) (by decide +kernel) rfl⟩
theorem ckX6_296 : Cond.constant RX6 296 (-1000000007) ∈ zGW := zgw (i := 1089) (by decide +kernel) rfl
theorem lkL_135 : zLV RL 135 mX6_write 3 := ⟨⟨zgw (i := 1093) (by decide +kernel) rfl, zgw (i := 57) (by decide +kernel) rfl, ⟨by decide +kernel, by decide +kernel⟩, (by decide +kernel), zgw (i := 1090) (by decide +kernel) rfl⟩, zgw (i := 1091) (by decide +kernel) rfl, zgw (i := 1092) (by decide +kernel) rfl⟩
theorem lkX6_298 : zLV RX6 298 mX6_wrongSheet 1 := ⟨⟨zgw (i := 1097) (by decide +kernel) rfl, zgw (i := 57) (by decide +kernel) rfl, ⟨by decide +kernel, by decide +kernel⟩, (by decide +kernel), zgw (i := 1094) (by decide +kernel) rfl⟩, zgw (i := 1096) (by decide +kernel) rfl, zgw (i := 49) (by decide +kernel) rfl⟩
theorem ckX6_297 : Cond.constant RX6 297 (-1000000006) ∈ zGW := zgw (i := 1098) (by decide +kernel) rfl
theorem lkX6_301 : zLS RX6 301 mX6_narrowed 2 := ⟨⟨zgw (i := 1101) (by decide +kernel) rfl, zgw (i := 57) (by decide +kernel) rfl, ⟨by decide +kernel, by decide +kernel⟩, (by decide +kernel), zgw (i := 1099) (by decide +kernel) rfl⟩, zgw (i := 1100) (by decide +kernel) rfl⟩
theorem lkL_140 : zLV RL 140 mX6_copy 5 := ⟨⟨zgw (i := 1105) (by decide +kernel) rfl, zgw (i := 57) (by decide +kernel) rfl, ⟨by decide +kernel, by decide +kernel⟩, (by decide +kernel), zgw (i := 1102) (by decide +kernel) rfl⟩, zgw (i := 1103) (by decide +kernel) rfl, zgw (i := 1104) (by decide +kernel) rfl⟩
theorem lkL_144 : zLV RL 144 mX6_lays 1 := ⟨⟨zgw (i := 1109) (by decide +kernel) rfl, zgw (i := 57) (by decide +kernel) rfl, ⟨by decide +kernel, by decide +kernel⟩, (by decide +kernel), zgw (i := 1106) (by decide +kernel) rfl⟩, zgw (i := 1107) (by decide +kernel) rfl, zgw (i := 1108) (by decide +kernel) rfl⟩
theorem lkL_148 : zLV RL 148 mX6_book 2 := ⟨⟨zgw (i := 1113) (by decide +kernel) rfl, zgw (i := 57) (by decide +kernel) rfl, ⟨by decide +kernel, by decide +kernel⟩, (by decide +kernel), zgw (i := 1110) (by decide +kernel) rfl⟩, zgw (i := 1111) (by decide +kernel) rfl, zgw (i := 1112) (by decide +kernel) rfl⟩
theorem lkX6_305 : zLV RX6 305 mX6_wrongBook 2 := ⟨⟨zgw (i := 1117) (by decide +kernel) rfl, zgw (i := 57) (by decide +kernel) rfl, ⟨by decide +kernel, by decide +kernel⟩, (by decide +kernel), zgw (i := 1114) (by decide +kernel) rfl⟩, zgw (i := 1116) (by decide +kernel) rfl, zgw (i := 50) (by decide +kernel) rfl⟩
theorem lkL_152 : zLV RL 152 mX6_read 2 := ⟨⟨zgw (i := 1121) (by decide +kernel) rfl, zgw (i := 57) (by decide +kernel) rfl, ⟨by decide +kernel, by decide +kernel⟩, (by decide +kernel), zgw (i := 1118) (by decide +kernel) rfl⟩, zgw (i := 1119) (by decide +kernel) rfl, zgw (i := 1120) (by decide +kernel) rfl⟩
theorem lkX6_308 : zLV RX6 308 mX6_isBook 2 := ⟨⟨zgw (i := 1125) (by decide +kernel) rfl, zgw (i := 57) (by decide +kernel) rfl, ⟨by decide +kernel, by decide +kernel⟩, (by decide +kernel), zgw (i := 1122) (by decide +kernel) rfl⟩, zgw (i := 1124) (by decide +kernel) rfl, zgw (i := 51) (by decide +kernel) rfl⟩
theorem lkL_156 : zLV RL 156 mX6_image 0 := ⟨⟨zgw (i := 1129) (by decide +kernel) rfl, zgw (i := 57) (by decide +kernel) rfl, ⟨by decide +kernel, by decide +kernel⟩, (by decide +kernel), zgw (i := 1126) (by decide +kernel) rfl⟩, zgw (i := 1127) (by decide +kernel) rfl, zgw (i := 1128) (by decide +kernel) rfl⟩
theorem lkL_160 : zLV RL 160 mX6_undo 0 := ⟨⟨zgw (i := 1133) (by decide +kernel) rfl, zgw (i := 57) (by decide +kernel) rfl, ⟨by decide +kernel, by decide +kernel⟩, (by decide +kernel), zgw (i := 1130) (by decide +kernel) rfl⟩, zgw (i := 1131) (by decide +kernel) rfl, zgw (i := 1132) (by decide +kernel) rfl⟩
theorem lkL_164 : zLV RL 164 mX6_tear 0 := ⟨⟨zgw (i := 1137) (by decide +kernel) rfl, zgw (i := 57) (by decide +kernel) rfl, ⟨by decide +kernel, by decide +kernel⟩, (by decide +kernel), zgw (i := 1134) (by decide +kernel) rfl⟩, zgw (i := 1135) (by decide +kernel) rfl, zgw (i := 1136) (by decide +kernel) rfl⟩
theorem lkL_168 : zLV RL 168 mX6_count 1 := ⟨⟨zgw (i := 1141) (by decide +kernel) rfl, zgw (i := 57) (by decide +kernel) rfl, ⟨by decide +kernel, by decide +kernel⟩, (by decide +kernel), zgw (i := 1138) (by decide +kernel) rfl⟩, zgw (i := 1139) (by decide +kernel) rfl, zgw (i := 1140) (by decide +kernel) rfl⟩
theorem lkX6_314 : zLS RX6 314 mX6_ones 1 := ⟨⟨zgw (i := 1144) (by decide +kernel) rfl, zgw (i := 57) (by decide +kernel) rfl, ⟨by decide +kernel, by decide +kernel⟩, (by decide +kernel), zgw (i := 1142) (by decide +kernel) rfl⟩, zgw (i := 1143) (by decide +kernel) rfl⟩
theorem lkL_172 : zLV RL 172 mX6_status 1 := ⟨⟨zgw (i := 1148) (by decide +kernel) rfl, zgw (i := 57) (by decide +kernel) rfl, ⟨by decide +kernel, by decide +kernel⟩, (by decide +kernel), zgw (i := 1145) (by decide +kernel) rfl⟩, zgw (i := 1146) (by decide +kernel) rfl, zgw (i := 1147) (by decide +kernel) rfl⟩
theorem ckX6_317 : Cond.constantLong RX6 317 (-1) ∈ zGW := zgw (i := 1149) (by decide +kernel) rfl
theorem ckL_129 : Cond.constantLong RL 129 (4294967295) ∈ zGW := zgw (i := 1150) (by decide +kernel) rfl
theorem fkJ0_9 : Cond.fieldLink RJ0 9 "java/lang/String" "value" "[B" ∈ zGW := zgw (i := 1151) (by decide +kernel) rfl
theorem fkJ0_15 : Cond.fieldLink RJ0 15 "java/lang/String" "coder" "B" ∈ zGW := zgw (i := 1152) (by decide +kernel) rfl
theorem inX1 : ∀ w ∈ u_ws RX1 TX1 3, w ∈ zGW := fun w h => List.mem_filter.mpr ⟨(goodIn_r (big := lw_tbl) _ [194, 196, 198] (by decide +kernel) (by decide +kernel) w h).1, List.all_eq_true.mp (show (u_ws RX1 TX1 3).all goodWord = true by decide +kernel) w h⟩
theorem inX2 : ∀ w ∈ u_ws RX2 TX2 6, w ∈ zGW := fun w h => List.mem_filter.mpr ⟨(goodIn_r (big := lw_tbl) _ [168, 170, 172, 174, 176, 178] (by decide +kernel) (by decide +kernel) w h).1, List.all_eq_true.mp (show (u_ws RX2 TX2 6).all goodWord = true by decide +kernel) w h⟩
theorem inX3 : ∀ w ∈ u_ws RX3 TX3 16, w ∈ zGW := fun w h => List.mem_filter.mpr ⟨(goodIn_r (big := lw_tbl) _ [119, 121, 123, 125, 127, 129, 131, 133, 135, 137, 139, 141, 143, 145, 147, 149] (by decide +kernel) (by decide +kernel) w h).1, List.all_eq_true.mp (show (u_ws RX3 TX3 16).all goodWord = true by decide +kernel) w h⟩
theorem inX5 : ∀ w ∈ u_ws RX5 TX5 7, w ∈ zGW := fun w h => List.mem_filter.mpr ⟨(goodIn_r (big := lw_tbl) _ [209, 211, 213, 215, 217, 219, 221] (by decide +kernel) (by decide +kernel) w h).1, List.all_eq_true.mp (show (u_ws RX5 TX5 7).all goodWord = true by decide +kernel) w h⟩
theorem inX6 : ∀ w ∈ u_ws RX6 TX6 16, w ∈ zGW := fun w h => List.mem_filter.mpr ⟨(goodIn_r (big := lw_tbl) _ [717, 719, 721, 723, 725, 727, 729, 731, 733, 735, 737, 739, 741, 743, 745, 747] (by decide +kernel) (by decide +kernel) w h).1, List.all_eq_true.mp (show (u_ws RX6 TX6 16).all goodWord = true by decide +kernel) w h⟩
