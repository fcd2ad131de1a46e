/-! SOUNDNESS, 4: the check of the law, in pieces -/
theorem ck_law_780 : ckL (sMdG 307) (fun j => px_L_law_.getD j 0) 780 ((C_L_law_.drop 780).take 60) ((ax_L_law_.drop 780).take 60) = true := by decide +kernel
theorem ck_law_840 : ckL (sMdG 307) (fun j => px_L_law_.getD j 0) 840 ((C_L_law_.drop 840).take 60) ((ax_L_law_.drop 840).take 60) = true := by decide +kernel
theorem ck_law_900 : ckL (sMdG 307) (fun j => px_L_law_.getD j 0) 900 ((C_L_law_.drop 900).take 60) ((ax_L_law_.drop 900).take 60) = true := by decide +kernel
theorem ck_law_960 : ckL (sMdG 307) (fun j => px_L_law_.getD j 0) 960 ((C_L_law_.drop 960).take 60) ((ax_L_law_.drop 960).take 60) = true := by decide +kernel
theorem ck_law_1020 : ckL (sMdG 307) (fun j => px_L_law_.getD j 0) 1020 ((C_L_law_.drop 1020).take 60) ((ax_L_law_.drop 1020).take 60) = true := by decide +kernel
theorem ck_law_1080 : ckL (sMdG 307) (fun j => px_L_law_.getD j 0) 1080 ((C_L_law_.drop 1080).take 60) ((ax_L_law_.drop 1080).take 60) = true := by decide +kernel
theorem ck_law_1140 : ckL (sMdG 307) (fun j => px_L_law_.getD j 0) 1140 ((C_L_law_.drop 1140).take 60) ((ax_L_law_.drop 1140).take 60) = true := by decide +kernel
theorem ck_law_1200 : ckL (sMdG 307) (fun j => px_L_law_.getD j 0) 1200 ((C_L_law_.drop 1200).take 60) ((ax_L_law_.drop 1200).take 60) = true := by decide +kernel
theorem ck_law_1260 : ckL (sMdG 307) (fun j => px_L_law_.getD j 0) 1260 ((C_L_law_.drop 1260).take 60) ((ax_L_law_.drop 1260).take 60) = true := by decide +kernel
theorem ck_law_1320 : ckL (sMdG 307) (fun j => px_L_law_.getD j 0) 1320 ((C_L_law_.drop 1320).take 60) ((ax_L_law_.drop 1320).take 60) = true := by decide +kernel
theorem ck_law_1380 : ckL (sMdG 307) (fun j => px_L_law_.getD j 0) 1380 ((C_L_law_.drop 1380).take 60) ((ax_L_law_.drop 1380).take 60) = true := by decide +kernel
theorem ck_law_1440 : ckL (sMdG 307) (fun j => px_L_law_.getD j 0) 1440 ((C_L_law_.drop 1440).take 60) ((ax_L_law_.drop 1440).take 60) = true := by decide +kernel
theorem ck_law_len : C_L_law_.length = ax_L_law_.length := by decide +kernel
theorem ck_law_e : ckL (sMdG 307) (fun j => px_L_law_.getD j 0) 1500 (C_L_law_.drop 1500) (ax_L_law_.drop 1500) = true := by decide +kernel
theorem cj_law_1440 : ckL (sMdG 307) (fun j => px_L_law_.getD j 0) 1440 (C_L_law_.drop 1440) (ax_L_law_.drop 1440) = true := ckL_app 60 _ _ _ (by rw [List.length_drop, List.length_drop, ck_law_len]) ck_law_1440 (by rw [List.drop_drop, List.drop_drop]; exact ck_law_e)
theorem cj_law_1380 : ckL (sMdG 307) (fun j => px_L_law_.getD j 0) 1380 (C_L_law_.drop 1380) (ax_L_law_.drop 1380) = true := ckL_app 60 _ _ _ (by rw [List.length_drop, List.length_drop, ck_law_len]) ck_law_1380 (by rw [List.drop_drop, List.drop_drop]; exact cj_law_1440)
theorem cj_law_1320 : ckL (sMdG 307) (fun j => px_L_law_.getD j 0) 1320 (C_L_law_.drop 1320) (ax_L_law_.drop 1320) = true := ckL_app 60 _ _ _ (by rw [List.length_drop, List.length_drop, ck_law_len]) ck_law_1320 (by rw [List.drop_drop, List.drop_drop]; exact cj_law_1380)
theorem cj_law_1260 : ckL (sMdG 307) (fun j => px_L_law_.getD j 0) 1260 (C_L_law_.drop 1260) (ax_L_law_.drop 1260) = true := ckL_app 60 _ _ _ (by rw [List.length_drop, List.length_drop, ck_law_len]) ck_law_1260 (by rw [List.drop_drop, List.drop_drop]; exact cj_law_1320)
theorem cj_law_1200 : ckL (sMdG 307) (fun j => px_L_law_.getD j 0) 1200 (C_L_law_.drop 1200) (ax_L_law_.drop 1200) = true := ckL_app 60 _ _ _ (by rw [List.length_drop, List.length_drop, ck_law_len]) ck_law_1200 (by rw [List.drop_drop, List.drop_drop]; exact cj_law_1260)
theorem cj_law_1140 : ckL (sMdG 307) (fun j => px_L_law_.getD j 0) 1140 (C_L_law_.drop 1140) (ax_L_law_.drop 1140) = true := ckL_app 60 _ _ _ (by rw [List.length_drop, List.length_drop, ck_law_len]) ck_law_1140 (by rw [List.drop_drop, List.drop_drop]; exact cj_law_1200)
theorem cj_law_1080 : ckL (sMdG 307) (fun j => px_L_law_.getD j 0) 1080 (C_L_law_.drop 1080) (ax_L_law_.drop 1080) = true := ckL_app 60 _ _ _ (by rw [List.length_drop, List.length_drop, ck_law_len]) ck_law_1080 (by rw [List.drop_drop, List.drop_drop]; exact cj_law_1140)
theorem cj_law_1020 : ckL (sMdG 307) (fun j => px_L_law_.getD j 0) 1020 (C_L_law_.drop 1020) (ax_L_law_.drop 1020) = true := ckL_app 60 _ _ _ (by rw [List.length_drop, List.length_drop, ck_law_len]) ck_law_1020 (by rw [List.drop_drop, List.drop_drop]; exact cj_law_1080)
theorem cj_law_960 : ckL (sMdG 307) (fun j => px_L_law_.getD j 0) 960 (C_L_law_.drop 960) (ax_L_law_.drop 960) = true := ckL_app 60 _ _ _ (by rw [List.length_drop, List.length_drop, ck_law_len]) ck_law_960 (by rw [List.drop_drop, List.drop_drop]; exact cj_law_1020)
theorem cj_law_900 : ckL (sMdG 307) (fun j => px_L_law_.getD j 0) 900 (C_L_law_.drop 900) (ax_L_law_.drop 900) = true := ckL_app 60 _ _ _ (by rw [List.length_drop, List.length_drop, ck_law_len]) ck_law_900 (by rw [List.drop_drop, List.drop_drop]; exact cj_law_960)
theorem cj_law_840 : ckL (sMdG 307) (fun j => px_L_law_.getD j 0) 840 (C_L_law_.drop 840) (ax_L_law_.drop 840) = true := ckL_app 60 _ _ _ (by rw [List.length_drop, List.length_drop, ck_law_len]) ck_law_840 (by rw [List.drop_drop, List.drop_drop]; exact cj_law_900)
theorem cj_law_780 : ckL (sMdG 307) (fun j => px_L_law_.getD j 0) 780 (C_L_law_.drop 780) (ax_L_law_.drop 780) = true := ckL_app 60 _ _ _ (by rw [List.length_drop, List.length_drop, ck_law_len]) ck_law_780 (by rw [List.drop_drop, List.drop_drop]; exact cj_law_840)
theorem cj_law_720 : ckL (sMdG 307) (fun j => px_L_law_.getD j 0) 720 (C_L_law_.drop 720) (ax_L_law_.drop 720) = true := ckL_app 60 _ _ _ (by rw [List.length_drop, List.length_drop, ck_law_len]) ck_law_720 (by rw [List.drop_drop, List.drop_drop]; exact cj_law_780)
theorem cj_law_660 : ckL (sMdG 307) (fun j => px_L_law_.getD j 0) 660 (C_L_law_.drop 660) (ax_L_law_.drop 660) = true := ckL_app 60 _ _ _ (by rw [List.length_drop, List.length_drop, ck_law_len]) ck_law_660 (by rw [List.drop_drop, List.drop_drop]; exact cj_law_720)
theorem cj_law_600 : ckL (sMdG 307) (fun j => px_L_law_.getD j 0) 600 (C_L_law_.drop 600) (ax_L_law_.drop 600) = true := ckL_app 60 _ _ _ (by rw [List.length_drop, List.length_drop, ck_law_len]) ck_law_600 (by rw [List.drop_drop, List.drop_drop]; exact cj_law_660)
theorem cj_law_540 : ckL (sMdG 307) (fun j => px_L_law_.getD j 0) 540 (C_L_law_.drop 540) (ax_L_law_.drop 540) = true := ckL_app 60 _ _ _ (by rw [List.length_drop, List.length_drop, ck_law_len]) ck_law_540 (by rw [List.drop_drop, List.drop_drop]; exact cj_law_600)
theorem cj_law_480 : ckL (sMdG 307) (fun j => px_L_law_.getD j 0) 480 (C_L_law_.drop 480) (ax_L_law_.drop 480) = true := ckL_app 60 _ _ _ (by rw [List.length_drop, List.length_drop, ck_law_len]) ck_law_480 (by rw [List.drop_drop, List.drop_drop]; exact cj_law_540)
theorem cj_law_420 : ckL (sMdG 307) (fun j => px_L_law_.getD j 0) 420 (C_L_law_.drop 420) (ax_L_law_.drop 420) = true := ckL_app 60 _ _ _ (by rw [List.length_drop, List.length_drop, ck_law_len]) ck_law_420 (by rw [List.drop_drop, List.drop_drop]; exact cj_law_480)
theorem cj_law_360 : ckL (sMdG 307) (fun j => px_L_law_.getD j 0) 360 (C_L_law_.drop 360) (ax_L_law_.drop 360) = true := ckL_app 60 _ _ _ (by rw [List.length_drop, List.length_drop, ck_law_len]) ck_law_360 (by rw [List.drop_drop, List.drop_drop]; exact cj_law_420)
theorem cj_law_300 : ckL (sMdG 307) (fun j => px_L_law_.getD j 0) 300 (C_L_law_.drop 300) (ax_L_law_.drop 300) = true := ckL_app 60 _ _ _ (by rw [List.length_drop, List.length_drop, ck_law_len]) ck_law_300 (by rw [List.drop_drop, List.drop_drop]; exact cj_law_360)
theorem cj_law_240 : ckL (sMdG 307) (fun j => px_L_law_.getD j 0) 240 (C_L_law_.drop 240) (ax_L_law_.drop 240) = true := ckL_app 60 _ _ _ (by rw [List.length_drop, List.length_drop, ck_law_len]) ck_law_240 (by rw [List.drop_drop, List.drop_drop]; exact cj_law_300)
theorem cj_law_180 : ckL (sMdG 307) (fun j => px_L_law_.getD j 0) 180 (C_L_law_.drop 180) (ax_L_law_.drop 180) = true := ckL_app 60 _ _ _ (by rw [List.length_drop, List.length_drop, ck_law_len]) ck_law_180 (by rw [List.drop_drop, List.drop_drop]; exact cj_law_240)
theorem cj_law_120 : ckL (sMdG 307) (fun j => px_L_law_.getD j 0) 120 (C_L_law_.drop 120) (ax_L_law_.drop 120) = true := ckL_app 60 _ _ _ (by rw [List.length_drop, List.length_drop, ck_law_len]) ck_law_120 (by rw [List.drop_drop, List.drop_drop]; exact cj_law_180)
theorem cj_law_60 : ckL (sMdG 307) (fun j => px_L_law_.getD j 0) 60 (C_L_law_.drop 60) (ax_L_law_.drop 60) = true := ckL_app 60 _ _ _ (by rw [List.length_drop, List.length_drop, ck_law_len]) ck_law_60 (by rw [List.drop_drop, List.drop_drop]; exact cj_law_120)
theorem cj_law_0 : ckL (sMdG 307) (fun j => px_L_law_.getD j 0) 0 (C_L_law_.drop 0) (ax_L_law_.drop 0) = true := ckL_app 60 _ _ _ (by rw [List.length_drop, List.length_drop, ck_law_len]) ck_law_0 (by rw [List.drop_drop, List.drop_drop]; exact cj_law_60)
theorem ok_L_law_ : okM 307 := fun i k h => by
  have h2 := ckL_ok _ _ _ cj_law_0 i k h
  rw [Nat.zero_add] at h2
  exact h2
theorem ok_all : ∀ M, M < 310 → okM M
  | 0, _ => ok_X0_init
  | 1, _ => ok_X0_clear
  | 2, _ => ok_X0_copyFrom
  | 3, _ => ok_X0_parse
  | 4, _ => ok_X0_parseLine
  | 5, _ => ok_X0_amountAfter
  | 6, _ => ok_X0_latestDay
  | 7, _ => ok_X1_init
  | 8, _ => ok_X1_take
  | 9, _ => ok_X1_giveTo
  | 10, _ => ok_X2_init
  | 11, _ => ok_X2_clear
  | 12, _ => ok_X2_copyFrom
  | 13, _ => ok_X2_parse
  | 14, _ => ok_X2_parseSum
  | 15, _ => ok_X2_parseProduct
  | 16, _ => ok_X2_parseUnit
  | 17, _ => ok_X2_parseBracket
  | 18, _ => ok_X2_parseChoice
  | 19, _ => ok_X2_inputNamed
  | 20, _ => ok_X2_add
  | 21, _ => ok_X2_force
  | 22, _ => ok_X2_joined
  | 23, _ => ok_X3_init
  | 24, _ => ok_X3_forget
  | 25, _ => ok_X3_ask
  | 26, _ => ok_X3_strikeWrong
  | 27, _ => ok_X3_strikeUnlike
  | 28, _ => ok_X3_countLeft
  | 29, _ => ok_X3_chooseLook
  | 30, _ => ok_X3_begin
  | 31, _ => ok_X3_strongOf
  | 32, _ => ok_X3_grow
  | 33, _ => ok_X3_mostAlike
  | 34, _ => ok_X4_init
  | 35, _ => ok_X4_keep
  | 36, _ => ok_X4_giveBack
  | 37, _ => ok_X4_copyFrom
  | 38, _ => ok_X5_init
  | 39, _ => ok_X5_forget
  | 40, _ => ok_X5_find
  | 41, _ => ok_X5_tryFrom
  | 42, _ => ok_X5_isPeaceful
  | 43, _ => ok_X6_init
  | 44, _ => ok_X6_begin
  | 45, _ => ok_X6_copyFrom
  | 46, _ => ok_X6_amount
  | 47, _ => ok_X6_houseOf
  | 48, _ => ok_X6_feltIn
  | 49, _ => ok_X6_daysOf
  | 50, _ => ok_X6_pianoIn
  | 51, _ => ok_X6_standing
  | 52, _ => ok_X6_occupied
  | 53, _ => ok_X6_put
  | 54, _ => ok_X6_takeOut
  | 55, _ => ok_X6_lay
  | 56, _ => ok_X6_passDay
  | 57, _ => ok_X6_fights
  | 58, _ => ok_X6_fightsAt
  | 59, _ => ok_X6_fighters
  | 60, _ => ok_X6_force
  | 61, _ => ok_X6_brings
  | 62, _ => ok_X6_measure
  | 63, _ => ok_X6_netForce
  | 64, _ => ok_X6_thingIn
  | 65, _ => ok_X6_mostBut
  | 66, _ => ok_X6_lead
  | 67, _ => ok_X6_kindsIn
  | 68, _ => ok_X6_total
  | 69, _ => ok_X6_content
  | 70, _ => ok_X6_otherThanTold
  | 71, _ => ok_X7_init
  | 72, _ => ok_X7_hasRoom
  | 73, _ => ok_X7_add
  | 74, _ => ok_X7_open
  | 75, _ => ok_X7_peek
  | 76, _ => ok_X7_ended
  | 77, _ => ok_X7_sees
  | 78, _ => ok_X7_takes
  | 79, _ => ok_X7_takesNumber
  | 80, _ => ok_X7_takesWord
  | 81, _ => ok_X7_isWord
  | 82, _ => ok_X7_cannotStand
  | 83, _ => ok_X7_failsToken
  | 84, _ => ok_X7_fails
  | 85, _ => ok_X8_init
  | 86, _ => ok_X8_copyFrom
  | 87, _ => ok_X8_parse
  | 88, _ => ok_X8_parseClause
  | 89, _ => ok_X8_clauseKind
  | 90, _ => ok_X8_isFull
  | 91, _ => ok_X8_parseHouse
  | 92, _ => ok_X8_parseWall
  | 93, _ => ok_X8_parsePiano
  | 94, _ => ok_X8_parseWish
  | 95, _ => ok_X8_parseFelt
  | 96, _ => ok_X8_hasWall
  | 97, _ => ok_X8_besideAny
  | 98, _ => ok_X8_given
  | 99, _ => ok_X9_init
  | 100, _ => ok_X9_parse
  | 101, _ => ok_X9_parseSteps
  | 102, _ => ok_X9_parseStep
  | 103, _ => ok_X9_takesPiano
  | 104, _ => ok_X9_parseSecond
  | 105, _ => ok_X9_parseAgain
  | 106, _ => ok_X9_addStep
  | 107, _ => ok_X9_doSteps
  | 108, _ => ok_X9_doStep
  | 109, _ => ok_X10_init
  | 110, _ => ok_X10_play
  | 111, _ => ok_X10_putAny
  | 112, _ => ok_X10_draw
  | 113, _ => ok_X11_init
  | 114, _ => ok_X11_feed
  | 115, _ => ok_X11_terrace
  | 116, _ => ok_X11_law
  | 117, _ => ok_X11_work
  | 118, _ => ok_X11_book
  | 119, _ => ok_X11_fault
  | 120, _ => ok_X11_undo
  | 121, _ => ok_X11_openText
  | 122, _ => ok_X11_told
  | 123, _ => ok_X11_house
  | 124, _ => ok_X11_there
  | 125, _ => ok_X11_wall
  | 126, _ => ok_X11_piano
  | 127, _ => ok_X11_would
  | 128, _ => ok_X11_those
  | 129, _ => ok_X11_loudest
  | 130, _ => ok_X11_quiet
  | 131, _ => ok_X11_changed
  | 132, _ => ok_X11_oldest
  | 133, _ => ok_X11_empty
  | 134, _ => ok_X11_margin
  | 135, _ => ok_X11_ahead
  | 136, _ => ok_X11_when
  | 137, _ => ok_X11_muffle
  | 138, _ => ok_X11_tunes
  | 139, _ => ok_X11_places
  | 140, _ => ok_X11_placed
  | 141, _ => ok_X11_from
  | 142, _ => ok_X11_look
  | 143, _ => ok_X11_year
  | 144, _ => ok_X11_span
  | 145, _ => ok_X11_needYear
  | 146, _ => ok_X11_way
  | 147, _ => ok_X11_alone
  | 148, _ => ok_X11_price
  | 149, _ => ok_X11_commonDivisor
  | 150, _ => ok_X11_tuner
  | 151, _ => ok_X11_isRest
  | 152, _ => ok_X11_tunerHas
  | 153, _ => ok_X11_houseHas
  | 154, _ => ok_X11_share
  | 155, _ => ok_X11_image
  | 156, _ => ok_X11_restore
  | 157, _ => ok_X11_status
  | 158, _ => ok_X11_count
  | 159, _ => ok_X11_needHouse
  | 160, _ => ok_X11_needPiano
  | 161, _ => ok_X11_needMember
  | 162, _ => ok_X11_needThing
  | 163, _ => ok_X11_needRange
  | 164, _ => ok_X12_init
  | 165, _ => ok_X12_tellsNothing
  | 166, _ => ok_X12_thrown
  | 167, _ => ok_X12_bad
  | 168, _ => ok_X12_in
  | 169, _ => ok_X12_less
  | 170, _ => ok_X12_more
  | 171, _ => ok_X12_has
  | 172, _ => ok_X12_feed
  | 173, _ => ok_X12_byteAt
  | 174, _ => ok_X12_blanks
  | 175, _ => ok_X12_wrong
  | 176, _ => ok_X12_isDigit
  | 177, _ => ok_X12_isSmall
  | 178, _ => ok_X12_number
  | 179, _ => ok_X12_wordHere
  | 180, _ => ok_X12_six
  | 181, _ => ok_X12_isWord
  | 182, _ => ok_X12_skipWord
  | 183, _ => ok_X12_takes
  | 184, _ => ok_X12_sign
  | 185, _ => ok_X12_takesSign
  | 186, _ => ok_X12_starts
  | 187, _ => ok_X12_ends
  | 188, _ => ok_X12_kindHere
  | 189, _ => ok_X12_mostOf
  | 190, _ => ok_X12_readHouse
  | 191, _ => ok_X12_isReadWall
  | 192, _ => ok_X12_clause
  | 193, _ => ok_X12_terrace
  | 194, _ => ok_X12_lays
  | 195, _ => ok_X12_copies
  | 196, _ => ok_X12_beginsAnew
  | 197, _ => ok_X12_notes
  | 198, _ => ok_X12_opensOne
  | 199, _ => ok_X12_sum
  | 200, _ => ok_X12_product
  | 201, _ => ok_X12_knownHere
  | 202, _ => ok_X12_one
  | 203, _ => ok_X12_law
  | 204, _ => ok_X12_by
  | 205, _ => ok_X12_byLaw
  | 206, _ => ok_X12_stepHere
  | 207, _ => ok_X12_readsStep
  | 208, _ => ok_X12_book
  | 209, _ => ok_X12_fault
  | 210, _ => ok_X12_isWall
  | 211, _ => ok_X12_isBeside
  | 212, _ => ok_X12_isFight
  | 213, _ => ok_X12_forceBy
  | 214, _ => ok_X12_forceWith
  | 215, _ => ok_X12_forceOf
  | 216, _ => ok_X12_brings
  | 217, _ => ok_X12_pianoIn
  | 218, _ => ok_X12_puts2
  | 219, _ => ok_X12_dayEnds
  | 220, _ => ok_X12_does
  | 221, _ => ok_X12_goes
  | 222, _ => ok_X12_work
  | 223, _ => ok_X12_undo
  | 224, _ => ok_X12_amount
  | 225, _ => ok_X12_thingOf
  | 226, _ => ok_X12_wishedIn
  | 227, _ => ok_X12_changedIn
  | 228, _ => ok_X12_allIn
  | 229, _ => ok_X12_fightsOf
  | 230, _ => ok_X12_told
  | 231, _ => ok_X12_isHouse
  | 232, _ => ok_X12_isPiano
  | 233, _ => ok_X12_isThing
  | 234, _ => ok_X12_house
  | 235, _ => ok_X12_there
  | 236, _ => ok_X12_wall
  | 237, _ => ok_X12_piano
  | 238, _ => ok_X12_would
  | 239, _ => ok_X12_ahead
  | 240, _ => ok_X12_when
  | 241, _ => ok_X12_muffle
  | 242, _ => ok_X12_putsFrom
  | 243, _ => ok_X12_placesAll
  | 244, _ => ok_X12_places
  | 245, _ => ok_X12_placed
  | 246, _ => ok_X12_laysHeard
  | 247, _ => ok_X12_isHeard
  | 248, _ => ok_X12_from
  | 249, _ => ok_X12_isTold
  | 250, _ => ok_X12_look
  | 251, _ => ok_X12_way
  | 252, _ => ok_X12_ones
  | 253, _ => ok_X12_alone
  | 254, _ => ok_X12_price
  | 255, _ => ok_X12_hisBy
  | 256, _ => ok_X12_itsBy
  | 257, _ => ok_X12_tuner
  | 258, _ => ok_X12_givenBy
  | 259, _ => ok_X12_share
  | 260, _ => ok_X12_those
  | 261, _ => ok_X12_loudest
  | 262, _ => ok_X12_quiet
  | 263, _ => ok_X12_tunes
  | 264, _ => ok_X12_oldest
  | 265, _ => ok_X12_empty
  | 266, _ => ok_X12_margin
  | 267, _ => ok_X12_changed
  | 268, _ => ok_X12_draw
  | 269, _ => ok_X12_yearBy
  | 270, _ => ok_X12_isYear
  | 271, _ => ok_X12_year
  | 272, _ => ok_X12_span
  | 273, _ => ok_X12_puts
  | 274, _ => ok_X12_putsAll
  | 275, _ => ok_X12_image
  | 276, _ => ok_X12_restore
  | 277, _ => ok_X12_status
  | 278, _ => ok_X12_count
  | 279, _ => ok_L_terrace
  | 280, _ => ok_L_law
  | 281, _ => ok_L_work
  | 282, _ => ok_L_book
  | 283, _ => ok_L_told
  | 284, _ => ok_L_house
  | 285, _ => ok_L_there
  | 286, _ => ok_L_wall
  | 287, _ => ok_L_piano
  | 288, _ => ok_L_would
  | 289, _ => ok_L_ahead
  | 290, _ => ok_L_when
  | 291, _ => ok_L_muffle
  | 292, _ => ok_L_placed
  | 293, _ => ok_L_from
  | 294, _ => ok_L_look
  | 295, _ => ok_L_way
  | 296, _ => ok_L_price
  | 297, _ => ok_L_tuner
  | 298, _ => ok_L_share
  | 299, _ => ok_L_those
  | 300, _ => ok_L_loudest
  | 301, _ => ok_L_quiet
  | 302, _ => ok_L_oldest
  | 303, _ => ok_L_margin
  | 304, _ => ok_L_tunes
  | 305, _ => ok_L_year
  | 306, _ => ok_L_span
  | 307, _ => ok_L_law_
  | 308, _ => ok_J6_bitCount_0f7a4
  | 309, _ => ok_J7_fill_53178
  | z + 310, h => absurd h (by omega)
