/-! SOUNDNESS, 4: the checks -/
theorem ck_X0_clear : ckL yX0_clear prog_2_method_2_code none (fun j => px_X0_clear.getD j 0) 0 C_X0_clear ax_X0_clear = true := by decide +kernel
theorem ok_X0_clear : okM 1 := fun i k h => by
  have h2 := ckL_ok _ _ _ ck_X0_clear i k h
  rw [Nat.zero_add] at h2
  exact h2
theorem ck_X0_parseLine : ckL yX0_parseLine prog_2_method_5_code (some .boolean) (fun j => px_X0_parseLine.getD j 0) 0 C_X0_parseLine ax_X0_parseLine = true := by decide +kernel
theorem ok_X0_parseLine : okM 4 := fun i k h => by
  have h2 := ckL_ok _ _ _ ck_X0_parseLine i k h
  rw [Nat.zero_add] at h2
  exact h2
theorem ck_X2_parseBracket : ckL yX2_parseBracket prog_4_method_8_code (some .boolean) (fun j => px_X2_parseBracket.getD j 0) 0 C_X2_parseBracket ax_X2_parseBracket = true := by decide +kernel
theorem ok_X2_parseBracket : okM 17 := fun i k h => by
  have h2 := ckL_ok _ _ _ ck_X2_parseBracket i k h
  rw [Nat.zero_add] at h2
  exact h2
theorem ck_X2_inputNamed : ckL yX2_inputNamed prog_4_method_10_code (some .int) (fun j => px_X2_inputNamed.getD j 0) 0 C_X2_inputNamed ax_X2_inputNamed = true := by decide +kernel
theorem ok_X2_inputNamed : okM 19 := fun i k h => by
  have h2 := ckL_ok _ _ _ ck_X2_inputNamed i k h
  rw [Nat.zero_add] at h2
  exact h2
theorem ck_X3_init : ckL yX3_init prog_5_method_1_code none (fun j => px_X3_init.getD j 0) 0 C_X3_init ax_X3_init = true := by decide +kernel
theorem ok_X3_init : okM 23 := fun i k h => by
  have h2 := ckL_ok _ _ _ ck_X3_init i k h
  rw [Nat.zero_add] at h2
  exact h2
theorem ck_X3_strikeUnlike : ckL yX3_strikeUnlike prog_5_method_5_code none (fun j => px_X3_strikeUnlike.getD j 0) 0 C_X3_strikeUnlike ax_X3_strikeUnlike = true := by decide +kernel
theorem ok_X3_strikeUnlike : okM 27 := fun i k h => by
  have h2 := ckL_ok _ _ _ ck_X3_strikeUnlike i k h
  rw [Nat.zero_add] at h2
  exact h2
theorem ck_X3_chooseLook : ckL yX3_chooseLook prog_5_method_7_code none (fun j => px_X3_chooseLook.getD j 0) 0 C_X3_chooseLook ax_X3_chooseLook = true := by decide +kernel
theorem ok_X3_chooseLook : okM 29 := fun i k h => by
  have h2 := ckL_ok _ _ _ ck_X3_chooseLook i k h
  rw [Nat.zero_add] at h2
  exact h2
theorem ck_X5_tryFrom : ckL yX5_tryFrom prog_7_method_4_code none (fun j => px_X5_tryFrom.getD j 0) 0 C_X5_tryFrom ax_X5_tryFrom = true := by decide +kernel
theorem ok_X5_tryFrom : okM 41 := fun i k h => by
  have h2 := ckL_ok _ _ _ ck_X5_tryFrom i k h
  rw [Nat.zero_add] at h2
  exact h2
theorem ck_X6_brings : ckL yX6_brings prog_8_method_19_code (some .int) (fun j => px_X6_brings.getD j 0) 0 C_X6_brings ax_X6_brings = true := by decide +kernel
theorem ok_X6_brings : okM 61 := fun i k h => by
  have h2 := ckL_ok _ _ _ ck_X6_brings i k h
  rw [Nat.zero_add] at h2
  exact h2
theorem ck_X6_measure : ckL yX6_measure prog_8_method_20_code none (fun j => px_X6_measure.getD j 0) 0 C_X6_measure ax_X6_measure = true := by decide +kernel
theorem ok_X6_measure : okM 62 := fun i k h => by
  have h2 := ckL_ok _ _ _ ck_X6_measure i k h
  rw [Nat.zero_add] at h2
  exact h2
theorem ck_X6_netForce : ckL yX6_netForce prog_8_method_21_code (some .int) (fun j => px_X6_netForce.getD j 0) 0 C_X6_netForce ax_X6_netForce = true := by decide +kernel
theorem ok_X6_netForce : okM 63 := fun i k h => by
  have h2 := ckL_ok _ _ _ ck_X6_netForce i k h
  rw [Nat.zero_add] at h2
  exact h2
theorem ck_X6_total : ckL yX6_total prog_8_method_26_code (some .int) (fun j => px_X6_total.getD j 0) 0 C_X6_total ax_X6_total = true := by decide +kernel
theorem ok_X6_total : okM 68 := fun i k h => by
  have h2 := ckL_ok _ _ _ ck_X6_total i k h
  rw [Nat.zero_add] at h2
  exact h2
theorem ck_X7_init : ckL yX7_init prog_9_method_1_code none (fun j => px_X7_init.getD j 0) 0 C_X7_init ax_X7_init = true := by decide +kernel
theorem ok_X7_init : okM 71 := fun i k h => by
  have h2 := ckL_ok _ _ _ ck_X7_init i k h
  rw [Nat.zero_add] at h2
  exact h2
theorem ck_X7_hasRoom : ckL yX7_hasRoom prog_9_method_2_code (some .boolean) (fun j => px_X7_hasRoom.getD j 0) 0 C_X7_hasRoom ax_X7_hasRoom = true := by decide +kernel
theorem ok_X7_hasRoom : okM 72 := fun i k h => by
  have h2 := ckL_ok _ _ _ ck_X7_hasRoom i k h
  rw [Nat.zero_add] at h2
  exact h2
theorem ck_X7_add : ckL yX7_add prog_9_method_3_code none (fun j => px_X7_add.getD j 0) 0 C_X7_add ax_X7_add = true := by decide +kernel
theorem ok_X7_add : okM 73 := fun i k h => by
  have h2 := ckL_ok _ _ _ ck_X7_add i k h
  rw [Nat.zero_add] at h2
  exact h2
theorem ck_X7_sees : ckL yX7_sees prog_9_method_7_code (some .boolean) (fun j => px_X7_sees.getD j 0) 0 C_X7_sees ax_X7_sees = true := by decide +kernel
theorem ok_X7_sees : okM 77 := fun i k h => by
  have h2 := ckL_ok _ _ _ ck_X7_sees i k h
  rw [Nat.zero_add] at h2
  exact h2
theorem ck_X7_takesNumber : ckL yX7_takesNumber prog_9_method_9_code (some .boolean) (fun j => px_X7_takesNumber.getD j 0) 0 C_X7_takesNumber ax_X7_takesNumber = true := by decide +kernel
theorem ok_X7_takesNumber : okM 79 := fun i k h => by
  have h2 := ckL_ok _ _ _ ck_X7_takesNumber i k h
  rw [Nat.zero_add] at h2
  exact h2
theorem ck_X8_parseHouse : ckL yX8_parseHouse prog_10_method_7_code (some .boolean) (fun j => px_X8_parseHouse.getD j 0) 0 C_X8_parseHouse ax_X8_parseHouse = true := by decide +kernel
theorem ok_X8_parseHouse : okM 91 := fun i k h => by
  have h2 := ckL_ok _ _ _ ck_X8_parseHouse i k h
  rw [Nat.zero_add] at h2
  exact h2
theorem ck_X8_parseFelt : ckL yX8_parseFelt prog_10_method_11_code (some .boolean) (fun j => px_X8_parseFelt.getD j 0) 0 C_X8_parseFelt ax_X8_parseFelt = true := by decide +kernel
theorem ok_X8_parseFelt : okM 95 := fun i k h => by
  have h2 := ckL_ok _ _ _ ck_X8_parseFelt i k h
  rw [Nat.zero_add] at h2
  exact h2
theorem ck_X8_hasWall : ckL yX8_hasWall prog_10_method_12_code (some .boolean) (fun j => px_X8_hasWall.getD j 0) 0 C_X8_hasWall ax_X8_hasWall = true := by decide +kernel
theorem ok_X8_hasWall : okM 96 := fun i k h => by
  have h2 := ckL_ok _ _ _ ck_X8_hasWall i k h
  rw [Nat.zero_add] at h2
  exact h2
theorem ck_X8_besideAny : ckL yX8_besideAny prog_10_method_13_code (some .int) (fun j => px_X8_besideAny.getD j 0) 0 C_X8_besideAny ax_X8_besideAny = true := by decide +kernel
theorem ok_X8_besideAny : okM 97 := fun i k h => by
  have h2 := ckL_ok _ _ _ ck_X8_besideAny i k h
  rw [Nat.zero_add] at h2
  exact h2
theorem ck_X9_parse : ckL yX9_parse prog_11_method_2_code (some .boolean) (fun j => px_X9_parse.getD j 0) 0 C_X9_parse ax_X9_parse = true := by decide +kernel
theorem ok_X9_parse : okM 100 := fun i k h => by
  have h2 := ckL_ok _ _ _ ck_X9_parse i k h
  rw [Nat.zero_add] at h2
  exact h2
theorem ck_X9_takesPiano : ckL yX9_takesPiano prog_11_method_5_code (some .boolean) (fun j => px_X9_takesPiano.getD j 0) 0 C_X9_takesPiano ax_X9_takesPiano = true := by decide +kernel
theorem ok_X9_takesPiano : okM 103 := fun i k h => by
  have h2 := ckL_ok _ _ _ ck_X9_takesPiano i k h
  rw [Nat.zero_add] at h2
  exact h2
theorem ck_X9_parseSecond : ckL yX9_parseSecond prog_11_method_6_code (some .boolean) (fun j => px_X9_parseSecond.getD j 0) 0 C_X9_parseSecond ax_X9_parseSecond = true := by decide +kernel
theorem ok_X9_parseSecond : okM 104 := fun i k h => by
  have h2 := ckL_ok _ _ _ ck_X9_parseSecond i k h
  rw [Nat.zero_add] at h2
  exact h2
theorem ck_X9_parseAgain : ckL yX9_parseAgain prog_11_method_7_code (some .boolean) (fun j => px_X9_parseAgain.getD j 0) 0 C_X9_parseAgain ax_X9_parseAgain = true := by decide +kernel
theorem ok_X9_parseAgain : okM 105 := fun i k h => by
  have h2 := ckL_ok _ _ _ ck_X9_parseAgain i k h
  rw [Nat.zero_add] at h2
  exact h2
theorem ck_X10_init : ckL yX10_init prog_12_method_1_code none (fun j => px_X10_init.getD j 0) 0 C_X10_init ax_X10_init = true := by decide +kernel
theorem ok_X10_init : okM 109 := fun i k h => by
  have h2 := ckL_ok _ _ _ ck_X10_init i k h
  rw [Nat.zero_add] at h2
  exact h2
theorem ck_X10_play : ckL yX10_play prog_12_method_2_code none (fun j => px_X10_play.getD j 0) 0 C_X10_play ax_X10_play = true := by decide +kernel
theorem ok_X10_play : okM 110 := fun i k h => by
  have h2 := ckL_ok _ _ _ ck_X10_play i k h
  rw [Nat.zero_add] at h2
  exact h2
theorem ck_X10_putAny : ckL yX10_putAny prog_12_method_3_code none (fun j => px_X10_putAny.getD j 0) 0 C_X10_putAny ax_X10_putAny = true := by decide +kernel
theorem ok_X10_putAny : okM 111 := fun i k h => by
  have h2 := ckL_ok _ _ _ ck_X10_putAny i k h
  rw [Nat.zero_add] at h2
  exact h2
theorem ck_X11_feed : ckL yX11_feed prog_1_method_2_code (some .int) (fun j => px_X11_feed.getD j 0) 0 C_X11_feed ax_X11_feed = true := by decide +kernel
theorem ok_X11_feed : okM 114 := fun i k h => by
  have h2 := ckL_ok _ _ _ ck_X11_feed i k h
  rw [Nat.zero_add] at h2
  exact h2
theorem ck_X11_law : ckL yX11_law prog_1_method_4_code (some .int) (fun j => px_X11_law.getD j 0) 0 C_X11_law ax_X11_law = true := by decide +kernel
theorem ok_X11_law : okM 116 := fun i k h => by
  have h2 := ckL_ok _ _ _ ck_X11_law i k h
  rw [Nat.zero_add] at h2
  exact h2
theorem ck_X11_book : ckL yX11_book prog_1_method_6_code (some .int) (fun j => px_X11_book.getD j 0) 0 C_X11_book ax_X11_book = true := by decide +kernel
theorem ok_X11_book : okM 118 := fun i k h => by
  have h2 := ckL_ok _ _ _ ck_X11_book i k h
  rw [Nat.zero_add] at h2
  exact h2
theorem ck_X11_openText : ckL yX11_openText prog_1_method_9_code none (fun j => px_X11_openText.getD j 0) 0 C_X11_openText ax_X11_openText = true := by decide +kernel
theorem ok_X11_openText : okM 121 := fun i k h => by
  have h2 := ckL_ok _ _ _ ck_X11_openText i k h
  rw [Nat.zero_add] at h2
  exact h2
theorem ck_X11_house : ckL yX11_house prog_1_method_11_code (some .int) (fun j => px_X11_house.getD j 0) 0 C_X11_house ax_X11_house = true := by decide +kernel
theorem ok_X11_house : okM 123 := fun i k h => by
  have h2 := ckL_ok _ _ _ ck_X11_house i k h
  rw [Nat.zero_add] at h2
  exact h2
theorem ck_X11_would : ckL yX11_would prog_1_method_15_code (some .int) (fun j => px_X11_would.getD j 0) 0 C_X11_would ax_X11_would = true := by decide +kernel
theorem ok_X11_would : okM 127 := fun i k h => by
  have h2 := ckL_ok _ _ _ ck_X11_would i k h
  rw [Nat.zero_add] at h2
  exact h2
theorem ck_X11_tunes : ckL yX11_tunes prog_1_method_26_code (some .int) (fun j => px_X11_tunes.getD j 0) 0 C_X11_tunes ax_X11_tunes = true := by decide +kernel
theorem ok_X11_tunes : okM 138 := fun i k h => by
  have h2 := ckL_ok _ _ _ ck_X11_tunes i k h
  rw [Nat.zero_add] at h2
  exact h2
theorem ck_X11_needYear : ckL yX11_needYear prog_1_method_33_code none (fun j => px_X11_needYear.getD j 0) 0 C_X11_needYear ax_X11_needYear = true := by decide +kernel
theorem ok_X11_needYear : okM 145 := fun i k h => by
  have h2 := ckL_ok _ _ _ ck_X11_needYear i k h
  rw [Nat.zero_add] at h2
  exact h2
theorem ck_X11_alone : ckL yX11_alone prog_1_method_35_code (some .int) (fun j => px_X11_alone.getD j 0) 0 C_X11_alone ax_X11_alone = true := by decide +kernel
theorem ok_X11_alone : okM 147 := fun i k h => by
  have h2 := ckL_ok _ _ _ ck_X11_alone i k h
  rw [Nat.zero_add] at h2
  exact h2
theorem ck_X11_commonDivisor : ckL yX11_commonDivisor prog_1_method_37_code (some .long) (fun j => px_X11_commonDivisor.getD j 0) 0 C_X11_commonDivisor ax_X11_commonDivisor = true := by decide +kernel
theorem ok_X11_commonDivisor : okM 149 := fun i k h => by
  have h2 := ckL_ok _ _ _ ck_X11_commonDivisor i k h
  rw [Nat.zero_add] at h2
  exact h2
theorem ck_X11_isRest : ckL yX11_isRest prog_1_method_39_code (some .boolean) (fun j => px_X11_isRest.getD j 0) 0 C_X11_isRest ax_X11_isRest = true := by decide +kernel
theorem ok_X11_isRest : okM 151 := fun i k h => by
  have h2 := ckL_ok _ _ _ ck_X11_isRest i k h
  rw [Nat.zero_add] at h2
  exact h2
theorem ck_X11_tunerHas : ckL yX11_tunerHas prog_1_method_40_code (some .int) (fun j => px_X11_tunerHas.getD j 0) 0 C_X11_tunerHas ax_X11_tunerHas = true := by decide +kernel
theorem ok_X11_tunerHas : okM 152 := fun i k h => by
  have h2 := ckL_ok _ _ _ ck_X11_tunerHas i k h
  rw [Nat.zero_add] at h2
  exact h2
theorem ck_X11_houseHas : ckL yX11_houseHas prog_1_method_41_code (some .int) (fun j => px_X11_houseHas.getD j 0) 0 C_X11_houseHas ax_X11_houseHas = true := by decide +kernel
theorem ok_X11_houseHas : okM 153 := fun i k h => by
  have h2 := ckL_ok _ _ _ ck_X11_houseHas i k h
  rw [Nat.zero_add] at h2
  exact h2
theorem ck_X11_share : ckL yX11_share prog_1_method_42_code (some .int) (fun j => px_X11_share.getD j 0) 0 C_X11_share ax_X11_share = true := by decide +kernel
theorem ok_X11_share : okM 154 := fun i k h => by
  have h2 := ckL_ok _ _ _ ck_X11_share i k h
  rw [Nat.zero_add] at h2
  exact h2
theorem ck_X11_needHouse : ckL yX11_needHouse prog_1_method_47_code none (fun j => px_X11_needHouse.getD j 0) 0 C_X11_needHouse ax_X11_needHouse = true := by decide +kernel
theorem ok_X11_needHouse : okM 159 := fun i k h => by
  have h2 := ckL_ok _ _ _ ck_X11_needHouse i k h
  rw [Nat.zero_add] at h2
  exact h2
theorem ck_X11_needMember : ckL yX11_needMember prog_1_method_49_code none (fun j => px_X11_needMember.getD j 0) 0 C_X11_needMember ax_X11_needMember = true := by decide +kernel
theorem ok_X11_needMember : okM 161 := fun i k h => by
  have h2 := ckL_ok _ _ _ ck_X11_needMember i k h
  rw [Nat.zero_add] at h2
  exact h2
theorem ck_X12_tellsNothing : ckL yX12_tellsNothing prog_14_method_2_code none (fun j => px_X12_tellsNothing.getD j 0) 0 C_X12_tellsNothing ax_X12_tellsNothing = true := by decide +kernel
theorem ok_X12_tellsNothing : okM 165 := fun i k h => by
  have h2 := ckL_ok _ _ _ ck_X12_tellsNothing i k h
  rw [Nat.zero_add] at h2
  exact h2
theorem ck_X12_blanks : ckL yX12_blanks prog_14_method_11_code none (fun j => px_X12_blanks.getD j 0) 0 C_X12_blanks ax_X12_blanks = true := by decide +kernel
theorem ok_X12_blanks : okM 174 := fun i k h => by
  have h2 := ckL_ok _ _ _ ck_X12_blanks i k h
  rw [Nat.zero_add] at h2
  exact h2
theorem ck_X12_isDigit : ckL yX12_isDigit prog_14_method_13_code (some .boolean) (fun j => px_X12_isDigit.getD j 0) 0 C_X12_isDigit ax_X12_isDigit = true := by decide +kernel
theorem ok_X12_isDigit : okM 176 := fun i k h => by
  have h2 := ckL_ok _ _ _ ck_X12_isDigit i k h
  rw [Nat.zero_add] at h2
  exact h2
theorem ck_X12_number : ckL yX12_number prog_14_method_15_code (some .int) (fun j => px_X12_number.getD j 0) 0 C_X12_number ax_X12_number = true := by decide +kernel
theorem ok_X12_number : okM 178 := fun i k h => by
  have h2 := ckL_ok _ _ _ ck_X12_number i k h
  rw [Nat.zero_add] at h2
  exact h2
theorem ck_X12_starts : ckL yX12_starts prog_14_method_23_code none (fun j => px_X12_starts.getD j 0) 0 C_X12_starts ax_X12_starts = true := by decide +kernel
theorem ok_X12_starts : okM 186 := fun i k h => by
  have h2 := ckL_ok _ _ _ ck_X12_starts i k h
  rw [Nat.zero_add] at h2
  exact h2
theorem ck_X12_mostOf : ckL yX12_mostOf prog_14_method_26_code (some .int) (fun j => px_X12_mostOf.getD j 0) 0 C_X12_mostOf ax_X12_mostOf = true := by decide +kernel
theorem ok_X12_mostOf : okM 189 := fun i k h => by
  have h2 := ckL_ok _ _ _ ck_X12_mostOf i k h
  rw [Nat.zero_add] at h2
  exact h2
theorem ck_X12_isReadWall : ckL yX12_isReadWall prog_14_method_28_code (some .boolean) (fun j => px_X12_isReadWall.getD j 0) 0 C_X12_isReadWall ax_X12_isReadWall = true := by decide +kernel
theorem ok_X12_isReadWall : okM 191 := fun i k h => by
  have h2 := ckL_ok _ _ _ ck_X12_isReadWall i k h
  rw [Nat.zero_add] at h2
  exact h2
theorem ck_X12_terrace : ckL yX12_terrace prog_14_method_30_code (some .int) (fun j => px_X12_terrace.getD j 0) 0 C_X12_terrace ax_X12_terrace = true := by decide +kernel
theorem ok_X12_terrace : okM 193 := fun i k h => by
  have h2 := ckL_ok _ _ _ ck_X12_terrace i k h
  rw [Nat.zero_add] at h2
  exact h2
theorem ck_X12_notes : ckL yX12_notes prog_14_method_34_code none (fun j => px_X12_notes.getD j 0) 0 C_X12_notes ax_X12_notes = true := by decide +kernel
theorem ok_X12_notes : okM 197 := fun i k h => by
  have h2 := ckL_ok _ _ _ ck_X12_notes i k h
  rw [Nat.zero_add] at h2
  exact h2
theorem ck_X12_opensOne : ckL yX12_opensOne prog_14_method_35_code (some .boolean) (fun j => px_X12_opensOne.getD j 0) 0 C_X12_opensOne ax_X12_opensOne = true := by decide +kernel
theorem ok_X12_opensOne : okM 198 := fun i k h => by
  have h2 := ckL_ok _ _ _ ck_X12_opensOne i k h
  rw [Nat.zero_add] at h2
  exact h2
theorem ck_X12_product : ckL yX12_product prog_14_method_37_code none (fun j => px_X12_product.getD j 0) 0 C_X12_product ax_X12_product = true := by decide +kernel
theorem ok_X12_product : okM 200 := fun i k h => by
  have h2 := ckL_ok _ _ _ ck_X12_product i k h
  rw [Nat.zero_add] at h2
  exact h2
theorem ck_X12_one : ckL yX12_one prog_14_method_39_code none (fun j => px_X12_one.getD j 0) 0 C_X12_one ax_X12_one = true := by decide +kernel
theorem ok_X12_one : okM 202 := fun i k h => by
  have h2 := ckL_ok _ _ _ ck_X12_one i k h
  rw [Nat.zero_add] at h2
  exact h2
theorem ck_X12_stepHere : ckL yX12_stepHere prog_14_method_43_code (some .int) (fun j => px_X12_stepHere.getD j 0) 0 C_X12_stepHere ax_X12_stepHere = true := by decide +kernel
theorem ok_X12_stepHere : okM 206 := fun i k h => by
  have h2 := ckL_ok _ _ _ ck_X12_stepHere i k h
  rw [Nat.zero_add] at h2
  exact h2
theorem ck_X12_book : ckL yX12_book prog_14_method_45_code (some .int) (fun j => px_X12_book.getD j 0) 0 C_X12_book ax_X12_book = true := by decide +kernel
theorem ok_X12_book : okM 208 := fun i k h => by
  have h2 := ckL_ok _ _ _ ck_X12_book i k h
  rw [Nat.zero_add] at h2
  exact h2
theorem ck_X12_work : ckL yX12_work prog_14_method_59_code (some .int) (fun j => px_X12_work.getD j 0) 0 C_X12_work ax_X12_work = true := by decide +kernel
theorem ok_X12_work : okM 222 := fun i k h => by
  have h2 := ckL_ok _ _ _ ck_X12_work i k h
  rw [Nat.zero_add] at h2
  exact h2
theorem ck_X12_house : ckL yX12_house prog_14_method_71_code (some .int) (fun j => px_X12_house.getD j 0) 0 C_X12_house ax_X12_house = true := by decide +kernel
theorem ok_X12_house : okM 234 := fun i k h => by
  have h2 := ckL_ok _ _ _ ck_X12_house i k h
  rw [Nat.zero_add] at h2
  exact h2
theorem ck_X12_putsFrom : ckL yX12_putsFrom prog_14_method_79_code none (fun j => px_X12_putsFrom.getD j 0) 0 C_X12_putsFrom ax_X12_putsFrom = true := by decide +kernel
theorem ok_X12_putsFrom : okM 242 := fun i k h => by
  have h2 := ckL_ok _ _ _ ck_X12_putsFrom i k h
  rw [Nat.zero_add] at h2
  exact h2
theorem ck_X12_price : ckL yX12_price prog_14_method_91_code (some .long) (fun j => px_X12_price.getD j 0) 0 C_X12_price ax_X12_price = true := by decide +kernel
theorem ok_X12_price : okM 254 := fun i k h => by
  have h2 := ckL_ok _ _ _ ck_X12_price i k h
  rw [Nat.zero_add] at h2
  exact h2
theorem ck_X12_those : ckL yX12_those prog_14_method_97_code (some .int) (fun j => px_X12_those.getD j 0) 0 C_X12_those ax_X12_those = true := by decide +kernel
theorem ok_X12_those : okM 260 := fun i k h => by
  have h2 := ckL_ok _ _ _ ck_X12_those i k h
  rw [Nat.zero_add] at h2
  exact h2
theorem ck_X12_tunes : ckL yX12_tunes prog_14_method_100_code (some .int) (fun j => px_X12_tunes.getD j 0) 0 C_X12_tunes ax_X12_tunes = true := by decide +kernel
theorem ok_X12_tunes : okM 263 := fun i k h => by
  have h2 := ckL_ok _ _ _ ck_X12_tunes i k h
  rw [Nat.zero_add] at h2
  exact h2
theorem ck_X12_margin : ckL yX12_margin prog_14_method_103_code (some .int) (fun j => px_X12_margin.getD j 0) 0 C_X12_margin ax_X12_margin = true := by decide +kernel
theorem ok_X12_margin : okM 266 := fun i k h => by
  have h2 := ckL_ok _ _ _ ck_X12_margin i k h
  rw [Nat.zero_add] at h2
  exact h2
theorem ck_X12_span : ckL yX12_span prog_14_method_109_code (some .int) (fun j => px_X12_span.getD j 0) 0 C_X12_span ax_X12_span = true := by decide +kernel
theorem ok_X12_span : okM 272 := fun i k h => by
  have h2 := ckL_ok _ _ _ ck_X12_span i k h
  rw [Nat.zero_add] at h2
  exact h2
theorem ck_J6_bitCount_0f7a4 : ckL yJ6_bitCount_0f7a4 prog_20_method_49_code (some .int) (fun j => px_J6_bitCount_0f7a4.getD j 0) 0 C_J6_bitCount_0f7a4 ax_J6_bitCount_0f7a4 = true := by decide +kernel
theorem ok_J6_bitCount_0f7a4 : okM 308 := fun i k h => by
  have h2 := ckL_ok _ _ _ ck_J6_bitCount_0f7a4 i k h
  rw [Nat.zero_add] at h2
  exact h2
