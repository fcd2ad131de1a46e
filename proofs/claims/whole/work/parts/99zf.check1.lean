/-! SOUNDNESS, 4: the checks -/
theorem ck_X0_clear : ckL (sMdG 1) (fun j => px_X0_clear.getD j 0) 0 C_X0_clear ax_X0_clear = true := by decide +kernel
theorem ok_X0_clear : okM 1 := fun i k h => by
  have h2 := ckL_ok _ _ _ ck_X0_clear i k h
  rw [Nat.zero_add] at h2
  exact h2
theorem ck_X0_parseLine : ckL (sMdG 4) (fun j => px_X0_parseLine.getD j 0) 0 C_X0_parseLine ax_X0_parseLine = true := by decide +kernel
theorem ok_X0_parseLine : okM 4 := fun i k h => by
  have h2 := ckL_ok _ _ _ ck_X0_parseLine i k h
  rw [Nat.zero_add] at h2
  exact h2
theorem ck_X2_parseBracket : ckL (sMdG 17) (fun j => px_X2_parseBracket.getD j 0) 0 C_X2_parseBracket ax_X2_parseBracket = true := by decide +kernel
theorem ok_X2_parseBracket : okM 17 := fun i k h => by
  have h2 := ckL_ok _ _ _ ck_X2_parseBracket i k h
  rw [Nat.zero_add] at h2
  exact h2
theorem ck_X2_inputNamed : ckL (sMdG 19) (fun j => px_X2_inputNamed.getD j 0) 0 C_X2_inputNamed ax_X2_inputNamed = true := by decide +kernel
theorem ok_X2_inputNamed : okM 19 := fun i k h => by
  have h2 := ckL_ok _ _ _ ck_X2_inputNamed i k h
  rw [Nat.zero_add] at h2
  exact h2
theorem ck_X3_init : ckL (sMdG 23) (fun j => px_X3_init.getD j 0) 0 C_X3_init ax_X3_init = true := by decide +kernel
theorem ok_X3_init : okM 23 := fun i k h => by
  have h2 := ckL_ok _ _ _ ck_X3_init i k h
  rw [Nat.zero_add] at h2
  exact h2
theorem ck_X3_strikeUnlike : ckL (sMdG 27) (fun j => px_X3_strikeUnlike.getD j 0) 0 C_X3_strikeUnlike ax_X3_strikeUnlike = true := by decide +kernel
theorem ok_X3_strikeUnlike : okM 27 := fun i k h => by
  have h2 := ckL_ok _ _ _ ck_X3_strikeUnlike i k h
  rw [Nat.zero_add] at h2
  exact h2
theorem ck_X3_chooseLook : ckL (sMdG 29) (fun j => px_X3_chooseLook.getD j 0) 0 C_X3_chooseLook ax_X3_chooseLook = true := by decide +kernel
theorem ok_X3_chooseLook : okM 29 := fun i k h => by
  have h2 := ckL_ok _ _ _ ck_X3_chooseLook i k h
  rw [Nat.zero_add] at h2
  exact h2
theorem ck_X5_tryFrom : ckL (sMdG 41) (fun j => px_X5_tryFrom.getD j 0) 0 C_X5_tryFrom ax_X5_tryFrom = true := by decide +kernel
theorem ok_X5_tryFrom : okM 41 := fun i k h => by
  have h2 := ckL_ok _ _ _ ck_X5_tryFrom i k h
  rw [Nat.zero_add] at h2
  exact h2
theorem ck_X6_brings : ckL (sMdG 61) (fun j => px_X6_brings.getD j 0) 0 C_X6_brings ax_X6_brings = true := by decide +kernel
theorem ok_X6_brings : okM 61 := fun i k h => by
  have h2 := ckL_ok _ _ _ ck_X6_brings i k h
  rw [Nat.zero_add] at h2
  exact h2
theorem ck_X6_measure : ckL (sMdG 62) (fun j => px_X6_measure.getD j 0) 0 C_X6_measure ax_X6_measure = true := by decide +kernel
theorem ok_X6_measure : okM 62 := fun i k h => by
  have h2 := ckL_ok _ _ _ ck_X6_measure i k h
  rw [Nat.zero_add] at h2
  exact h2
theorem ck_X6_netForce : ckL (sMdG 63) (fun j => px_X6_netForce.getD j 0) 0 C_X6_netForce ax_X6_netForce = true := by decide +kernel
theorem ok_X6_netForce : okM 63 := fun i k h => by
  have h2 := ckL_ok _ _ _ ck_X6_netForce i k h
  rw [Nat.zero_add] at h2
  exact h2
theorem ck_X6_total : ckL (sMdG 68) (fun j => px_X6_total.getD j 0) 0 C_X6_total ax_X6_total = true := by decide +kernel
theorem ok_X6_total : okM 68 := fun i k h => by
  have h2 := ckL_ok _ _ _ ck_X6_total i k h
  rw [Nat.zero_add] at h2
  exact h2
theorem ck_X7_init : ckL (sMdG 71) (fun j => px_X7_init.getD j 0) 0 C_X7_init ax_X7_init = true := by decide +kernel
theorem ok_X7_init : okM 71 := fun i k h => by
  have h2 := ckL_ok _ _ _ ck_X7_init i k h
  rw [Nat.zero_add] at h2
  exact h2
theorem ck_X7_hasRoom : ckL (sMdG 72) (fun j => px_X7_hasRoom.getD j 0) 0 C_X7_hasRoom ax_X7_hasRoom = true := by decide +kernel
theorem ok_X7_hasRoom : okM 72 := fun i k h => by
  have h2 := ckL_ok _ _ _ ck_X7_hasRoom i k h
  rw [Nat.zero_add] at h2
  exact h2
theorem ck_X7_add : ckL (sMdG 73) (fun j => px_X7_add.getD j 0) 0 C_X7_add ax_X7_add = true := by decide +kernel
theorem ok_X7_add : okM 73 := fun i k h => by
  have h2 := ckL_ok _ _ _ ck_X7_add i k h
  rw [Nat.zero_add] at h2
  exact h2
theorem ck_X7_sees : ckL (sMdG 77) (fun j => px_X7_sees.getD j 0) 0 C_X7_sees ax_X7_sees = true := by decide +kernel
theorem ok_X7_sees : okM 77 := fun i k h => by
  have h2 := ckL_ok _ _ _ ck_X7_sees i k h
  rw [Nat.zero_add] at h2
  exact h2
theorem ck_X7_takesNumber : ckL (sMdG 79) (fun j => px_X7_takesNumber.getD j 0) 0 C_X7_takesNumber ax_X7_takesNumber = true := by decide +kernel
theorem ok_X7_takesNumber : okM 79 := fun i k h => by
  have h2 := ckL_ok _ _ _ ck_X7_takesNumber i k h
  rw [Nat.zero_add] at h2
  exact h2
theorem ck_X8_parseHouse : ckL (sMdG 91) (fun j => px_X8_parseHouse.getD j 0) 0 C_X8_parseHouse ax_X8_parseHouse = true := by decide +kernel
theorem ok_X8_parseHouse : okM 91 := fun i k h => by
  have h2 := ckL_ok _ _ _ ck_X8_parseHouse i k h
  rw [Nat.zero_add] at h2
  exact h2
theorem ck_X8_parseFelt : ckL (sMdG 95) (fun j => px_X8_parseFelt.getD j 0) 0 C_X8_parseFelt ax_X8_parseFelt = true := by decide +kernel
theorem ok_X8_parseFelt : okM 95 := fun i k h => by
  have h2 := ckL_ok _ _ _ ck_X8_parseFelt i k h
  rw [Nat.zero_add] at h2
  exact h2
theorem ck_X8_hasWall : ckL (sMdG 96) (fun j => px_X8_hasWall.getD j 0) 0 C_X8_hasWall ax_X8_hasWall = true := by decide +kernel
theorem ok_X8_hasWall : okM 96 := fun i k h => by
  have h2 := ckL_ok _ _ _ ck_X8_hasWall i k h
  rw [Nat.zero_add] at h2
  exact h2
theorem ck_X8_besideAny : ckL (sMdG 97) (fun j => px_X8_besideAny.getD j 0) 0 C_X8_besideAny ax_X8_besideAny = true := by decide +kernel
theorem ok_X8_besideAny : okM 97 := fun i k h => by
  have h2 := ckL_ok _ _ _ ck_X8_besideAny i k h
  rw [Nat.zero_add] at h2
  exact h2
theorem ck_X9_parse : ckL (sMdG 100) (fun j => px_X9_parse.getD j 0) 0 C_X9_parse ax_X9_parse = true := by decide +kernel
theorem ok_X9_parse : okM 100 := fun i k h => by
  have h2 := ckL_ok _ _ _ ck_X9_parse i k h
  rw [Nat.zero_add] at h2
  exact h2
theorem ck_X9_takesPiano : ckL (sMdG 103) (fun j => px_X9_takesPiano.getD j 0) 0 C_X9_takesPiano ax_X9_takesPiano = true := by decide +kernel
theorem ok_X9_takesPiano : okM 103 := fun i k h => by
  have h2 := ckL_ok _ _ _ ck_X9_takesPiano i k h
  rw [Nat.zero_add] at h2
  exact h2
theorem ck_X9_parseSecond : ckL (sMdG 104) (fun j => px_X9_parseSecond.getD j 0) 0 C_X9_parseSecond ax_X9_parseSecond = true := by decide +kernel
theorem ok_X9_parseSecond : okM 104 := fun i k h => by
  have h2 := ckL_ok _ _ _ ck_X9_parseSecond i k h
  rw [Nat.zero_add] at h2
  exact h2
theorem ck_X9_parseAgain : ckL (sMdG 105) (fun j => px_X9_parseAgain.getD j 0) 0 C_X9_parseAgain ax_X9_parseAgain = true := by decide +kernel
theorem ok_X9_parseAgain : okM 105 := fun i k h => by
  have h2 := ckL_ok _ _ _ ck_X9_parseAgain i k h
  rw [Nat.zero_add] at h2
  exact h2
theorem ck_X10_init : ckL (sMdG 109) (fun j => px_X10_init.getD j 0) 0 C_X10_init ax_X10_init = true := by decide +kernel
theorem ok_X10_init : okM 109 := fun i k h => by
  have h2 := ckL_ok _ _ _ ck_X10_init i k h
  rw [Nat.zero_add] at h2
  exact h2
theorem ck_X10_play : ckL (sMdG 110) (fun j => px_X10_play.getD j 0) 0 C_X10_play ax_X10_play = true := by decide +kernel
theorem ok_X10_play : okM 110 := fun i k h => by
  have h2 := ckL_ok _ _ _ ck_X10_play i k h
  rw [Nat.zero_add] at h2
  exact h2
theorem ck_X10_putAny : ckL (sMdG 111) (fun j => px_X10_putAny.getD j 0) 0 C_X10_putAny ax_X10_putAny = true := by decide +kernel
theorem ok_X10_putAny : okM 111 := fun i k h => by
  have h2 := ckL_ok _ _ _ ck_X10_putAny i k h
  rw [Nat.zero_add] at h2
  exact h2
theorem ck_X11_feed : ckL (sMdG 114) (fun j => px_X11_feed.getD j 0) 0 C_X11_feed ax_X11_feed = true := by decide +kernel
theorem ok_X11_feed : okM 114 := fun i k h => by
  have h2 := ckL_ok _ _ _ ck_X11_feed i k h
  rw [Nat.zero_add] at h2
  exact h2
theorem ck_X11_law : ckL (sMdG 116) (fun j => px_X11_law.getD j 0) 0 C_X11_law ax_X11_law = true := by decide +kernel
theorem ok_X11_law : okM 116 := fun i k h => by
  have h2 := ckL_ok _ _ _ ck_X11_law i k h
  rw [Nat.zero_add] at h2
  exact h2
theorem ck_X11_book : ckL (sMdG 118) (fun j => px_X11_book.getD j 0) 0 C_X11_book ax_X11_book = true := by decide +kernel
theorem ok_X11_book : okM 118 := fun i k h => by
  have h2 := ckL_ok _ _ _ ck_X11_book i k h
  rw [Nat.zero_add] at h2
  exact h2
theorem ck_X11_openText : ckL (sMdG 121) (fun j => px_X11_openText.getD j 0) 0 C_X11_openText ax_X11_openText = true := by decide +kernel
theorem ok_X11_openText : okM 121 := fun i k h => by
  have h2 := ckL_ok _ _ _ ck_X11_openText i k h
  rw [Nat.zero_add] at h2
  exact h2
theorem ck_X11_house : ckL (sMdG 123) (fun j => px_X11_house.getD j 0) 0 C_X11_house ax_X11_house = true := by decide +kernel
theorem ok_X11_house : okM 123 := fun i k h => by
  have h2 := ckL_ok _ _ _ ck_X11_house i k h
  rw [Nat.zero_add] at h2
  exact h2
theorem ck_X11_would : ckL (sMdG 127) (fun j => px_X11_would.getD j 0) 0 C_X11_would ax_X11_would = true := by decide +kernel
theorem ok_X11_would : okM 127 := fun i k h => by
  have h2 := ckL_ok _ _ _ ck_X11_would i k h
  rw [Nat.zero_add] at h2
  exact h2
theorem ck_X11_tunes : ckL (sMdG 138) (fun j => px_X11_tunes.getD j 0) 0 C_X11_tunes ax_X11_tunes = true := by decide +kernel
theorem ok_X11_tunes : okM 138 := fun i k h => by
  have h2 := ckL_ok _ _ _ ck_X11_tunes i k h
  rw [Nat.zero_add] at h2
  exact h2
theorem ck_X11_needYear : ckL (sMdG 145) (fun j => px_X11_needYear.getD j 0) 0 C_X11_needYear ax_X11_needYear = true := by decide +kernel
theorem ok_X11_needYear : okM 145 := fun i k h => by
  have h2 := ckL_ok _ _ _ ck_X11_needYear i k h
  rw [Nat.zero_add] at h2
  exact h2
theorem ck_X11_alone : ckL (sMdG 147) (fun j => px_X11_alone.getD j 0) 0 C_X11_alone ax_X11_alone = true := by decide +kernel
theorem ok_X11_alone : okM 147 := fun i k h => by
  have h2 := ckL_ok _ _ _ ck_X11_alone i k h
  rw [Nat.zero_add] at h2
  exact h2
theorem ck_X11_commonDivisor : ckL (sMdG 149) (fun j => px_X11_commonDivisor.getD j 0) 0 C_X11_commonDivisor ax_X11_commonDivisor = true := by decide +kernel
theorem ok_X11_commonDivisor : okM 149 := fun i k h => by
  have h2 := ckL_ok _ _ _ ck_X11_commonDivisor i k h
  rw [Nat.zero_add] at h2
  exact h2
theorem ck_X11_isRest : ckL (sMdG 151) (fun j => px_X11_isRest.getD j 0) 0 C_X11_isRest ax_X11_isRest = true := by decide +kernel
theorem ok_X11_isRest : okM 151 := fun i k h => by
  have h2 := ckL_ok _ _ _ ck_X11_isRest i k h
  rw [Nat.zero_add] at h2
  exact h2
theorem ck_X11_tunerHas : ckL (sMdG 152) (fun j => px_X11_tunerHas.getD j 0) 0 C_X11_tunerHas ax_X11_tunerHas = true := by decide +kernel
theorem ok_X11_tunerHas : okM 152 := fun i k h => by
  have h2 := ckL_ok _ _ _ ck_X11_tunerHas i k h
  rw [Nat.zero_add] at h2
  exact h2
theorem ck_X11_houseHas : ckL (sMdG 153) (fun j => px_X11_houseHas.getD j 0) 0 C_X11_houseHas ax_X11_houseHas = true := by decide +kernel
theorem ok_X11_houseHas : okM 153 := fun i k h => by
  have h2 := ckL_ok _ _ _ ck_X11_houseHas i k h
  rw [Nat.zero_add] at h2
  exact h2
theorem ck_X11_share : ckL (sMdG 154) (fun j => px_X11_share.getD j 0) 0 C_X11_share ax_X11_share = true := by decide +kernel
theorem ok_X11_share : okM 154 := fun i k h => by
  have h2 := ckL_ok _ _ _ ck_X11_share i k h
  rw [Nat.zero_add] at h2
  exact h2
theorem ck_X11_needHouse : ckL (sMdG 159) (fun j => px_X11_needHouse.getD j 0) 0 C_X11_needHouse ax_X11_needHouse = true := by decide +kernel
theorem ok_X11_needHouse : okM 159 := fun i k h => by
  have h2 := ckL_ok _ _ _ ck_X11_needHouse i k h
  rw [Nat.zero_add] at h2
  exact h2
theorem ck_X11_needMember : ckL (sMdG 161) (fun j => px_X11_needMember.getD j 0) 0 C_X11_needMember ax_X11_needMember = true := by decide +kernel
theorem ok_X11_needMember : okM 161 := fun i k h => by
  have h2 := ckL_ok _ _ _ ck_X11_needMember i k h
  rw [Nat.zero_add] at h2
  exact h2
theorem ck_X12_tellsNothing : ckL (sMdG 165) (fun j => px_X12_tellsNothing.getD j 0) 0 C_X12_tellsNothing ax_X12_tellsNothing = true := by decide +kernel
theorem ok_X12_tellsNothing : okM 165 := fun i k h => by
  have h2 := ckL_ok _ _ _ ck_X12_tellsNothing i k h
  rw [Nat.zero_add] at h2
  exact h2
theorem ck_X12_blanks : ckL (sMdG 174) (fun j => px_X12_blanks.getD j 0) 0 C_X12_blanks ax_X12_blanks = true := by decide +kernel
theorem ok_X12_blanks : okM 174 := fun i k h => by
  have h2 := ckL_ok _ _ _ ck_X12_blanks i k h
  rw [Nat.zero_add] at h2
  exact h2
theorem ck_X12_isDigit : ckL (sMdG 176) (fun j => px_X12_isDigit.getD j 0) 0 C_X12_isDigit ax_X12_isDigit = true := by decide +kernel
theorem ok_X12_isDigit : okM 176 := fun i k h => by
  have h2 := ckL_ok _ _ _ ck_X12_isDigit i k h
  rw [Nat.zero_add] at h2
  exact h2
theorem ck_X12_number : ckL (sMdG 178) (fun j => px_X12_number.getD j 0) 0 C_X12_number ax_X12_number = true := by decide +kernel
theorem ok_X12_number : okM 178 := fun i k h => by
  have h2 := ckL_ok _ _ _ ck_X12_number i k h
  rw [Nat.zero_add] at h2
  exact h2
theorem ck_X12_starts : ckL (sMdG 186) (fun j => px_X12_starts.getD j 0) 0 C_X12_starts ax_X12_starts = true := by decide +kernel
theorem ok_X12_starts : okM 186 := fun i k h => by
  have h2 := ckL_ok _ _ _ ck_X12_starts i k h
  rw [Nat.zero_add] at h2
  exact h2
theorem ck_X12_mostOf : ckL (sMdG 189) (fun j => px_X12_mostOf.getD j 0) 0 C_X12_mostOf ax_X12_mostOf = true := by decide +kernel
theorem ok_X12_mostOf : okM 189 := fun i k h => by
  have h2 := ckL_ok _ _ _ ck_X12_mostOf i k h
  rw [Nat.zero_add] at h2
  exact h2
theorem ck_X12_isReadWall : ckL (sMdG 191) (fun j => px_X12_isReadWall.getD j 0) 0 C_X12_isReadWall ax_X12_isReadWall = true := by decide +kernel
theorem ok_X12_isReadWall : okM 191 := fun i k h => by
  have h2 := ckL_ok _ _ _ ck_X12_isReadWall i k h
  rw [Nat.zero_add] at h2
  exact h2
theorem ck_X12_terrace : ckL (sMdG 193) (fun j => px_X12_terrace.getD j 0) 0 C_X12_terrace ax_X12_terrace = true := by decide +kernel
theorem ok_X12_terrace : okM 193 := fun i k h => by
  have h2 := ckL_ok _ _ _ ck_X12_terrace i k h
  rw [Nat.zero_add] at h2
  exact h2
theorem ck_X12_notes : ckL (sMdG 197) (fun j => px_X12_notes.getD j 0) 0 C_X12_notes ax_X12_notes = true := by decide +kernel
theorem ok_X12_notes : okM 197 := fun i k h => by
  have h2 := ckL_ok _ _ _ ck_X12_notes i k h
  rw [Nat.zero_add] at h2
  exact h2
theorem ck_X12_opensOne : ckL (sMdG 198) (fun j => px_X12_opensOne.getD j 0) 0 C_X12_opensOne ax_X12_opensOne = true := by decide +kernel
theorem ok_X12_opensOne : okM 198 := fun i k h => by
  have h2 := ckL_ok _ _ _ ck_X12_opensOne i k h
  rw [Nat.zero_add] at h2
  exact h2
theorem ck_X12_product : ckL (sMdG 200) (fun j => px_X12_product.getD j 0) 0 C_X12_product ax_X12_product = true := by decide +kernel
theorem ok_X12_product : okM 200 := fun i k h => by
  have h2 := ckL_ok _ _ _ ck_X12_product i k h
  rw [Nat.zero_add] at h2
  exact h2
theorem ck_X12_one : ckL (sMdG 202) (fun j => px_X12_one.getD j 0) 0 C_X12_one ax_X12_one = true := by decide +kernel
theorem ok_X12_one : okM 202 := fun i k h => by
  have h2 := ckL_ok _ _ _ ck_X12_one i k h
  rw [Nat.zero_add] at h2
  exact h2
theorem ck_X12_stepHere : ckL (sMdG 206) (fun j => px_X12_stepHere.getD j 0) 0 C_X12_stepHere ax_X12_stepHere = true := by decide +kernel
theorem ok_X12_stepHere : okM 206 := fun i k h => by
  have h2 := ckL_ok _ _ _ ck_X12_stepHere i k h
  rw [Nat.zero_add] at h2
  exact h2
theorem ck_X12_book : ckL (sMdG 208) (fun j => px_X12_book.getD j 0) 0 C_X12_book ax_X12_book = true := by decide +kernel
theorem ok_X12_book : okM 208 := fun i k h => by
  have h2 := ckL_ok _ _ _ ck_X12_book i k h
  rw [Nat.zero_add] at h2
  exact h2
theorem ck_X12_work : ckL (sMdG 222) (fun j => px_X12_work.getD j 0) 0 C_X12_work ax_X12_work = true := by decide +kernel
theorem ok_X12_work : okM 222 := fun i k h => by
  have h2 := ckL_ok _ _ _ ck_X12_work i k h
  rw [Nat.zero_add] at h2
  exact h2
theorem ck_X12_house : ckL (sMdG 234) (fun j => px_X12_house.getD j 0) 0 C_X12_house ax_X12_house = true := by decide +kernel
theorem ok_X12_house : okM 234 := fun i k h => by
  have h2 := ckL_ok _ _ _ ck_X12_house i k h
  rw [Nat.zero_add] at h2
  exact h2
theorem ck_X12_putsFrom : ckL (sMdG 242) (fun j => px_X12_putsFrom.getD j 0) 0 C_X12_putsFrom ax_X12_putsFrom = true := by decide +kernel
theorem ok_X12_putsFrom : okM 242 := fun i k h => by
  have h2 := ckL_ok _ _ _ ck_X12_putsFrom i k h
  rw [Nat.zero_add] at h2
  exact h2
theorem ck_X12_price : ckL (sMdG 254) (fun j => px_X12_price.getD j 0) 0 C_X12_price ax_X12_price = true := by decide +kernel
theorem ok_X12_price : okM 254 := fun i k h => by
  have h2 := ckL_ok _ _ _ ck_X12_price i k h
  rw [Nat.zero_add] at h2
  exact h2
theorem ck_X12_those : ckL (sMdG 260) (fun j => px_X12_those.getD j 0) 0 C_X12_those ax_X12_those = true := by decide +kernel
theorem ok_X12_those : okM 260 := fun i k h => by
  have h2 := ckL_ok _ _ _ ck_X12_those i k h
  rw [Nat.zero_add] at h2
  exact h2
theorem ck_X12_tunes : ckL (sMdG 263) (fun j => px_X12_tunes.getD j 0) 0 C_X12_tunes ax_X12_tunes = true := by decide +kernel
theorem ok_X12_tunes : okM 263 := fun i k h => by
  have h2 := ckL_ok _ _ _ ck_X12_tunes i k h
  rw [Nat.zero_add] at h2
  exact h2
theorem ck_X12_margin : ckL (sMdG 266) (fun j => px_X12_margin.getD j 0) 0 C_X12_margin ax_X12_margin = true := by decide +kernel
theorem ok_X12_margin : okM 266 := fun i k h => by
  have h2 := ckL_ok _ _ _ ck_X12_margin i k h
  rw [Nat.zero_add] at h2
  exact h2
theorem ck_X12_span : ckL (sMdG 272) (fun j => px_X12_span.getD j 0) 0 C_X12_span ax_X12_span = true := by decide +kernel
theorem ok_X12_span : okM 272 := fun i k h => by
  have h2 := ckL_ok _ _ _ ck_X12_span i k h
  rw [Nat.zero_add] at h2
  exact h2
theorem ck_J6_bitCount_0f7a4 : ckL (sMdG 308) (fun j => px_J6_bitCount_0f7a4.getD j 0) 0 C_J6_bitCount_0f7a4 ax_J6_bitCount_0f7a4 = true := by decide +kernel
theorem ok_J6_bitCount_0f7a4 : okM 308 := fun i k h => by
  have h2 := ckL_ok _ _ _ ck_J6_bitCount_0f7a4 i k h
  rw [Nat.zero_add] at h2
  exact h2
