/-! SOUNDNESS, 4: the checks -/
theorem ck_X0_init : ckL (sMdG 0) (fun j => px_X0_init.getD j 0) 0 C_X0_init ax_X0_init = true := by decide +kernel
theorem ok_X0_init : okM 0 := fun i k h => by
  have h2 := ckL_ok _ _ _ ck_X0_init i k h
  rw [Nat.zero_add] at h2
  exact h2
theorem ck_X0_amountAfter : ckL (sMdG 5) (fun j => px_X0_amountAfter.getD j 0) 0 C_X0_amountAfter ax_X0_amountAfter = true := by decide +kernel
theorem ok_X0_amountAfter : okM 5 := fun i k h => by
  have h2 := ckL_ok _ _ _ ck_X0_amountAfter i k h
  rw [Nat.zero_add] at h2
  exact h2
theorem ck_X1_init : ckL (sMdG 7) (fun j => px_X1_init.getD j 0) 0 C_X1_init ax_X1_init = true := by decide +kernel
theorem ok_X1_init : okM 7 := fun i k h => by
  have h2 := ckL_ok _ _ _ ck_X1_init i k h
  rw [Nat.zero_add] at h2
  exact h2
theorem ck_X2_init : ckL (sMdG 10) (fun j => px_X2_init.getD j 0) 0 C_X2_init ax_X2_init = true := by decide +kernel
theorem ok_X2_init : okM 10 := fun i k h => by
  have h2 := ckL_ok _ _ _ ck_X2_init i k h
  rw [Nat.zero_add] at h2
  exact h2
theorem ck_X2_parse : ckL (sMdG 13) (fun j => px_X2_parse.getD j 0) 0 C_X2_parse ax_X2_parse = true := by decide +kernel
theorem ok_X2_parse : okM 13 := fun i k h => by
  have h2 := ckL_ok _ _ _ ck_X2_parse i k h
  rw [Nat.zero_add] at h2
  exact h2
theorem ck_X2_parseUnit : ckL (sMdG 16) (fun j => px_X2_parseUnit.getD j 0) 0 C_X2_parseUnit ax_X2_parseUnit = true := by decide +kernel
theorem ok_X2_parseUnit : okM 16 := fun i k h => by
  have h2 := ckL_ok _ _ _ ck_X2_parseUnit i k h
  rw [Nat.zero_add] at h2
  exact h2
theorem ck_X3_forget : ckL (sMdG 24) (fun j => px_X3_forget.getD j 0) 0 C_X3_forget ax_X3_forget = true := by decide +kernel
theorem ok_X3_forget : okM 24 := fun i k h => by
  have h2 := ckL_ok _ _ _ ck_X3_forget i k h
  rw [Nat.zero_add] at h2
  exact h2
theorem ck_X3_ask : ckL (sMdG 25) (fun j => px_X3_ask.getD j 0) 0 C_X3_ask ax_X3_ask = true := by decide +kernel
theorem ok_X3_ask : okM 25 := fun i k h => by
  have h2 := ckL_ok _ _ _ ck_X3_ask i k h
  rw [Nat.zero_add] at h2
  exact h2
theorem ck_X3_strikeWrong : ckL (sMdG 26) (fun j => px_X3_strikeWrong.getD j 0) 0 C_X3_strikeWrong ax_X3_strikeWrong = true := by decide +kernel
theorem ok_X3_strikeWrong : okM 26 := fun i k h => by
  have h2 := ckL_ok _ _ _ ck_X3_strikeWrong i k h
  rw [Nat.zero_add] at h2
  exact h2
theorem ck_X3_begin : ckL (sMdG 30) (fun j => px_X3_begin.getD j 0) 0 C_X3_begin ax_X3_begin = true := by decide +kernel
theorem ok_X3_begin : okM 30 := fun i k h => by
  have h2 := ckL_ok _ _ _ ck_X3_begin i k h
  rw [Nat.zero_add] at h2
  exact h2
theorem ck_X3_mostAlike : ckL (sMdG 33) (fun j => px_X3_mostAlike.getD j 0) 0 C_X3_mostAlike ax_X3_mostAlike = true := by decide +kernel
theorem ok_X3_mostAlike : okM 33 := fun i k h => by
  have h2 := ckL_ok _ _ _ ck_X3_mostAlike i k h
  rw [Nat.zero_add] at h2
  exact h2
theorem ck_X5_init : ckL (sMdG 38) (fun j => px_X5_init.getD j 0) 0 C_X5_init ax_X5_init = true := by decide +kernel
theorem ok_X5_init : okM 38 := fun i k h => by
  have h2 := ckL_ok _ _ _ ck_X5_init i k h
  rw [Nat.zero_add] at h2
  exact h2
theorem ck_X5_forget : ckL (sMdG 39) (fun j => px_X5_forget.getD j 0) 0 C_X5_forget ax_X5_forget = true := by decide +kernel
theorem ok_X5_forget : okM 39 := fun i k h => by
  have h2 := ckL_ok _ _ _ ck_X5_forget i k h
  rw [Nat.zero_add] at h2
  exact h2
theorem ck_X5_find : ckL (sMdG 40) (fun j => px_X5_find.getD j 0) 0 C_X5_find ax_X5_find = true := by decide +kernel
theorem ok_X5_find : okM 40 := fun i k h => by
  have h2 := ckL_ok _ _ _ ck_X5_find i k h
  rw [Nat.zero_add] at h2
  exact h2
theorem ck_X6_init : ckL (sMdG 43) (fun j => px_X6_init.getD j 0) 0 C_X6_init ax_X6_init = true := by decide +kernel
theorem ok_X6_init : okM 43 := fun i k h => by
  have h2 := ckL_ok _ _ _ ck_X6_init i k h
  rw [Nat.zero_add] at h2
  exact h2
theorem ck_X6_begin : ckL (sMdG 44) (fun j => px_X6_begin.getD j 0) 0 C_X6_begin ax_X6_begin = true := by decide +kernel
theorem ok_X6_begin : okM 44 := fun i k h => by
  have h2 := ckL_ok _ _ _ ck_X6_begin i k h
  rw [Nat.zero_add] at h2
  exact h2
theorem ck_X6_put : ckL (sMdG 53) (fun j => px_X6_put.getD j 0) 0 C_X6_put ax_X6_put = true := by decide +kernel
theorem ok_X6_put : okM 53 := fun i k h => by
  have h2 := ckL_ok _ _ _ ck_X6_put i k h
  rw [Nat.zero_add] at h2
  exact h2
theorem ck_X6_passDay : ckL (sMdG 56) (fun j => px_X6_passDay.getD j 0) 0 C_X6_passDay ax_X6_passDay = true := by decide +kernel
theorem ok_X6_passDay : okM 56 := fun i k h => by
  have h2 := ckL_ok _ _ _ ck_X6_passDay i k h
  rw [Nat.zero_add] at h2
  exact h2
theorem ck_X6_lead : ckL (sMdG 66) (fun j => px_X6_lead.getD j 0) 0 C_X6_lead ax_X6_lead = true := by decide +kernel
theorem ok_X6_lead : okM 66 := fun i k h => by
  have h2 := ckL_ok _ _ _ ck_X6_lead i k h
  rw [Nat.zero_add] at h2
  exact h2
theorem ck_X6_content : ckL (sMdG 69) (fun j => px_X6_content.getD j 0) 0 C_X6_content ax_X6_content = true := by decide +kernel
theorem ok_X6_content : okM 69 := fun i k h => by
  have h2 := ckL_ok _ _ _ ck_X6_content i k h
  rw [Nat.zero_add] at h2
  exact h2
theorem ck_X7_open : ckL (sMdG 74) (fun j => px_X7_open.getD j 0) 0 C_X7_open ax_X7_open = true := by decide +kernel
theorem ok_X7_open : okM 74 := fun i k h => by
  have h2 := ckL_ok _ _ _ ck_X7_open i k h
  rw [Nat.zero_add] at h2
  exact h2
theorem ck_X7_ended : ckL (sMdG 76) (fun j => px_X7_ended.getD j 0) 0 C_X7_ended ax_X7_ended = true := by decide +kernel
theorem ok_X7_ended : okM 76 := fun i k h => by
  have h2 := ckL_ok _ _ _ ck_X7_ended i k h
  rw [Nat.zero_add] at h2
  exact h2
theorem ck_X7_takes : ckL (sMdG 78) (fun j => px_X7_takes.getD j 0) 0 C_X7_takes ax_X7_takes = true := by decide +kernel
theorem ok_X7_takes : okM 78 := fun i k h => by
  have h2 := ckL_ok _ _ _ ck_X7_takes i k h
  rw [Nat.zero_add] at h2
  exact h2
theorem ck_X7_isWord : ckL (sMdG 81) (fun j => px_X7_isWord.getD j 0) 0 C_X7_isWord ax_X7_isWord = true := by decide +kernel
theorem ok_X7_isWord : okM 81 := fun i k h => by
  have h2 := ckL_ok _ _ _ ck_X7_isWord i k h
  rw [Nat.zero_add] at h2
  exact h2
theorem ck_X7_fails : ckL (sMdG 84) (fun j => px_X7_fails.getD j 0) 0 C_X7_fails ax_X7_fails = true := by decide +kernel
theorem ok_X7_fails : okM 84 := fun i k h => by
  have h2 := ckL_ok _ _ _ ck_X7_fails i k h
  rw [Nat.zero_add] at h2
  exact h2
theorem ck_X8_copyFrom : ckL (sMdG 86) (fun j => px_X8_copyFrom.getD j 0) 0 C_X8_copyFrom ax_X8_copyFrom = true := by decide +kernel
theorem ok_X8_copyFrom : okM 86 := fun i k h => by
  have h2 := ckL_ok _ _ _ ck_X8_copyFrom i k h
  rw [Nat.zero_add] at h2
  exact h2
theorem ck_X8_parseWish : ckL (sMdG 94) (fun j => px_X8_parseWish.getD j 0) 0 C_X8_parseWish ax_X8_parseWish = true := by decide +kernel
theorem ok_X8_parseWish : okM 94 := fun i k h => by
  have h2 := ckL_ok _ _ _ ck_X8_parseWish i k h
  rw [Nat.zero_add] at h2
  exact h2
theorem ck_X8_given : ckL (sMdG 98) (fun j => px_X8_given.getD j 0) 0 C_X8_given ax_X8_given = true := by decide +kernel
theorem ok_X8_given : okM 98 := fun i k h => by
  have h2 := ckL_ok _ _ _ ck_X8_given i k h
  rw [Nat.zero_add] at h2
  exact h2
theorem ck_X9_parseStep : ckL (sMdG 102) (fun j => px_X9_parseStep.getD j 0) 0 C_X9_parseStep ax_X9_parseStep = true := by decide +kernel
theorem ok_X9_parseStep : okM 102 := fun i k h => by
  have h2 := ckL_ok _ _ _ ck_X9_parseStep i k h
  rw [Nat.zero_add] at h2
  exact h2
theorem ck_X11_terrace : ckL (sMdG 115) (fun j => px_X11_terrace.getD j 0) 0 C_X11_terrace ax_X11_terrace = true := by decide +kernel
theorem ok_X11_terrace : okM 115 := fun i k h => by
  have h2 := ckL_ok _ _ _ ck_X11_terrace i k h
  rw [Nat.zero_add] at h2
  exact h2
theorem ck_X11_fault : ckL (sMdG 119) (fun j => px_X11_fault.getD j 0) 0 C_X11_fault ax_X11_fault = true := by decide +kernel
theorem ok_X11_fault : okM 119 := fun i k h => by
  have h2 := ckL_ok _ _ _ ck_X11_fault i k h
  rw [Nat.zero_add] at h2
  exact h2
theorem ck_X11_undo : ckL (sMdG 120) (fun j => px_X11_undo.getD j 0) 0 C_X11_undo ax_X11_undo = true := by decide +kernel
theorem ok_X11_undo : okM 120 := fun i k h => by
  have h2 := ckL_ok _ _ _ ck_X11_undo i k h
  rw [Nat.zero_add] at h2
  exact h2
theorem ck_X11_told : ckL (sMdG 122) (fun j => px_X11_told.getD j 0) 0 C_X11_told ax_X11_told = true := by decide +kernel
theorem ok_X11_told : okM 122 := fun i k h => by
  have h2 := ckL_ok _ _ _ ck_X11_told i k h
  rw [Nat.zero_add] at h2
  exact h2
theorem ck_X11_those : ckL (sMdG 128) (fun j => px_X11_those.getD j 0) 0 C_X11_those ax_X11_those = true := by decide +kernel
theorem ok_X11_those : okM 128 := fun i k h => by
  have h2 := ckL_ok _ _ _ ck_X11_those i k h
  rw [Nat.zero_add] at h2
  exact h2
theorem ck_X11_loudest : ckL (sMdG 129) (fun j => px_X11_loudest.getD j 0) 0 C_X11_loudest ax_X11_loudest = true := by decide +kernel
theorem ok_X11_loudest : okM 129 := fun i k h => by
  have h2 := ckL_ok _ _ _ ck_X11_loudest i k h
  rw [Nat.zero_add] at h2
  exact h2
theorem ck_X11_changed : ckL (sMdG 131) (fun j => px_X11_changed.getD j 0) 0 C_X11_changed ax_X11_changed = true := by decide +kernel
theorem ok_X11_changed : okM 131 := fun i k h => by
  have h2 := ckL_ok _ _ _ ck_X11_changed i k h
  rw [Nat.zero_add] at h2
  exact h2
theorem ck_X11_oldest : ckL (sMdG 132) (fun j => px_X11_oldest.getD j 0) 0 C_X11_oldest ax_X11_oldest = true := by decide +kernel
theorem ok_X11_oldest : okM 132 := fun i k h => by
  have h2 := ckL_ok _ _ _ ck_X11_oldest i k h
  rw [Nat.zero_add] at h2
  exact h2
theorem ck_X11_muffle : ckL (sMdG 137) (fun j => px_X11_muffle.getD j 0) 0 C_X11_muffle ax_X11_muffle = true := by decide +kernel
theorem ok_X11_muffle : okM 137 := fun i k h => by
  have h2 := ckL_ok _ _ _ ck_X11_muffle i k h
  rw [Nat.zero_add] at h2
  exact h2
theorem ck_X11_year : ckL (sMdG 143) (fun j => px_X11_year.getD j 0) 0 C_X11_year ax_X11_year = true := by decide +kernel
theorem ok_X11_year : okM 143 := fun i k h => by
  have h2 := ckL_ok _ _ _ ck_X11_year i k h
  rw [Nat.zero_add] at h2
  exact h2
theorem ck_X11_price : ckL (sMdG 148) (fun j => px_X11_price.getD j 0) 0 C_X11_price ax_X11_price = true := by decide +kernel
theorem ok_X11_price : okM 148 := fun i k h => by
  have h2 := ckL_ok _ _ _ ck_X11_price i k h
  rw [Nat.zero_add] at h2
  exact h2
theorem ck_X11_restore : ckL (sMdG 156) (fun j => px_X11_restore.getD j 0) 0 C_X11_restore ax_X11_restore = true := by decide +kernel
theorem ok_X11_restore : okM 156 := fun i k h => by
  have h2 := ckL_ok _ _ _ ck_X11_restore i k h
  rw [Nat.zero_add] at h2
  exact h2
theorem ck_X12_thrown : ckL (sMdG 166) (fun j => px_X12_thrown.getD j 0) 0 C_X12_thrown ax_X12_thrown = true := by decide +kernel
theorem ok_X12_thrown : okM 166 := fun i k h => by
  have h2 := ckL_ok _ _ _ ck_X12_thrown i k h
  rw [Nat.zero_add] at h2
  exact h2
theorem ck_X12_bad : ckL (sMdG 167) (fun j => px_X12_bad.getD j 0) 0 C_X12_bad ax_X12_bad = true := by decide +kernel
theorem ok_X12_bad : okM 167 := fun i k h => by
  have h2 := ckL_ok _ _ _ ck_X12_bad i k h
  rw [Nat.zero_add] at h2
  exact h2
theorem ck_X12_feed : ckL (sMdG 172) (fun j => px_X12_feed.getD j 0) 0 C_X12_feed ax_X12_feed = true := by decide +kernel
theorem ok_X12_feed : okM 172 := fun i k h => by
  have h2 := ckL_ok _ _ _ ck_X12_feed i k h
  rw [Nat.zero_add] at h2
  exact h2
theorem ck_X12_isWord : ckL (sMdG 181) (fun j => px_X12_isWord.getD j 0) 0 C_X12_isWord ax_X12_isWord = true := by decide +kernel
theorem ok_X12_isWord : okM 181 := fun i k h => by
  have h2 := ckL_ok _ _ _ ck_X12_isWord i k h
  rw [Nat.zero_add] at h2
  exact h2
theorem ck_X12_skipWord : ckL (sMdG 182) (fun j => px_X12_skipWord.getD j 0) 0 C_X12_skipWord ax_X12_skipWord = true := by decide +kernel
theorem ok_X12_skipWord : okM 182 := fun i k h => by
  have h2 := ckL_ok _ _ _ ck_X12_skipWord i k h
  rw [Nat.zero_add] at h2
  exact h2
theorem ck_X12_takes : ckL (sMdG 183) (fun j => px_X12_takes.getD j 0) 0 C_X12_takes ax_X12_takes = true := by decide +kernel
theorem ok_X12_takes : okM 183 := fun i k h => by
  have h2 := ckL_ok _ _ _ ck_X12_takes i k h
  rw [Nat.zero_add] at h2
  exact h2
theorem ck_X12_takesSign : ckL (sMdG 185) (fun j => px_X12_takesSign.getD j 0) 0 C_X12_takesSign ax_X12_takesSign = true := by decide +kernel
theorem ok_X12_takesSign : okM 185 := fun i k h => by
  have h2 := ckL_ok _ _ _ ck_X12_takesSign i k h
  rw [Nat.zero_add] at h2
  exact h2
theorem ck_X12_readHouse : ckL (sMdG 190) (fun j => px_X12_readHouse.getD j 0) 0 C_X12_readHouse ax_X12_readHouse = true := by decide +kernel
theorem ok_X12_readHouse : okM 190 := fun i k h => by
  have h2 := ckL_ok _ _ _ ck_X12_readHouse i k h
  rw [Nat.zero_add] at h2
  exact h2
theorem ck_X12_clause : ckL (sMdG 192) (fun j => px_X12_clause.getD j 0) 0 C_X12_clause ax_X12_clause = true := by decide +kernel
theorem ok_X12_clause : okM 192 := fun i k h => by
  have h2 := ckL_ok _ _ _ ck_X12_clause i k h
  rw [Nat.zero_add] at h2
  exact h2
theorem ck_X12_fault : ckL (sMdG 209) (fun j => px_X12_fault.getD j 0) 0 C_X12_fault ax_X12_fault = true := by decide +kernel
theorem ok_X12_fault : okM 209 := fun i k h => by
  have h2 := ckL_ok _ _ _ ck_X12_fault i k h
  rw [Nat.zero_add] at h2
  exact h2
theorem ck_X12_isWall : ckL (sMdG 210) (fun j => px_X12_isWall.getD j 0) 0 C_X12_isWall ax_X12_isWall = true := by decide +kernel
theorem ok_X12_isWall : okM 210 := fun i k h => by
  have h2 := ckL_ok _ _ _ ck_X12_isWall i k h
  rw [Nat.zero_add] at h2
  exact h2
theorem ck_X12_isBeside : ckL (sMdG 211) (fun j => px_X12_isBeside.getD j 0) 0 C_X12_isBeside ax_X12_isBeside = true := by decide +kernel
theorem ok_X12_isBeside : okM 211 := fun i k h => by
  have h2 := ckL_ok _ _ _ ck_X12_isBeside i k h
  rw [Nat.zero_add] at h2
  exact h2
theorem ck_X12_forceWith : ckL (sMdG 214) (fun j => px_X12_forceWith.getD j 0) 0 C_X12_forceWith ax_X12_forceWith = true := by decide +kernel
theorem ok_X12_forceWith : okM 214 := fun i k h => by
  have h2 := ckL_ok _ _ _ ck_X12_forceWith i k h
  rw [Nat.zero_add] at h2
  exact h2
theorem ck_X12_goes : ckL (sMdG 221) (fun j => px_X12_goes.getD j 0) 0 C_X12_goes ax_X12_goes = true := by decide +kernel
theorem ok_X12_goes : okM 221 := fun i k h => by
  have h2 := ckL_ok _ _ _ ck_X12_goes i k h
  rw [Nat.zero_add] at h2
  exact h2
theorem ck_X12_wishedIn : ckL (sMdG 226) (fun j => px_X12_wishedIn.getD j 0) 0 C_X12_wishedIn ax_X12_wishedIn = true := by decide +kernel
theorem ok_X12_wishedIn : okM 226 := fun i k h => by
  have h2 := ckL_ok _ _ _ ck_X12_wishedIn i k h
  rw [Nat.zero_add] at h2
  exact h2
theorem ck_X12_fightsOf : ckL (sMdG 229) (fun j => px_X12_fightsOf.getD j 0) 0 C_X12_fightsOf ax_X12_fightsOf = true := by decide +kernel
theorem ok_X12_fightsOf : okM 229 := fun i k h => by
  have h2 := ckL_ok _ _ _ ck_X12_fightsOf i k h
  rw [Nat.zero_add] at h2
  exact h2
theorem ck_X12_isPiano : ckL (sMdG 232) (fun j => px_X12_isPiano.getD j 0) 0 C_X12_isPiano ax_X12_isPiano = true := by decide +kernel
theorem ok_X12_isPiano : okM 232 := fun i k h => by
  have h2 := ckL_ok _ _ _ ck_X12_isPiano i k h
  rw [Nat.zero_add] at h2
  exact h2
theorem ck_X12_wall : ckL (sMdG 236) (fun j => px_X12_wall.getD j 0) 0 C_X12_wall ax_X12_wall = true := by decide +kernel
theorem ok_X12_wall : okM 236 := fun i k h => by
  have h2 := ckL_ok _ _ _ ck_X12_wall i k h
  rw [Nat.zero_add] at h2
  exact h2
theorem ck_X12_would : ckL (sMdG 238) (fun j => px_X12_would.getD j 0) 0 C_X12_would ax_X12_would = true := by decide +kernel
theorem ok_X12_would : okM 238 := fun i k h => by
  have h2 := ckL_ok _ _ _ ck_X12_would i k h
  rw [Nat.zero_add] at h2
  exact h2
theorem ck_X12_ahead : ckL (sMdG 239) (fun j => px_X12_ahead.getD j 0) 0 C_X12_ahead ax_X12_ahead = true := by decide +kernel
theorem ok_X12_ahead : okM 239 := fun i k h => by
  have h2 := ckL_ok _ _ _ ck_X12_ahead i k h
  rw [Nat.zero_add] at h2
  exact h2
theorem ck_X12_placed : ckL (sMdG 245) (fun j => px_X12_placed.getD j 0) 0 C_X12_placed ax_X12_placed = true := by decide +kernel
theorem ok_X12_placed : okM 245 := fun i k h => by
  have h2 := ckL_ok _ _ _ ck_X12_placed i k h
  rw [Nat.zero_add] at h2
  exact h2
theorem ck_X12_from : ckL (sMdG 248) (fun j => px_X12_from.getD j 0) 0 C_X12_from ax_X12_from = true := by decide +kernel
theorem ok_X12_from : okM 248 := fun i k h => by
  have h2 := ckL_ok _ _ _ ck_X12_from i k h
  rw [Nat.zero_add] at h2
  exact h2
theorem ck_X12_ones : ckL (sMdG 252) (fun j => px_X12_ones.getD j 0) 0 C_X12_ones ax_X12_ones = true := by decide +kernel
theorem ok_X12_ones : okM 252 := fun i k h => by
  have h2 := ckL_ok _ _ _ ck_X12_ones i k h
  rw [Nat.zero_add] at h2
  exact h2
theorem ck_X12_alone : ckL (sMdG 253) (fun j => px_X12_alone.getD j 0) 0 C_X12_alone ax_X12_alone = true := by decide +kernel
theorem ok_X12_alone : okM 253 := fun i k h => by
  have h2 := ckL_ok _ _ _ ck_X12_alone i k h
  rw [Nat.zero_add] at h2
  exact h2
theorem ck_X12_hisBy : ckL (sMdG 255) (fun j => px_X12_hisBy.getD j 0) 0 C_X12_hisBy ax_X12_hisBy = true := by decide +kernel
theorem ok_X12_hisBy : okM 255 := fun i k h => by
  have h2 := ckL_ok _ _ _ ck_X12_hisBy i k h
  rw [Nat.zero_add] at h2
  exact h2
theorem ck_X12_tuner : ckL (sMdG 257) (fun j => px_X12_tuner.getD j 0) 0 C_X12_tuner ax_X12_tuner = true := by decide +kernel
theorem ok_X12_tuner : okM 257 := fun i k h => by
  have h2 := ckL_ok _ _ _ ck_X12_tuner i k h
  rw [Nat.zero_add] at h2
  exact h2
theorem ck_X12_empty : ckL (sMdG 265) (fun j => px_X12_empty.getD j 0) 0 C_X12_empty ax_X12_empty = true := by decide +kernel
theorem ok_X12_empty : okM 265 := fun i k h => by
  have h2 := ckL_ok _ _ _ ck_X12_empty i k h
  rw [Nat.zero_add] at h2
  exact h2
theorem ck_X12_draw : ckL (sMdG 268) (fun j => px_X12_draw.getD j 0) 0 C_X12_draw ax_X12_draw = true := by decide +kernel
theorem ok_X12_draw : okM 268 := fun i k h => by
  have h2 := ckL_ok _ _ _ ck_X12_draw i k h
  rw [Nat.zero_add] at h2
  exact h2
theorem ck_X12_isYear : ckL (sMdG 270) (fun j => px_X12_isYear.getD j 0) 0 C_X12_isYear ax_X12_isYear = true := by decide +kernel
theorem ok_X12_isYear : okM 270 := fun i k h => by
  have h2 := ckL_ok _ _ _ ck_X12_isYear i k h
  rw [Nat.zero_add] at h2
  exact h2
theorem ck_X12_year : ckL (sMdG 271) (fun j => px_X12_year.getD j 0) 0 C_X12_year ax_X12_year = true := by decide +kernel
theorem ok_X12_year : okM 271 := fun i k h => by
  have h2 := ckL_ok _ _ _ ck_X12_year i k h
  rw [Nat.zero_add] at h2
  exact h2
theorem ck_X12_image : ckL (sMdG 275) (fun j => px_X12_image.getD j 0) 0 C_X12_image ax_X12_image = true := by decide +kernel
theorem ok_X12_image : okM 275 := fun i k h => by
  have h2 := ckL_ok _ _ _ ck_X12_image i k h
  rw [Nat.zero_add] at h2
  exact h2
theorem ck_X12_status : ckL (sMdG 277) (fun j => px_X12_status.getD j 0) 0 C_X12_status ax_X12_status = true := by decide +kernel
theorem ok_X12_status : okM 277 := fun i k h => by
  have h2 := ckL_ok _ _ _ ck_X12_status i k h
  rw [Nat.zero_add] at h2
  exact h2
theorem ck_X12_count : ckL (sMdG 278) (fun j => px_X12_count.getD j 0) 0 C_X12_count ax_X12_count = true := by decide +kernel
theorem ok_X12_count : okM 278 := fun i k h => by
  have h2 := ckL_ok _ _ _ ck_X12_count i k h
  rw [Nat.zero_add] at h2
  exact h2
theorem ck_L_law : ckL (sMdG 280) (fun j => px_L_law.getD j 0) 0 C_L_law ax_L_law = true := by decide +kernel
theorem ok_L_law : okM 280 := fun i k h => by
  have h2 := ckL_ok _ _ _ ck_L_law i k h
  rw [Nat.zero_add] at h2
  exact h2
theorem ck_L_book : ckL (sMdG 282) (fun j => px_L_book.getD j 0) 0 C_L_book ax_L_book = true := by decide +kernel
theorem ok_L_book : okM 282 := fun i k h => by
  have h2 := ckL_ok _ _ _ ck_L_book i k h
  rw [Nat.zero_add] at h2
  exact h2
theorem ck_L_house : ckL (sMdG 284) (fun j => px_L_house.getD j 0) 0 C_L_house ax_L_house = true := by decide +kernel
theorem ok_L_house : okM 284 := fun i k h => by
  have h2 := ckL_ok _ _ _ ck_L_house i k h
  rw [Nat.zero_add] at h2
  exact h2
theorem ck_L_piano : ckL (sMdG 287) (fun j => px_L_piano.getD j 0) 0 C_L_piano ax_L_piano = true := by decide +kernel
theorem ok_L_piano : okM 287 := fun i k h => by
  have h2 := ckL_ok _ _ _ ck_L_piano i k h
  rw [Nat.zero_add] at h2
  exact h2
theorem ck_L_when : ckL (sMdG 290) (fun j => px_L_when.getD j 0) 0 C_L_when ax_L_when = true := by decide +kernel
theorem ok_L_when : okM 290 := fun i k h => by
  have h2 := ckL_ok _ _ _ ck_L_when i k h
  rw [Nat.zero_add] at h2
  exact h2
theorem ck_L_placed : ckL (sMdG 292) (fun j => px_L_placed.getD j 0) 0 C_L_placed ax_L_placed = true := by decide +kernel
theorem ok_L_placed : okM 292 := fun i k h => by
  have h2 := ckL_ok _ _ _ ck_L_placed i k h
  rw [Nat.zero_add] at h2
  exact h2
theorem ck_L_way : ckL (sMdG 295) (fun j => px_L_way.getD j 0) 0 C_L_way ax_L_way = true := by decide +kernel
theorem ok_L_way : okM 295 := fun i k h => by
  have h2 := ckL_ok _ _ _ ck_L_way i k h
  rw [Nat.zero_add] at h2
  exact h2
theorem ck_L_share : ckL (sMdG 298) (fun j => px_L_share.getD j 0) 0 C_L_share ax_L_share = true := by decide +kernel
theorem ok_L_share : okM 298 := fun i k h => by
  have h2 := ckL_ok _ _ _ ck_L_share i k h
  rw [Nat.zero_add] at h2
  exact h2
theorem ck_L_oldest : ckL (sMdG 302) (fun j => px_L_oldest.getD j 0) 0 C_L_oldest ax_L_oldest = true := by decide +kernel
theorem ok_L_oldest : okM 302 := fun i k h => by
  have h2 := ckL_ok _ _ _ ck_L_oldest i k h
  rw [Nat.zero_add] at h2
  exact h2
theorem ck_L_year : ckL (sMdG 305) (fun j => px_L_year.getD j 0) 0 C_L_year ax_L_year = true := by decide +kernel
theorem ok_L_year : okM 305 := fun i k h => by
  have h2 := ckL_ok _ _ _ ck_L_year i k h
  rw [Nat.zero_add] at h2
  exact h2
