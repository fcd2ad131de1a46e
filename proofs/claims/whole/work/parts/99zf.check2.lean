/-! SOUNDNESS, 4: the checks -/
theorem ck_X0_copyFrom : ckL (sMdG 2) (fun j => px_X0_copyFrom.getD j 0) 0 C_X0_copyFrom ax_X0_copyFrom = true := by decide +kernel
theorem ok_X0_copyFrom : okM 2 := fun i k h => by
  have h2 := ckL_ok _ _ _ ck_X0_copyFrom i k h
  rw [Nat.zero_add] at h2
  exact h2
theorem ck_X0_latestDay : ckL (sMdG 6) (fun j => px_X0_latestDay.getD j 0) 0 C_X0_latestDay ax_X0_latestDay = true := by decide +kernel
theorem ok_X0_latestDay : okM 6 := fun i k h => by
  have h2 := ckL_ok _ _ _ ck_X0_latestDay i k h
  rw [Nat.zero_add] at h2
  exact h2
theorem ck_X1_giveTo : ckL (sMdG 9) (fun j => px_X1_giveTo.getD j 0) 0 C_X1_giveTo ax_X1_giveTo = true := by decide +kernel
theorem ok_X1_giveTo : okM 9 := fun i k h => by
  have h2 := ckL_ok _ _ _ ck_X1_giveTo i k h
  rw [Nat.zero_add] at h2
  exact h2
theorem ck_X2_copyFrom : ckL (sMdG 12) (fun j => px_X2_copyFrom.getD j 0) 0 C_X2_copyFrom ax_X2_copyFrom = true := by decide +kernel
theorem ok_X2_copyFrom : okM 12 := fun i k h => by
  have h2 := ckL_ok _ _ _ ck_X2_copyFrom i k h
  rw [Nat.zero_add] at h2
  exact h2
theorem ck_X2_parseProduct : ckL (sMdG 15) (fun j => px_X2_parseProduct.getD j 0) 0 C_X2_parseProduct ax_X2_parseProduct = true := by decide +kernel
theorem ok_X2_parseProduct : okM 15 := fun i k h => by
  have h2 := ckL_ok _ _ _ ck_X2_parseProduct i k h
  rw [Nat.zero_add] at h2
  exact h2
theorem ck_X2_add : ckL (sMdG 20) (fun j => px_X2_add.getD j 0) 0 C_X2_add ax_X2_add = true := by decide +kernel
theorem ok_X2_add : okM 20 := fun i k h => by
  have h2 := ckL_ok _ _ _ ck_X2_add i k h
  rw [Nat.zero_add] at h2
  exact h2
theorem ck_X2_force : ckL (sMdG 21) (fun j => px_X2_force.getD j 0) 0 C_X2_force ax_X2_force = true := by decide +kernel
theorem ok_X2_force : okM 21 := fun i k h => by
  have h2 := ckL_ok _ _ _ ck_X2_force i k h
  rw [Nat.zero_add] at h2
  exact h2
theorem ck_X3_strongOf : ckL (sMdG 31) (fun j => px_X3_strongOf.getD j 0) 0 C_X3_strongOf ax_X3_strongOf = true := by decide +kernel
theorem ok_X3_strongOf : okM 31 := fun i k h => by
  have h2 := ckL_ok _ _ _ ck_X3_strongOf i k h
  rw [Nat.zero_add] at h2
  exact h2
theorem ck_X3_grow : ckL (sMdG 32) (fun j => px_X3_grow.getD j 0) 0 C_X3_grow ax_X3_grow = true := by decide +kernel
theorem ok_X3_grow : okM 32 := fun i k h => by
  have h2 := ckL_ok _ _ _ ck_X3_grow i k h
  rw [Nat.zero_add] at h2
  exact h2
theorem ck_X6_standing : ckL (sMdG 51) (fun j => px_X6_standing.getD j 0) 0 C_X6_standing ax_X6_standing = true := by decide +kernel
theorem ok_X6_standing : okM 51 := fun i k h => by
  have h2 := ckL_ok _ _ _ ck_X6_standing i k h
  rw [Nat.zero_add] at h2
  exact h2
theorem ck_X6_takeOut : ckL (sMdG 54) (fun j => px_X6_takeOut.getD j 0) 0 C_X6_takeOut ax_X6_takeOut = true := by decide +kernel
theorem ok_X6_takeOut : okM 54 := fun i k h => by
  have h2 := ckL_ok _ _ _ ck_X6_takeOut i k h
  rw [Nat.zero_add] at h2
  exact h2
theorem ck_X6_fights : ckL (sMdG 57) (fun j => px_X6_fights.getD j 0) 0 C_X6_fights ax_X6_fights = true := by decide +kernel
theorem ok_X6_fights : okM 57 := fun i k h => by
  have h2 := ckL_ok _ _ _ ck_X6_fights i k h
  rw [Nat.zero_add] at h2
  exact h2
theorem ck_X6_fightsAt : ckL (sMdG 58) (fun j => px_X6_fightsAt.getD j 0) 0 C_X6_fightsAt ax_X6_fightsAt = true := by decide +kernel
theorem ok_X6_fightsAt : okM 58 := fun i k h => by
  have h2 := ckL_ok _ _ _ ck_X6_fightsAt i k h
  rw [Nat.zero_add] at h2
  exact h2
theorem ck_X6_thingIn : ckL (sMdG 64) (fun j => px_X6_thingIn.getD j 0) 0 C_X6_thingIn ax_X6_thingIn = true := by decide +kernel
theorem ok_X6_thingIn : okM 64 := fun i k h => by
  have h2 := ckL_ok _ _ _ ck_X6_thingIn i k h
  rw [Nat.zero_add] at h2
  exact h2
theorem ck_X6_mostBut : ckL (sMdG 65) (fun j => px_X6_mostBut.getD j 0) 0 C_X6_mostBut ax_X6_mostBut = true := by decide +kernel
theorem ok_X6_mostBut : okM 65 := fun i k h => by
  have h2 := ckL_ok _ _ _ ck_X6_mostBut i k h
  rw [Nat.zero_add] at h2
  exact h2
theorem ck_X6_kindsIn : ckL (sMdG 67) (fun j => px_X6_kindsIn.getD j 0) 0 C_X6_kindsIn ax_X6_kindsIn = true := by decide +kernel
theorem ok_X6_kindsIn : okM 67 := fun i k h => by
  have h2 := ckL_ok _ _ _ ck_X6_kindsIn i k h
  rw [Nat.zero_add] at h2
  exact h2
theorem ck_X6_otherThanTold : ckL (sMdG 70) (fun j => px_X6_otherThanTold.getD j 0) 0 C_X6_otherThanTold ax_X6_otherThanTold = true := by decide +kernel
theorem ok_X6_otherThanTold : okM 70 := fun i k h => by
  have h2 := ckL_ok _ _ _ ck_X6_otherThanTold i k h
  rw [Nat.zero_add] at h2
  exact h2
theorem ck_X7_peek : ckL (sMdG 75) (fun j => px_X7_peek.getD j 0) 0 C_X7_peek ax_X7_peek = true := by decide +kernel
theorem ok_X7_peek : okM 75 := fun i k h => by
  have h2 := ckL_ok _ _ _ ck_X7_peek i k h
  rw [Nat.zero_add] at h2
  exact h2
theorem ck_X7_takesWord : ckL (sMdG 80) (fun j => px_X7_takesWord.getD j 0) 0 C_X7_takesWord ax_X7_takesWord = true := by decide +kernel
theorem ok_X7_takesWord : okM 80 := fun i k h => by
  have h2 := ckL_ok _ _ _ ck_X7_takesWord i k h
  rw [Nat.zero_add] at h2
  exact h2
theorem ck_X8_parse : ckL (sMdG 87) (fun j => px_X8_parse.getD j 0) 0 C_X8_parse ax_X8_parse = true := by decide +kernel
theorem ok_X8_parse : okM 87 := fun i k h => by
  have h2 := ckL_ok _ _ _ ck_X8_parse i k h
  rw [Nat.zero_add] at h2
  exact h2
theorem ck_X8_clauseKind : ckL (sMdG 89) (fun j => px_X8_clauseKind.getD j 0) 0 C_X8_clauseKind ax_X8_clauseKind = true := by decide +kernel
theorem ok_X8_clauseKind : okM 89 := fun i k h => by
  have h2 := ckL_ok _ _ _ ck_X8_clauseKind i k h
  rw [Nat.zero_add] at h2
  exact h2
theorem ck_X8_parseWall : ckL (sMdG 92) (fun j => px_X8_parseWall.getD j 0) 0 C_X8_parseWall ax_X8_parseWall = true := by decide +kernel
theorem ok_X8_parseWall : okM 92 := fun i k h => by
  have h2 := ckL_ok _ _ _ ck_X8_parseWall i k h
  rw [Nat.zero_add] at h2
  exact h2
theorem ck_X9_doSteps : ckL (sMdG 107) (fun j => px_X9_doSteps.getD j 0) 0 C_X9_doSteps ax_X9_doSteps = true := by decide +kernel
theorem ok_X9_doSteps : okM 107 := fun i k h => by
  have h2 := ckL_ok _ _ _ ck_X9_doSteps i k h
  rw [Nat.zero_add] at h2
  exact h2
theorem ck_X11_work : ckL (sMdG 117) (fun j => px_X11_work.getD j 0) 0 C_X11_work ax_X11_work = true := by decide +kernel
theorem ok_X11_work : okM 117 := fun i k h => by
  have h2 := ckL_ok _ _ _ ck_X11_work i k h
  rw [Nat.zero_add] at h2
  exact h2
theorem ck_X11_there : ckL (sMdG 124) (fun j => px_X11_there.getD j 0) 0 C_X11_there ax_X11_there = true := by decide +kernel
theorem ok_X11_there : okM 124 := fun i k h => by
  have h2 := ckL_ok _ _ _ ck_X11_there i k h
  rw [Nat.zero_add] at h2
  exact h2
theorem ck_X11_wall : ckL (sMdG 125) (fun j => px_X11_wall.getD j 0) 0 C_X11_wall ax_X11_wall = true := by decide +kernel
theorem ok_X11_wall : okM 125 := fun i k h => by
  have h2 := ckL_ok _ _ _ ck_X11_wall i k h
  rw [Nat.zero_add] at h2
  exact h2
theorem ck_X11_piano : ckL (sMdG 126) (fun j => px_X11_piano.getD j 0) 0 C_X11_piano ax_X11_piano = true := by decide +kernel
theorem ok_X11_piano : okM 126 := fun i k h => by
  have h2 := ckL_ok _ _ _ ck_X11_piano i k h
  rw [Nat.zero_add] at h2
  exact h2
theorem ck_X11_quiet : ckL (sMdG 130) (fun j => px_X11_quiet.getD j 0) 0 C_X11_quiet ax_X11_quiet = true := by decide +kernel
theorem ok_X11_quiet : okM 130 := fun i k h => by
  have h2 := ckL_ok _ _ _ ck_X11_quiet i k h
  rw [Nat.zero_add] at h2
  exact h2
theorem ck_X11_empty : ckL (sMdG 133) (fun j => px_X11_empty.getD j 0) 0 C_X11_empty ax_X11_empty = true := by decide +kernel
theorem ok_X11_empty : okM 133 := fun i k h => by
  have h2 := ckL_ok _ _ _ ck_X11_empty i k h
  rw [Nat.zero_add] at h2
  exact h2
theorem ck_X11_ahead : ckL (sMdG 135) (fun j => px_X11_ahead.getD j 0) 0 C_X11_ahead ax_X11_ahead = true := by decide +kernel
theorem ok_X11_ahead : okM 135 := fun i k h => by
  have h2 := ckL_ok _ _ _ ck_X11_ahead i k h
  rw [Nat.zero_add] at h2
  exact h2
theorem ck_X11_placed : ckL (sMdG 140) (fun j => px_X11_placed.getD j 0) 0 C_X11_placed ax_X11_placed = true := by decide +kernel
theorem ok_X11_placed : okM 140 := fun i k h => by
  have h2 := ckL_ok _ _ _ ck_X11_placed i k h
  rw [Nat.zero_add] at h2
  exact h2
theorem ck_X11_look : ckL (sMdG 142) (fun j => px_X11_look.getD j 0) 0 C_X11_look ax_X11_look = true := by decide +kernel
theorem ok_X11_look : okM 142 := fun i k h => by
  have h2 := ckL_ok _ _ _ ck_X11_look i k h
  rw [Nat.zero_add] at h2
  exact h2
theorem ck_X11_way : ckL (sMdG 146) (fun j => px_X11_way.getD j 0) 0 C_X11_way ax_X11_way = true := by decide +kernel
theorem ok_X11_way : okM 146 := fun i k h => by
  have h2 := ckL_ok _ _ _ ck_X11_way i k h
  rw [Nat.zero_add] at h2
  exact h2
theorem ck_X11_tuner : ckL (sMdG 150) (fun j => px_X11_tuner.getD j 0) 0 C_X11_tuner ax_X11_tuner = true := by decide +kernel
theorem ok_X11_tuner : okM 150 := fun i k h => by
  have h2 := ckL_ok _ _ _ ck_X11_tuner i k h
  rw [Nat.zero_add] at h2
  exact h2
theorem ck_X11_count : ckL (sMdG 158) (fun j => px_X11_count.getD j 0) 0 C_X11_count ax_X11_count = true := by decide +kernel
theorem ok_X11_count : okM 158 := fun i k h => by
  have h2 := ckL_ok _ _ _ ck_X11_count i k h
  rw [Nat.zero_add] at h2
  exact h2
theorem ck_X11_needRange : ckL (sMdG 163) (fun j => px_X11_needRange.getD j 0) 0 C_X11_needRange ax_X11_needRange = true := by decide +kernel
theorem ok_X11_needRange : okM 163 := fun i k h => by
  have h2 := ckL_ok _ _ _ ck_X11_needRange i k h
  rw [Nat.zero_add] at h2
  exact h2
theorem ck_X12_in : ckL (sMdG 168) (fun j => px_X12_in.getD j 0) 0 C_X12_in ax_X12_in = true := by decide +kernel
theorem ok_X12_in : okM 168 := fun i k h => by
  have h2 := ckL_ok _ _ _ ck_X12_in i k h
  rw [Nat.zero_add] at h2
  exact h2
theorem ck_X12_less : ckL (sMdG 169) (fun j => px_X12_less.getD j 0) 0 C_X12_less ax_X12_less = true := by decide +kernel
theorem ok_X12_less : okM 169 := fun i k h => by
  have h2 := ckL_ok _ _ _ ck_X12_less i k h
  rw [Nat.zero_add] at h2
  exact h2
theorem ck_X12_more : ckL (sMdG 170) (fun j => px_X12_more.getD j 0) 0 C_X12_more ax_X12_more = true := by decide +kernel
theorem ok_X12_more : okM 170 := fun i k h => by
  have h2 := ckL_ok _ _ _ ck_X12_more i k h
  rw [Nat.zero_add] at h2
  exact h2
theorem ck_X12_has : ckL (sMdG 171) (fun j => px_X12_has.getD j 0) 0 C_X12_has ax_X12_has = true := by decide +kernel
theorem ok_X12_has : okM 171 := fun i k h => by
  have h2 := ckL_ok _ _ _ ck_X12_has i k h
  rw [Nat.zero_add] at h2
  exact h2
theorem ck_X12_byteAt : ckL (sMdG 173) (fun j => px_X12_byteAt.getD j 0) 0 C_X12_byteAt ax_X12_byteAt = true := by decide +kernel
theorem ok_X12_byteAt : okM 173 := fun i k h => by
  have h2 := ckL_ok _ _ _ ck_X12_byteAt i k h
  rw [Nat.zero_add] at h2
  exact h2
theorem ck_X12_wrong : ckL (sMdG 175) (fun j => px_X12_wrong.getD j 0) 0 C_X12_wrong ax_X12_wrong = true := by decide +kernel
theorem ok_X12_wrong : okM 175 := fun i k h => by
  have h2 := ckL_ok _ _ _ ck_X12_wrong i k h
  rw [Nat.zero_add] at h2
  exact h2
theorem ck_X12_isSmall : ckL (sMdG 177) (fun j => px_X12_isSmall.getD j 0) 0 C_X12_isSmall ax_X12_isSmall = true := by decide +kernel
theorem ok_X12_isSmall : okM 177 := fun i k h => by
  have h2 := ckL_ok _ _ _ ck_X12_isSmall i k h
  rw [Nat.zero_add] at h2
  exact h2
theorem ck_X12_wordHere : ckL (sMdG 179) (fun j => px_X12_wordHere.getD j 0) 0 C_X12_wordHere ax_X12_wordHere = true := by decide +kernel
theorem ok_X12_wordHere : okM 179 := fun i k h => by
  have h2 := ckL_ok _ _ _ ck_X12_wordHere i k h
  rw [Nat.zero_add] at h2
  exact h2
theorem ck_X12_six : ckL (sMdG 180) (fun j => px_X12_six.getD j 0) 0 C_X12_six ax_X12_six = true := by decide +kernel
theorem ok_X12_six : okM 180 := fun i k h => by
  have h2 := ckL_ok _ _ _ ck_X12_six i k h
  rw [Nat.zero_add] at h2
  exact h2
theorem ck_X12_sign : ckL (sMdG 184) (fun j => px_X12_sign.getD j 0) 0 C_X12_sign ax_X12_sign = true := by decide +kernel
theorem ok_X12_sign : okM 184 := fun i k h => by
  have h2 := ckL_ok _ _ _ ck_X12_sign i k h
  rw [Nat.zero_add] at h2
  exact h2
theorem ck_X12_ends : ckL (sMdG 187) (fun j => px_X12_ends.getD j 0) 0 C_X12_ends ax_X12_ends = true := by decide +kernel
theorem ok_X12_ends : okM 187 := fun i k h => by
  have h2 := ckL_ok _ _ _ ck_X12_ends i k h
  rw [Nat.zero_add] at h2
  exact h2
theorem ck_X12_kindHere : ckL (sMdG 188) (fun j => px_X12_kindHere.getD j 0) 0 C_X12_kindHere ax_X12_kindHere = true := by decide +kernel
theorem ok_X12_kindHere : okM 188 := fun i k h => by
  have h2 := ckL_ok _ _ _ ck_X12_kindHere i k h
  rw [Nat.zero_add] at h2
  exact h2
theorem ck_X12_lays : ckL (sMdG 194) (fun j => px_X12_lays.getD j 0) 0 C_X12_lays ax_X12_lays = true := by decide +kernel
theorem ok_X12_lays : okM 194 := fun i k h => by
  have h2 := ckL_ok _ _ _ ck_X12_lays i k h
  rw [Nat.zero_add] at h2
  exact h2
theorem ck_X12_copies : ckL (sMdG 195) (fun j => px_X12_copies.getD j 0) 0 C_X12_copies ax_X12_copies = true := by decide +kernel
theorem ok_X12_copies : okM 195 := fun i k h => by
  have h2 := ckL_ok _ _ _ ck_X12_copies i k h
  rw [Nat.zero_add] at h2
  exact h2
theorem ck_X12_beginsAnew : ckL (sMdG 196) (fun j => px_X12_beginsAnew.getD j 0) 0 C_X12_beginsAnew ax_X12_beginsAnew = true := by decide +kernel
theorem ok_X12_beginsAnew : okM 196 := fun i k h => by
  have h2 := ckL_ok _ _ _ ck_X12_beginsAnew i k h
  rw [Nat.zero_add] at h2
  exact h2
theorem ck_X12_by : ckL (sMdG 204) (fun j => px_X12_by.getD j 0) 0 C_X12_by ax_X12_by = true := by decide +kernel
theorem ok_X12_by : okM 204 := fun i k h => by
  have h2 := ckL_ok _ _ _ ck_X12_by i k h
  rw [Nat.zero_add] at h2
  exact h2
theorem ck_X12_readsStep : ckL (sMdG 207) (fun j => px_X12_readsStep.getD j 0) 0 C_X12_readsStep ax_X12_readsStep = true := by decide +kernel
theorem ok_X12_readsStep : okM 207 := fun i k h => by
  have h2 := ckL_ok _ _ _ ck_X12_readsStep i k h
  rw [Nat.zero_add] at h2
  exact h2
theorem ck_X12_dayEnds : ckL (sMdG 219) (fun j => px_X12_dayEnds.getD j 0) 0 C_X12_dayEnds ax_X12_dayEnds = true := by decide +kernel
theorem ok_X12_dayEnds : okM 219 := fun i k h => by
  have h2 := ckL_ok _ _ _ ck_X12_dayEnds i k h
  rw [Nat.zero_add] at h2
  exact h2
theorem ck_X12_undo : ckL (sMdG 223) (fun j => px_X12_undo.getD j 0) 0 C_X12_undo ax_X12_undo = true := by decide +kernel
theorem ok_X12_undo : okM 223 := fun i k h => by
  have h2 := ckL_ok _ _ _ ck_X12_undo i k h
  rw [Nat.zero_add] at h2
  exact h2
theorem ck_X12_amount : ckL (sMdG 224) (fun j => px_X12_amount.getD j 0) 0 C_X12_amount ax_X12_amount = true := by decide +kernel
theorem ok_X12_amount : okM 224 := fun i k h => by
  have h2 := ckL_ok _ _ _ ck_X12_amount i k h
  rw [Nat.zero_add] at h2
  exact h2
theorem ck_X12_thingOf : ckL (sMdG 225) (fun j => px_X12_thingOf.getD j 0) 0 C_X12_thingOf ax_X12_thingOf = true := by decide +kernel
theorem ok_X12_thingOf : okM 225 := fun i k h => by
  have h2 := ckL_ok _ _ _ ck_X12_thingOf i k h
  rw [Nat.zero_add] at h2
  exact h2
theorem ck_X12_changedIn : ckL (sMdG 227) (fun j => px_X12_changedIn.getD j 0) 0 C_X12_changedIn ax_X12_changedIn = true := by decide +kernel
theorem ok_X12_changedIn : okM 227 := fun i k h => by
  have h2 := ckL_ok _ _ _ ck_X12_changedIn i k h
  rw [Nat.zero_add] at h2
  exact h2
theorem ck_X12_isHouse : ckL (sMdG 231) (fun j => px_X12_isHouse.getD j 0) 0 C_X12_isHouse ax_X12_isHouse = true := by decide +kernel
theorem ok_X12_isHouse : okM 231 := fun i k h => by
  have h2 := ckL_ok _ _ _ ck_X12_isHouse i k h
  rw [Nat.zero_add] at h2
  exact h2
theorem ck_X12_isThing : ckL (sMdG 233) (fun j => px_X12_isThing.getD j 0) 0 C_X12_isThing ax_X12_isThing = true := by decide +kernel
theorem ok_X12_isThing : okM 233 := fun i k h => by
  have h2 := ckL_ok _ _ _ ck_X12_isThing i k h
  rw [Nat.zero_add] at h2
  exact h2
theorem ck_X12_there : ckL (sMdG 235) (fun j => px_X12_there.getD j 0) 0 C_X12_there ax_X12_there = true := by decide +kernel
theorem ok_X12_there : okM 235 := fun i k h => by
  have h2 := ckL_ok _ _ _ ck_X12_there i k h
  rw [Nat.zero_add] at h2
  exact h2
theorem ck_X12_piano : ckL (sMdG 237) (fun j => px_X12_piano.getD j 0) 0 C_X12_piano ax_X12_piano = true := by decide +kernel
theorem ok_X12_piano : okM 237 := fun i k h => by
  have h2 := ckL_ok _ _ _ ck_X12_piano i k h
  rw [Nat.zero_add] at h2
  exact h2
theorem ck_X12_when : ckL (sMdG 240) (fun j => px_X12_when.getD j 0) 0 C_X12_when ax_X12_when = true := by decide +kernel
theorem ok_X12_when : okM 240 := fun i k h => by
  have h2 := ckL_ok _ _ _ ck_X12_when i k h
  rw [Nat.zero_add] at h2
  exact h2
theorem ck_X12_places : ckL (sMdG 244) (fun j => px_X12_places.getD j 0) 0 C_X12_places ax_X12_places = true := by decide +kernel
theorem ok_X12_places : okM 244 := fun i k h => by
  have h2 := ckL_ok _ _ _ ck_X12_places i k h
  rw [Nat.zero_add] at h2
  exact h2
theorem ck_X12_laysHeard : ckL (sMdG 246) (fun j => px_X12_laysHeard.getD j 0) 0 C_X12_laysHeard ax_X12_laysHeard = true := by decide +kernel
theorem ok_X12_laysHeard : okM 246 := fun i k h => by
  have h2 := ckL_ok _ _ _ ck_X12_laysHeard i k h
  rw [Nat.zero_add] at h2
  exact h2
theorem ck_X12_isTold : ckL (sMdG 249) (fun j => px_X12_isTold.getD j 0) 0 C_X12_isTold ax_X12_isTold = true := by decide +kernel
theorem ok_X12_isTold : okM 249 := fun i k h => by
  have h2 := ckL_ok _ _ _ ck_X12_isTold i k h
  rw [Nat.zero_add] at h2
  exact h2
theorem ck_X12_way : ckL (sMdG 251) (fun j => px_X12_way.getD j 0) 0 C_X12_way ax_X12_way = true := by decide +kernel
theorem ok_X12_way : okM 251 := fun i k h => by
  have h2 := ckL_ok _ _ _ ck_X12_way i k h
  rw [Nat.zero_add] at h2
  exact h2
theorem ck_X12_itsBy : ckL (sMdG 256) (fun j => px_X12_itsBy.getD j 0) 0 C_X12_itsBy ax_X12_itsBy = true := by decide +kernel
theorem ok_X12_itsBy : okM 256 := fun i k h => by
  have h2 := ckL_ok _ _ _ ck_X12_itsBy i k h
  rw [Nat.zero_add] at h2
  exact h2
theorem ck_X12_givenBy : ckL (sMdG 258) (fun j => px_X12_givenBy.getD j 0) 0 C_X12_givenBy ax_X12_givenBy = true := by decide +kernel
theorem ok_X12_givenBy : okM 258 := fun i k h => by
  have h2 := ckL_ok _ _ _ ck_X12_givenBy i k h
  rw [Nat.zero_add] at h2
  exact h2
theorem ck_X12_share : ckL (sMdG 259) (fun j => px_X12_share.getD j 0) 0 C_X12_share ax_X12_share = true := by decide +kernel
theorem ok_X12_share : okM 259 := fun i k h => by
  have h2 := ckL_ok _ _ _ ck_X12_share i k h
  rw [Nat.zero_add] at h2
  exact h2
theorem ck_X12_loudest : ckL (sMdG 261) (fun j => px_X12_loudest.getD j 0) 0 C_X12_loudest ax_X12_loudest = true := by decide +kernel
theorem ok_X12_loudest : okM 261 := fun i k h => by
  have h2 := ckL_ok _ _ _ ck_X12_loudest i k h
  rw [Nat.zero_add] at h2
  exact h2
theorem ck_X12_oldest : ckL (sMdG 264) (fun j => px_X12_oldest.getD j 0) 0 C_X12_oldest ax_X12_oldest = true := by decide +kernel
theorem ok_X12_oldest : okM 264 := fun i k h => by
  have h2 := ckL_ok _ _ _ ck_X12_oldest i k h
  rw [Nat.zero_add] at h2
  exact h2
theorem ck_X12_puts : ckL (sMdG 273) (fun j => px_X12_puts.getD j 0) 0 C_X12_puts ax_X12_puts = true := by decide +kernel
theorem ok_X12_puts : okM 273 := fun i k h => by
  have h2 := ckL_ok _ _ _ ck_X12_puts i k h
  rw [Nat.zero_add] at h2
  exact h2
theorem ck_X12_putsAll : ckL (sMdG 274) (fun j => px_X12_putsAll.getD j 0) 0 C_X12_putsAll ax_X12_putsAll = true := by decide +kernel
theorem ok_X12_putsAll : okM 274 := fun i k h => by
  have h2 := ckL_ok _ _ _ ck_X12_putsAll i k h
  rw [Nat.zero_add] at h2
  exact h2
theorem ck_L_wall : ckL (sMdG 286) (fun j => px_L_wall.getD j 0) 0 C_L_wall ax_L_wall = true := by decide +kernel
theorem ok_L_wall : okM 286 := fun i k h => by
  have h2 := ckL_ok _ _ _ ck_L_wall i k h
  rw [Nat.zero_add] at h2
  exact h2
theorem ck_L_ahead : ckL (sMdG 289) (fun j => px_L_ahead.getD j 0) 0 C_L_ahead ax_L_ahead = true := by decide +kernel
theorem ok_L_ahead : okM 289 := fun i k h => by
  have h2 := ckL_ok _ _ _ ck_L_ahead i k h
  rw [Nat.zero_add] at h2
  exact h2
theorem ck_L_from : ckL (sMdG 293) (fun j => px_L_from.getD j 0) 0 C_L_from ax_L_from = true := by decide +kernel
theorem ok_L_from : okM 293 := fun i k h => by
  have h2 := ckL_ok _ _ _ ck_L_from i k h
  rw [Nat.zero_add] at h2
  exact h2
theorem ck_L_price : ckL (sMdG 296) (fun j => px_L_price.getD j 0) 0 C_L_price ax_L_price = true := by decide +kernel
theorem ok_L_price : okM 296 := fun i k h => by
  have h2 := ckL_ok _ _ _ ck_L_price i k h
  rw [Nat.zero_add] at h2
  exact h2
theorem ck_L_those : ckL (sMdG 299) (fun j => px_L_those.getD j 0) 0 C_L_those ax_L_those = true := by decide +kernel
theorem ok_L_those : okM 299 := fun i k h => by
  have h2 := ckL_ok _ _ _ ck_L_those i k h
  rw [Nat.zero_add] at h2
  exact h2
theorem ck_L_quiet : ckL (sMdG 301) (fun j => px_L_quiet.getD j 0) 0 C_L_quiet ax_L_quiet = true := by decide +kernel
theorem ok_L_quiet : okM 301 := fun i k h => by
  have h2 := ckL_ok _ _ _ ck_L_quiet i k h
  rw [Nat.zero_add] at h2
  exact h2
theorem ck_L_tunes : ckL (sMdG 304) (fun j => px_L_tunes.getD j 0) 0 C_L_tunes ax_L_tunes = true := by decide +kernel
theorem ok_L_tunes : okM 304 := fun i k h => by
  have h2 := ckL_ok _ _ _ ck_L_tunes i k h
  rw [Nat.zero_add] at h2
  exact h2
theorem ck_J7_fill_53178 : ckL (sMdG 309) (fun j => px_J7_fill_53178.getD j 0) 0 C_J7_fill_53178 ax_J7_fill_53178 = true := by decide +kernel
theorem ok_J7_fill_53178 : okM 309 := fun i k h => by
  have h2 := ckL_ok _ _ _ ck_J7_fill_53178 i k h
  rw [Nat.zero_add] at h2
  exact h2
