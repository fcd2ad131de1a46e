/-! SOUNDNESS, 4: the checks -/
theorem ck_X0_parse : ckL (sMdG 3) (fun j => px_X0_parse.getD j 0) 0 C_X0_parse ax_X0_parse = true := by decide +kernel
theorem ok_X0_parse : okM 3 := fun i k h => by
  have h2 := ckL_ok _ _ _ ck_X0_parse i k h
  rw [Nat.zero_add] at h2
  exact h2
theorem ck_X1_take : ckL (sMdG 8) (fun j => px_X1_take.getD j 0) 0 C_X1_take ax_X1_take = true := by decide +kernel
theorem ok_X1_take : okM 8 := fun i k h => by
  have h2 := ckL_ok _ _ _ ck_X1_take i k h
  rw [Nat.zero_add] at h2
  exact h2
theorem ck_X2_clear : ckL (sMdG 11) (fun j => px_X2_clear.getD j 0) 0 C_X2_clear ax_X2_clear = true := by decide +kernel
theorem ok_X2_clear : okM 11 := fun i k h => by
  have h2 := ckL_ok _ _ _ ck_X2_clear i k h
  rw [Nat.zero_add] at h2
  exact h2
theorem ck_X2_parseSum : ckL (sMdG 14) (fun j => px_X2_parseSum.getD j 0) 0 C_X2_parseSum ax_X2_parseSum = true := by decide +kernel
theorem ok_X2_parseSum : okM 14 := fun i k h => by
  have h2 := ckL_ok _ _ _ ck_X2_parseSum i k h
  rw [Nat.zero_add] at h2
  exact h2
theorem ck_X2_parseChoice : ckL (sMdG 18) (fun j => px_X2_parseChoice.getD j 0) 0 C_X2_parseChoice ax_X2_parseChoice = true := by decide +kernel
theorem ok_X2_parseChoice : okM 18 := fun i k h => by
  have h2 := ckL_ok _ _ _ ck_X2_parseChoice i k h
  rw [Nat.zero_add] at h2
  exact h2
theorem ck_X2_joined : ckL (sMdG 22) (fun j => px_X2_joined.getD j 0) 0 C_X2_joined ax_X2_joined = true := by decide +kernel
theorem ok_X2_joined : okM 22 := fun i k h => by
  have h2 := ckL_ok _ _ _ ck_X2_joined i k h
  rw [Nat.zero_add] at h2
  exact h2
theorem ck_X3_countLeft : ckL (sMdG 28) (fun j => px_X3_countLeft.getD j 0) 0 C_X3_countLeft ax_X3_countLeft = true := by decide +kernel
theorem ok_X3_countLeft : okM 28 := fun i k h => by
  have h2 := ckL_ok _ _ _ ck_X3_countLeft i k h
  rw [Nat.zero_add] at h2
  exact h2
theorem ck_X4_init : ckL (sMdG 34) (fun j => px_X4_init.getD j 0) 0 C_X4_init ax_X4_init = true := by decide +kernel
theorem ok_X4_init : okM 34 := fun i k h => by
  have h2 := ckL_ok _ _ _ ck_X4_init i k h
  rw [Nat.zero_add] at h2
  exact h2
theorem ck_X4_keep : ckL (sMdG 35) (fun j => px_X4_keep.getD j 0) 0 C_X4_keep ax_X4_keep = true := by decide +kernel
theorem ok_X4_keep : okM 35 := fun i k h => by
  have h2 := ckL_ok _ _ _ ck_X4_keep i k h
  rw [Nat.zero_add] at h2
  exact h2
theorem ck_X4_giveBack : ckL (sMdG 36) (fun j => px_X4_giveBack.getD j 0) 0 C_X4_giveBack ax_X4_giveBack = true := by decide +kernel
theorem ok_X4_giveBack : okM 36 := fun i k h => by
  have h2 := ckL_ok _ _ _ ck_X4_giveBack i k h
  rw [Nat.zero_add] at h2
  exact h2
theorem ck_X4_copyFrom : ckL (sMdG 37) (fun j => px_X4_copyFrom.getD j 0) 0 C_X4_copyFrom ax_X4_copyFrom = true := by decide +kernel
theorem ok_X4_copyFrom : okM 37 := fun i k h => by
  have h2 := ckL_ok _ _ _ ck_X4_copyFrom i k h
  rw [Nat.zero_add] at h2
  exact h2
theorem ck_X5_isPeaceful : ckL (sMdG 42) (fun j => px_X5_isPeaceful.getD j 0) 0 C_X5_isPeaceful ax_X5_isPeaceful = true := by decide +kernel
theorem ok_X5_isPeaceful : okM 42 := fun i k h => by
  have h2 := ckL_ok _ _ _ ck_X5_isPeaceful i k h
  rw [Nat.zero_add] at h2
  exact h2
theorem ck_X6_copyFrom : ckL (sMdG 45) (fun j => px_X6_copyFrom.getD j 0) 0 C_X6_copyFrom ax_X6_copyFrom = true := by decide +kernel
theorem ok_X6_copyFrom : okM 45 := fun i k h => by
  have h2 := ckL_ok _ _ _ ck_X6_copyFrom i k h
  rw [Nat.zero_add] at h2
  exact h2
theorem ck_X6_amount : ckL (sMdG 46) (fun j => px_X6_amount.getD j 0) 0 C_X6_amount ax_X6_amount = true := by decide +kernel
theorem ok_X6_amount : okM 46 := fun i k h => by
  have h2 := ckL_ok _ _ _ ck_X6_amount i k h
  rw [Nat.zero_add] at h2
  exact h2
theorem ck_X6_houseOf : ckL (sMdG 47) (fun j => px_X6_houseOf.getD j 0) 0 C_X6_houseOf ax_X6_houseOf = true := by decide +kernel
theorem ok_X6_houseOf : okM 47 := fun i k h => by
  have h2 := ckL_ok _ _ _ ck_X6_houseOf i k h
  rw [Nat.zero_add] at h2
  exact h2
theorem ck_X6_feltIn : ckL (sMdG 48) (fun j => px_X6_feltIn.getD j 0) 0 C_X6_feltIn ax_X6_feltIn = true := by decide +kernel
theorem ok_X6_feltIn : okM 48 := fun i k h => by
  have h2 := ckL_ok _ _ _ ck_X6_feltIn i k h
  rw [Nat.zero_add] at h2
  exact h2
theorem ck_X6_daysOf : ckL (sMdG 49) (fun j => px_X6_daysOf.getD j 0) 0 C_X6_daysOf ax_X6_daysOf = true := by decide +kernel
theorem ok_X6_daysOf : okM 49 := fun i k h => by
  have h2 := ckL_ok _ _ _ ck_X6_daysOf i k h
  rw [Nat.zero_add] at h2
  exact h2
theorem ck_X6_pianoIn : ckL (sMdG 50) (fun j => px_X6_pianoIn.getD j 0) 0 C_X6_pianoIn ax_X6_pianoIn = true := by decide +kernel
theorem ok_X6_pianoIn : okM 50 := fun i k h => by
  have h2 := ckL_ok _ _ _ ck_X6_pianoIn i k h
  rw [Nat.zero_add] at h2
  exact h2
theorem ck_X6_occupied : ckL (sMdG 52) (fun j => px_X6_occupied.getD j 0) 0 C_X6_occupied ax_X6_occupied = true := by decide +kernel
theorem ok_X6_occupied : okM 52 := fun i k h => by
  have h2 := ckL_ok _ _ _ ck_X6_occupied i k h
  rw [Nat.zero_add] at h2
  exact h2
theorem ck_X6_lay : ckL (sMdG 55) (fun j => px_X6_lay.getD j 0) 0 C_X6_lay ax_X6_lay = true := by decide +kernel
theorem ok_X6_lay : okM 55 := fun i k h => by
  have h2 := ckL_ok _ _ _ ck_X6_lay i k h
  rw [Nat.zero_add] at h2
  exact h2
theorem ck_X6_fighters : ckL (sMdG 59) (fun j => px_X6_fighters.getD j 0) 0 C_X6_fighters ax_X6_fighters = true := by decide +kernel
theorem ok_X6_fighters : okM 59 := fun i k h => by
  have h2 := ckL_ok _ _ _ ck_X6_fighters i k h
  rw [Nat.zero_add] at h2
  exact h2
theorem ck_X6_force : ckL (sMdG 60) (fun j => px_X6_force.getD j 0) 0 C_X6_force ax_X6_force = true := by decide +kernel
theorem ok_X6_force : okM 60 := fun i k h => by
  have h2 := ckL_ok _ _ _ ck_X6_force i k h
  rw [Nat.zero_add] at h2
  exact h2
theorem ck_X7_cannotStand : ckL (sMdG 82) (fun j => px_X7_cannotStand.getD j 0) 0 C_X7_cannotStand ax_X7_cannotStand = true := by decide +kernel
theorem ok_X7_cannotStand : okM 82 := fun i k h => by
  have h2 := ckL_ok _ _ _ ck_X7_cannotStand i k h
  rw [Nat.zero_add] at h2
  exact h2
theorem ck_X7_failsToken : ckL (sMdG 83) (fun j => px_X7_failsToken.getD j 0) 0 C_X7_failsToken ax_X7_failsToken = true := by decide +kernel
theorem ok_X7_failsToken : okM 83 := fun i k h => by
  have h2 := ckL_ok _ _ _ ck_X7_failsToken i k h
  rw [Nat.zero_add] at h2
  exact h2
theorem ck_X8_init : ckL (sMdG 85) (fun j => px_X8_init.getD j 0) 0 C_X8_init ax_X8_init = true := by decide +kernel
theorem ok_X8_init : okM 85 := fun i k h => by
  have h2 := ckL_ok _ _ _ ck_X8_init i k h
  rw [Nat.zero_add] at h2
  exact h2
theorem ck_X8_parseClause : ckL (sMdG 88) (fun j => px_X8_parseClause.getD j 0) 0 C_X8_parseClause ax_X8_parseClause = true := by decide +kernel
theorem ok_X8_parseClause : okM 88 := fun i k h => by
  have h2 := ckL_ok _ _ _ ck_X8_parseClause i k h
  rw [Nat.zero_add] at h2
  exact h2
theorem ck_X8_isFull : ckL (sMdG 90) (fun j => px_X8_isFull.getD j 0) 0 C_X8_isFull ax_X8_isFull = true := by decide +kernel
theorem ok_X8_isFull : okM 90 := fun i k h => by
  have h2 := ckL_ok _ _ _ ck_X8_isFull i k h
  rw [Nat.zero_add] at h2
  exact h2
theorem ck_X8_parsePiano : ckL (sMdG 93) (fun j => px_X8_parsePiano.getD j 0) 0 C_X8_parsePiano ax_X8_parsePiano = true := by decide +kernel
theorem ok_X8_parsePiano : okM 93 := fun i k h => by
  have h2 := ckL_ok _ _ _ ck_X8_parsePiano i k h
  rw [Nat.zero_add] at h2
  exact h2
theorem ck_X9_init : ckL (sMdG 99) (fun j => px_X9_init.getD j 0) 0 C_X9_init ax_X9_init = true := by decide +kernel
theorem ok_X9_init : okM 99 := fun i k h => by
  have h2 := ckL_ok _ _ _ ck_X9_init i k h
  rw [Nat.zero_add] at h2
  exact h2
theorem ck_X9_parseSteps : ckL (sMdG 101) (fun j => px_X9_parseSteps.getD j 0) 0 C_X9_parseSteps ax_X9_parseSteps = true := by decide +kernel
theorem ok_X9_parseSteps : okM 101 := fun i k h => by
  have h2 := ckL_ok _ _ _ ck_X9_parseSteps i k h
  rw [Nat.zero_add] at h2
  exact h2
theorem ck_X9_addStep : ckL (sMdG 106) (fun j => px_X9_addStep.getD j 0) 0 C_X9_addStep ax_X9_addStep = true := by decide +kernel
theorem ok_X9_addStep : okM 106 := fun i k h => by
  have h2 := ckL_ok _ _ _ ck_X9_addStep i k h
  rw [Nat.zero_add] at h2
  exact h2
theorem ck_X9_doStep : ckL (sMdG 108) (fun j => px_X9_doStep.getD j 0) 0 C_X9_doStep ax_X9_doStep = true := by decide +kernel
theorem ok_X9_doStep : okM 108 := fun i k h => by
  have h2 := ckL_ok _ _ _ ck_X9_doStep i k h
  rw [Nat.zero_add] at h2
  exact h2
theorem ck_X10_draw : ckL (sMdG 112) (fun j => px_X10_draw.getD j 0) 0 C_X10_draw ax_X10_draw = true := by decide +kernel
theorem ok_X10_draw : okM 112 := fun i k h => by
  have h2 := ckL_ok _ _ _ ck_X10_draw i k h
  rw [Nat.zero_add] at h2
  exact h2
theorem ck_X11_init : ckL (sMdG 113) (fun j => px_X11_init.getD j 0) 0 C_X11_init ax_X11_init = true := by decide +kernel
theorem ok_X11_init : okM 113 := fun i k h => by
  have h2 := ckL_ok _ _ _ ck_X11_init i k h
  rw [Nat.zero_add] at h2
  exact h2
theorem ck_X11_margin : ckL (sMdG 134) (fun j => px_X11_margin.getD j 0) 0 C_X11_margin ax_X11_margin = true := by decide +kernel
theorem ok_X11_margin : okM 134 := fun i k h => by
  have h2 := ckL_ok _ _ _ ck_X11_margin i k h
  rw [Nat.zero_add] at h2
  exact h2
theorem ck_X11_when : ckL (sMdG 136) (fun j => px_X11_when.getD j 0) 0 C_X11_when ax_X11_when = true := by decide +kernel
theorem ok_X11_when : okM 136 := fun i k h => by
  have h2 := ckL_ok _ _ _ ck_X11_when i k h
  rw [Nat.zero_add] at h2
  exact h2
theorem ck_X11_places : ckL (sMdG 139) (fun j => px_X11_places.getD j 0) 0 C_X11_places ax_X11_places = true := by decide +kernel
theorem ok_X11_places : okM 139 := fun i k h => by
  have h2 := ckL_ok _ _ _ ck_X11_places i k h
  rw [Nat.zero_add] at h2
  exact h2
theorem ck_X11_from : ckL (sMdG 141) (fun j => px_X11_from.getD j 0) 0 C_X11_from ax_X11_from = true := by decide +kernel
theorem ok_X11_from : okM 141 := fun i k h => by
  have h2 := ckL_ok _ _ _ ck_X11_from i k h
  rw [Nat.zero_add] at h2
  exact h2
theorem ck_X11_span : ckL (sMdG 144) (fun j => px_X11_span.getD j 0) 0 C_X11_span ax_X11_span = true := by decide +kernel
theorem ok_X11_span : okM 144 := fun i k h => by
  have h2 := ckL_ok _ _ _ ck_X11_span i k h
  rw [Nat.zero_add] at h2
  exact h2
theorem ck_X11_image : ckL (sMdG 155) (fun j => px_X11_image.getD j 0) 0 C_X11_image ax_X11_image = true := by decide +kernel
theorem ok_X11_image : okM 155 := fun i k h => by
  have h2 := ckL_ok _ _ _ ck_X11_image i k h
  rw [Nat.zero_add] at h2
  exact h2
theorem ck_X11_status : ckL (sMdG 157) (fun j => px_X11_status.getD j 0) 0 C_X11_status ax_X11_status = true := by decide +kernel
theorem ok_X11_status : okM 157 := fun i k h => by
  have h2 := ckL_ok _ _ _ ck_X11_status i k h
  rw [Nat.zero_add] at h2
  exact h2
theorem ck_X11_needPiano : ckL (sMdG 160) (fun j => px_X11_needPiano.getD j 0) 0 C_X11_needPiano ax_X11_needPiano = true := by decide +kernel
theorem ok_X11_needPiano : okM 160 := fun i k h => by
  have h2 := ckL_ok _ _ _ ck_X11_needPiano i k h
  rw [Nat.zero_add] at h2
  exact h2
theorem ck_X11_needThing : ckL (sMdG 162) (fun j => px_X11_needThing.getD j 0) 0 C_X11_needThing ax_X11_needThing = true := by decide +kernel
theorem ok_X11_needThing : okM 162 := fun i k h => by
  have h2 := ckL_ok _ _ _ ck_X11_needThing i k h
  rw [Nat.zero_add] at h2
  exact h2
theorem ck_X12_init : ckL (sMdG 164) (fun j => px_X12_init.getD j 0) 0 C_X12_init ax_X12_init = true := by decide +kernel
theorem ok_X12_init : okM 164 := fun i k h => by
  have h2 := ckL_ok _ _ _ ck_X12_init i k h
  rw [Nat.zero_add] at h2
  exact h2
theorem ck_X12_sum : ckL (sMdG 199) (fun j => px_X12_sum.getD j 0) 0 C_X12_sum ax_X12_sum = true := by decide +kernel
theorem ok_X12_sum : okM 199 := fun i k h => by
  have h2 := ckL_ok _ _ _ ck_X12_sum i k h
  rw [Nat.zero_add] at h2
  exact h2
theorem ck_X12_knownHere : ckL (sMdG 201) (fun j => px_X12_knownHere.getD j 0) 0 C_X12_knownHere ax_X12_knownHere = true := by decide +kernel
theorem ok_X12_knownHere : okM 201 := fun i k h => by
  have h2 := ckL_ok _ _ _ ck_X12_knownHere i k h
  rw [Nat.zero_add] at h2
  exact h2
theorem ck_X12_law : ckL (sMdG 203) (fun j => px_X12_law.getD j 0) 0 C_X12_law ax_X12_law = true := by decide +kernel
theorem ok_X12_law : okM 203 := fun i k h => by
  have h2 := ckL_ok _ _ _ ck_X12_law i k h
  rw [Nat.zero_add] at h2
  exact h2
theorem ck_X12_byLaw : ckL (sMdG 205) (fun j => px_X12_byLaw.getD j 0) 0 C_X12_byLaw ax_X12_byLaw = true := by decide +kernel
theorem ok_X12_byLaw : okM 205 := fun i k h => by
  have h2 := ckL_ok _ _ _ ck_X12_byLaw i k h
  rw [Nat.zero_add] at h2
  exact h2
theorem ck_X12_isFight : ckL (sMdG 212) (fun j => px_X12_isFight.getD j 0) 0 C_X12_isFight ax_X12_isFight = true := by decide +kernel
theorem ok_X12_isFight : okM 212 := fun i k h => by
  have h2 := ckL_ok _ _ _ ck_X12_isFight i k h
  rw [Nat.zero_add] at h2
  exact h2
theorem ck_X12_forceBy : ckL (sMdG 213) (fun j => px_X12_forceBy.getD j 0) 0 C_X12_forceBy ax_X12_forceBy = true := by decide +kernel
theorem ok_X12_forceBy : okM 213 := fun i k h => by
  have h2 := ckL_ok _ _ _ ck_X12_forceBy i k h
  rw [Nat.zero_add] at h2
  exact h2
theorem ck_X12_forceOf : ckL (sMdG 215) (fun j => px_X12_forceOf.getD j 0) 0 C_X12_forceOf ax_X12_forceOf = true := by decide +kernel
theorem ok_X12_forceOf : okM 215 := fun i k h => by
  have h2 := ckL_ok _ _ _ ck_X12_forceOf i k h
  rw [Nat.zero_add] at h2
  exact h2
theorem ck_X12_brings : ckL (sMdG 216) (fun j => px_X12_brings.getD j 0) 0 C_X12_brings ax_X12_brings = true := by decide +kernel
theorem ok_X12_brings : okM 216 := fun i k h => by
  have h2 := ckL_ok _ _ _ ck_X12_brings i k h
  rw [Nat.zero_add] at h2
  exact h2
theorem ck_X12_pianoIn : ckL (sMdG 217) (fun j => px_X12_pianoIn.getD j 0) 0 C_X12_pianoIn ax_X12_pianoIn = true := by decide +kernel
theorem ok_X12_pianoIn : okM 217 := fun i k h => by
  have h2 := ckL_ok _ _ _ ck_X12_pianoIn i k h
  rw [Nat.zero_add] at h2
  exact h2
theorem ck_X12_puts2 : ckL (sMdG 218) (fun j => px_X12_puts2.getD j 0) 0 C_X12_puts2 ax_X12_puts2 = true := by decide +kernel
theorem ok_X12_puts2 : okM 218 := fun i k h => by
  have h2 := ckL_ok _ _ _ ck_X12_puts2 i k h
  rw [Nat.zero_add] at h2
  exact h2
theorem ck_X12_does : ckL (sMdG 220) (fun j => px_X12_does.getD j 0) 0 C_X12_does ax_X12_does = true := by decide +kernel
theorem ok_X12_does : okM 220 := fun i k h => by
  have h2 := ckL_ok _ _ _ ck_X12_does i k h
  rw [Nat.zero_add] at h2
  exact h2
theorem ck_X12_allIn : ckL (sMdG 228) (fun j => px_X12_allIn.getD j 0) 0 C_X12_allIn ax_X12_allIn = true := by decide +kernel
theorem ok_X12_allIn : okM 228 := fun i k h => by
  have h2 := ckL_ok _ _ _ ck_X12_allIn i k h
  rw [Nat.zero_add] at h2
  exact h2
theorem ck_X12_told : ckL (sMdG 230) (fun j => px_X12_told.getD j 0) 0 C_X12_told ax_X12_told = true := by decide +kernel
theorem ok_X12_told : okM 230 := fun i k h => by
  have h2 := ckL_ok _ _ _ ck_X12_told i k h
  rw [Nat.zero_add] at h2
  exact h2
theorem ck_X12_muffle : ckL (sMdG 241) (fun j => px_X12_muffle.getD j 0) 0 C_X12_muffle ax_X12_muffle = true := by decide +kernel
theorem ok_X12_muffle : okM 241 := fun i k h => by
  have h2 := ckL_ok _ _ _ ck_X12_muffle i k h
  rw [Nat.zero_add] at h2
  exact h2
theorem ck_X12_placesAll : ckL (sMdG 243) (fun j => px_X12_placesAll.getD j 0) 0 C_X12_placesAll ax_X12_placesAll = true := by decide +kernel
theorem ok_X12_placesAll : okM 243 := fun i k h => by
  have h2 := ckL_ok _ _ _ ck_X12_placesAll i k h
  rw [Nat.zero_add] at h2
  exact h2
theorem ck_X12_isHeard : ckL (sMdG 247) (fun j => px_X12_isHeard.getD j 0) 0 C_X12_isHeard ax_X12_isHeard = true := by decide +kernel
theorem ok_X12_isHeard : okM 247 := fun i k h => by
  have h2 := ckL_ok _ _ _ ck_X12_isHeard i k h
  rw [Nat.zero_add] at h2
  exact h2
theorem ck_X12_look : ckL (sMdG 250) (fun j => px_X12_look.getD j 0) 0 C_X12_look ax_X12_look = true := by decide +kernel
theorem ok_X12_look : okM 250 := fun i k h => by
  have h2 := ckL_ok _ _ _ ck_X12_look i k h
  rw [Nat.zero_add] at h2
  exact h2
theorem ck_X12_quiet : ckL (sMdG 262) (fun j => px_X12_quiet.getD j 0) 0 C_X12_quiet ax_X12_quiet = true := by decide +kernel
theorem ok_X12_quiet : okM 262 := fun i k h => by
  have h2 := ckL_ok _ _ _ ck_X12_quiet i k h
  rw [Nat.zero_add] at h2
  exact h2
theorem ck_X12_changed : ckL (sMdG 267) (fun j => px_X12_changed.getD j 0) 0 C_X12_changed ax_X12_changed = true := by decide +kernel
theorem ok_X12_changed : okM 267 := fun i k h => by
  have h2 := ckL_ok _ _ _ ck_X12_changed i k h
  rw [Nat.zero_add] at h2
  exact h2
theorem ck_X12_yearBy : ckL (sMdG 269) (fun j => px_X12_yearBy.getD j 0) 0 C_X12_yearBy ax_X12_yearBy = true := by decide +kernel
theorem ok_X12_yearBy : okM 269 := fun i k h => by
  have h2 := ckL_ok _ _ _ ck_X12_yearBy i k h
  rw [Nat.zero_add] at h2
  exact h2
theorem ck_X12_restore : ckL (sMdG 276) (fun j => px_X12_restore.getD j 0) 0 C_X12_restore ax_X12_restore = true := by decide +kernel
theorem ok_X12_restore : okM 276 := fun i k h => by
  have h2 := ckL_ok _ _ _ ck_X12_restore i k h
  rw [Nat.zero_add] at h2
  exact h2
theorem ck_L_terrace : ckL (sMdG 279) (fun j => px_L_terrace.getD j 0) 0 C_L_terrace ax_L_terrace = true := by decide +kernel
theorem ok_L_terrace : okM 279 := fun i k h => by
  have h2 := ckL_ok _ _ _ ck_L_terrace i k h
  rw [Nat.zero_add] at h2
  exact h2
theorem ck_L_work : ckL (sMdG 281) (fun j => px_L_work.getD j 0) 0 C_L_work ax_L_work = true := by decide +kernel
theorem ok_L_work : okM 281 := fun i k h => by
  have h2 := ckL_ok _ _ _ ck_L_work i k h
  rw [Nat.zero_add] at h2
  exact h2
theorem ck_L_told : ckL (sMdG 283) (fun j => px_L_told.getD j 0) 0 C_L_told ax_L_told = true := by decide +kernel
theorem ok_L_told : okM 283 := fun i k h => by
  have h2 := ckL_ok _ _ _ ck_L_told i k h
  rw [Nat.zero_add] at h2
  exact h2
theorem ck_L_there : ckL (sMdG 285) (fun j => px_L_there.getD j 0) 0 C_L_there ax_L_there = true := by decide +kernel
theorem ok_L_there : okM 285 := fun i k h => by
  have h2 := ckL_ok _ _ _ ck_L_there i k h
  rw [Nat.zero_add] at h2
  exact h2
theorem ck_L_would : ckL (sMdG 288) (fun j => px_L_would.getD j 0) 0 C_L_would ax_L_would = true := by decide +kernel
theorem ok_L_would : okM 288 := fun i k h => by
  have h2 := ckL_ok _ _ _ ck_L_would i k h
  rw [Nat.zero_add] at h2
  exact h2
theorem ck_L_muffle : ckL (sMdG 291) (fun j => px_L_muffle.getD j 0) 0 C_L_muffle ax_L_muffle = true := by decide +kernel
theorem ok_L_muffle : okM 291 := fun i k h => by
  have h2 := ckL_ok _ _ _ ck_L_muffle i k h
  rw [Nat.zero_add] at h2
  exact h2
theorem ck_L_look : ckL (sMdG 294) (fun j => px_L_look.getD j 0) 0 C_L_look ax_L_look = true := by decide +kernel
theorem ok_L_look : okM 294 := fun i k h => by
  have h2 := ckL_ok _ _ _ ck_L_look i k h
  rw [Nat.zero_add] at h2
  exact h2
theorem ck_L_tuner : ckL (sMdG 297) (fun j => px_L_tuner.getD j 0) 0 C_L_tuner ax_L_tuner = true := by decide +kernel
theorem ok_L_tuner : okM 297 := fun i k h => by
  have h2 := ckL_ok _ _ _ ck_L_tuner i k h
  rw [Nat.zero_add] at h2
  exact h2
theorem ck_L_loudest : ckL (sMdG 300) (fun j => px_L_loudest.getD j 0) 0 C_L_loudest ax_L_loudest = true := by decide +kernel
theorem ok_L_loudest : okM 300 := fun i k h => by
  have h2 := ckL_ok _ _ _ ck_L_loudest i k h
  rw [Nat.zero_add] at h2
  exact h2
theorem ck_L_margin : ckL (sMdG 303) (fun j => px_L_margin.getD j 0) 0 C_L_margin ax_L_margin = true := by decide +kernel
theorem ok_L_margin : okM 303 := fun i k h => by
  have h2 := ckL_ok _ _ _ ck_L_margin i k h
  rw [Nat.zero_add] at h2
  exact h2
theorem ck_L_span : ckL (sMdG 306) (fun j => px_L_span.getD j 0) 0 C_L_span ax_L_span = true := by decide +kernel
theorem ok_L_span : okM 306 := fun i k h => by
  have h2 := ckL_ok _ _ _ ck_L_span i k h
  rw [Nat.zero_add] at h2
  exact h2
