/-! SOUNDNESS, 4: the checks -/
theorem ck_X0_parse : ckL yX0_parse prog_2_method_4_code (some .boolean) (fun j => px_X0_parse.getD j 0) 0 C_X0_parse ax_X0_parse = true := by decide +kernel
theorem ok_X0_parse : okM 3 := fun i k h => by
  have h2 := ckL_ok _ _ _ ck_X0_parse i k h
  rw [Nat.zero_add] at h2
  exact h2
theorem ck_X1_take : ckL yX1_take prog_3_method_2_code none (fun j => px_X1_take.getD j 0) 0 C_X1_take ax_X1_take = true := by decide +kernel
theorem ok_X1_take : okM 8 := fun i k h => by
  have h2 := ckL_ok _ _ _ ck_X1_take i k h
  rw [Nat.zero_add] at h2
  exact h2
theorem ck_X2_clear : ckL yX2_clear prog_4_method_2_code none (fun j => px_X2_clear.getD j 0) 0 C_X2_clear ax_X2_clear = true := by decide +kernel
theorem ok_X2_clear : okM 11 := fun i k h => by
  have h2 := ckL_ok _ _ _ ck_X2_clear i k h
  rw [Nat.zero_add] at h2
  exact h2
theorem ck_X2_parseSum : ckL yX2_parseSum prog_4_method_5_code (some .boolean) (fun j => px_X2_parseSum.getD j 0) 0 C_X2_parseSum ax_X2_parseSum = true := by decide +kernel
theorem ok_X2_parseSum : okM 14 := fun i k h => by
  have h2 := ckL_ok _ _ _ ck_X2_parseSum i k h
  rw [Nat.zero_add] at h2
  exact h2
theorem ck_X2_parseChoice : ckL yX2_parseChoice prog_4_method_9_code (some .boolean) (fun j => px_X2_parseChoice.getD j 0) 0 C_X2_parseChoice ax_X2_parseChoice = true := by decide +kernel
theorem ok_X2_parseChoice : okM 18 := fun i k h => by
  have h2 := ckL_ok _ _ _ ck_X2_parseChoice i k h
  rw [Nat.zero_add] at h2
  exact h2
theorem ck_X2_joined : ckL yX2_joined prog_4_method_13_code (some .int) (fun j => px_X2_joined.getD j 0) 0 C_X2_joined ax_X2_joined = true := by decide +kernel
theorem ok_X2_joined : okM 22 := fun i k h => by
  have h2 := ckL_ok _ _ _ ck_X2_joined i k h
  rw [Nat.zero_add] at h2
  exact h2
theorem ck_X3_countLeft : ckL yX3_countLeft prog_5_method_6_code none (fun j => px_X3_countLeft.getD j 0) 0 C_X3_countLeft ax_X3_countLeft = true := by decide +kernel
theorem ok_X3_countLeft : okM 28 := fun i k h => by
  have h2 := ckL_ok _ _ _ ck_X3_countLeft i k h
  rw [Nat.zero_add] at h2
  exact h2
theorem ck_X4_init : ckL yX4_init prog_6_method_1_code none (fun j => px_X4_init.getD j 0) 0 C_X4_init ax_X4_init = true := by decide +kernel
theorem ok_X4_init : okM 34 := fun i k h => by
  have h2 := ckL_ok _ _ _ ck_X4_init i k h
  rw [Nat.zero_add] at h2
  exact h2
theorem ck_X4_keep : ckL yX4_keep prog_6_method_2_code none (fun j => px_X4_keep.getD j 0) 0 C_X4_keep ax_X4_keep = true := by decide +kernel
theorem ok_X4_keep : okM 35 := fun i k h => by
  have h2 := ckL_ok _ _ _ ck_X4_keep i k h
  rw [Nat.zero_add] at h2
  exact h2
theorem ck_X4_giveBack : ckL yX4_giveBack prog_6_method_3_code (some .boolean) (fun j => px_X4_giveBack.getD j 0) 0 C_X4_giveBack ax_X4_giveBack = true := by decide +kernel
theorem ok_X4_giveBack : okM 36 := fun i k h => by
  have h2 := ckL_ok _ _ _ ck_X4_giveBack i k h
  rw [Nat.zero_add] at h2
  exact h2
theorem ck_X4_copyFrom : ckL yX4_copyFrom prog_6_method_4_code none (fun j => px_X4_copyFrom.getD j 0) 0 C_X4_copyFrom ax_X4_copyFrom = true := by decide +kernel
theorem ok_X4_copyFrom : okM 37 := fun i k h => by
  have h2 := ckL_ok _ _ _ ck_X4_copyFrom i k h
  rw [Nat.zero_add] at h2
  exact h2
theorem ck_X5_isPeaceful : ckL yX5_isPeaceful prog_7_method_5_code (some .boolean) (fun j => px_X5_isPeaceful.getD j 0) 0 C_X5_isPeaceful ax_X5_isPeaceful = true := by decide +kernel
theorem ok_X5_isPeaceful : okM 42 := fun i k h => by
  have h2 := ckL_ok _ _ _ ck_X5_isPeaceful i k h
  rw [Nat.zero_add] at h2
  exact h2
theorem ck_X6_copyFrom : ckL yX6_copyFrom prog_8_method_3_code none (fun j => px_X6_copyFrom.getD j 0) 0 C_X6_copyFrom ax_X6_copyFrom = true := by decide +kernel
theorem ok_X6_copyFrom : okM 45 := fun i k h => by
  have h2 := ckL_ok _ _ _ ck_X6_copyFrom i k h
  rw [Nat.zero_add] at h2
  exact h2
theorem ck_X6_amount : ckL yX6_amount prog_8_method_4_code (some .int) (fun j => px_X6_amount.getD j 0) 0 C_X6_amount ax_X6_amount = true := by decide +kernel
theorem ok_X6_amount : okM 46 := fun i k h => by
  have h2 := ckL_ok _ _ _ ck_X6_amount i k h
  rw [Nat.zero_add] at h2
  exact h2
theorem ck_X6_houseOf : ckL yX6_houseOf prog_8_method_5_code (some .int) (fun j => px_X6_houseOf.getD j 0) 0 C_X6_houseOf ax_X6_houseOf = true := by decide +kernel
theorem ok_X6_houseOf : okM 47 := fun i k h => by
  have h2 := ckL_ok _ _ _ ck_X6_houseOf i k h
  rw [Nat.zero_add] at h2
  exact h2
theorem ck_X6_feltIn : ckL yX6_feltIn prog_8_method_6_code (some .int) (fun j => px_X6_feltIn.getD j 0) 0 C_X6_feltIn ax_X6_feltIn = true := by decide +kernel
theorem ok_X6_feltIn : okM 48 := fun i k h => by
  have h2 := ckL_ok _ _ _ ck_X6_feltIn i k h
  rw [Nat.zero_add] at h2
  exact h2
theorem ck_X6_daysOf : ckL yX6_daysOf prog_8_method_7_code (some .int) (fun j => px_X6_daysOf.getD j 0) 0 C_X6_daysOf ax_X6_daysOf = true := by decide +kernel
theorem ok_X6_daysOf : okM 49 := fun i k h => by
  have h2 := ckL_ok _ _ _ ck_X6_daysOf i k h
  rw [Nat.zero_add] at h2
  exact h2
theorem ck_X6_pianoIn : ckL yX6_pianoIn prog_8_method_8_code (some .int) (fun j => px_X6_pianoIn.getD j 0) 0 C_X6_pianoIn ax_X6_pianoIn = true := by decide +kernel
theorem ok_X6_pianoIn : okM 50 := fun i k h => by
  have h2 := ckL_ok _ _ _ ck_X6_pianoIn i k h
  rw [Nat.zero_add] at h2
  exact h2
theorem ck_X6_occupied : ckL yX6_occupied prog_8_method_10_code (some .int) (fun j => px_X6_occupied.getD j 0) 0 C_X6_occupied ax_X6_occupied = true := by decide +kernel
theorem ok_X6_occupied : okM 52 := fun i k h => by
  have h2 := ckL_ok _ _ _ ck_X6_occupied i k h
  rw [Nat.zero_add] at h2
  exact h2
theorem ck_X6_lay : ckL yX6_lay prog_8_method_13_code (some .boolean) (fun j => px_X6_lay.getD j 0) 0 C_X6_lay ax_X6_lay = true := by decide +kernel
theorem ok_X6_lay : okM 55 := fun i k h => by
  have h2 := ckL_ok _ _ _ ck_X6_lay i k h
  rw [Nat.zero_add] at h2
  exact h2
theorem ck_X6_fighters : ckL yX6_fighters prog_8_method_17_code (some .int) (fun j => px_X6_fighters.getD j 0) 0 C_X6_fighters ax_X6_fighters = true := by decide +kernel
theorem ok_X6_fighters : okM 59 := fun i k h => by
  have h2 := ckL_ok _ _ _ ck_X6_fighters i k h
  rw [Nat.zero_add] at h2
  exact h2
theorem ck_X6_force : ckL yX6_force prog_8_method_18_code (some .int) (fun j => px_X6_force.getD j 0) 0 C_X6_force ax_X6_force = true := by decide +kernel
theorem ok_X6_force : okM 60 := fun i k h => by
  have h2 := ckL_ok _ _ _ ck_X6_force i k h
  rw [Nat.zero_add] at h2
  exact h2
theorem ck_X7_cannotStand : ckL yX7_cannotStand prog_9_method_12_code (some .boolean) (fun j => px_X7_cannotStand.getD j 0) 0 C_X7_cannotStand ax_X7_cannotStand = true := by decide +kernel
theorem ok_X7_cannotStand : okM 82 := fun i k h => by
  have h2 := ckL_ok _ _ _ ck_X7_cannotStand i k h
  rw [Nat.zero_add] at h2
  exact h2
theorem ck_X7_failsToken : ckL yX7_failsToken prog_9_method_13_code (some .boolean) (fun j => px_X7_failsToken.getD j 0) 0 C_X7_failsToken ax_X7_failsToken = true := by decide +kernel
theorem ok_X7_failsToken : okM 83 := fun i k h => by
  have h2 := ckL_ok _ _ _ ck_X7_failsToken i k h
  rw [Nat.zero_add] at h2
  exact h2
theorem ck_X8_init : ckL yX8_init prog_10_method_1_code none (fun j => px_X8_init.getD j 0) 0 C_X8_init ax_X8_init = true := by decide +kernel
theorem ok_X8_init : okM 85 := fun i k h => by
  have h2 := ckL_ok _ _ _ ck_X8_init i k h
  rw [Nat.zero_add] at h2
  exact h2
theorem ck_X8_parseClause : ckL yX8_parseClause prog_10_method_4_code (some .boolean) (fun j => px_X8_parseClause.getD j 0) 0 C_X8_parseClause ax_X8_parseClause = true := by decide +kernel
theorem ok_X8_parseClause : okM 88 := fun i k h => by
  have h2 := ckL_ok _ _ _ ck_X8_parseClause i k h
  rw [Nat.zero_add] at h2
  exact h2
theorem ck_X8_isFull : ckL yX8_isFull prog_10_method_6_code (some .boolean) (fun j => px_X8_isFull.getD j 0) 0 C_X8_isFull ax_X8_isFull = true := by decide +kernel
theorem ok_X8_isFull : okM 90 := fun i k h => by
  have h2 := ckL_ok _ _ _ ck_X8_isFull i k h
  rw [Nat.zero_add] at h2
  exact h2
theorem ck_X8_parsePiano : ckL yX8_parsePiano prog_10_method_9_code (some .boolean) (fun j => px_X8_parsePiano.getD j 0) 0 C_X8_parsePiano ax_X8_parsePiano = true := by decide +kernel
theorem ok_X8_parsePiano : okM 93 := fun i k h => by
  have h2 := ckL_ok _ _ _ ck_X8_parsePiano i k h
  rw [Nat.zero_add] at h2
  exact h2
theorem ck_X9_init : ckL yX9_init prog_11_method_1_code none (fun j => px_X9_init.getD j 0) 0 C_X9_init ax_X9_init = true := by decide +kernel
theorem ok_X9_init : okM 99 := fun i k h => by
  have h2 := ckL_ok _ _ _ ck_X9_init i k h
  rw [Nat.zero_add] at h2
  exact h2
theorem ck_X9_parseSteps : ckL yX9_parseSteps prog_11_method_3_code (some .boolean) (fun j => px_X9_parseSteps.getD j 0) 0 C_X9_parseSteps ax_X9_parseSteps = true := by decide +kernel
theorem ok_X9_parseSteps : okM 101 := fun i k h => by
  have h2 := ckL_ok _ _ _ ck_X9_parseSteps i k h
  rw [Nat.zero_add] at h2
  exact h2
theorem ck_X9_addStep : ckL yX9_addStep prog_11_method_8_code (some .boolean) (fun j => px_X9_addStep.getD j 0) 0 C_X9_addStep ax_X9_addStep = true := by decide +kernel
theorem ok_X9_addStep : okM 106 := fun i k h => by
  have h2 := ckL_ok _ _ _ ck_X9_addStep i k h
  rw [Nat.zero_add] at h2
  exact h2
theorem ck_X9_doStep : ckL yX9_doStep prog_11_method_10_code (some .boolean) (fun j => px_X9_doStep.getD j 0) 0 C_X9_doStep ax_X9_doStep = true := by decide +kernel
theorem ok_X9_doStep : okM 108 := fun i k h => by
  have h2 := ckL_ok _ _ _ ck_X9_doStep i k h
  rw [Nat.zero_add] at h2
  exact h2
theorem ck_X10_draw : ckL yX10_draw prog_12_method_4_code (some .int) (fun j => px_X10_draw.getD j 0) 0 C_X10_draw ax_X10_draw = true := by decide +kernel
theorem ok_X10_draw : okM 112 := fun i k h => by
  have h2 := ckL_ok _ _ _ ck_X10_draw i k h
  rw [Nat.zero_add] at h2
  exact h2
theorem ck_X11_init : ckL yX11_init prog_1_method_1_code none (fun j => px_X11_init.getD j 0) 0 C_X11_init ax_X11_init = true := by decide +kernel
theorem ok_X11_init : okM 113 := fun i k h => by
  have h2 := ckL_ok _ _ _ ck_X11_init i k h
  rw [Nat.zero_add] at h2
  exact h2
theorem ck_X11_margin : ckL yX11_margin prog_1_method_22_code (some .int) (fun j => px_X11_margin.getD j 0) 0 C_X11_margin ax_X11_margin = true := by decide +kernel
theorem ok_X11_margin : okM 134 := fun i k h => by
  have h2 := ckL_ok _ _ _ ck_X11_margin i k h
  rw [Nat.zero_add] at h2
  exact h2
theorem ck_X11_when : ckL yX11_when prog_1_method_24_code (some .int) (fun j => px_X11_when.getD j 0) 0 C_X11_when ax_X11_when = true := by decide +kernel
theorem ok_X11_when : okM 136 := fun i k h => by
  have h2 := ckL_ok _ _ _ ck_X11_when i k h
  rw [Nat.zero_add] at h2
  exact h2
theorem ck_X11_places : ckL yX11_places prog_1_method_27_code (some .int) (fun j => px_X11_places.getD j 0) 0 C_X11_places ax_X11_places = true := by decide +kernel
theorem ok_X11_places : okM 139 := fun i k h => by
  have h2 := ckL_ok _ _ _ ck_X11_places i k h
  rw [Nat.zero_add] at h2
  exact h2
theorem ck_X11_from : ckL yX11_from prog_1_method_29_code (some .int) (fun j => px_X11_from.getD j 0) 0 C_X11_from ax_X11_from = true := by decide +kernel
theorem ok_X11_from : okM 141 := fun i k h => by
  have h2 := ckL_ok _ _ _ ck_X11_from i k h
  rw [Nat.zero_add] at h2
  exact h2
theorem ck_X11_span : ckL yX11_span prog_1_method_32_code (some .int) (fun j => px_X11_span.getD j 0) 0 C_X11_span ax_X11_span = true := by decide +kernel
theorem ok_X11_span : okM 144 := fun i k h => by
  have h2 := ckL_ok _ _ _ ck_X11_span i k h
  rw [Nat.zero_add] at h2
  exact h2
theorem ck_X11_image : ckL yX11_image prog_1_method_43_code (some .int) (fun j => px_X11_image.getD j 0) 0 C_X11_image ax_X11_image = true := by decide +kernel
theorem ok_X11_image : okM 155 := fun i k h => by
  have h2 := ckL_ok _ _ _ ck_X11_image i k h
  rw [Nat.zero_add] at h2
  exact h2
theorem ck_X11_status : ckL yX11_status prog_1_method_45_code (some .int) (fun j => px_X11_status.getD j 0) 0 C_X11_status ax_X11_status = true := by decide +kernel
theorem ok_X11_status : okM 157 := fun i k h => by
  have h2 := ckL_ok _ _ _ ck_X11_status i k h
  rw [Nat.zero_add] at h2
  exact h2
theorem ck_X11_needPiano : ckL yX11_needPiano prog_1_method_48_code none (fun j => px_X11_needPiano.getD j 0) 0 C_X11_needPiano ax_X11_needPiano = true := by decide +kernel
theorem ok_X11_needPiano : okM 160 := fun i k h => by
  have h2 := ckL_ok _ _ _ ck_X11_needPiano i k h
  rw [Nat.zero_add] at h2
  exact h2
theorem ck_X11_needThing : ckL yX11_needThing prog_1_method_50_code none (fun j => px_X11_needThing.getD j 0) 0 C_X11_needThing ax_X11_needThing = true := by decide +kernel
theorem ok_X11_needThing : okM 162 := fun i k h => by
  have h2 := ckL_ok _ _ _ ck_X11_needThing i k h
  rw [Nat.zero_add] at h2
  exact h2
theorem ck_X12_init : ckL yX12_init prog_14_method_1_code none (fun j => px_X12_init.getD j 0) 0 C_X12_init ax_X12_init = true := by decide +kernel
theorem ok_X12_init : okM 164 := fun i k h => by
  have h2 := ckL_ok _ _ _ ck_X12_init i k h
  rw [Nat.zero_add] at h2
  exact h2
theorem ck_X12_sum : ckL yX12_sum prog_14_method_36_code none (fun j => px_X12_sum.getD j 0) 0 C_X12_sum ax_X12_sum = true := by decide +kernel
theorem ok_X12_sum : okM 199 := fun i k h => by
  have h2 := ckL_ok _ _ _ ck_X12_sum i k h
  rw [Nat.zero_add] at h2
  exact h2
theorem ck_X12_knownHere : ckL yX12_knownHere prog_14_method_38_code (some .int) (fun j => px_X12_knownHere.getD j 0) 0 C_X12_knownHere ax_X12_knownHere = true := by decide +kernel
theorem ok_X12_knownHere : okM 201 := fun i k h => by
  have h2 := ckL_ok _ _ _ ck_X12_knownHere i k h
  rw [Nat.zero_add] at h2
  exact h2
theorem ck_X12_law : ckL yX12_law prog_14_method_40_code (some .int) (fun j => px_X12_law.getD j 0) 0 C_X12_law ax_X12_law = true := by decide +kernel
theorem ok_X12_law : okM 203 := fun i k h => by
  have h2 := ckL_ok _ _ _ ck_X12_law i k h
  rw [Nat.zero_add] at h2
  exact h2
theorem ck_X12_byLaw : ckL yX12_byLaw prog_14_method_42_code (some .int) (fun j => px_X12_byLaw.getD j 0) 0 C_X12_byLaw ax_X12_byLaw = true := by decide +kernel
theorem ok_X12_byLaw : okM 205 := fun i k h => by
  have h2 := ckL_ok _ _ _ ck_X12_byLaw i k h
  rw [Nat.zero_add] at h2
  exact h2
theorem ck_X12_isFight : ckL yX12_isFight prog_14_method_49_code (some .boolean) (fun j => px_X12_isFight.getD j 0) 0 C_X12_isFight ax_X12_isFight = true := by decide +kernel
theorem ok_X12_isFight : okM 212 := fun i k h => by
  have h2 := ckL_ok _ _ _ ck_X12_isFight i k h
  rw [Nat.zero_add] at h2
  exact h2
theorem ck_X12_forceBy : ckL yX12_forceBy prog_14_method_50_code (some .int) (fun j => px_X12_forceBy.getD j 0) 0 C_X12_forceBy ax_X12_forceBy = true := by decide +kernel
theorem ok_X12_forceBy : okM 213 := fun i k h => by
  have h2 := ckL_ok _ _ _ ck_X12_forceBy i k h
  rw [Nat.zero_add] at h2
  exact h2
theorem ck_X12_forceOf : ckL yX12_forceOf prog_14_method_52_code (some .int) (fun j => px_X12_forceOf.getD j 0) 0 C_X12_forceOf ax_X12_forceOf = true := by decide +kernel
theorem ok_X12_forceOf : okM 215 := fun i k h => by
  have h2 := ckL_ok _ _ _ ck_X12_forceOf i k h
  rw [Nat.zero_add] at h2
  exact h2
theorem ck_X12_brings : ckL yX12_brings prog_14_method_53_code (some .int) (fun j => px_X12_brings.getD j 0) 0 C_X12_brings ax_X12_brings = true := by decide +kernel
theorem ok_X12_brings : okM 216 := fun i k h => by
  have h2 := ckL_ok _ _ _ ck_X12_brings i k h
  rw [Nat.zero_add] at h2
  exact h2
theorem ck_X12_pianoIn : ckL yX12_pianoIn prog_14_method_54_code (some .int) (fun j => px_X12_pianoIn.getD j 0) 0 C_X12_pianoIn ax_X12_pianoIn = true := by decide +kernel
theorem ok_X12_pianoIn : okM 217 := fun i k h => by
  have h2 := ckL_ok _ _ _ ck_X12_pianoIn i k h
  rw [Nat.zero_add] at h2
  exact h2
theorem ck_X12_puts2 : ckL yX12_puts2 prog_14_method_55_code (some .boolean) (fun j => px_X12_puts2.getD j 0) 0 C_X12_puts2 ax_X12_puts2 = true := by decide +kernel
theorem ok_X12_puts2 : okM 218 := fun i k h => by
  have h2 := ckL_ok _ _ _ ck_X12_puts2 i k h
  rw [Nat.zero_add] at h2
  exact h2
theorem ck_X12_does : ckL yX12_does prog_14_method_57_code (some .boolean) (fun j => px_X12_does.getD j 0) 0 C_X12_does ax_X12_does = true := by decide +kernel
theorem ok_X12_does : okM 220 := fun i k h => by
  have h2 := ckL_ok _ _ _ ck_X12_does i k h
  rw [Nat.zero_add] at h2
  exact h2
theorem ck_X12_allIn : ckL yX12_allIn prog_14_method_65_code (some .int) (fun j => px_X12_allIn.getD j 0) 0 C_X12_allIn ax_X12_allIn = true := by decide +kernel
theorem ok_X12_allIn : okM 228 := fun i k h => by
  have h2 := ckL_ok _ _ _ ck_X12_allIn i k h
  rw [Nat.zero_add] at h2
  exact h2
theorem ck_X12_told : ckL yX12_told prog_14_method_67_code (some .int) (fun j => px_X12_told.getD j 0) 0 C_X12_told ax_X12_told = true := by decide +kernel
theorem ok_X12_told : okM 230 := fun i k h => by
  have h2 := ckL_ok _ _ _ ck_X12_told i k h
  rw [Nat.zero_add] at h2
  exact h2
theorem ck_X12_muffle : ckL yX12_muffle prog_14_method_78_code (some .int) (fun j => px_X12_muffle.getD j 0) 0 C_X12_muffle ax_X12_muffle = true := by decide +kernel
theorem ok_X12_muffle : okM 241 := fun i k h => by
  have h2 := ckL_ok _ _ _ ck_X12_muffle i k h
  rw [Nat.zero_add] at h2
  exact h2
theorem ck_X12_placesAll : ckL yX12_placesAll prog_14_method_80_code none (fun j => px_X12_placesAll.getD j 0) 0 C_X12_placesAll ax_X12_placesAll = true := by decide +kernel
theorem ok_X12_placesAll : okM 243 := fun i k h => by
  have h2 := ckL_ok _ _ _ ck_X12_placesAll i k h
  rw [Nat.zero_add] at h2
  exact h2
theorem ck_X12_isHeard : ckL yX12_isHeard prog_14_method_84_code (some .boolean) (fun j => px_X12_isHeard.getD j 0) 0 C_X12_isHeard ax_X12_isHeard = true := by decide +kernel
theorem ok_X12_isHeard : okM 247 := fun i k h => by
  have h2 := ckL_ok _ _ _ ck_X12_isHeard i k h
  rw [Nat.zero_add] at h2
  exact h2
theorem ck_X12_look : ckL yX12_look prog_14_method_87_code (some .int) (fun j => px_X12_look.getD j 0) 0 C_X12_look ax_X12_look = true := by decide +kernel
theorem ok_X12_look : okM 250 := fun i k h => by
  have h2 := ckL_ok _ _ _ ck_X12_look i k h
  rw [Nat.zero_add] at h2
  exact h2
theorem ck_X12_quiet : ckL yX12_quiet prog_14_method_99_code (some .int) (fun j => px_X12_quiet.getD j 0) 0 C_X12_quiet ax_X12_quiet = true := by decide +kernel
theorem ok_X12_quiet : okM 262 := fun i k h => by
  have h2 := ckL_ok _ _ _ ck_X12_quiet i k h
  rw [Nat.zero_add] at h2
  exact h2
theorem ck_X12_changed : ckL yX12_changed prog_14_method_104_code (some .int) (fun j => px_X12_changed.getD j 0) 0 C_X12_changed ax_X12_changed = true := by decide +kernel
theorem ok_X12_changed : okM 267 := fun i k h => by
  have h2 := ckL_ok _ _ _ ck_X12_changed i k h
  rw [Nat.zero_add] at h2
  exact h2
theorem ck_X12_yearBy : ckL yX12_yearBy prog_14_method_106_code none (fun j => px_X12_yearBy.getD j 0) 0 C_X12_yearBy ax_X12_yearBy = true := by decide +kernel
theorem ok_X12_yearBy : okM 269 := fun i k h => by
  have h2 := ckL_ok _ _ _ ck_X12_yearBy i k h
  rw [Nat.zero_add] at h2
  exact h2
theorem ck_X12_restore : ckL yX12_restore prog_14_method_113_code (some .int) (fun j => px_X12_restore.getD j 0) 0 C_X12_restore ax_X12_restore = true := by decide +kernel
theorem ok_X12_restore : okM 276 := fun i k h => by
  have h2 := ckL_ok _ _ _ ck_X12_restore i k h
  rw [Nat.zero_add] at h2
  exact h2
theorem ck_L_terrace : ckL yL_terrace method_3_code (some .int) (fun j => px_L_terrace.getD j 0) 0 C_L_terrace ax_L_terrace = true := by decide +kernel
theorem ok_L_terrace : okM 279 := fun i k h => by
  have h2 := ckL_ok _ _ _ ck_L_terrace i k h
  rw [Nat.zero_add] at h2
  exact h2
theorem ck_L_work : ckL yL_work method_5_code (some .int) (fun j => px_L_work.getD j 0) 0 C_L_work ax_L_work = true := by decide +kernel
theorem ok_L_work : okM 281 := fun i k h => by
  have h2 := ckL_ok _ _ _ ck_L_work i k h
  rw [Nat.zero_add] at h2
  exact h2
theorem ck_L_told : ckL yL_told method_7_code (some .int) (fun j => px_L_told.getD j 0) 0 C_L_told ax_L_told = true := by decide +kernel
theorem ok_L_told : okM 283 := fun i k h => by
  have h2 := ckL_ok _ _ _ ck_L_told i k h
  rw [Nat.zero_add] at h2
  exact h2
theorem ck_L_there : ckL yL_there method_9_code (some .int) (fun j => px_L_there.getD j 0) 0 C_L_there ax_L_there = true := by decide +kernel
theorem ok_L_there : okM 285 := fun i k h => by
  have h2 := ckL_ok _ _ _ ck_L_there i k h
  rw [Nat.zero_add] at h2
  exact h2
theorem ck_L_would : ckL yL_would method_12_code (some .int) (fun j => px_L_would.getD j 0) 0 C_L_would ax_L_would = true := by decide +kernel
theorem ok_L_would : okM 288 := fun i k h => by
  have h2 := ckL_ok _ _ _ ck_L_would i k h
  rw [Nat.zero_add] at h2
  exact h2
theorem ck_L_muffle : ckL yL_muffle method_15_code (some .int) (fun j => px_L_muffle.getD j 0) 0 C_L_muffle ax_L_muffle = true := by decide +kernel
theorem ok_L_muffle : okM 291 := fun i k h => by
  have h2 := ckL_ok _ _ _ ck_L_muffle i k h
  rw [Nat.zero_add] at h2
  exact h2
theorem ck_L_look : ckL yL_look method_18_code (some .int) (fun j => px_L_look.getD j 0) 0 C_L_look ax_L_look = true := by decide +kernel
theorem ok_L_look : okM 294 := fun i k h => by
  have h2 := ckL_ok _ _ _ ck_L_look i k h
  rw [Nat.zero_add] at h2
  exact h2
theorem ck_L_tuner : ckL yL_tuner method_21_code (some .int) (fun j => px_L_tuner.getD j 0) 0 C_L_tuner ax_L_tuner = true := by decide +kernel
theorem ok_L_tuner : okM 297 := fun i k h => by
  have h2 := ckL_ok _ _ _ ck_L_tuner i k h
  rw [Nat.zero_add] at h2
  exact h2
theorem ck_L_loudest : ckL yL_loudest method_24_code (some .int) (fun j => px_L_loudest.getD j 0) 0 C_L_loudest ax_L_loudest = true := by decide +kernel
theorem ok_L_loudest : okM 300 := fun i k h => by
  have h2 := ckL_ok _ _ _ ck_L_loudest i k h
  rw [Nat.zero_add] at h2
  exact h2
theorem ck_L_margin : ckL yL_margin method_27_code (some .int) (fun j => px_L_margin.getD j 0) 0 C_L_margin ax_L_margin = true := by decide +kernel
theorem ok_L_margin : okM 303 := fun i k h => by
  have h2 := ckL_ok _ _ _ ck_L_margin i k h
  rw [Nat.zero_add] at h2
  exact h2
theorem ck_L_span : ckL yL_span method_30_code (some .int) (fun j => px_L_span.getD j 0) 0 C_L_span ax_L_span = true := by decide +kernel
theorem ok_L_span : okM 306 := fun i k h => by
  have h2 := ckL_ok _ _ _ ck_L_span i k h
  rw [Nat.zero_add] at h2
  exact h2
