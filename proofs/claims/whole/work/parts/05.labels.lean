/-! each method by its number; each label -/
theorem cl_X0_init {d : Nat} {a0 : Nat} {A : pm_A} {σ : pm_S} : cl (d + 1) 0 [vR a0] A σ = ex d C_X0_init K_X0_init [vR a0] [] A σ := rfl
theorem cl_X0_clear {d : Nat} {a0 : Nat} {A : pm_A} {σ : pm_S} : cl (d + 1) 1 [vR a0] A σ = ex d C_X0_clear K_X0_clear [vR a0] [] A σ := rfl
theorem cl_X0_copyFrom {d : Nat} {a0 : Nat} {a1 : Nat} {A : pm_A} {σ : pm_S} : cl (d + 1) 2 [vR a0, vR a1] A σ = ex d C_X0_copyFrom K_X0_copyFrom [vR a0, vR a1] [] A σ := rfl
theorem cl_X0_parse {d : Nat} {a0 : Nat} {a1 : Nat} {A : pm_A} {σ : pm_S} : cl (d + 1) 3 [vR a0, vR a1] A σ = ex d C_X0_parse K_X0_parse [vR a0, vR a1, vO] [] A σ := rfl
theorem D_X0_parse_5 : C_X0_parse.drop 5 = K_X0_parse_5 := rfl
theorem D_X0_parse_13 : C_X0_parse.drop 13 = K_X0_parse_13 := rfl
theorem D_X0_parse_21 : C_X0_parse.drop 21 = K_X0_parse_21 := rfl
theorem D_X0_parse_23 : C_X0_parse.drop 23 = K_X0_parse_23 := rfl
theorem D_X0_parse_25 : C_X0_parse.drop 25 = K_X0_parse_25 := rfl
theorem cl_X0_parseLine {d : Nat} {a0 : Nat} {a1 : Nat} {A : pm_A} {σ : pm_S} : cl (d + 1) 4 [vR a0, vR a1] A σ = ex d C_X0_parseLine K_X0_parseLine [vR a0, vR a1, vO] [] A σ := rfl
theorem D_X0_parseLine_7 : C_X0_parseLine.drop 7 = K_X0_parseLine_7 := rfl
theorem D_X0_parseLine_19 : C_X0_parseLine.drop 19 = K_X0_parseLine_19 := rfl
theorem D_X0_parseLine_27 : C_X0_parseLine.drop 27 = K_X0_parseLine_27 := rfl
theorem D_X0_parseLine_34 : C_X0_parseLine.drop 34 = K_X0_parseLine_34 := rfl
theorem cl_X0_amountAfter {d : Nat} {a0 : Nat} {a1 : Int} {A : pm_A} {σ : pm_S} : cl (d + 1) 5 [vR a0, vI a1] A σ = ex d C_X0_amountAfter K_X0_amountAfter [vR a0, vI a1, vO] [] A σ := rfl
theorem D_X0_amountAfter_2 : C_X0_amountAfter.drop 2 = K_X0_amountAfter_2 := rfl
theorem D_X0_amountAfter_17 : C_X0_amountAfter.drop 17 = K_X0_amountAfter_17 := rfl
theorem D_X0_amountAfter_19 : C_X0_amountAfter.drop 19 = K_X0_amountAfter_19 := rfl
theorem cl_X0_latestDay {d : Nat} {a0 : Nat} {A : pm_A} {σ : pm_S} : cl (d + 1) 6 [vR a0] A σ = ex d C_X0_latestDay K_X0_latestDay [vR a0, vO, vO] [] A σ := rfl
theorem D_X0_latestDay_4 : C_X0_latestDay.drop 4 = K_X0_latestDay_4 := rfl
theorem D_X0_latestDay_17 : C_X0_latestDay.drop 17 = K_X0_latestDay_17 := rfl
theorem cl_X1_init {d : Nat} {a0 : Nat} {A : pm_A} {σ : pm_S} : cl (d + 1) 7 [vR a0] A σ = ex d C_X1_init K_X1_init [vR a0] [] A σ := rfl
theorem cl_X1_take {d : Nat} {a0 : Nat} {a1 : Nat} {a2 : Nat} {A : pm_A} {σ : pm_S} : cl (d + 1) 8 [vR a0, vR a1, vR a2] A σ = ex d C_X1_take K_X1_take [vR a0, vR a1, vR a2] [] A σ := rfl
theorem cl_X1_giveTo {d : Nat} {a0 : Nat} {a1 : Nat} {a2 : Nat} {A : pm_A} {σ : pm_S} : cl (d + 1) 9 [vR a0, vR a1, vR a2] A σ = ex d C_X1_giveTo K_X1_giveTo [vR a0, vR a1, vR a2] [] A σ := rfl
theorem cl_X2_init {d : Nat} {a0 : Nat} {A : pm_A} {σ : pm_S} : cl (d + 1) 10 [vR a0] A σ = ex d C_X2_init K_X2_init [vR a0] [] A σ := rfl
theorem cl_X2_clear {d : Nat} {a0 : Nat} {A : pm_A} {σ : pm_S} : cl (d + 1) 11 [vR a0] A σ = ex d C_X2_clear K_X2_clear [vR a0] [] A σ := rfl
theorem cl_X2_copyFrom {d : Nat} {a0 : Nat} {a1 : Nat} {A : pm_A} {σ : pm_S} : cl (d + 1) 12 [vR a0, vR a1] A σ = ex d C_X2_copyFrom K_X2_copyFrom [vR a0, vR a1] [] A σ := rfl
theorem cl_X2_parse {d : Nat} {a0 : Nat} {a1 : Nat} {A : pm_A} {σ : pm_S} : cl (d + 1) 13 [vR a0, vR a1] A σ = ex d C_X2_parse K_X2_parse [vR a0, vR a1] [] A σ := rfl
theorem D_X2_parse_14 : C_X2_parse.drop 14 = K_X2_parse_14 := rfl
theorem D_X2_parse_16 : C_X2_parse.drop 16 = K_X2_parse_16 := rfl
theorem D_X2_parse_17 : C_X2_parse.drop 17 = K_X2_parse_17 := rfl
theorem cl_X2_parseSum {d : Nat} {a0 : Nat} {a1 : Nat} {a2 : Int} {A : pm_A} {σ : pm_S} : cl (d + 1) 14 [vR a0, vR a1, vI a2] A σ = ex d C_X2_parseSum K_X2_parseSum [vR a0, vR a1, vI a2, vO, vO] [] A σ := rfl
theorem D_X2_parseSum_7 : C_X2_parseSum.drop 7 = K_X2_parseSum_7 := rfl
theorem D_X2_parseSum_9 : C_X2_parseSum.drop 9 = K_X2_parseSum_9 := rfl
theorem D_X2_parseSum_20 : C_X2_parseSum.drop 20 = K_X2_parseSum_20 := rfl
theorem D_X2_parseSum_36 : C_X2_parseSum.drop 36 = K_X2_parseSum_36 := rfl
theorem D_X2_parseSum_43 : C_X2_parseSum.drop 43 = K_X2_parseSum_43 := rfl
theorem cl_X2_parseProduct {d : Nat} {a0 : Nat} {a1 : Nat} {a2 : Int} {A : pm_A} {σ : pm_S} : cl (d + 1) 15 [vR a0, vR a1, vI a2] A σ = ex d C_X2_parseProduct K_X2_parseProduct [vR a0, vR a1, vI a2, vO, vO] [] A σ := rfl
theorem D_X2_parseProduct_7 : C_X2_parseProduct.drop 7 = K_X2_parseProduct_7 := rfl
theorem D_X2_parseProduct_9 : C_X2_parseProduct.drop 9 = K_X2_parseProduct_9 := rfl
theorem D_X2_parseProduct_24 : C_X2_parseProduct.drop 24 = K_X2_parseProduct_24 := rfl
theorem D_X2_parseProduct_40 : C_X2_parseProduct.drop 40 = K_X2_parseProduct_40 := rfl
theorem D_X2_parseProduct_47 : C_X2_parseProduct.drop 47 = K_X2_parseProduct_47 := rfl
theorem cl_X2_parseUnit {d : Nat} {a0 : Nat} {a1 : Nat} {a2 : Int} {A : pm_A} {σ : pm_S} : cl (d + 1) 16 [vR a0, vR a1, vI a2] A σ = ex d C_X2_parseUnit K_X2_parseUnit [vR a0, vR a1, vI a2, vO, vO] [] A σ := rfl
theorem D_X2_parseUnit_16 : C_X2_parseUnit.drop 16 = K_X2_parseUnit_16 := rfl
theorem D_X2_parseUnit_22 : C_X2_parseUnit.drop 22 = K_X2_parseUnit_22 := rfl
theorem D_X2_parseUnit_30 : C_X2_parseUnit.drop 30 = K_X2_parseUnit_30 := rfl
theorem D_X2_parseUnit_35 : C_X2_parseUnit.drop 35 = K_X2_parseUnit_35 := rfl
theorem D_X2_parseUnit_45 : C_X2_parseUnit.drop 45 = K_X2_parseUnit_45 := rfl
theorem D_X2_parseUnit_55 : C_X2_parseUnit.drop 55 = K_X2_parseUnit_55 := rfl
theorem D_X2_parseUnit_65 : C_X2_parseUnit.drop 65 = K_X2_parseUnit_65 := rfl
theorem cl_X2_parseBracket {d : Nat} {a0 : Nat} {a1 : Nat} {a2 : Int} {A : pm_A} {σ : pm_S} : cl (d + 1) 17 [vR a0, vR a1, vI a2] A σ = ex d C_X2_parseBracket K_X2_parseBracket [vR a0, vR a1, vI a2] [] A σ := rfl
theorem D_X2_parseBracket_11 : C_X2_parseBracket.drop 11 = K_X2_parseBracket_11 := rfl
theorem D_X2_parseBracket_28 : C_X2_parseBracket.drop 28 = K_X2_parseBracket_28 := rfl
theorem D_X2_parseBracket_29 : C_X2_parseBracket.drop 29 = K_X2_parseBracket_29 := rfl
theorem cl_X2_parseChoice {d : Nat} {a0 : Nat} {a1 : Nat} {a2 : Int} {a3 : Int} {A : pm_A} {σ : pm_S} : cl (d + 1) 18 [vR a0, vR a1, vI a2, vI a3] A σ = ex d C_X2_parseChoice K_X2_parseChoice [vR a0, vR a1, vI a2, vI a3] [] A σ := rfl
theorem D_X2_parseChoice_7 : C_X2_parseChoice.drop 7 = K_X2_parseChoice_7 := rfl
theorem D_X2_parseChoice_33 : C_X2_parseChoice.drop 33 = K_X2_parseChoice_33 := rfl
theorem D_X2_parseChoice_35 : C_X2_parseChoice.drop 35 = K_X2_parseChoice_35 := rfl
theorem cl_X2_inputNamed {d : Nat} {a0 : Nat} {A : pm_A} {σ : pm_S} : cl (d + 1) 19 [vR a0] A σ = ex d C_X2_inputNamed K_X2_inputNamed [vR a0] [] A σ := rfl
theorem D_X2_inputNamed_6 : C_X2_inputNamed.drop 6 = K_X2_inputNamed_6 := rfl
theorem D_X2_inputNamed_12 : C_X2_inputNamed.drop 12 = K_X2_inputNamed_12 := rfl
theorem D_X2_inputNamed_18 : C_X2_inputNamed.drop 18 = K_X2_inputNamed_18 := rfl
theorem D_X2_inputNamed_24 : C_X2_inputNamed.drop 24 = K_X2_inputNamed_24 := rfl
theorem D_X2_inputNamed_30 : C_X2_inputNamed.drop 30 = K_X2_inputNamed_30 := rfl
theorem D_X2_inputNamed_36 : C_X2_inputNamed.drop 36 = K_X2_inputNamed_36 := rfl
theorem D_X2_inputNamed_42 : C_X2_inputNamed.drop 42 = K_X2_inputNamed_42 := rfl
theorem D_X2_inputNamed_48 : C_X2_inputNamed.drop 48 = K_X2_inputNamed_48 := rfl
theorem D_X2_inputNamed_49 : C_X2_inputNamed.drop 49 = K_X2_inputNamed_49 := rfl
theorem cl_X2_add {d : Nat} {a0 : Nat} {a1 : Int} {A : pm_A} {σ : pm_S} : cl (d + 1) 20 [vR a0, vI a1] A σ = ex d C_X2_add K_X2_add [vR a0, vI a1] [] A σ := rfl
theorem D_X2_add_16 : C_X2_add.drop 16 = K_X2_add_16 := rfl
theorem cl_X2_force {d : Nat} {a0 : Nat} {a1 : Nat} {A : pm_A} {σ : pm_S} : cl (d + 1) 21 [vR a0, vR a1] A σ = ex d C_X2_force K_X2_force [vR a0, vR a1, vO, vO, vO] [] A σ := rfl
theorem D_X2_force_4 : C_X2_force.drop 4 = K_X2_force_4 := rfl
theorem D_X2_force_27 : C_X2_force.drop 27 = K_X2_force_27 := rfl
theorem D_X2_force_32 : C_X2_force.drop 32 = K_X2_force_32 := rfl
theorem D_X2_force_35 : C_X2_force.drop 35 = K_X2_force_35 := rfl
theorem D_X2_force_57 : C_X2_force.drop 57 = K_X2_force_57 := rfl
theorem D_X2_force_59 : C_X2_force.drop 59 = K_X2_force_59 := rfl
theorem cl_X2_joined {d : Nat} {a0 : Int} {a1 : Int} {a2 : Int} {A : pm_A} {σ : pm_S} : cl (d + 1) 22 [vI a0, vI a1, vI a2] A σ = ex d C_X2_joined K_X2_joined [vI a0, vI a1, vI a2] [] A σ := rfl
theorem D_X2_joined_2 : C_X2_joined.drop 2 = K_X2_joined_2 := rfl
theorem D_X2_joined_6 : C_X2_joined.drop 6 = K_X2_joined_6 := rfl
theorem D_X2_joined_10 : C_X2_joined.drop 10 = K_X2_joined_10 := rfl
theorem D_X2_joined_14 : C_X2_joined.drop 14 = K_X2_joined_14 := rfl
theorem D_X2_joined_18 : C_X2_joined.drop 18 = K_X2_joined_18 := rfl
theorem D_X2_joined_21 : C_X2_joined.drop 21 = K_X2_joined_21 := rfl
theorem D_X2_joined_22 : C_X2_joined.drop 22 = K_X2_joined_22 := rfl
theorem D_X2_joined_26 : C_X2_joined.drop 26 = K_X2_joined_26 := rfl
theorem D_X2_joined_29 : C_X2_joined.drop 29 = K_X2_joined_29 := rfl
theorem D_X2_joined_30 : C_X2_joined.drop 30 = K_X2_joined_30 := rfl
theorem D_X2_joined_35 : C_X2_joined.drop 35 = K_X2_joined_35 := rfl
theorem D_X2_joined_36 : C_X2_joined.drop 36 = K_X2_joined_36 := rfl
theorem D_X2_joined_37 : C_X2_joined.drop 37 = K_X2_joined_37 := rfl
theorem D_X2_joined_42 : C_X2_joined.drop 42 = K_X2_joined_42 := rfl
theorem D_X2_joined_43 : C_X2_joined.drop 43 = K_X2_joined_43 := rfl
theorem cl_X3_init {d : Nat} {a0 : Nat} {a1 : Nat} {a2 : Nat} {A : pm_A} {σ : pm_S} : cl (d + 1) 23 [vR a0, vR a1, vR a2] A σ = ex d C_X3_init K_X3_init [vR a0, vR a1, vR a2] [] A σ := rfl
theorem cl_X3_forget {d : Nat} {a0 : Nat} {A : pm_A} {σ : pm_S} : cl (d + 1) 24 [vR a0] A σ = ex d C_X3_forget K_X3_forget [vR a0] [] A σ := rfl
theorem cl_X3_ask {d : Nat} {a0 : Nat} {a1 : Int} {A : pm_A} {σ : pm_S} : cl (d + 1) 25 [vR a0, vI a1] A σ = ex d C_X3_ask K_X3_ask [vR a0, vI a1] [] A σ := rfl
theorem D_X3_ask_5 : C_X3_ask.drop 5 = K_X3_ask_5 := rfl
theorem cl_X3_strikeWrong {d : Nat} {a0 : Nat} {A : pm_A} {σ : pm_S} : cl (d + 1) 26 [vR a0] A σ = ex d C_X3_strikeWrong K_X3_strikeWrong [vR a0, vO, vO, vO] [] A σ := rfl
theorem D_X3_strikeWrong_2 : C_X3_strikeWrong.drop 2 = K_X3_strikeWrong_2 := rfl
theorem D_X3_strikeWrong_12 : C_X3_strikeWrong.drop 12 = K_X3_strikeWrong_12 := rfl
theorem D_X3_strikeWrong_20 : C_X3_strikeWrong.drop 20 = K_X3_strikeWrong_20 := rfl
theorem D_X3_strikeWrong_34 : C_X3_strikeWrong.drop 34 = K_X3_strikeWrong_34 := rfl
theorem D_X3_strikeWrong_39 : C_X3_strikeWrong.drop 39 = K_X3_strikeWrong_39 := rfl
theorem cl_X3_strikeUnlike {d : Nat} {a0 : Nat} {a1 : Int} {A : pm_A} {σ : pm_S} : cl (d + 1) 27 [vR a0, vI a1] A σ = ex d C_X3_strikeUnlike K_X3_strikeUnlike [vR a0, vI a1, vO] [] A σ := rfl
theorem D_X3_strikeUnlike_2 : C_X3_strikeUnlike.drop 2 = K_X3_strikeUnlike_2 := rfl
theorem D_X3_strikeUnlike_21 : C_X3_strikeUnlike.drop 21 = K_X3_strikeUnlike_21 := rfl
theorem D_X3_strikeUnlike_22 : C_X3_strikeUnlike.drop 22 = K_X3_strikeUnlike_22 := rfl
theorem D_X3_strikeUnlike_25 : C_X3_strikeUnlike.drop 25 = K_X3_strikeUnlike_25 := rfl
theorem cl_X3_countLeft {d : Nat} {a0 : Nat} {A : pm_A} {σ : pm_S} : cl (d + 1) 28 [vR a0] A σ = ex d C_X3_countLeft K_X3_countLeft [vR a0, vO] [] A σ := rfl
theorem D_X3_countLeft_8 : C_X3_countLeft.drop 8 = K_X3_countLeft_8 := rfl
theorem D_X3_countLeft_36 : C_X3_countLeft.drop 36 = K_X3_countLeft_36 := rfl
theorem D_X3_countLeft_38 : C_X3_countLeft.drop 38 = K_X3_countLeft_38 := rfl
theorem cl_X3_chooseLook {d : Nat} {a0 : Nat} {A : pm_A} {σ : pm_S} : cl (d + 1) 29 [vR a0] A σ = ex d C_X3_chooseLook K_X3_chooseLook [vR a0, vO, vO, vO] [] A σ := rfl
theorem D_X3_chooseLook_19 : C_X3_chooseLook.drop 19 = K_X3_chooseLook_19 := rfl
theorem D_X3_chooseLook_30 : C_X3_chooseLook.drop 30 = K_X3_chooseLook_30 := rfl
theorem D_X3_chooseLook_47 : C_X3_chooseLook.drop 47 = K_X3_chooseLook_47 := rfl
theorem D_X3_chooseLook_53 : C_X3_chooseLook.drop 53 = K_X3_chooseLook_53 := rfl
theorem D_X3_chooseLook_58 : C_X3_chooseLook.drop 58 = K_X3_chooseLook_58 := rfl
theorem cl_X3_begin {d : Nat} {a0 : Nat} {A : pm_A} {σ : pm_S} : cl (d + 1) 30 [vR a0] A σ = ex d C_X3_begin K_X3_begin [vR a0, vO] [] A σ := rfl
theorem D_X3_begin_2 : C_X3_begin.drop 2 = K_X3_begin_2 := rfl
theorem D_X3_begin_14 : C_X3_begin.drop 14 = K_X3_begin_14 := rfl
theorem cl_X3_strongOf {d : Nat} {a0 : Int} {A : pm_A} {σ : pm_S} : cl (d + 1) 31 [vI a0] A σ = ex d C_X3_strongOf K_X3_strongOf [vI a0] [] A σ := rfl
theorem cl_X3_grow {d : Nat} {a0 : Nat} {a1 : Int} {A : pm_A} {σ : pm_S} : cl (d + 1) 32 [vR a0, vI a1] A σ = ex d C_X3_grow K_X3_grow [vR a0, vI a1, vO] [] A σ := rfl
theorem D_X3_grow_33 : C_X3_grow.drop 33 = K_X3_grow_33 := rfl
theorem D_X3_grow_77 : C_X3_grow.drop 77 = K_X3_grow_77 := rfl
theorem D_X3_grow_79 : C_X3_grow.drop 79 = K_X3_grow_79 := rfl
theorem cl_X3_mostAlike {d : Nat} {a0 : Nat} {A : pm_A} {σ : pm_S} : cl (d + 1) 33 [vR a0] A σ = ex d C_X3_mostAlike K_X3_mostAlike [vR a0, vO, vO] [] A σ := rfl
theorem D_X3_mostAlike_8 : C_X3_mostAlike.drop 8 = K_X3_mostAlike_8 := rfl
theorem D_X3_mostAlike_37 : C_X3_mostAlike.drop 37 = K_X3_mostAlike_37 := rfl
theorem D_X3_mostAlike_39 : C_X3_mostAlike.drop 39 = K_X3_mostAlike_39 := rfl
theorem cl_X4_init {d : Nat} {a0 : Nat} {A : pm_A} {σ : pm_S} : cl (d + 1) 34 [vR a0] A σ = ex d C_X4_init K_X4_init [vR a0] [] A σ := rfl
theorem cl_X4_keep {d : Nat} {a0 : Nat} {a1 : Nat} {A : pm_A} {σ : pm_S} : cl (d + 1) 35 [vR a0, vR a1] A σ = ex d C_X4_keep K_X4_keep [vR a0, vR a1] [] A σ := rfl
theorem D_X4_keep_20 : C_X4_keep.drop 20 = K_X4_keep_20 := rfl
theorem cl_X4_giveBack {d : Nat} {a0 : Nat} {a1 : Nat} {A : pm_A} {σ : pm_S} : cl (d + 1) 36 [vR a0, vR a1] A σ = ex d C_X4_giveBack K_X4_giveBack [vR a0, vR a1] [] A σ := rfl
theorem D_X4_giveBack_5 : C_X4_giveBack.drop 5 = K_X4_giveBack_5 := rfl
theorem cl_X4_copyFrom {d : Nat} {a0 : Nat} {a1 : Nat} {A : pm_A} {σ : pm_S} : cl (d + 1) 37 [vR a0, vR a1] A σ = ex d C_X4_copyFrom K_X4_copyFrom [vR a0, vR a1, vO] [] A σ := rfl
theorem D_X4_copyFrom_6 : C_X4_copyFrom.drop 6 = K_X4_copyFrom_6 := rfl
theorem D_X4_copyFrom_24 : C_X4_copyFrom.drop 24 = K_X4_copyFrom_24 := rfl
theorem cl_X5_init {d : Nat} {a0 : Nat} {a1 : Nat} {A : pm_A} {σ : pm_S} : cl (d + 1) 38 [vR a0, vR a1] A σ = ex d C_X5_init K_X5_init [vR a0, vR a1] [] A σ := rfl
theorem cl_X5_forget {d : Nat} {a0 : Nat} {A : pm_A} {σ : pm_S} : cl (d + 1) 39 [vR a0] A σ = ex d C_X5_forget K_X5_forget [vR a0] [] A σ := rfl
theorem cl_X5_find {d : Nat} {a0 : Nat} {A : pm_A} {σ : pm_S} : cl (d + 1) 40 [vR a0] A σ = ex d C_X5_find K_X5_find [vR a0] [] A σ := rfl
theorem D_X5_find_4 : C_X5_find.drop 4 = K_X5_find_4 := rfl
theorem cl_X5_tryFrom {d : Nat} {a0 : Nat} {a1 : Int} {a2 : Int} {a3 : Int} {A : pm_A} {σ : pm_S} : cl (d + 1) 41 [vR a0, vI a1, vI a2, vI a3] A σ = ex d C_X5_tryFrom K_X5_tryFrom [vR a0, vI a1, vI a2, vI a3, vO, vO] [] A σ := rfl
theorem D_X5_tryFrom_20 : C_X5_tryFrom.drop 20 = K_X5_tryFrom_20 := rfl
theorem D_X5_tryFrom_21 : C_X5_tryFrom.drop 21 = K_X5_tryFrom_21 := rfl
theorem D_X5_tryFrom_32 : C_X5_tryFrom.drop 32 = K_X5_tryFrom_32 := rfl
theorem D_X5_tryFrom_34 : C_X5_tryFrom.drop 34 = K_X5_tryFrom_34 := rfl
theorem D_X5_tryFrom_68 : C_X5_tryFrom.drop 68 = K_X5_tryFrom_68 := rfl
theorem D_X5_tryFrom_69 : C_X5_tryFrom.drop 69 = K_X5_tryFrom_69 := rfl
theorem D_X5_tryFrom_83 : C_X5_tryFrom.drop 83 = K_X5_tryFrom_83 := rfl
theorem D_X5_tryFrom_85 : C_X5_tryFrom.drop 85 = K_X5_tryFrom_85 := rfl
theorem cl_X5_isPeaceful {d : Nat} {a0 : Nat} {a1 : Int} {a2 : Int} {A : pm_A} {σ : pm_S} : cl (d + 1) 42 [vR a0, vI a1, vI a2] A σ = ex d C_X5_isPeaceful K_X5_isPeaceful [vR a0, vI a1, vI a2, vO] [] A σ := rfl
theorem D_X5_isPeaceful_2 : C_X5_isPeaceful.drop 2 = K_X5_isPeaceful_2 := rfl
theorem D_X5_isPeaceful_27 : C_X5_isPeaceful.drop 27 = K_X5_isPeaceful_27 := rfl
theorem D_X5_isPeaceful_29 : C_X5_isPeaceful.drop 29 = K_X5_isPeaceful_29 := rfl
theorem cl_X6_init {d : Nat} {a0 : Nat} {a1 : Nat} {a2 : Nat} {A : pm_A} {σ : pm_S} : cl (d + 1) 43 [vR a0, vR a1, vR a2] A σ = ex d C_X6_init K_X6_init [vR a0, vR a1, vR a2] [] A σ := rfl
theorem cl_X6_begin {d : Nat} {a0 : Nat} {A : pm_A} {σ : pm_S} : cl (d + 1) 44 [vR a0] A σ = ex d C_X6_begin K_X6_begin [vR a0, vO] [] A σ := rfl
theorem D_X6_begin_6 : C_X6_begin.drop 6 = K_X6_begin_6 := rfl
theorem D_X6_begin_26 : C_X6_begin.drop 26 = K_X6_begin_26 := rfl
theorem D_X6_begin_28 : C_X6_begin.drop 28 = K_X6_begin_28 := rfl
theorem D_X6_begin_40 : C_X6_begin.drop 40 = K_X6_begin_40 := rfl
theorem cl_X6_copyFrom {d : Nat} {a0 : Nat} {a1 : Nat} {A : pm_A} {σ : pm_S} : cl (d + 1) 45 [vR a0, vR a1] A σ = ex d C_X6_copyFrom K_X6_copyFrom [vR a0, vR a1] [] A σ := rfl
theorem cl_X6_amount {d : Nat} {a0 : Nat} {a1 : Int} {a2 : Int} {A : pm_A} {σ : pm_S} : cl (d + 1) 46 [vR a0, vI a1, vI a2] A σ = ex d C_X6_amount K_X6_amount [vR a0, vI a1, vI a2] [] A σ := rfl
theorem cl_X6_houseOf {d : Nat} {a0 : Nat} {a1 : Int} {A : pm_A} {σ : pm_S} : cl (d + 1) 47 [vR a0, vI a1] A σ = ex d C_X6_houseOf K_X6_houseOf [vR a0, vI a1] [] A σ := rfl
theorem cl_X6_feltIn {d : Nat} {a0 : Nat} {a1 : Int} {A : pm_A} {σ : pm_S} : cl (d + 1) 48 [vR a0, vI a1] A σ = ex d C_X6_feltIn K_X6_feltIn [vR a0, vI a1] [] A σ := rfl
theorem cl_X6_daysOf {d : Nat} {a0 : Nat} {a1 : Int} {A : pm_A} {σ : pm_S} : cl (d + 1) 49 [vR a0, vI a1] A σ = ex d C_X6_daysOf K_X6_daysOf [vR a0, vI a1] [] A σ := rfl
theorem cl_X6_pianoIn {d : Nat} {a0 : Nat} {a1 : Int} {A : pm_A} {σ : pm_S} : cl (d + 1) 50 [vR a0, vI a1] A σ = ex d C_X6_pianoIn K_X6_pianoIn [vR a0, vI a1, vO] [] A σ := rfl
theorem D_X6_pianoIn_2 : C_X6_pianoIn.drop 2 = K_X6_pianoIn_2 := rfl
theorem D_X6_pianoIn_14 : C_X6_pianoIn.drop 14 = K_X6_pianoIn_14 := rfl
theorem D_X6_pianoIn_16 : C_X6_pianoIn.drop 16 = K_X6_pianoIn_16 := rfl
theorem cl_X6_standing {d : Nat} {a0 : Nat} {A : pm_A} {σ : pm_S} : cl (d + 1) 51 [vR a0] A σ = ex d C_X6_standing K_X6_standing [vR a0, vO, vO] [] A σ := rfl
theorem D_X6_standing_4 : C_X6_standing.drop 4 = K_X6_standing_4 := rfl
theorem D_X6_standing_20 : C_X6_standing.drop 20 = K_X6_standing_20 := rfl
theorem D_X6_standing_22 : C_X6_standing.drop 22 = K_X6_standing_22 := rfl
theorem cl_X6_occupied {d : Nat} {a0 : Nat} {A : pm_A} {σ : pm_S} : cl (d + 1) 52 [vR a0] A σ = ex d C_X6_occupied K_X6_occupied [vR a0, vO, vO] [] A σ := rfl
theorem D_X6_occupied_4 : C_X6_occupied.drop 4 = K_X6_occupied_4 := rfl
theorem D_X6_occupied_22 : C_X6_occupied.drop 22 = K_X6_occupied_22 := rfl
theorem D_X6_occupied_24 : C_X6_occupied.drop 24 = K_X6_occupied_24 := rfl
theorem cl_X6_put {d : Nat} {a0 : Nat} {a1 : Int} {a2 : Int} {A : pm_A} {σ : pm_S} : cl (d + 1) 53 [vR a0, vI a1, vI a2] A σ = ex d C_X6_put K_X6_put [vR a0, vI a1, vI a2] [] A σ := rfl
theorem D_X6_put_7 : C_X6_put.drop 7 = K_X6_put_7 := rfl
theorem cl_X6_takeOut {d : Nat} {a0 : Nat} {a1 : Int} {A : pm_A} {σ : pm_S} : cl (d + 1) 54 [vR a0, vI a1] A σ = ex d C_X6_takeOut K_X6_takeOut [vR a0, vI a1] [] A σ := rfl
theorem D_X6_takeOut_7 : C_X6_takeOut.drop 7 = K_X6_takeOut_7 := rfl
theorem cl_X6_lay {d : Nat} {a0 : Nat} {a1 : Int} {a2 : Int} {A : pm_A} {σ : pm_S} : cl (d + 1) 55 [vR a0, vI a1, vI a2] A σ = ex d C_X6_lay K_X6_lay [vR a0, vI a1, vI a2, vO] [] A σ := rfl
theorem D_X6_lay_14 : C_X6_lay.drop 14 = K_X6_lay_14 := rfl
theorem D_X6_lay_16 : C_X6_lay.drop 16 = K_X6_lay_16 := rfl
theorem cl_X6_passDay {d : Nat} {a0 : Nat} {A : pm_A} {σ : pm_S} : cl (d + 1) 56 [vR a0] A σ = ex d C_X6_passDay K_X6_passDay [vR a0, vO, vO, vO] [] A σ := rfl
theorem D_X6_passDay_4 : C_X6_passDay.drop 4 = K_X6_passDay_4 := rfl
theorem D_X6_passDay_50 : C_X6_passDay.drop 50 = K_X6_passDay_50 := rfl
theorem D_X6_passDay_52 : C_X6_passDay.drop 52 = K_X6_passDay_52 := rfl
theorem cl_X6_fights {d : Nat} {a0 : Nat} {a1 : Int} {A : pm_A} {σ : pm_S} : cl (d + 1) 57 [vR a0, vI a1] A σ = ex d C_X6_fights K_X6_fights [vR a0, vI a1, vO] [] A σ := rfl
theorem D_X6_fights_9 : C_X6_fights.drop 9 = K_X6_fights_9 := rfl
theorem D_X6_fights_13 : C_X6_fights.drop 13 = K_X6_fights_13 := rfl
theorem cl_X6_fightsAt {d : Nat} {a0 : Nat} {a1 : Int} {a2 : Int} {A : pm_A} {σ : pm_S} : cl (d + 1) 58 [vR a0, vI a1, vI a2] A σ = ex d C_X6_fightsAt K_X6_fightsAt [vR a0, vI a1, vI a2, vO, vO, vO] [] A σ := rfl
theorem D_X6_fightsAt_4 : C_X6_fightsAt.drop 4 = K_X6_fightsAt_4 := rfl
theorem D_X6_fightsAt_42 : C_X6_fightsAt.drop 42 = K_X6_fightsAt_42 := rfl
theorem D_X6_fightsAt_44 : C_X6_fightsAt.drop 44 = K_X6_fightsAt_44 := rfl
theorem cl_X6_fighters {d : Nat} {a0 : Nat} {A : pm_A} {σ : pm_S} : cl (d + 1) 59 [vR a0] A σ = ex d C_X6_fighters K_X6_fighters [vR a0, vO, vO] [] A σ := rfl
theorem D_X6_fighters_4 : C_X6_fighters.drop 4 = K_X6_fighters_4 := rfl
theorem D_X6_fighters_19 : C_X6_fighters.drop 19 = K_X6_fighters_19 := rfl
theorem D_X6_fighters_21 : C_X6_fighters.drop 21 = K_X6_fighters_21 := rfl
theorem cl_X6_force {d : Nat} {a0 : Nat} {a1 : Int} {A : pm_A} {σ : pm_S} : cl (d + 1) 60 [vR a0, vI a1] A σ = ex d C_X6_force K_X6_force [vR a0, vI a1, vO] [] A σ := rfl
theorem D_X6_force_9 : C_X6_force.drop 9 = K_X6_force_9 := rfl
theorem cl_X6_brings {d : Nat} {a0 : Nat} {a1 : Int} {A : pm_A} {σ : pm_S} : cl (d + 1) 61 [vR a0, vI a1] A σ = ex d C_X6_brings K_X6_brings [vR a0, vI a1] [] A σ := rfl
theorem cl_X6_measure {d : Nat} {a0 : Nat} {A : pm_A} {σ : pm_S} : cl (d + 1) 62 [vR a0] A σ = ex d C_X6_measure K_X6_measure [vR a0, vO] [] A σ := rfl
theorem D_X6_measure_2 : C_X6_measure.drop 2 = K_X6_measure_2 := rfl
theorem D_X6_measure_16 : C_X6_measure.drop 16 = K_X6_measure_16 := rfl
theorem cl_X6_netForce {d : Nat} {a0 : Nat} {a1 : Int} {A : pm_A} {σ : pm_S} : cl (d + 1) 63 [vR a0, vI a1] A σ = ex d C_X6_netForce K_X6_netForce [vR a0, vI a1, vO, vO, vO] [] A σ := rfl
theorem D_X6_netForce_11 : C_X6_netForce.drop 11 = K_X6_netForce_11 := rfl
theorem D_X6_netForce_29 : C_X6_netForce.drop 29 = K_X6_netForce_29 := rfl
theorem D_X6_netForce_31 : C_X6_netForce.drop 31 = K_X6_netForce_31 := rfl
theorem cl_X6_thingIn {d : Nat} {a0 : Nat} {a1 : Int} {A : pm_A} {σ : pm_S} : cl (d + 1) 64 [vR a0, vI a1] A σ = ex d C_X6_thingIn K_X6_thingIn [vR a0, vI a1] [] A σ := rfl
theorem cl_X6_mostBut {d : Nat} {a0 : Nat} {a1 : Int} {a2 : Int} {A : pm_A} {σ : pm_S} : cl (d + 1) 65 [vR a0, vI a1, vI a2] A σ = ex d C_X6_mostBut K_X6_mostBut [vR a0, vI a1, vI a2, vO, vO] [] A σ := rfl
theorem D_X6_mostBut_4 : C_X6_mostBut.drop 4 = K_X6_mostBut_4 := rfl
theorem D_X6_mostBut_22 : C_X6_mostBut.drop 22 = K_X6_mostBut_22 := rfl
theorem D_X6_mostBut_24 : C_X6_mostBut.drop 24 = K_X6_mostBut_24 := rfl
theorem D_X6_mostBut_26 : C_X6_mostBut.drop 26 = K_X6_mostBut_26 := rfl
theorem cl_X6_lead {d : Nat} {a0 : Nat} {a1 : Int} {A : pm_A} {σ : pm_S} : cl (d + 1) 66 [vR a0, vI a1] A σ = ex d C_X6_lead K_X6_lead [vR a0, vI a1, vO, vO] [] A σ := rfl
theorem cl_X6_kindsIn {d : Nat} {a0 : Nat} {a1 : Int} {A : pm_A} {σ : pm_S} : cl (d + 1) 67 [vR a0, vI a1] A σ = ex d C_X6_kindsIn K_X6_kindsIn [vR a0, vI a1, vO, vO] [] A σ := rfl
theorem D_X6_kindsIn_4 : C_X6_kindsIn.drop 4 = K_X6_kindsIn_4 := rfl
theorem D_X6_kindsIn_13 : C_X6_kindsIn.drop 13 = K_X6_kindsIn_13 := rfl
theorem D_X6_kindsIn_15 : C_X6_kindsIn.drop 15 = K_X6_kindsIn_15 := rfl
theorem cl_X6_total {d : Nat} {a0 : Nat} {A : pm_A} {σ : pm_S} : cl (d + 1) 68 [vR a0] A σ = ex d C_X6_total K_X6_total [vR a0, vO, vO] [] A σ := rfl
theorem D_X6_total_4 : C_X6_total.drop 4 = K_X6_total_4 := rfl
theorem D_X6_total_16 : C_X6_total.drop 16 = K_X6_total_16 := rfl
theorem cl_X6_content {d : Nat} {a0 : Nat} {A : pm_A} {σ : pm_S} : cl (d + 1) 69 [vR a0] A σ = ex d C_X6_content K_X6_content [vR a0, vO, vO] [] A σ := rfl
theorem D_X6_content_4 : C_X6_content.drop 4 = K_X6_content_4 := rfl
theorem D_X6_content_24 : C_X6_content.drop 24 = K_X6_content_24 := rfl
theorem D_X6_content_26 : C_X6_content.drop 26 = K_X6_content_26 := rfl
theorem cl_X6_otherThanTold {d : Nat} {a0 : Nat} {A : pm_A} {σ : pm_S} : cl (d + 1) 70 [vR a0] A σ = ex d C_X6_otherThanTold K_X6_otherThanTold [vR a0, vO, vO] [] A σ := rfl
theorem D_X6_otherThanTold_4 : C_X6_otherThanTold.drop 4 = K_X6_otherThanTold_4 := rfl
theorem D_X6_otherThanTold_24 : C_X6_otherThanTold.drop 24 = K_X6_otherThanTold_24 := rfl
theorem D_X6_otherThanTold_26 : C_X6_otherThanTold.drop 26 = K_X6_otherThanTold_26 := rfl
theorem cl_X7_init {d : Nat} {a0 : Nat} {A : pm_A} {σ : pm_S} : cl (d + 1) 71 [vR a0] A σ = ex d C_X7_init K_X7_init [vR a0] [] A σ := rfl
theorem cl_X7_hasRoom {d : Nat} {a0 : Nat} {A : pm_A} {σ : pm_S} : cl (d + 1) 72 [vR a0] A σ = ex d C_X7_hasRoom K_X7_hasRoom [vR a0] [] A σ := rfl
theorem D_X7_hasRoom_8 : C_X7_hasRoom.drop 8 = K_X7_hasRoom_8 := rfl
theorem D_X7_hasRoom_9 : C_X7_hasRoom.drop 9 = K_X7_hasRoom_9 := rfl
theorem cl_X7_add {d : Nat} {a0 : Nat} {a1 : Int} {A : pm_A} {σ : pm_S} : cl (d + 1) 73 [vR a0, vI a1] A σ = ex d C_X7_add K_X7_add [vR a0, vI a1, vO] [] A σ := rfl
theorem D_X7_add_2 : C_X7_add.drop 2 = K_X7_add_2 := rfl
theorem D_X7_add_26 : C_X7_add.drop 26 = K_X7_add_26 := rfl
theorem cl_X7_open {d : Nat} {a0 : Nat} {a1 : Int} {A : pm_A} {σ : pm_S} : cl (d + 1) 74 [vR a0, vI a1] A σ = ex d C_X7_open K_X7_open [vR a0, vI a1] [] A σ := rfl
theorem cl_X7_peek {d : Nat} {a0 : Nat} {A : pm_A} {σ : pm_S} : cl (d + 1) 75 [vR a0] A σ = ex d C_X7_peek K_X7_peek [vR a0] [] A σ := rfl
theorem D_X7_peek_0 : C_X7_peek.drop 0 = K_X7_peek := rfl
theorem D_X7_peek_19 : C_X7_peek.drop 19 = K_X7_peek_19 := rfl
theorem D_X7_peek_30 : C_X7_peek.drop 30 = K_X7_peek_30 := rfl
theorem D_X7_peek_31 : C_X7_peek.drop 31 = K_X7_peek_31 := rfl
theorem cl_X7_ended {d : Nat} {a0 : Nat} {A : pm_A} {σ : pm_S} : cl (d + 1) 76 [vR a0] A σ = ex d C_X7_ended K_X7_ended [vR a0] [] A σ := rfl
theorem D_X7_ended_6 : C_X7_ended.drop 6 = K_X7_ended_6 := rfl
theorem D_X7_ended_7 : C_X7_ended.drop 7 = K_X7_ended_7 := rfl
theorem cl_X7_sees {d : Nat} {a0 : Nat} {a1 : Nat} {A : pm_A} {σ : pm_S} : cl (d + 1) 77 [vR a0, vR a1] A σ = ex d C_X7_sees K_X7_sees [vR a0, vR a1] [] A σ := rfl
theorem D_X7_sees_6 : C_X7_sees.drop 6 = K_X7_sees_6 := rfl
theorem D_X7_sees_7 : C_X7_sees.drop 7 = K_X7_sees_7 := rfl
theorem cl_X7_takes {d : Nat} {a0 : Nat} {a1 : Nat} {A : pm_A} {σ : pm_S} : cl (d + 1) 78 [vR a0, vR a1] A σ = ex d C_X7_takes K_X7_takes [vR a0, vR a1] [] A σ := rfl
theorem D_X7_takes_10 : C_X7_takes.drop 10 = K_X7_takes_10 := rfl
theorem cl_X7_takesNumber {d : Nat} {a0 : Nat} {a1 : Int} {a2 : Int} {A : pm_A} {σ : pm_S} : cl (d + 1) 79 [vR a0, vI a1, vI a2] A σ = ex d C_X7_takesNumber K_X7_takesNumber [vR a0, vI a1, vI a2, vO] [] A σ := rfl
theorem D_X7_takesNumber_9 : C_X7_takesNumber.drop 9 = K_X7_takesNumber_9 := rfl
theorem D_X7_takesNumber_15 : C_X7_takesNumber.drop 15 = K_X7_takesNumber_15 := rfl
theorem D_X7_takesNumber_22 : C_X7_takesNumber.drop 22 = K_X7_takesNumber_22 := rfl
theorem D_X7_takesNumber_64 : C_X7_takesNumber.drop 64 = K_X7_takesNumber_64 := rfl
theorem D_X7_takesNumber_72 : C_X7_takesNumber.drop 72 = K_X7_takesNumber_72 := rfl
theorem D_X7_takesNumber_76 : C_X7_takesNumber.drop 76 = K_X7_takesNumber_76 := rfl
theorem D_X7_takesNumber_78 : C_X7_takesNumber.drop 78 = K_X7_takesNumber_78 := rfl
theorem D_X7_takesNumber_79 : C_X7_takesNumber.drop 79 = K_X7_takesNumber_79 := rfl
theorem cl_X7_takesWord {d : Nat} {a0 : Nat} {A : pm_A} {σ : pm_S} : cl (d + 1) 80 [vR a0] A σ = ex d C_X7_takesWord K_X7_takesWord [vR a0, vO] [] A σ := rfl
theorem D_X7_takesWord_9 : C_X7_takesWord.drop 9 = K_X7_takesWord_9 := rfl
theorem D_X7_takesWord_15 : C_X7_takesWord.drop 15 = K_X7_takesWord_15 := rfl
theorem D_X7_takesWord_19 : C_X7_takesWord.drop 19 = K_X7_takesWord_19 := rfl
theorem D_X7_takesWord_45 : C_X7_takesWord.drop 45 = K_X7_takesWord_45 := rfl
theorem cl_X7_isWord {d : Nat} {a0 : Nat} {a1 : Nat} {A : pm_A} {σ : pm_S} : cl (d + 1) 81 [vR a0, vS a1] A σ = ex d C_X7_isWord K_X7_isWord [vR a0, vS a1, vO] [] A σ := rfl
theorem D_X7_isWord_10 : C_X7_isWord.drop 10 = K_X7_isWord_10 := rfl
theorem D_X7_isWord_12 : C_X7_isWord.drop 12 = K_X7_isWord_12 := rfl
theorem D_X7_isWord_29 : C_X7_isWord.drop 29 = K_X7_isWord_29 := rfl
theorem D_X7_isWord_31 : C_X7_isWord.drop 31 = K_X7_isWord_31 := rfl
theorem cl_X7_cannotStand {d : Nat} {a0 : Nat} {A : pm_A} {σ : pm_S} : cl (d + 1) 82 [vR a0] A σ = ex d C_X7_cannotStand K_X7_cannotStand [vR a0] [] A σ := rfl
theorem cl_X7_failsToken {d : Nat} {a0 : Nat} {a1 : Int} {A : pm_A} {σ : pm_S} : cl (d + 1) 83 [vR a0, vI a1] A σ = ex d C_X7_failsToken K_X7_failsToken [vR a0, vI a1] [] A σ := rfl
theorem cl_X7_fails {d : Nat} {a0 : Nat} {a1 : Int} {a2 : Int} {A : pm_A} {σ : pm_S} : cl (d + 1) 84 [vR a0, vI a1, vI a2] A σ = ex d C_X7_fails K_X7_fails [vR a0, vI a1, vI a2] [] A σ := rfl
theorem cl_X8_init {d : Nat} {a0 : Nat} {A : pm_A} {σ : pm_S} : cl (d + 1) 85 [vR a0] A σ = ex d C_X8_init K_X8_init [vR a0] [] A σ := rfl
theorem cl_X8_copyFrom {d : Nat} {a0 : Nat} {a1 : Nat} {A : pm_A} {σ : pm_S} : cl (d + 1) 86 [vR a0, vR a1] A σ = ex d C_X8_copyFrom K_X8_copyFrom [vR a0, vR a1] [] A σ := rfl
theorem cl_X8_parse {d : Nat} {a0 : Nat} {a1 : Nat} {A : pm_A} {σ : pm_S} : cl (d + 1) 87 [vR a0, vR a1] A σ = ex d C_X8_parse K_X8_parse [vR a0, vR a1, vO] [] A σ := rfl
theorem D_X8_parse_14 : C_X8_parse.drop 14 = K_X8_parse_14 := rfl
theorem D_X8_parse_22 : C_X8_parse.drop 22 = K_X8_parse_22 := rfl
theorem D_X8_parse_29 : C_X8_parse.drop 29 = K_X8_parse_29 := rfl
theorem D_X8_parse_30 : C_X8_parse.drop 30 = K_X8_parse_30 := rfl
theorem D_X8_parse_36 : C_X8_parse.drop 36 = K_X8_parse_36 := rfl
theorem D_X8_parse_38 : C_X8_parse.drop 38 = K_X8_parse_38 := rfl
theorem D_X8_parse_40 : C_X8_parse.drop 40 = K_X8_parse_40 := rfl
theorem cl_X8_parseClause {d : Nat} {a0 : Nat} {a1 : Nat} {a2 : Int} {A : pm_A} {σ : pm_S} : cl (d + 1) 88 [vR a0, vR a1, vI a2] A σ = ex d C_X8_parseClause K_X8_parseClause [vR a0, vR a1, vI a2, vO] [] A σ := rfl
theorem D_X8_parseClause_5 : C_X8_parseClause.drop 5 = K_X8_parseClause_5 := rfl
theorem D_X8_parseClause_15 : C_X8_parseClause.drop 15 = K_X8_parseClause_15 := rfl
theorem D_X8_parseClause_21 : C_X8_parseClause.drop 21 = K_X8_parseClause_21 := rfl
theorem D_X8_parseClause_25 : C_X8_parseClause.drop 25 = K_X8_parseClause_25 := rfl
theorem D_X8_parseClause_27 : C_X8_parseClause.drop 27 = K_X8_parseClause_27 := rfl
theorem D_X8_parseClause_31 : C_X8_parseClause.drop 31 = K_X8_parseClause_31 := rfl
theorem D_X8_parseClause_35 : C_X8_parseClause.drop 35 = K_X8_parseClause_35 := rfl
theorem D_X8_parseClause_39 : C_X8_parseClause.drop 39 = K_X8_parseClause_39 := rfl
theorem D_X8_parseClause_43 : C_X8_parseClause.drop 43 = K_X8_parseClause_43 := rfl
theorem cl_X8_clauseKind {d : Nat} {a0 : Nat} {A : pm_A} {σ : pm_S} : cl (d + 1) 89 [vR a0] A σ = ex d C_X8_clauseKind K_X8_clauseKind [vR a0] [] A σ := rfl
theorem D_X8_clauseKind_6 : C_X8_clauseKind.drop 6 = K_X8_clauseKind_6 := rfl
theorem D_X8_clauseKind_12 : C_X8_clauseKind.drop 12 = K_X8_clauseKind_12 := rfl
theorem D_X8_clauseKind_18 : C_X8_clauseKind.drop 18 = K_X8_clauseKind_18 := rfl
theorem D_X8_clauseKind_24 : C_X8_clauseKind.drop 24 = K_X8_clauseKind_24 := rfl
theorem D_X8_clauseKind_30 : C_X8_clauseKind.drop 30 = K_X8_clauseKind_30 := rfl
theorem D_X8_clauseKind_31 : C_X8_clauseKind.drop 31 = K_X8_clauseKind_31 := rfl
theorem cl_X8_isFull {d : Nat} {a0 : Nat} {a1 : Int} {A : pm_A} {σ : pm_S} : cl (d + 1) 90 [vR a0, vI a1] A σ = ex d C_X8_isFull K_X8_isFull [vR a0, vI a1] [] A σ := rfl
theorem D_X8_isFull_6 : C_X8_isFull.drop 6 = K_X8_isFull_6 := rfl
theorem D_X8_isFull_13 : C_X8_isFull.drop 13 = K_X8_isFull_13 := rfl
theorem D_X8_isFull_20 : C_X8_isFull.drop 20 = K_X8_isFull_20 := rfl
theorem D_X8_isFull_22 : C_X8_isFull.drop 22 = K_X8_isFull_22 := rfl
theorem D_X8_isFull_23 : C_X8_isFull.drop 23 = K_X8_isFull_23 := rfl
theorem cl_X8_parseHouse {d : Nat} {a0 : Nat} {a1 : Nat} {A : pm_A} {σ : pm_S} : cl (d + 1) 91 [vR a0, vR a1] A σ = ex d C_X8_parseHouse K_X8_parseHouse [vR a0, vR a1] [] A σ := rfl
theorem D_X8_parseHouse_7 : C_X8_parseHouse.drop 7 = K_X8_parseHouse_7 := rfl
theorem cl_X8_parseWall {d : Nat} {a0 : Nat} {a1 : Nat} {A : pm_A} {σ : pm_S} : cl (d + 1) 92 [vR a0, vR a1] A σ = ex d C_X8_parseWall K_X8_parseWall [vR a0, vR a1, vO, vO] [] A σ := rfl
theorem D_X8_parseWall_10 : C_X8_parseWall.drop 10 = K_X8_parseWall_10 := rfl
theorem D_X8_parseWall_23 : C_X8_parseWall.drop 23 = K_X8_parseWall_23 := rfl
theorem D_X8_parseWall_38 : C_X8_parseWall.drop 38 = K_X8_parseWall_38 := rfl
theorem D_X8_parseWall_42 : C_X8_parseWall.drop 42 = K_X8_parseWall_42 := rfl
theorem cl_X8_parsePiano {d : Nat} {a0 : Nat} {a1 : Nat} {A : pm_A} {σ : pm_S} : cl (d + 1) 93 [vR a0, vR a1] A σ = ex d C_X8_parsePiano K_X8_parsePiano [vR a0, vR a1, vO] [] A σ := rfl
theorem D_X8_parsePiano_7 : C_X8_parsePiano.drop 7 = K_X8_parsePiano_7 := rfl
theorem D_X8_parsePiano_17 : C_X8_parsePiano.drop 17 = K_X8_parsePiano_17 := rfl
theorem cl_X8_parseWish {d : Nat} {a0 : Nat} {a1 : Nat} {A : pm_A} {σ : pm_S} : cl (d + 1) 94 [vR a0, vR a1] A σ = ex d C_X8_parseWish K_X8_parseWish [vR a0, vR a1, vO] [] A σ := rfl
theorem D_X8_parseWish_10 : C_X8_parseWish.drop 10 = K_X8_parseWish_10 := rfl
theorem D_X8_parseWish_20 : C_X8_parseWish.drop 20 = K_X8_parseWish_20 := rfl
theorem cl_X8_parseFelt {d : Nat} {a0 : Nat} {a1 : Nat} {A : pm_A} {σ : pm_S} : cl (d + 1) 95 [vR a0, vR a1] A σ = ex d C_X8_parseFelt K_X8_parseFelt [vR a0, vR a1] [] A σ := rfl
theorem D_X8_parseFelt_7 : C_X8_parseFelt.drop 7 = K_X8_parseFelt_7 := rfl
theorem cl_X8_hasWall {d : Nat} {a0 : Nat} {a1 : Int} {a2 : Int} {A : pm_A} {σ : pm_S} : cl (d + 1) 96 [vR a0, vI a1, vI a2] A σ = ex d C_X8_hasWall K_X8_hasWall [vR a0, vI a1, vI a2] [] A σ := rfl
theorem D_X8_hasWall_11 : C_X8_hasWall.drop 11 = K_X8_hasWall_11 := rfl
theorem D_X8_hasWall_12 : C_X8_hasWall.drop 12 = K_X8_hasWall_12 := rfl
theorem cl_X8_besideAny {d : Nat} {a0 : Nat} {a1 : Int} {A : pm_A} {σ : pm_S} : cl (d + 1) 97 [vR a0, vI a1] A σ = ex d C_X8_besideAny K_X8_besideAny [vR a0, vI a1, vO, vO] [] A σ := rfl
theorem D_X8_besideAny_4 : C_X8_besideAny.drop 4 = K_X8_besideAny_4 := rfl
theorem D_X8_besideAny_21 : C_X8_besideAny.drop 21 = K_X8_besideAny_21 := rfl
theorem D_X8_besideAny_23 : C_X8_besideAny.drop 23 = K_X8_besideAny_23 := rfl
theorem cl_X8_given {d : Nat} {a0 : Nat} {a1 : Int} {a2 : Int} {A : pm_A} {σ : pm_S} : cl (d + 1) 98 [vR a0, vI a1, vI a2] A σ = ex d C_X8_given K_X8_given [vR a0, vI a1, vI a2, vO, vO] [] A σ := rfl
theorem D_X8_given_4 : C_X8_given.drop 4 = K_X8_given_4 := rfl
theorem D_X8_given_23 : C_X8_given.drop 23 = K_X8_given_23 := rfl
theorem D_X8_given_25 : C_X8_given.drop 25 = K_X8_given_25 := rfl
theorem cl_X9_init {d : Nat} {a0 : Nat} {a1 : Nat} {A : pm_A} {σ : pm_S} : cl (d + 1) 99 [vR a0, vR a1] A σ = ex d C_X9_init K_X9_init [vR a0, vR a1] [] A σ := rfl
theorem cl_X9_parse {d : Nat} {a0 : Nat} {a1 : Nat} {A : pm_A} {σ : pm_S} : cl (d + 1) 100 [vR a0, vR a1] A σ = ex d C_X9_parse K_X9_parse [vR a0, vR a1] [] A σ := rfl
theorem cl_X9_parseSteps {d : Nat} {a0 : Nat} {a1 : Nat} {a2 : Int} {A : pm_A} {σ : pm_S} : cl (d + 1) 101 [vR a0, vR a1, vI a2] A σ = ex d C_X9_parseSteps K_X9_parseSteps [vR a0, vR a1, vI a2, vO] [] A σ := rfl
theorem D_X9_parseSteps_2 : C_X9_parseSteps.drop 2 = K_X9_parseSteps_2 := rfl
theorem D_X9_parseSteps_11 : C_X9_parseSteps.drop 11 = K_X9_parseSteps_11 := rfl
theorem D_X9_parseSteps_15 : C_X9_parseSteps.drop 15 = K_X9_parseSteps_15 := rfl
theorem D_X9_parseSteps_17 : C_X9_parseSteps.drop 17 = K_X9_parseSteps_17 := rfl
theorem D_X9_parseSteps_26 : C_X9_parseSteps.drop 26 = K_X9_parseSteps_26 := rfl
theorem D_X9_parseSteps_28 : C_X9_parseSteps.drop 28 = K_X9_parseSteps_28 := rfl
theorem D_X9_parseSteps_30 : C_X9_parseSteps.drop 30 = K_X9_parseSteps_30 := rfl
theorem cl_X9_parseStep {d : Nat} {a0 : Nat} {a1 : Nat} {a2 : Int} {A : pm_A} {σ : pm_S} : cl (d + 1) 102 [vR a0, vR a1, vI a2] A σ = ex d C_X9_parseStep K_X9_parseStep [vR a0, vR a1, vI a2] [] A σ := rfl
theorem D_X9_parseStep_5 : C_X9_parseStep.drop 5 = K_X9_parseStep_5 := rfl
theorem D_X9_parseStep_25 : C_X9_parseStep.drop 25 = K_X9_parseStep_25 := rfl
theorem D_X9_parseStep_26 : C_X9_parseStep.drop 26 = K_X9_parseStep_26 := rfl
theorem D_X9_parseStep_27 : C_X9_parseStep.drop 27 = K_X9_parseStep_27 := rfl
theorem D_X9_parseStep_44 : C_X9_parseStep.drop 44 = K_X9_parseStep_44 := rfl
theorem D_X9_parseStep_45 : C_X9_parseStep.drop 45 = K_X9_parseStep_45 := rfl
theorem D_X9_parseStep_46 : C_X9_parseStep.drop 46 = K_X9_parseStep_46 := rfl
theorem D_X9_parseStep_62 : C_X9_parseStep.drop 62 = K_X9_parseStep_62 := rfl
theorem D_X9_parseStep_63 : C_X9_parseStep.drop 63 = K_X9_parseStep_63 := rfl
theorem D_X9_parseStep_64 : C_X9_parseStep.drop 64 = K_X9_parseStep_64 := rfl
theorem D_X9_parseStep_74 : C_X9_parseStep.drop 74 = K_X9_parseStep_74 := rfl
theorem D_X9_parseStep_83 : C_X9_parseStep.drop 83 = K_X9_parseStep_83 := rfl
theorem D_X9_parseStep_86 : C_X9_parseStep.drop 86 = K_X9_parseStep_86 := rfl
theorem cl_X9_takesPiano {d : Nat} {a0 : Nat} {a1 : Nat} {A : pm_A} {σ : pm_S} : cl (d + 1) 103 [vR a0, vR a1] A σ = ex d C_X9_takesPiano K_X9_takesPiano [vR a0, vR a1] [] A σ := rfl
theorem cl_X9_parseSecond {d : Nat} {a0 : Nat} {a1 : Nat} {a2 : Int} {a3 : Int} {A : pm_A} {σ : pm_S} : cl (d + 1) 104 [vR a0, vR a1, vI a2, vI a3] A σ = ex d C_X9_parseSecond K_X9_parseSecond [vR a0, vR a1, vI a2, vI a3, vO] [] A σ := rfl
theorem D_X9_parseSecond_17 : C_X9_parseSecond.drop 17 = K_X9_parseSecond_17 := rfl
theorem D_X9_parseSecond_18 : C_X9_parseSecond.drop 18 = K_X9_parseSecond_18 := rfl
theorem cl_X9_parseAgain {d : Nat} {a0 : Nat} {a1 : Nat} {a2 : Int} {A : pm_A} {σ : pm_S} : cl (d + 1) 105 [vR a0, vR a1, vI a2] A σ = ex d C_X9_parseAgain K_X9_parseAgain [vR a0, vR a1, vI a2, vO] [] A σ := rfl
theorem D_X9_parseAgain_7 : C_X9_parseAgain.drop 7 = K_X9_parseAgain_7 := rfl
theorem D_X9_parseAgain_14 : C_X9_parseAgain.drop 14 = K_X9_parseAgain_14 := rfl
theorem D_X9_parseAgain_39 : C_X9_parseAgain.drop 39 = K_X9_parseAgain_39 := rfl
theorem D_X9_parseAgain_41 : C_X9_parseAgain.drop 41 = K_X9_parseAgain_41 := rfl
theorem cl_X9_addStep {d : Nat} {a0 : Nat} {a1 : Int} {a2 : Int} {a3 : Int} {A : pm_A} {σ : pm_S} : cl (d + 1) 106 [vR a0, vI a1, vI a2, vI a3] A σ = ex d C_X9_addStep K_X9_addStep [vR a0, vI a1, vI a2, vI a3] [] A σ := rfl
theorem D_X9_addStep_6 : C_X9_addStep.drop 6 = K_X9_addStep_6 := rfl
theorem cl_X9_doSteps {d : Nat} {a0 : Nat} {a1 : Nat} {a2 : Int} {a3 : Int} {a4 : Int} {A : pm_A} {σ : pm_S} : cl (d + 1) 107 [vR a0, vR a1, vI a2, vI a3, vI a4] A σ = ex d C_X9_doSteps K_X9_doSteps [vR a0, vR a1, vI a2, vI a3, vI a4, vO, vO] [] A σ := rfl
theorem D_X9_doSteps_4 : C_X9_doSteps.drop 4 = K_X9_doSteps_4 := rfl
theorem D_X9_doSteps_6 : C_X9_doSteps.drop 6 = K_X9_doSteps_6 := rfl
theorem D_X9_doSteps_27 : C_X9_doSteps.drop 27 = K_X9_doSteps_27 := rfl
theorem D_X9_doSteps_52 : C_X9_doSteps.drop 52 = K_X9_doSteps_52 := rfl
theorem D_X9_doSteps_53 : C_X9_doSteps.drop 53 = K_X9_doSteps_53 := rfl
theorem D_X9_doSteps_65 : C_X9_doSteps.drop 65 = K_X9_doSteps_65 := rfl
theorem D_X9_doSteps_71 : C_X9_doSteps.drop 71 = K_X9_doSteps_71 := rfl
theorem D_X9_doSteps_77 : C_X9_doSteps.drop 77 = K_X9_doSteps_77 := rfl
theorem cl_X9_doStep {d : Nat} {a0 : Nat} {a1 : Nat} {a2 : Int} {A : pm_A} {σ : pm_S} : cl (d + 1) 108 [vR a0, vR a1, vI a2] A σ = ex d C_X9_doStep K_X9_doStep [vR a0, vR a1, vI a2] [] A σ := rfl
theorem D_X9_doStep_5 : C_X9_doStep.drop 5 = K_X9_doStep_5 := rfl
theorem D_X9_doStep_16 : C_X9_doStep.drop 16 = K_X9_doStep_16 := rfl
theorem D_X9_doStep_23 : C_X9_doStep.drop 23 = K_X9_doStep_23 := rfl
theorem D_X9_doStep_34 : C_X9_doStep.drop 34 = K_X9_doStep_34 := rfl
theorem D_X9_doStep_42 : C_X9_doStep.drop 42 = K_X9_doStep_42 := rfl
theorem cl_X10_init {d : Nat} {a0 : Nat} {a1 : Nat} {A : pm_A} {σ : pm_S} : cl (d + 1) 109 [vR a0, vR a1] A σ = ex d C_X10_init K_X10_init [vR a0, vR a1] [] A σ := rfl
theorem cl_X10_play {d : Nat} {a0 : Nat} {a1 : Nat} {a2 : Int} {a3 : Int} {a4 : Int} {A : pm_A} {σ : pm_S} : cl (d + 1) 110 [vR a0, vR a1, vI a2, vI a3, vI a4] A σ = ex d C_X10_play K_X10_play [vR a0, vR a1, vI a2, vI a3, vI a4, vO] [] A σ := rfl
theorem D_X10_play_12 : C_X10_play.drop 12 = K_X10_play_12 := rfl
theorem D_X10_play_22 : C_X10_play.drop 22 = K_X10_play_22 := rfl
theorem D_X10_play_27 : C_X10_play.drop 27 = K_X10_play_27 := rfl
theorem cl_X10_putAny {d : Nat} {a0 : Nat} {A : pm_A} {σ : pm_S} : cl (d + 1) 111 [vR a0] A σ = ex d C_X10_putAny K_X10_putAny [vR a0, vO, vO, vO] [] A σ := rfl
theorem D_X10_putAny_10 : C_X10_putAny.drop 10 = K_X10_putAny_10 := rfl
theorem D_X10_putAny_11 : C_X10_putAny.drop 11 = K_X10_putAny_11 := rfl
theorem D_X10_putAny_33 : C_X10_putAny.drop 33 = K_X10_putAny_33 := rfl
theorem cl_X10_draw {d : Nat} {a0 : Nat} {a1 : Int} {A : pm_A} {σ : pm_S} : cl (d + 1) 112 [vR a0, vI a1] A σ = ex d C_X10_draw K_X10_draw [vR a0, vI a1] [] A σ := rfl
theorem D_X10_draw_19 : C_X10_draw.drop 19 = K_X10_draw_19 := rfl
theorem D_X10_draw_20 : C_X10_draw.drop 20 = K_X10_draw_20 := rfl
theorem cl_X11_init {d : Nat} {a0 : Nat} {A : pm_A} {σ : pm_S} : cl (d + 1) 113 [vR a0] A σ = ex d C_X11_init K_X11_init [vR a0, vO] [] A σ := rfl
theorem D_X11_init_100 : C_X11_init.drop 100 = K_X11_init_100 := rfl
theorem D_X11_init_112 : C_X11_init.drop 112 = K_X11_init_112 := rfl
theorem cl_X11_feed {d : Nat} {a0 : Nat} {a1 : Int} {a2 : Int} {a3 : Int} {a4 : Int} {a5 : Int} {A : pm_A} {σ : pm_S} : cl (d + 1) 114 [vR a0, vI a1, vI a2, vI a3, vI a4, vI a5] A σ = ex d C_X11_feed K_X11_feed [vR a0, vI a1, vI a2, vI a3, vI a4, vI a5] [] A σ := rfl
theorem D_X11_feed_6 : C_X11_feed.drop 6 = K_X11_feed_6 := rfl
theorem cl_X11_terrace {d : Nat} {a0 : Nat} {a1 : Int} {A : pm_A} {σ : pm_S} : cl (d + 1) 115 [vR a0, vI a1] A σ = ex d C_X11_terrace K_X11_terrace [vR a0, vI a1] [] A σ := rfl
theorem D_X11_terrace_16 : C_X11_terrace.drop 16 = K_X11_terrace_16 := rfl
theorem cl_X11_law {d : Nat} {a0 : Nat} {a1 : Int} {A : pm_A} {σ : pm_S} : cl (d + 1) 116 [vR a0, vI a1] A σ = ex d C_X11_law K_X11_law [vR a0, vI a1] [] A σ := rfl
theorem D_X11_law_16 : C_X11_law.drop 16 = K_X11_law_16 := rfl
theorem cl_X11_work {d : Nat} {a0 : Nat} {a1 : Int} {A : pm_A} {σ : pm_S} : cl (d + 1) 117 [vR a0, vI a1] A σ = ex d C_X11_work K_X11_work [vR a0, vI a1] [] A σ := rfl
theorem D_X11_work_11 : C_X11_work.drop 11 = K_X11_work_11 := rfl
theorem D_X11_work_23 : C_X11_work.drop 23 = K_X11_work_23 := rfl
theorem cl_X11_book {d : Nat} {a0 : Nat} {a1 : Int} {A : pm_A} {σ : pm_S} : cl (d + 1) 118 [vR a0, vI a1] A σ = ex d C_X11_book K_X11_book [vR a0, vI a1] [] A σ := rfl
theorem D_X11_book_16 : C_X11_book.drop 16 = K_X11_book_16 := rfl
theorem cl_X11_fault {d : Nat} {a0 : Nat} {A : pm_A} {σ : pm_S} : cl (d + 1) 119 [vR a0] A σ = ex d C_X11_fault K_X11_fault [vR a0] [] A σ := rfl
theorem cl_X11_undo {d : Nat} {a0 : Nat} {A : pm_A} {σ : pm_S} : cl (d + 1) 120 [vR a0] A σ = ex d C_X11_undo K_X11_undo [vR a0] [] A σ := rfl
theorem D_X11_undo_9 : C_X11_undo.drop 9 = K_X11_undo_9 := rfl
theorem cl_X11_openText {d : Nat} {a0 : Nat} {a1 : Int} {a2 : Int} {A : pm_A} {σ : pm_S} : cl (d + 1) 121 [vR a0, vI a1, vI a2] A σ = ex d C_X11_openText K_X11_openText [vR a0, vI a1, vI a2] [] A σ := rfl
theorem D_X11_openText_10 : C_X11_openText.drop 10 = K_X11_openText_10 := rfl
theorem D_X11_openText_21 : C_X11_openText.drop 21 = K_X11_openText_21 := rfl
theorem cl_X11_told {d : Nat} {a0 : Nat} {a1 : Int} {A : pm_A} {σ : pm_S} : cl (d + 1) 122 [vR a0, vI a1] A σ = ex d C_X11_told K_X11_told [vR a0, vI a1] [] A σ := rfl
theorem D_X11_told_7 : C_X11_told.drop 7 = K_X11_told_7 := rfl
theorem D_X11_told_11 : C_X11_told.drop 11 = K_X11_told_11 := rfl
theorem D_X11_told_15 : C_X11_told.drop 15 = K_X11_told_15 := rfl
theorem D_X11_told_19 : C_X11_told.drop 19 = K_X11_told_19 := rfl
theorem D_X11_told_25 : C_X11_told.drop 25 = K_X11_told_25 := rfl
theorem D_X11_told_31 : C_X11_told.drop 31 = K_X11_told_31 := rfl
theorem D_X11_told_35 : C_X11_told.drop 35 = K_X11_told_35 := rfl
theorem D_X11_told_39 : C_X11_told.drop 39 = K_X11_told_39 := rfl
theorem D_X11_told_43 : C_X11_told.drop 43 = K_X11_told_43 := rfl
theorem D_X11_told_47 : C_X11_told.drop 47 = K_X11_told_47 := rfl
theorem D_X11_told_50 : C_X11_told.drop 50 = K_X11_told_50 := rfl
theorem cl_X11_house {d : Nat} {a0 : Nat} {a1 : Int} {a2 : Int} {A : pm_A} {σ : pm_S} : cl (d + 1) 123 [vR a0, vI a1, vI a2] A σ = ex d C_X11_house K_X11_house [vR a0, vI a1, vI a2] [] A σ := rfl
theorem D_X11_house_10 : C_X11_house.drop 10 = K_X11_house_10 := rfl
theorem D_X11_house_15 : C_X11_house.drop 15 = K_X11_house_15 := rfl
theorem D_X11_house_20 : C_X11_house.drop 20 = K_X11_house_20 := rfl
theorem D_X11_house_26 : C_X11_house.drop 26 = K_X11_house_26 := rfl
theorem D_X11_house_32 : C_X11_house.drop 32 = K_X11_house_32 := rfl
theorem D_X11_house_37 : C_X11_house.drop 37 = K_X11_house_37 := rfl
theorem cl_X11_there {d : Nat} {a0 : Nat} {a1 : Int} {a2 : Int} {A : pm_A} {σ : pm_S} : cl (d + 1) 124 [vR a0, vI a1, vI a2] A σ = ex d C_X11_there K_X11_there [vR a0, vI a1, vI a2] [] A σ := rfl
theorem cl_X11_wall {d : Nat} {a0 : Nat} {a1 : Int} {a2 : Int} {A : pm_A} {σ : pm_S} : cl (d + 1) 125 [vR a0, vI a1, vI a2] A σ = ex d C_X11_wall K_X11_wall [vR a0, vI a1, vI a2] [] A σ := rfl
theorem D_X11_wall_19 : C_X11_wall.drop 19 = K_X11_wall_19 := rfl
theorem D_X11_wall_24 : C_X11_wall.drop 24 = K_X11_wall_24 := rfl
theorem cl_X11_piano {d : Nat} {a0 : Nat} {a1 : Int} {a2 : Int} {A : pm_A} {σ : pm_S} : cl (d + 1) 126 [vR a0, vI a1, vI a2] A σ = ex d C_X11_piano K_X11_piano [vR a0, vI a1, vI a2] [] A σ := rfl
theorem D_X11_piano_10 : C_X11_piano.drop 10 = K_X11_piano_10 := rfl
theorem D_X11_piano_16 : C_X11_piano.drop 16 = K_X11_piano_16 := rfl
theorem D_X11_piano_22 : C_X11_piano.drop 22 = K_X11_piano_22 := rfl
theorem D_X11_piano_27 : C_X11_piano.drop 27 = K_X11_piano_27 := rfl
theorem D_X11_piano_32 : C_X11_piano.drop 32 = K_X11_piano_32 := rfl
theorem D_X11_piano_37 : C_X11_piano.drop 37 = K_X11_piano_37 := rfl
theorem D_X11_piano_42 : C_X11_piano.drop 42 = K_X11_piano_42 := rfl
theorem D_X11_piano_47 : C_X11_piano.drop 47 = K_X11_piano_47 := rfl
theorem cl_X11_would {d : Nat} {a0 : Nat} {a1 : Int} {a2 : Int} {a3 : Int} {a4 : Int} {a5 : Int} {a6 : Int} {a7 : Int} {a8 : Int} {A : pm_A} {σ : pm_S} : cl (d + 1) 127 [vR a0, vI a1, vI a2, vI a3, vI a4, vI a5, vI a6, vI a7, vI a8] A σ = ex d C_X11_would K_X11_would [vR a0, vI a1, vI a2, vI a3, vI a4, vI a5, vI a6, vI a7, vI a8] [] A σ := rfl
theorem cl_X11_those {d : Nat} {a0 : Nat} {a1 : Int} {A : pm_A} {σ : pm_S} : cl (d + 1) 128 [vR a0, vI a1] A σ = ex d C_X11_those K_X11_those [vR a0, vI a1, vO, vO] [] A σ := rfl
theorem D_X11_those_7 : C_X11_those.drop 7 = K_X11_those_7 := rfl
theorem D_X11_those_24 : C_X11_those.drop 24 = K_X11_those_24 := rfl
theorem D_X11_those_26 : C_X11_those.drop 26 = K_X11_those_26 := rfl
theorem cl_X11_loudest {d : Nat} {a0 : Nat} {a1 : Int} {A : pm_A} {σ : pm_S} : cl (d + 1) 129 [vR a0, vI a1] A σ = ex d C_X11_loudest K_X11_loudest [vR a0, vI a1, vO, vO, vO] [] A σ := rfl
theorem D_X11_loudest_11 : C_X11_loudest.drop 11 = K_X11_loudest_11 := rfl
theorem D_X11_loudest_35 : C_X11_loudest.drop 35 = K_X11_loudest_35 := rfl
theorem D_X11_loudest_37 : C_X11_loudest.drop 37 = K_X11_loudest_37 := rfl
theorem D_X11_loudest_41 : C_X11_loudest.drop 41 = K_X11_loudest_41 := rfl
theorem D_X11_loudest_42 : C_X11_loudest.drop 42 = K_X11_loudest_42 := rfl
theorem cl_X11_quiet {d : Nat} {a0 : Nat} {a1 : Int} {A : pm_A} {σ : pm_S} : cl (d + 1) 130 [vR a0, vI a1] A σ = ex d C_X11_quiet K_X11_quiet [vR a0, vI a1, vO, vO, vO] [] A σ := rfl
theorem D_X11_quiet_7 : C_X11_quiet.drop 7 = K_X11_quiet_7 := rfl
theorem D_X11_quiet_23 : C_X11_quiet.drop 23 = K_X11_quiet_23 := rfl
theorem D_X11_quiet_35 : C_X11_quiet.drop 35 = K_X11_quiet_35 := rfl
theorem D_X11_quiet_37 : C_X11_quiet.drop 37 = K_X11_quiet_37 := rfl
theorem cl_X11_changed {d : Nat} {a0 : Nat} {A : pm_A} {σ : pm_S} : cl (d + 1) 131 [vR a0] A σ = ex d C_X11_changed K_X11_changed [vR a0] [] A σ := rfl
theorem cl_X11_oldest {d : Nat} {a0 : Nat} {a1 : Int} {A : pm_A} {σ : pm_S} : cl (d + 1) 132 [vR a0, vI a1] A σ = ex d C_X11_oldest K_X11_oldest [vR a0, vI a1, vO, vO, vO] [] A σ := rfl
theorem D_X11_oldest_11 : C_X11_oldest.drop 11 = K_X11_oldest_11 := rfl
theorem D_X11_oldest_35 : C_X11_oldest.drop 35 = K_X11_oldest_35 := rfl
theorem D_X11_oldest_37 : C_X11_oldest.drop 37 = K_X11_oldest_37 := rfl
theorem D_X11_oldest_41 : C_X11_oldest.drop 41 = K_X11_oldest_41 := rfl
theorem D_X11_oldest_42 : C_X11_oldest.drop 42 = K_X11_oldest_42 := rfl
theorem cl_X11_empty {d : Nat} {a0 : Nat} {A : pm_A} {σ : pm_S} : cl (d + 1) 133 [vR a0] A σ = ex d C_X11_empty K_X11_empty [vR a0] [] A σ := rfl
theorem cl_X11_margin {d : Nat} {a0 : Nat} {a1 : Int} {A : pm_A} {σ : pm_S} : cl (d + 1) 134 [vR a0, vI a1] A σ = ex d C_X11_margin K_X11_margin [vR a0, vI a1] [] A σ := rfl
theorem cl_X11_ahead {d : Nat} {a0 : Nat} {a1 : Int} {a2 : Int} {a3 : Int} {A : pm_A} {σ : pm_S} : cl (d + 1) 135 [vR a0, vI a1, vI a2, vI a3] A σ = ex d C_X11_ahead K_X11_ahead [vR a0, vI a1, vI a2, vI a3, vO] [] A σ := rfl
theorem D_X11_ahead_20 : C_X11_ahead.drop 20 = K_X11_ahead_20 := rfl
theorem D_X11_ahead_28 : C_X11_ahead.drop 28 = K_X11_ahead_28 := rfl
theorem D_X11_ahead_37 : C_X11_ahead.drop 37 = K_X11_ahead_37 := rfl
theorem D_X11_ahead_42 : C_X11_ahead.drop 42 = K_X11_ahead_42 := rfl
theorem cl_X11_when {d : Nat} {a0 : Nat} {a1 : Int} {a2 : Int} {A : pm_A} {σ : pm_S} : cl (d + 1) 136 [vR a0, vI a1, vI a2] A σ = ex d C_X11_when K_X11_when [vR a0, vI a1, vI a2, vO] [] A σ := rfl
theorem D_X11_when_13 : C_X11_when.drop 13 = K_X11_when_13 := rfl
theorem D_X11_when_24 : C_X11_when.drop 24 = K_X11_when_24 := rfl
theorem D_X11_when_29 : C_X11_when.drop 29 = K_X11_when_29 := rfl
theorem D_X11_when_37 : C_X11_when.drop 37 = K_X11_when_37 := rfl
theorem D_X11_when_38 : C_X11_when.drop 38 = K_X11_when_38 := rfl
theorem cl_X11_muffle {d : Nat} {a0 : Nat} {a1 : Int} {A : pm_A} {σ : pm_S} : cl (d + 1) 137 [vR a0, vI a1] A σ = ex d C_X11_muffle K_X11_muffle [vR a0, vI a1, vO] [] A σ := rfl
theorem D_X11_muffle_11 : C_X11_muffle.drop 11 = K_X11_muffle_11 := rfl
theorem D_X11_muffle_18 : C_X11_muffle.drop 18 = K_X11_muffle_18 := rfl
theorem D_X11_muffle_36 : C_X11_muffle.drop 36 = K_X11_muffle_36 := rfl
theorem D_X11_muffle_38 : C_X11_muffle.drop 38 = K_X11_muffle_38 := rfl
theorem cl_X11_tunes {d : Nat} {a0 : Nat} {a1 : Int} {a2 : Int} {A : pm_A} {σ : pm_S} : cl (d + 1) 138 [vR a0, vI a1, vI a2] A σ = ex d C_X11_tunes K_X11_tunes [vR a0, vI a1, vI a2] [] A σ := rfl
theorem D_X11_tunes_17 : C_X11_tunes.drop 17 = K_X11_tunes_17 := rfl
theorem D_X11_tunes_33 : C_X11_tunes.drop 33 = K_X11_tunes_33 := rfl
theorem D_X11_tunes_34 : C_X11_tunes.drop 34 = K_X11_tunes_34 := rfl
theorem cl_X11_places {d : Nat} {a0 : Nat} {A : pm_A} {σ : pm_S} : cl (d + 1) 139 [vR a0] A σ = ex d C_X11_places K_X11_places [vR a0] [] A σ := rfl
theorem cl_X11_placed {d : Nat} {a0 : Nat} {a1 : Int} {A : pm_A} {σ : pm_S} : cl (d + 1) 140 [vR a0, vI a1] A σ = ex d C_X11_placed K_X11_placed [vR a0, vI a1] [] A σ := rfl
theorem cl_X11_from {d : Nat} {a0 : Nat} {a1 : Int} {a2 : Int} {A : pm_A} {σ : pm_S} : cl (d + 1) 141 [vR a0, vI a1, vI a2] A σ = ex d C_X11_from K_X11_from [vR a0, vI a1, vI a2] [] A σ := rfl
theorem D_X11_from_18 : C_X11_from.drop 18 = K_X11_from_18 := rfl
theorem D_X11_from_21 : C_X11_from.drop 21 = K_X11_from_21 := rfl
theorem cl_X11_look {d : Nat} {a0 : Nat} {a1 : Int} {a2 : Int} {A : pm_A} {σ : pm_S} : cl (d + 1) 142 [vR a0, vI a1, vI a2] A σ = ex d C_X11_look K_X11_look [vR a0, vI a1, vI a2] [] A σ := rfl
theorem D_X11_look_18 : C_X11_look.drop 18 = K_X11_look_18 := rfl
theorem D_X11_look_21 : C_X11_look.drop 21 = K_X11_look_21 := rfl
theorem cl_X11_year {d : Nat} {a0 : Nat} {a1 : Int} {a2 : Int} {a3 : Int} {a4 : Int} {A : pm_A} {σ : pm_S} : cl (d + 1) 143 [vR a0, vI a1, vI a2, vI a3, vI a4] A σ = ex d C_X11_year K_X11_year [vR a0, vI a1, vI a2, vI a3, vI a4] [] A σ := rfl
theorem D_X11_year_19 : C_X11_year.drop 19 = K_X11_year_19 := rfl
theorem D_X11_year_23 : C_X11_year.drop 23 = K_X11_year_23 := rfl
theorem D_X11_year_27 : C_X11_year.drop 27 = K_X11_year_27 := rfl
theorem D_X11_year_31 : C_X11_year.drop 31 = K_X11_year_31 := rfl
theorem cl_X11_span {d : Nat} {a0 : Nat} {a1 : Int} {a2 : Int} {a3 : Int} {a4 : Int} {a5 : Int} {a6 : Int} {A : pm_A} {σ : pm_S} : cl (d + 1) 144 [vR a0, vI a1, vI a2, vI a3, vI a4, vI a5, vI a6] A σ = ex d C_X11_span K_X11_span [vR a0, vI a1, vI a2, vI a3, vI a4, vI a5, vI a6, vO, vO, vO, vO, vO] [] A σ := rfl
theorem D_X11_span_31 : C_X11_span.drop 31 = K_X11_span_31 := rfl
theorem D_X11_span_68 : C_X11_span.drop 68 = K_X11_span_68 := rfl
theorem D_X11_span_72 : C_X11_span.drop 72 = K_X11_span_72 := rfl
theorem D_X11_span_77 : C_X11_span.drop 77 = K_X11_span_77 := rfl
theorem D_X11_span_78 : C_X11_span.drop 78 = K_X11_span_78 := rfl
theorem cl_X11_needYear {d : Nat} {a0 : Nat} {a1 : Int} {a2 : Int} {A : pm_A} {σ : pm_S} : cl (d + 1) 145 [vR a0, vI a1, vI a2] A σ = ex d C_X11_needYear K_X11_needYear [vR a0, vI a1, vI a2] [] A σ := rfl
theorem cl_X11_way {d : Nat} {a0 : Nat} {a1 : Int} {a2 : Int} {A : pm_A} {σ : pm_S} : cl (d + 1) 146 [vR a0, vI a1, vI a2] A σ = ex d C_X11_way K_X11_way [vR a0, vI a1, vI a2, vO, vO] [] A σ := rfl
theorem D_X11_way_12 : C_X11_way.drop 12 = K_X11_way_12 := rfl
theorem D_X11_way_23 : C_X11_way.drop 23 = K_X11_way_23 := rfl
theorem D_X11_way_32 : C_X11_way.drop 32 = K_X11_way_32 := rfl
theorem cl_X11_alone {d : Nat} {a0 : Nat} {A : pm_A} {σ : pm_S} : cl (d + 1) 147 [vR a0] A σ = ex d C_X11_alone K_X11_alone [vR a0, vO, vO] [] A σ := rfl
theorem D_X11_alone_4 : C_X11_alone.drop 4 = K_X11_alone_4 := rfl
theorem D_X11_alone_25 : C_X11_alone.drop 25 = K_X11_alone_25 := rfl
theorem D_X11_alone_27 : C_X11_alone.drop 27 = K_X11_alone_27 := rfl
theorem cl_X11_price {d : Nat} {a0 : Nat} {a1 : Int} {a2 : Int} {a3 : Int} {A : pm_A} {σ : pm_S} : cl (d + 1) 148 [vR a0, vI a1, vI a2, vI a3] A σ = ex d C_X11_price K_X11_price [vR a0, vI a1, vI a2, vI a3, vO, vO, vO, vO, vO, vO, vO, vO] [] A σ := rfl
theorem D_X11_price_24 : C_X11_price.drop 24 = K_X11_price_24 := rfl
theorem D_X11_price_31 : C_X11_price.drop 31 = K_X11_price_31 := rfl
theorem D_X11_price_45 : C_X11_price.drop 45 = K_X11_price_45 := rfl
theorem D_X11_price_54 : C_X11_price.drop 54 = K_X11_price_54 := rfl
theorem D_X11_price_64 : C_X11_price.drop 64 = K_X11_price_64 := rfl
theorem D_X11_price_70 : C_X11_price.drop 70 = K_X11_price_70 := rfl
theorem D_X11_price_73 : C_X11_price.drop 73 = K_X11_price_73 := rfl
theorem cl_X11_commonDivisor {d : Nat} {a0 : Int} {a1 : Int} {A : pm_A} {σ : pm_S} : cl (d + 1) 149 [vL a0, vL a1] A σ = ex d C_X11_commonDivisor K_X11_commonDivisor [vL a0, vO, vL a1, vO, vO, vO, vO, vO, vO, vO, vO] [] A σ := rfl
theorem D_X11_commonDivisor_6 : C_X11_commonDivisor.drop 6 = K_X11_commonDivisor_6 := rfl
theorem D_X11_commonDivisor_23 : C_X11_commonDivisor.drop 23 = K_X11_commonDivisor_23 := rfl
theorem cl_X11_tuner {d : Nat} {a0 : Nat} {a1 : Int} {a2 : Int} {a3 : Int} {A : pm_A} {σ : pm_S} : cl (d + 1) 150 [vR a0, vI a1, vI a2, vI a3] A σ = ex d C_X11_tuner K_X11_tuner [vR a0, vI a1, vI a2, vI a3, vO, vO, vO, vO, vO] [] A σ := rfl
theorem D_X11_tuner_23 : C_X11_tuner.drop 23 = K_X11_tuner_23 := rfl
theorem D_X11_tuner_28 : C_X11_tuner.drop 28 = K_X11_tuner_28 := rfl
theorem D_X11_tuner_58 : C_X11_tuner.drop 58 = K_X11_tuner_58 := rfl
theorem D_X11_tuner_60 : C_X11_tuner.drop 60 = K_X11_tuner_60 := rfl
theorem D_X11_tuner_62 : C_X11_tuner.drop 62 = K_X11_tuner_62 := rfl
theorem D_X11_tuner_66 : C_X11_tuner.drop 66 = K_X11_tuner_66 := rfl
theorem D_X11_tuner_71 : C_X11_tuner.drop 71 = K_X11_tuner_71 := rfl
theorem D_X11_tuner_72 : C_X11_tuner.drop 72 = K_X11_tuner_72 := rfl
theorem cl_X11_isRest {d : Nat} {a0 : Int} {a1 : Int} {a2 : Int} {a3 : Int} {A : pm_A} {σ : pm_S} : cl (d + 1) 151 [vI a0, vI a1, vI a2, vI a3] A σ = ex d C_X11_isRest K_X11_isRest [vI a0, vI a1, vI a2, vI a3] [] A σ := rfl
theorem D_X11_isRest_26 : C_X11_isRest.drop 26 = K_X11_isRest_26 := rfl
theorem D_X11_isRest_27 : C_X11_isRest.drop 27 = K_X11_isRest_27 := rfl
theorem cl_X11_tunerHas {d : Nat} {a0 : Int} {a1 : Int} {a2 : Int} {A : pm_A} {σ : pm_S} : cl (d + 1) 152 [vI a0, vI a1, vI a2] A σ = ex d C_X11_tunerHas K_X11_tunerHas [vI a0, vI a1, vI a2] [] A σ := rfl
theorem D_X11_tunerHas_4 : C_X11_tunerHas.drop 4 = K_X11_tunerHas_4 := rfl
theorem D_X11_tunerHas_8 : C_X11_tunerHas.drop 8 = K_X11_tunerHas_8 := rfl
theorem D_X11_tunerHas_9 : C_X11_tunerHas.drop 9 = K_X11_tunerHas_9 := rfl
theorem cl_X11_houseHas {d : Nat} {a0 : Int} {a1 : Int} {a2 : Int} {a3 : Int} {A : pm_A} {σ : pm_S} : cl (d + 1) 153 [vI a0, vI a1, vI a2, vI a3] A σ = ex d C_X11_houseHas K_X11_houseHas [vI a0, vI a1, vI a2, vI a3] [] A σ := rfl
theorem D_X11_houseHas_4 : C_X11_houseHas.drop 4 = K_X11_houseHas_4 := rfl
theorem D_X11_houseHas_8 : C_X11_houseHas.drop 8 = K_X11_houseHas_8 := rfl
theorem D_X11_houseHas_9 : C_X11_houseHas.drop 9 = K_X11_houseHas_9 := rfl
theorem cl_X11_share {d : Nat} {a0 : Nat} {a1 : Int} {a2 : Int} {a3 : Int} {A : pm_A} {σ : pm_S} : cl (d + 1) 154 [vR a0, vI a1, vI a2, vI a3] A σ = ex d C_X11_share K_X11_share [vR a0, vI a1, vI a2, vI a3, vO] [] A σ := rfl
theorem D_X11_share_27 : C_X11_share.drop 27 = K_X11_share_27 := rfl
theorem D_X11_share_29 : C_X11_share.drop 29 = K_X11_share_29 := rfl
theorem D_X11_share_40 : C_X11_share.drop 40 = K_X11_share_40 := rfl
theorem cl_X11_image {d : Nat} {a0 : Nat} {A : pm_A} {σ : pm_S} : cl (d + 1) 155 [vR a0] A σ = ex d C_X11_image K_X11_image [vR a0] [] A σ := rfl
theorem D_X11_image_6 : C_X11_image.drop 6 = K_X11_image_6 := rfl
theorem cl_X11_restore {d : Nat} {a0 : Nat} {A : pm_A} {σ : pm_S} : cl (d + 1) 156 [vR a0] A σ = ex d C_X11_restore K_X11_restore [vR a0] [] A σ := rfl
theorem D_X11_restore_5 : C_X11_restore.drop 5 = K_X11_restore_5 := rfl
theorem cl_X11_status {d : Nat} {a0 : Nat} {a1 : Int} {A : pm_A} {σ : pm_S} : cl (d + 1) 157 [vR a0, vI a1] A σ = ex d C_X11_status K_X11_status [vR a0, vI a1] [] A σ := rfl
theorem D_X11_status_2 : C_X11_status.drop 2 = K_X11_status_2 := rfl
theorem D_X11_status_5 : C_X11_status.drop 5 = K_X11_status_5 := rfl
theorem D_X11_status_8 : C_X11_status.drop 8 = K_X11_status_8 := rfl
theorem cl_X11_count {d : Nat} {a0 : Nat} {a1 : Int} {A : pm_A} {σ : pm_S} : cl (d + 1) 158 [vR a0, vI a1] A σ = ex d C_X11_count K_X11_count [vR a0, vI a1] [] A σ := rfl
theorem D_X11_count_2 : C_X11_count.drop 2 = K_X11_count_2 := rfl
theorem D_X11_count_5 : C_X11_count.drop 5 = K_X11_count_5 := rfl
theorem D_X11_count_9 : C_X11_count.drop 9 = K_X11_count_9 := rfl
theorem D_X11_count_13 : C_X11_count.drop 13 = K_X11_count_13 := rfl
theorem cl_X11_needHouse {d : Nat} {a0 : Nat} {a1 : Int} {A : pm_A} {σ : pm_S} : cl (d + 1) 159 [vR a0, vI a1] A σ = ex d C_X11_needHouse K_X11_needHouse [vR a0, vI a1] [] A σ := rfl
theorem cl_X11_needPiano {d : Nat} {a0 : Nat} {a1 : Int} {A : pm_A} {σ : pm_S} : cl (d + 1) 160 [vR a0, vI a1] A σ = ex d C_X11_needPiano K_X11_needPiano [vR a0, vI a1] [] A σ := rfl
theorem cl_X11_needMember {d : Nat} {a0 : Nat} {a1 : Int} {a2 : Int} {A : pm_A} {σ : pm_S} : cl (d + 1) 161 [vR a0, vI a1, vI a2] A σ = ex d C_X11_needMember K_X11_needMember [vR a0, vI a1, vI a2] [] A σ := rfl
theorem D_X11_needMember_5 : C_X11_needMember.drop 5 = K_X11_needMember_5 := rfl
theorem D_X11_needMember_16 : C_X11_needMember.drop 16 = K_X11_needMember_16 := rfl
theorem cl_X11_needThing {d : Nat} {a0 : Nat} {a1 : Int} {A : pm_A} {σ : pm_S} : cl (d + 1) 162 [vR a0, vI a1] A σ = ex d C_X11_needThing K_X11_needThing [vR a0, vI a1] [] A σ := rfl
theorem cl_X11_needRange {d : Nat} {a0 : Nat} {a1 : Int} {a2 : Int} {a3 : Int} {A : pm_A} {σ : pm_S} : cl (d + 1) 163 [vR a0, vI a1, vI a2, vI a3] A σ = ex d C_X11_needRange K_X11_needRange [vR a0, vI a1, vI a2, vI a3] [] A σ := rfl
theorem D_X11_needRange_6 : C_X11_needRange.drop 6 = K_X11_needRange_6 := rfl
theorem D_X11_needRange_17 : C_X11_needRange.drop 17 = K_X11_needRange_17 := rfl
theorem cl_X12_init {d : Nat} {a0 : Nat} {A : pm_A} {σ : pm_S} : cl (d + 1) 164 [vR a0] A σ = ex d C_X12_init K_X12_init [vR a0] [] A σ := rfl
theorem cl_X12_tellsNothing {d : Nat} {a0 : Nat} {A : pm_A} {σ : pm_S} : cl (d + 1) 165 [vR a0] A σ = ex d C_X12_tellsNothing K_X12_tellsNothing [vR a0, vO] [] A σ := rfl
theorem D_X12_tellsNothing_2 : C_X12_tellsNothing.drop 2 = K_X12_tellsNothing_2 := rfl
theorem D_X12_tellsNothing_12 : C_X12_tellsNothing.drop 12 = K_X12_tellsNothing_12 := rfl
theorem D_X12_tellsNothing_19 : C_X12_tellsNothing.drop 19 = K_X12_tellsNothing_19 := rfl
theorem D_X12_tellsNothing_29 : C_X12_tellsNothing.drop 29 = K_X12_tellsNothing_29 := rfl
theorem cl_X12_thrown {d : Nat} {a0 : Nat} {A : pm_A} {σ : pm_S} : cl (d + 1) 166 [vR a0] A σ = ex d C_X12_thrown K_X12_thrown [vR a0] [] A σ := rfl
theorem cl_X12_bad {d : Nat} {a0 : Nat} {a1 : Int} {a2 : Int} {a3 : Int} {A : pm_A} {σ : pm_S} : cl (d + 1) 167 [vR a0, vI a1, vI a2, vI a3] A σ = ex d C_X12_bad K_X12_bad [vR a0, vI a1, vI a2, vI a3] [] A σ := rfl
theorem D_X12_bad_16 : C_X12_bad.drop 16 = K_X12_bad_16 := rfl
theorem D_X12_bad_21 : C_X12_bad.drop 21 = K_X12_bad_21 := rfl
theorem D_X12_bad_22 : C_X12_bad.drop 22 = K_X12_bad_22 := rfl
theorem cl_X12_in {d : Nat} {a0 : Int} {a1 : Int} {a2 : Int} {A : pm_A} {σ : pm_S} : cl (d + 1) 168 [vI a0, vI a1, vI a2] A σ = ex d C_X12_in K_X12_in [vI a0, vI a1, vI a2] [] A σ := rfl
theorem D_X12_in_8 : C_X12_in.drop 8 = K_X12_in_8 := rfl
theorem D_X12_in_9 : C_X12_in.drop 9 = K_X12_in_9 := rfl
theorem cl_X12_less {d : Nat} {a0 : Int} {a1 : Int} {A : pm_A} {σ : pm_S} : cl (d + 1) 169 [vI a0, vI a1] A σ = ex d C_X12_less K_X12_less [vI a0, vI a1] [] A σ := rfl
theorem D_X12_less_5 : C_X12_less.drop 5 = K_X12_less_5 := rfl
theorem D_X12_less_6 : C_X12_less.drop 6 = K_X12_less_6 := rfl
theorem cl_X12_more {d : Nat} {a0 : Int} {a1 : Int} {A : pm_A} {σ : pm_S} : cl (d + 1) 170 [vI a0, vI a1] A σ = ex d C_X12_more K_X12_more [vI a0, vI a1] [] A σ := rfl
theorem D_X12_more_5 : C_X12_more.drop 5 = K_X12_more_5 := rfl
theorem D_X12_more_6 : C_X12_more.drop 6 = K_X12_more_6 := rfl
theorem cl_X12_has {d : Nat} {a0 : Int} {a1 : Int} {A : pm_A} {σ : pm_S} : cl (d + 1) 171 [vI a0, vI a1] A σ = ex d C_X12_has K_X12_has [vI a0, vI a1] [] A σ := rfl
theorem D_X12_has_9 : C_X12_has.drop 9 = K_X12_has_9 := rfl
theorem D_X12_has_10 : C_X12_has.drop 10 = K_X12_has_10 := rfl
theorem cl_X12_feed {d : Nat} {a0 : Nat} {a1 : Int} {a2 : Int} {a3 : Int} {a4 : Int} {a5 : Int} {A : pm_A} {σ : pm_S} : cl (d + 1) 172 [vR a0, vI a1, vI a2, vI a3, vI a4, vI a5] A σ = ex d C_X12_feed K_X12_feed [vR a0, vI a1, vI a2, vI a3, vI a4, vI a5, vO, vO] [] A σ := rfl
theorem D_X12_feed_11 : C_X12_feed.drop 11 = K_X12_feed_11 := rfl
theorem D_X12_feed_13 : C_X12_feed.drop 13 = K_X12_feed_13 := rfl
theorem D_X12_feed_21 : C_X12_feed.drop 21 = K_X12_feed_21 := rfl
theorem D_X12_feed_26 : C_X12_feed.drop 26 = K_X12_feed_26 := rfl
theorem D_X12_feed_31 : C_X12_feed.drop 31 = K_X12_feed_31 := rfl
theorem D_X12_feed_36 : C_X12_feed.drop 36 = K_X12_feed_36 := rfl
theorem D_X12_feed_37 : C_X12_feed.drop 37 = K_X12_feed_37 := rfl
theorem D_X12_feed_62 : C_X12_feed.drop 62 = K_X12_feed_62 := rfl
theorem cl_X12_byteAt {d : Nat} {a0 : Nat} {a1 : Int} {A : pm_A} {σ : pm_S} : cl (d + 1) 173 [vR a0, vI a1] A σ = ex d C_X12_byteAt K_X12_byteAt [vR a0, vI a1] [] A σ := rfl
theorem D_X12_byteAt_6 : C_X12_byteAt.drop 6 = K_X12_byteAt_6 := rfl
theorem D_X12_byteAt_10 : C_X12_byteAt.drop 10 = K_X12_byteAt_10 := rfl
theorem cl_X12_blanks {d : Nat} {a0 : Nat} {A : pm_A} {σ : pm_S} : cl (d + 1) 174 [vR a0] A σ = ex d C_X12_blanks K_X12_blanks [vR a0] [] A σ := rfl
theorem D_X12_blanks_0 : C_X12_blanks.drop 0 = K_X12_blanks := rfl
theorem D_X12_blanks_13 : C_X12_blanks.drop 13 = K_X12_blanks_13 := rfl
theorem cl_X12_wrong {d : Nat} {a0 : Nat} {a1 : Int} {a2 : Int} {A : pm_A} {σ : pm_S} : cl (d + 1) 175 [vR a0, vI a1, vI a2] A σ = ex d C_X12_wrong K_X12_wrong [vR a0, vI a1, vI a2] [] A σ := rfl
theorem D_X12_wrong_9 : C_X12_wrong.drop 9 = K_X12_wrong_9 := rfl
theorem cl_X12_isDigit {d : Nat} {a0 : Int} {A : pm_A} {σ : pm_S} : cl (d + 1) 176 [vI a0] A σ = ex d C_X12_isDigit K_X12_isDigit [vI a0] [] A σ := rfl
theorem D_X12_isDigit_8 : C_X12_isDigit.drop 8 = K_X12_isDigit_8 := rfl
theorem D_X12_isDigit_9 : C_X12_isDigit.drop 9 = K_X12_isDigit_9 := rfl
theorem cl_X12_isSmall {d : Nat} {a0 : Int} {A : pm_A} {σ : pm_S} : cl (d + 1) 177 [vI a0] A σ = ex d C_X12_isSmall K_X12_isSmall [vI a0] [] A σ := rfl
theorem D_X12_isSmall_8 : C_X12_isSmall.drop 8 = K_X12_isSmall_8 := rfl
theorem D_X12_isSmall_9 : C_X12_isSmall.drop 9 = K_X12_isSmall_9 := rfl
theorem cl_X12_number {d : Nat} {a0 : Nat} {a1 : Int} {a2 : Int} {A : pm_A} {σ : pm_S} : cl (d + 1) 178 [vR a0, vI a1, vI a2] A σ = ex d C_X12_number K_X12_number [vR a0, vI a1, vI a2, vO, vO] [] A σ := rfl
theorem D_X12_number_5 : C_X12_number.drop 5 = K_X12_number_5 := rfl
theorem D_X12_number_23 : C_X12_number.drop 23 = K_X12_number_23 := rfl
theorem D_X12_number_45 : C_X12_number.drop 45 = K_X12_number_45 := rfl
theorem D_X12_number_46 : C_X12_number.drop 46 = K_X12_number_46 := rfl
theorem D_X12_number_54 : C_X12_number.drop 54 = K_X12_number_54 := rfl
theorem D_X12_number_63 : C_X12_number.drop 63 = K_X12_number_63 := rfl
theorem D_X12_number_68 : C_X12_number.drop 68 = K_X12_number_68 := rfl
theorem D_X12_number_69 : C_X12_number.drop 69 = K_X12_number_69 := rfl
theorem cl_X12_wordHere {d : Nat} {a0 : Nat} {A : pm_A} {σ : pm_S} : cl (d + 1) 179 [vR a0] A σ = ex d C_X12_wordHere K_X12_wordHere [vR a0, vO, vO] [] A σ := rfl
theorem D_X12_wordHere_6 : C_X12_wordHere.drop 6 = K_X12_wordHere_6 := rfl
theorem D_X12_wordHere_32 : C_X12_wordHere.drop 32 = K_X12_wordHere_32 := rfl
theorem D_X12_wordHere_33 : C_X12_wordHere.drop 33 = K_X12_wordHere_33 := rfl
theorem D_X12_wordHere_36 : C_X12_wordHere.drop 36 = K_X12_wordHere_36 := rfl
theorem D_X12_wordHere_41 : C_X12_wordHere.drop 41 = K_X12_wordHere_41 := rfl
theorem D_X12_wordHere_42 : C_X12_wordHere.drop 42 = K_X12_wordHere_42 := rfl
theorem cl_X12_six {d : Nat} {a0 : Int} {a1 : Int} {a2 : Int} {a3 : Int} {a4 : Int} {a5 : Int} {A : pm_A} {σ : pm_S} : cl (d + 1) 180 [vI a0, vI a1, vI a2, vI a3, vI a4, vI a5] A σ = ex d C_X12_six K_X12_six [vI a0, vI a1, vI a2, vI a3, vI a4, vI a5, vO] [] A σ := rfl
theorem D_X12_six_14 : C_X12_six.drop 14 = K_X12_six_14 := rfl
theorem D_X12_six_19 : C_X12_six.drop 19 = K_X12_six_19 := rfl
theorem D_X12_six_24 : C_X12_six.drop 24 = K_X12_six_24 := rfl
theorem D_X12_six_29 : C_X12_six.drop 29 = K_X12_six_29 := rfl
theorem D_X12_six_34 : C_X12_six.drop 34 = K_X12_six_34 := rfl
theorem D_X12_six_39 : C_X12_six.drop 39 = K_X12_six_39 := rfl
theorem cl_X12_isWord {d : Nat} {a0 : Nat} {a1 : Int} {a2 : Int} {a3 : Int} {a4 : Int} {a5 : Int} {a6 : Int} {A : pm_A} {σ : pm_S} : cl (d + 1) 181 [vR a0, vI a1, vI a2, vI a3, vI a4, vI a5, vI a6] A σ = ex d C_X12_isWord K_X12_isWord [vR a0, vI a1, vI a2, vI a3, vI a4, vI a5, vI a6] [] A σ := rfl
theorem D_X12_isWord_15 : C_X12_isWord.drop 15 = K_X12_isWord_15 := rfl
theorem D_X12_isWord_16 : C_X12_isWord.drop 16 = K_X12_isWord_16 := rfl
theorem cl_X12_skipWord {d : Nat} {a0 : Nat} {A : pm_A} {σ : pm_S} : cl (d + 1) 182 [vR a0] A σ = ex d C_X12_skipWord K_X12_skipWord [vR a0] [] A σ := rfl
theorem D_X12_skipWord_0 : C_X12_skipWord.drop 0 = K_X12_skipWord := rfl
theorem D_X12_skipWord_13 : C_X12_skipWord.drop 13 = K_X12_skipWord_13 := rfl
theorem cl_X12_takes {d : Nat} {a0 : Nat} {a1 : Int} {a2 : Int} {a3 : Int} {a4 : Int} {a5 : Int} {a6 : Int} {A : pm_A} {σ : pm_S} : cl (d + 1) 183 [vR a0, vI a1, vI a2, vI a3, vI a4, vI a5, vI a6] A σ = ex d C_X12_takes K_X12_takes [vR a0, vI a1, vI a2, vI a3, vI a4, vI a5, vI a6, vO] [] A σ := rfl
theorem D_X12_takes_13 : C_X12_takes.drop 13 = K_X12_takes_13 := rfl
theorem cl_X12_sign {d : Nat} {a0 : Nat} {a1 : Int} {A : pm_A} {σ : pm_S} : cl (d + 1) 184 [vR a0, vI a1] A σ = ex d C_X12_sign K_X12_sign [vR a0, vI a1] [] A σ := rfl
theorem D_X12_sign_4 : C_X12_sign.drop 4 = K_X12_sign_4 := rfl
theorem D_X12_sign_19 : C_X12_sign.drop 19 = K_X12_sign_19 := rfl
theorem D_X12_sign_24 : C_X12_sign.drop 24 = K_X12_sign_24 := rfl
theorem cl_X12_takesSign {d : Nat} {a0 : Nat} {a1 : Int} {A : pm_A} {σ : pm_S} : cl (d + 1) 185 [vR a0, vI a1] A σ = ex d C_X12_takesSign K_X12_takesSign [vR a0, vI a1, vO] [] A σ := rfl
theorem D_X12_takesSign_5 : C_X12_takesSign.drop 5 = K_X12_takesSign_5 := rfl
theorem D_X12_takesSign_15 : C_X12_takesSign.drop 15 = K_X12_takesSign_15 := rfl
theorem D_X12_takesSign_16 : C_X12_takesSign.drop 16 = K_X12_takesSign_16 := rfl
theorem D_X12_takesSign_25 : C_X12_takesSign.drop 25 = K_X12_takesSign_25 := rfl
theorem cl_X12_starts {d : Nat} {a0 : Nat} {a1 : Int} {A : pm_A} {σ : pm_S} : cl (d + 1) 186 [vR a0, vI a1] A σ = ex d C_X12_starts K_X12_starts [vR a0, vI a1] [] A σ := rfl
theorem cl_X12_ends {d : Nat} {a0 : Nat} {A : pm_A} {σ : pm_S} : cl (d + 1) 187 [vR a0] A σ = ex d C_X12_ends K_X12_ends [vR a0] [] A σ := rfl
theorem cl_X12_kindHere {d : Nat} {a0 : Nat} {A : pm_A} {σ : pm_S} : cl (d + 1) 188 [vR a0] A σ = ex d C_X12_kindHere K_X12_kindHere [vR a0] [] A σ := rfl
theorem D_X12_kindHere_11 : C_X12_kindHere.drop 11 = K_X12_kindHere_11 := rfl
theorem D_X12_kindHere_22 : C_X12_kindHere.drop 22 = K_X12_kindHere_22 := rfl
theorem D_X12_kindHere_33 : C_X12_kindHere.drop 33 = K_X12_kindHere_33 := rfl
theorem D_X12_kindHere_44 : C_X12_kindHere.drop 44 = K_X12_kindHere_44 := rfl
theorem D_X12_kindHere_55 : C_X12_kindHere.drop 55 = K_X12_kindHere_55 := rfl
theorem D_X12_kindHere_56 : C_X12_kindHere.drop 56 = K_X12_kindHere_56 := rfl
theorem cl_X12_mostOf {d : Nat} {a0 : Int} {A : pm_A} {σ : pm_S} : cl (d + 1) 189 [vI a0] A σ = ex d C_X12_mostOf K_X12_mostOf [vI a0] [] A σ := rfl
theorem D_X12_mostOf_4 : C_X12_mostOf.drop 4 = K_X12_mostOf_4 := rfl
theorem D_X12_mostOf_9 : C_X12_mostOf.drop 9 = K_X12_mostOf_9 := rfl
theorem D_X12_mostOf_10 : C_X12_mostOf.drop 10 = K_X12_mostOf_10 := rfl
theorem cl_X12_readHouse {d : Nat} {a0 : Nat} {A : pm_A} {σ : pm_S} : cl (d + 1) 190 [vR a0] A σ = ex d C_X12_readHouse K_X12_readHouse [vR a0] [] A σ := rfl
theorem cl_X12_isReadWall {d : Nat} {a0 : Nat} {a1 : Int} {a2 : Int} {A : pm_A} {σ : pm_S} : cl (d + 1) 191 [vR a0, vI a1, vI a2] A σ = ex d C_X12_isReadWall K_X12_isReadWall [vR a0, vI a1, vI a2, vO] [] A σ := rfl
theorem D_X12_isReadWall_2 : C_X12_isReadWall.drop 2 = K_X12_isReadWall_2 := rfl
theorem D_X12_isReadWall_24 : C_X12_isReadWall.drop 24 = K_X12_isReadWall_24 := rfl
theorem D_X12_isReadWall_40 : C_X12_isReadWall.drop 40 = K_X12_isReadWall_40 := rfl
theorem D_X12_isReadWall_42 : C_X12_isReadWall.drop 42 = K_X12_isReadWall_42 := rfl
theorem D_X12_isReadWall_44 : C_X12_isReadWall.drop 44 = K_X12_isReadWall_44 := rfl
theorem cl_X12_clause {d : Nat} {a0 : Nat} {A : pm_A} {σ : pm_S} : cl (d + 1) 192 [vR a0] A σ = ex d C_X12_clause K_X12_clause [vR a0, vO, vO, vO, vO, vO] [] A σ := rfl
theorem D_X12_clause_12 : C_X12_clause.drop 12 = K_X12_clause_12 := rfl
theorem D_X12_clause_26 : C_X12_clause.drop 26 = K_X12_clause_26 := rfl
theorem D_X12_clause_31 : C_X12_clause.drop 31 = K_X12_clause_31 := rfl
theorem D_X12_clause_35 : C_X12_clause.drop 35 = K_X12_clause_35 := rfl
theorem D_X12_clause_51 : C_X12_clause.drop 51 = K_X12_clause_51 := rfl
theorem D_X12_clause_52 : C_X12_clause.drop 52 = K_X12_clause_52 := rfl
theorem D_X12_clause_55 : C_X12_clause.drop 55 = K_X12_clause_55 := rfl
theorem D_X12_clause_64 : C_X12_clause.drop 64 = K_X12_clause_64 := rfl
theorem D_X12_clause_86 : C_X12_clause.drop 86 = K_X12_clause_86 := rfl
theorem D_X12_clause_90 : C_X12_clause.drop 90 = K_X12_clause_90 := rfl
theorem D_X12_clause_105 : C_X12_clause.drop 105 = K_X12_clause_105 := rfl
theorem D_X12_clause_126 : C_X12_clause.drop 126 = K_X12_clause_126 := rfl
theorem D_X12_clause_140 : C_X12_clause.drop 140 = K_X12_clause_140 := rfl
set_option maxRecDepth 40000 in
theorem D_X12_clause_157 : C_X12_clause.drop 157 = K_X12_clause_157 := rfl
set_option maxRecDepth 40000 in
theorem D_X12_clause_173 : C_X12_clause.drop 173 = K_X12_clause_173 := rfl
set_option maxRecDepth 40000 in
theorem D_X12_clause_174 : C_X12_clause.drop 174 = K_X12_clause_174 := rfl
set_option maxRecDepth 40000 in
theorem D_X12_clause_176 : C_X12_clause.drop 176 = K_X12_clause_176 := rfl
theorem cl_X12_terrace {d : Nat} {a0 : Nat} {a1 : Int} {A : pm_A} {σ : pm_S} : cl (d + 1) 193 [vR a0, vI a1] A σ = ex d C_X12_terrace K_X12_terrace [vR a0, vI a1] [] A σ := rfl
theorem D_X12_terrace_12 : C_X12_terrace.drop 12 = K_X12_terrace_12 := rfl
theorem D_X12_terrace_13 : C_X12_terrace.drop 13 = K_X12_terrace_13 := rfl
theorem D_X12_terrace_19 : C_X12_terrace.drop 19 = K_X12_terrace_19 := rfl
theorem D_X12_terrace_24 : C_X12_terrace.drop 24 = K_X12_terrace_24 := rfl
theorem D_X12_terrace_37 : C_X12_terrace.drop 37 = K_X12_terrace_37 := rfl
theorem D_X12_terrace_43 : C_X12_terrace.drop 43 = K_X12_terrace_43 := rfl
theorem cl_X12_lays {d : Nat} {a0 : Nat} {a1 : Nat} {a2 : Int} {A : pm_A} {σ : pm_S} : cl (d + 1) 194 [vR a0, vR a1, vI a2] A σ = ex d C_X12_lays K_X12_lays [vR a0, vR a1, vI a2, vO, vO] [] A σ := rfl
theorem D_X12_lays_2 : C_X12_lays.drop 2 = K_X12_lays_2 := rfl
theorem D_X12_lays_7 : C_X12_lays.drop 7 = K_X12_lays_7 := rfl
theorem D_X12_lays_25 : C_X12_lays.drop 25 = K_X12_lays_25 := rfl
theorem D_X12_lays_27 : C_X12_lays.drop 27 = K_X12_lays_27 := rfl
theorem cl_X12_copies {d : Nat} {a0 : Nat} {a1 : Nat} {A : pm_A} {σ : pm_S} : cl (d + 1) 195 [vR a0, vR a1] A σ = ex d C_X12_copies K_X12_copies [vR a0, vR a1, vO] [] A σ := rfl
theorem D_X12_copies_2 : C_X12_copies.drop 2 = K_X12_copies_2 := rfl
theorem D_X12_copies_13 : C_X12_copies.drop 13 = K_X12_copies_13 := rfl
theorem cl_X12_beginsAnew {d : Nat} {a0 : Nat} {A : pm_A} {σ : pm_S} : cl (d + 1) 196 [vR a0] A σ = ex d C_X12_beginsAnew K_X12_beginsAnew [vR a0, vO] [] A σ := rfl
theorem D_X12_beginsAnew_2 : C_X12_beginsAnew.drop 2 = K_X12_beginsAnew_2 := rfl
theorem D_X12_beginsAnew_15 : C_X12_beginsAnew.drop 15 = K_X12_beginsAnew_15 := rfl
theorem D_X12_beginsAnew_17 : C_X12_beginsAnew.drop 17 = K_X12_beginsAnew_17 := rfl
theorem D_X12_beginsAnew_27 : C_X12_beginsAnew.drop 27 = K_X12_beginsAnew_27 := rfl
theorem D_X12_beginsAnew_29 : C_X12_beginsAnew.drop 29 = K_X12_beginsAnew_29 := rfl
theorem D_X12_beginsAnew_68 : C_X12_beginsAnew.drop 68 = K_X12_beginsAnew_68 := rfl
theorem D_X12_beginsAnew_70 : C_X12_beginsAnew.drop 70 = K_X12_beginsAnew_70 := rfl
theorem D_X12_beginsAnew_90 : C_X12_beginsAnew.drop 90 = K_X12_beginsAnew_90 := rfl
theorem D_X12_beginsAnew_102 : C_X12_beginsAnew.drop 102 = K_X12_beginsAnew_102 := rfl
theorem cl_X12_notes {d : Nat} {a0 : Nat} {a1 : Int} {a2 : Int} {A : pm_A} {σ : pm_S} : cl (d + 1) 197 [vR a0, vI a1, vI a2] A σ = ex d C_X12_notes K_X12_notes [vR a0, vI a1, vI a2] [] A σ := rfl
theorem D_X12_notes_4 : C_X12_notes.drop 4 = K_X12_notes_4 := rfl
theorem cl_X12_opensOne {d : Nat} {a0 : Nat} {A : pm_A} {σ : pm_S} : cl (d + 1) 198 [vR a0] A σ = ex d C_X12_opensOne K_X12_opensOne [vR a0] [] A σ := rfl
theorem D_X12_opensOne_13 : C_X12_opensOne.drop 13 = K_X12_opensOne_13 := rfl
theorem D_X12_opensOne_22 : C_X12_opensOne.drop 22 = K_X12_opensOne_22 := rfl
theorem D_X12_opensOne_27 : C_X12_opensOne.drop 27 = K_X12_opensOne_27 := rfl
theorem D_X12_opensOne_28 : C_X12_opensOne.drop 28 = K_X12_opensOne_28 := rfl
theorem cl_X12_sum {d : Nat} {a0 : Nat} {A : pm_A} {σ : pm_S} : cl (d + 1) 199 [vR a0] A σ = ex d C_X12_sum K_X12_sum [vR a0, vO] [] A σ := rfl
theorem D_X12_sum_2 : C_X12_sum.drop 2 = K_X12_sum_2 := rfl
theorem D_X12_sum_11 : C_X12_sum.drop 11 = K_X12_sum_11 := rfl
theorem D_X12_sum_17 : C_X12_sum.drop 17 = K_X12_sum_17 := rfl
theorem D_X12_sum_18 : C_X12_sum.drop 18 = K_X12_sum_18 := rfl
theorem D_X12_sum_23 : C_X12_sum.drop 23 = K_X12_sum_23 := rfl
theorem D_X12_sum_30 : C_X12_sum.drop 30 = K_X12_sum_30 := rfl
theorem cl_X12_product {d : Nat} {a0 : Nat} {A : pm_A} {σ : pm_S} : cl (d + 1) 200 [vR a0] A σ = ex d C_X12_product K_X12_product [vR a0, vO] [] A σ := rfl
theorem D_X12_product_2 : C_X12_product.drop 2 = K_X12_product_2 := rfl
theorem D_X12_product_11 : C_X12_product.drop 11 = K_X12_product_11 := rfl
theorem D_X12_product_17 : C_X12_product.drop 17 = K_X12_product_17 := rfl
theorem D_X12_product_23 : C_X12_product.drop 23 = K_X12_product_23 := rfl
theorem D_X12_product_24 : C_X12_product.drop 24 = K_X12_product_24 := rfl
theorem D_X12_product_29 : C_X12_product.drop 29 = K_X12_product_29 := rfl
theorem D_X12_product_36 : C_X12_product.drop 36 = K_X12_product_36 := rfl
theorem cl_X12_knownHere {d : Nat} {a0 : Nat} {A : pm_A} {σ : pm_S} : cl (d + 1) 201 [vR a0] A σ = ex d C_X12_knownHere K_X12_knownHere [vR a0] [] A σ := rfl
theorem D_X12_knownHere_11 : C_X12_knownHere.drop 11 = K_X12_knownHere_11 := rfl
theorem D_X12_knownHere_22 : C_X12_knownHere.drop 22 = K_X12_knownHere_22 := rfl
theorem D_X12_knownHere_33 : C_X12_knownHere.drop 33 = K_X12_knownHere_33 := rfl
theorem D_X12_knownHere_44 : C_X12_knownHere.drop 44 = K_X12_knownHere_44 := rfl
theorem D_X12_knownHere_55 : C_X12_knownHere.drop 55 = K_X12_knownHere_55 := rfl
theorem D_X12_knownHere_66 : C_X12_knownHere.drop 66 = K_X12_knownHere_66 := rfl
theorem D_X12_knownHere_77 : C_X12_knownHere.drop 77 = K_X12_knownHere_77 := rfl
theorem D_X12_knownHere_88 : C_X12_knownHere.drop 88 = K_X12_knownHere_88 := rfl
theorem D_X12_knownHere_89 : C_X12_knownHere.drop 89 = K_X12_knownHere_89 := rfl
theorem cl_X12_one {d : Nat} {a0 : Nat} {A : pm_A} {σ : pm_S} : cl (d + 1) 202 [vR a0] A σ = ex d C_X12_one K_X12_one [vR a0, vO, vO] [] A σ := rfl
theorem D_X12_one_4 : C_X12_one.drop 4 = K_X12_one_4 := rfl
theorem D_X12_one_17 : C_X12_one.drop 17 = K_X12_one_17 := rfl
theorem D_X12_one_28 : C_X12_one.drop 28 = K_X12_one_28 := rfl
theorem D_X12_one_29 : C_X12_one.drop 29 = K_X12_one_29 := rfl
theorem D_X12_one_37 : C_X12_one.drop 37 = K_X12_one_37 := rfl
theorem D_X12_one_63 : C_X12_one.drop 63 = K_X12_one_63 := rfl
theorem D_X12_one_73 : C_X12_one.drop 73 = K_X12_one_73 := rfl
theorem D_X12_one_91 : C_X12_one.drop 91 = K_X12_one_91 := rfl
theorem D_X12_one_102 : C_X12_one.drop 102 = K_X12_one_102 := rfl
theorem D_X12_one_109 : C_X12_one.drop 109 = K_X12_one_109 := rfl
theorem cl_X12_law {d : Nat} {a0 : Nat} {a1 : Int} {A : pm_A} {σ : pm_S} : cl (d + 1) 203 [vR a0, vI a1] A σ = ex d C_X12_law K_X12_law [vR a0, vI a1] [] A σ := rfl
theorem D_X12_law_13 : C_X12_law.drop 13 = K_X12_law_13 := rfl
theorem D_X12_law_15 : C_X12_law.drop 15 = K_X12_law_15 := rfl
theorem D_X12_law_16 : C_X12_law.drop 16 = K_X12_law_16 := rfl
theorem D_X12_law_22 : C_X12_law.drop 22 = K_X12_law_22 := rfl
theorem D_X12_law_45 : C_X12_law.drop 45 = K_X12_law_45 := rfl
theorem D_X12_law_51 : C_X12_law.drop 51 = K_X12_law_51 := rfl
theorem cl_X12_by {d : Nat} {a0 : Int} {a1 : Int} {a2 : Int} {A : pm_A} {σ : pm_S} : cl (d + 1) 204 [vI a0, vI a1, vI a2] A σ = ex d C_X12_by K_X12_by [vI a0, vI a1, vI a2] [] A σ := rfl
theorem D_X12_by_2 : C_X12_by.drop 2 = K_X12_by_2 := rfl
theorem D_X12_by_6 : C_X12_by.drop 6 = K_X12_by_6 := rfl
theorem D_X12_by_10 : C_X12_by.drop 10 = K_X12_by_10 := rfl
theorem D_X12_by_14 : C_X12_by.drop 14 = K_X12_by_14 := rfl
theorem D_X12_by_18 : C_X12_by.drop 18 = K_X12_by_18 := rfl
theorem D_X12_by_24 : C_X12_by.drop 24 = K_X12_by_24 := rfl
theorem D_X12_by_27 : C_X12_by.drop 27 = K_X12_by_27 := rfl
theorem D_X12_by_28 : C_X12_by.drop 28 = K_X12_by_28 := rfl
theorem D_X12_by_33 : C_X12_by.drop 33 = K_X12_by_33 := rfl
theorem D_X12_by_35 : C_X12_by.drop 35 = K_X12_by_35 := rfl
theorem D_X12_by_38 : C_X12_by.drop 38 = K_X12_by_38 := rfl
theorem D_X12_by_39 : C_X12_by.drop 39 = K_X12_by_39 := rfl
theorem D_X12_by_43 : C_X12_by.drop 43 = K_X12_by_43 := rfl
theorem cl_X12_byLaw {d : Nat} {a0 : Nat} {A : pm_A} {σ : pm_S} : cl (d + 1) 205 [vR a0] A σ = ex d C_X12_byLaw K_X12_byLaw [vR a0, vO, vO] [] A σ := rfl
theorem D_X12_byLaw_17 : C_X12_byLaw.drop 17 = K_X12_byLaw_17 := rfl
theorem D_X12_byLaw_46 : C_X12_byLaw.drop 46 = K_X12_byLaw_46 := rfl
theorem D_X12_byLaw_55 : C_X12_byLaw.drop 55 = K_X12_byLaw_55 := rfl
theorem D_X12_byLaw_58 : C_X12_byLaw.drop 58 = K_X12_byLaw_58 := rfl
theorem D_X12_byLaw_82 : C_X12_byLaw.drop 82 = K_X12_byLaw_82 := rfl
theorem D_X12_byLaw_84 : C_X12_byLaw.drop 84 = K_X12_byLaw_84 := rfl
theorem cl_X12_stepHere {d : Nat} {a0 : Nat} {A : pm_A} {σ : pm_S} : cl (d + 1) 206 [vR a0] A σ = ex d C_X12_stepHere K_X12_stepHere [vR a0] [] A σ := rfl
theorem D_X12_stepHere_11 : C_X12_stepHere.drop 11 = K_X12_stepHere_11 := rfl
theorem D_X12_stepHere_22 : C_X12_stepHere.drop 22 = K_X12_stepHere_22 := rfl
theorem D_X12_stepHere_33 : C_X12_stepHere.drop 33 = K_X12_stepHere_33 := rfl
theorem D_X12_stepHere_44 : C_X12_stepHere.drop 44 = K_X12_stepHere_44 := rfl
theorem D_X12_stepHere_55 : C_X12_stepHere.drop 55 = K_X12_stepHere_55 := rfl
theorem D_X12_stepHere_56 : C_X12_stepHere.drop 56 = K_X12_stepHere_56 := rfl
theorem cl_X12_readsStep {d : Nat} {a0 : Nat} {A : pm_A} {σ : pm_S} : cl (d + 1) 207 [vR a0] A σ = ex d C_X12_readsStep K_X12_readsStep [vR a0, vO, vO] [] A σ := rfl
theorem D_X12_readsStep_11 : C_X12_readsStep.drop 11 = K_X12_readsStep_11 := rfl
theorem D_X12_readsStep_18 : C_X12_readsStep.drop 18 = K_X12_readsStep_18 := rfl
theorem D_X12_readsStep_22 : C_X12_readsStep.drop 22 = K_X12_readsStep_22 := rfl
theorem D_X12_readsStep_55 : C_X12_readsStep.drop 55 = K_X12_readsStep_55 := rfl
theorem D_X12_readsStep_69 : C_X12_readsStep.drop 69 = K_X12_readsStep_69 := rfl
theorem D_X12_readsStep_79 : C_X12_readsStep.drop 79 = K_X12_readsStep_79 := rfl
theorem D_X12_readsStep_94 : C_X12_readsStep.drop 94 = K_X12_readsStep_94 := rfl
theorem D_X12_readsStep_108 : C_X12_readsStep.drop 108 = K_X12_readsStep_108 := rfl
theorem D_X12_readsStep_117 : C_X12_readsStep.drop 117 = K_X12_readsStep_117 := rfl
theorem cl_X12_book {d : Nat} {a0 : Nat} {a1 : Int} {A : pm_A} {σ : pm_S} : cl (d + 1) 208 [vR a0, vI a1] A σ = ex d C_X12_book K_X12_book [vR a0, vI a1, vO, vO, vO, vO] [] A σ := rfl
theorem D_X12_book_13 : C_X12_book.drop 13 = K_X12_book_13 := rfl
theorem D_X12_book_15 : C_X12_book.drop 15 = K_X12_book_15 := rfl
theorem D_X12_book_16 : C_X12_book.drop 16 = K_X12_book_16 := rfl
theorem D_X12_book_22 : C_X12_book.drop 22 = K_X12_book_22 := rfl
theorem D_X12_book_27 : C_X12_book.drop 27 = K_X12_book_27 := rfl
theorem D_X12_book_45 : C_X12_book.drop 45 = K_X12_book_45 := rfl
theorem D_X12_book_63 : C_X12_book.drop 63 = K_X12_book_63 := rfl
theorem D_X12_book_65 : C_X12_book.drop 65 = K_X12_book_65 := rfl
theorem D_X12_book_75 : C_X12_book.drop 75 = K_X12_book_75 := rfl
theorem D_X12_book_101 : C_X12_book.drop 101 = K_X12_book_101 := rfl
theorem D_X12_book_104 : C_X12_book.drop 104 = K_X12_book_104 := rfl
theorem D_X12_book_110 : C_X12_book.drop 110 = K_X12_book_110 := rfl
theorem cl_X12_fault {d : Nat} {a0 : Nat} {A : pm_A} {σ : pm_S} : cl (d + 1) 209 [vR a0] A σ = ex d C_X12_fault K_X12_fault [vR a0] [] A σ := rfl
theorem cl_X12_isWall {d : Nat} {a0 : Nat} {a1 : Int} {a2 : Int} {A : pm_A} {σ : pm_S} : cl (d + 1) 210 [vR a0, vI a1, vI a2] A σ = ex d C_X12_isWall K_X12_isWall [vR a0, vI a1, vI a2, vO] [] A σ := rfl
theorem D_X12_isWall_2 : C_X12_isWall.drop 2 = K_X12_isWall_2 := rfl
theorem D_X12_isWall_24 : C_X12_isWall.drop 24 = K_X12_isWall_24 := rfl
theorem D_X12_isWall_40 : C_X12_isWall.drop 40 = K_X12_isWall_40 := rfl
theorem D_X12_isWall_42 : C_X12_isWall.drop 42 = K_X12_isWall_42 := rfl
theorem D_X12_isWall_44 : C_X12_isWall.drop 44 = K_X12_isWall_44 := rfl
theorem cl_X12_isBeside {d : Nat} {a0 : Nat} {a1 : Nat} {a2 : Int} {a3 : Int} {A : pm_A} {σ : pm_S} : cl (d + 1) 211 [vR a0, vR a1, vI a2, vI a3] A σ = ex d C_X12_isBeside K_X12_isBeside [vR a0, vR a1, vI a2, vI a3] [] A σ := rfl
theorem D_X12_isBeside_32 : C_X12_isBeside.drop 32 = K_X12_isBeside_32 := rfl
theorem D_X12_isBeside_33 : C_X12_isBeside.drop 33 = K_X12_isBeside_33 := rfl
theorem cl_X12_isFight {d : Nat} {a0 : Nat} {a1 : Nat} {a2 : Int} {a3 : Int} {A : pm_A} {σ : pm_S} : cl (d + 1) 212 [vR a0, vR a1, vI a2, vI a3] A σ = ex d C_X12_isFight K_X12_isFight [vR a0, vR a1, vI a2, vI a3] [] A σ := rfl
theorem D_X12_isFight_21 : C_X12_isFight.drop 21 = K_X12_isFight_21 := rfl
theorem D_X12_isFight_22 : C_X12_isFight.drop 22 = K_X12_isFight_22 := rfl
theorem cl_X12_forceBy {d : Nat} {a0 : Nat} {a1 : Int} {a2 : Int} {a3 : Int} {a4 : Int} {a5 : Int} {a6 : Int} {a7 : Int} {a8 : Int} {A : pm_A} {σ : pm_S} : cl (d + 1) 213 [vR a0, vI a1, vI a2, vI a3, vI a4, vI a5, vI a6, vI a7, vI a8] A σ = ex d C_X12_forceBy K_X12_forceBy [vR a0, vI a1, vI a2, vI a3, vI a4, vI a5, vI a6, vI a7, vI a8] [] A σ := rfl
theorem cl_X12_forceWith {d : Nat} {a0 : Nat} {a1 : Nat} {a2 : Int} {a3 : Int} {A : pm_A} {σ : pm_S} : cl (d + 1) 214 [vR a0, vR a1, vI a2, vI a3] A σ = ex d C_X12_forceWith K_X12_forceWith [vR a0, vR a1, vI a2, vI a3, vO, vO, vO] [] A σ := rfl
theorem D_X12_forceWith_13 : C_X12_forceWith.drop 13 = K_X12_forceWith_13 := rfl
theorem D_X12_forceWith_15 : C_X12_forceWith.drop 15 = K_X12_forceWith_15 := rfl
theorem D_X12_forceWith_30 : C_X12_forceWith.drop 30 = K_X12_forceWith_30 := rfl
theorem D_X12_forceWith_31 : C_X12_forceWith.drop 31 = K_X12_forceWith_31 := rfl
theorem D_X12_forceWith_35 : C_X12_forceWith.drop 35 = K_X12_forceWith_35 := rfl
theorem cl_X12_forceOf {d : Nat} {a0 : Nat} {a1 : Nat} {a2 : Int} {A : pm_A} {σ : pm_S} : cl (d + 1) 215 [vR a0, vR a1, vI a2] A σ = ex d C_X12_forceOf K_X12_forceOf [vR a0, vR a1, vI a2] [] A σ := rfl
theorem cl_X12_brings {d : Nat} {a0 : Nat} {a1 : Nat} {a2 : Int} {A : pm_A} {σ : pm_S} : cl (d + 1) 216 [vR a0, vR a1, vI a2] A σ = ex d C_X12_brings K_X12_brings [vR a0, vR a1, vI a2, vO, vO] [] A σ := rfl
theorem D_X12_brings_7 : C_X12_brings.drop 7 = K_X12_brings_7 := rfl
theorem D_X12_brings_25 : C_X12_brings.drop 25 = K_X12_brings_25 := rfl
theorem D_X12_brings_26 : C_X12_brings.drop 26 = K_X12_brings_26 := rfl
theorem D_X12_brings_30 : C_X12_brings.drop 30 = K_X12_brings_30 := rfl
theorem cl_X12_pianoIn {d : Nat} {a0 : Nat} {a1 : Nat} {a2 : Int} {A : pm_A} {σ : pm_S} : cl (d + 1) 217 [vR a0, vR a1, vI a2] A σ = ex d C_X12_pianoIn K_X12_pianoIn [vR a0, vR a1, vI a2, vO] [] A σ := rfl
theorem D_X12_pianoIn_2 : C_X12_pianoIn.drop 2 = K_X12_pianoIn_2 := rfl
theorem D_X12_pianoIn_17 : C_X12_pianoIn.drop 17 = K_X12_pianoIn_17 := rfl
theorem D_X12_pianoIn_19 : C_X12_pianoIn.drop 19 = K_X12_pianoIn_19 := rfl
theorem cl_X12_puts2 {d : Nat} {a0 : Nat} {a1 : Nat} {a2 : Int} {a3 : Int} {A : pm_A} {σ : pm_S} : cl (d + 1) 218 [vR a0, vR a1, vI a2, vI a3] A σ = ex d C_X12_puts2 K_X12_puts2 [vR a0, vR a1, vI a2, vI a3] [] A σ := rfl
theorem D_X12_puts2_8 : C_X12_puts2.drop 8 = K_X12_puts2_8 := rfl
theorem cl_X12_dayEnds {d : Nat} {a0 : Nat} {a1 : Nat} {A : pm_A} {σ : pm_S} : cl (d + 1) 219 [vR a0, vR a1] A σ = ex d C_X12_dayEnds K_X12_dayEnds [vR a0, vR a1, vO, vO] [] A σ := rfl
theorem D_X12_dayEnds_2 : C_X12_dayEnds.drop 2 = K_X12_dayEnds_2 := rfl
theorem D_X12_dayEnds_18 : C_X12_dayEnds.drop 18 = K_X12_dayEnds_18 := rfl
theorem D_X12_dayEnds_20 : C_X12_dayEnds.drop 20 = K_X12_dayEnds_20 := rfl
theorem D_X12_dayEnds_34 : C_X12_dayEnds.drop 34 = K_X12_dayEnds_34 := rfl
theorem D_X12_dayEnds_73 : C_X12_dayEnds.drop 73 = K_X12_dayEnds_73 := rfl
theorem D_X12_dayEnds_75 : C_X12_dayEnds.drop 75 = K_X12_dayEnds_75 := rfl
theorem cl_X12_does {d : Nat} {a0 : Nat} {a1 : Nat} {a2 : Nat} {A : pm_A} {σ : pm_S} : cl (d + 1) 220 [vR a0, vR a1, vR a2] A σ = ex d C_X12_does K_X12_does [vR a0, vR a1, vR a2, vO] [] A σ := rfl
theorem D_X12_does_8 : C_X12_does.drop 8 = K_X12_does_8 := rfl
theorem D_X12_does_16 : C_X12_does.drop 16 = K_X12_does_16 := rfl
theorem D_X12_does_25 : C_X12_does.drop 25 = K_X12_does_25 := rfl
theorem D_X12_does_39 : C_X12_does.drop 39 = K_X12_does_39 := rfl
theorem D_X12_does_61 : C_X12_does.drop 61 = K_X12_does_61 := rfl
theorem D_X12_does_63 : C_X12_does.drop 63 = K_X12_does_63 := rfl
theorem D_X12_does_88 : C_X12_does.drop 88 = K_X12_does_88 := rfl
theorem D_X12_does_95 : C_X12_does.drop 95 = K_X12_does_95 := rfl
theorem cl_X12_goes {d : Nat} {a0 : Nat} {a1 : Int} {a2 : Int} {A : pm_A} {σ : pm_S} : cl (d + 1) 221 [vR a0, vI a1, vI a2] A σ = ex d C_X12_goes K_X12_goes [vR a0, vI a1, vI a2, vO, vO] [] A σ := rfl
theorem D_X12_goes_2 : C_X12_goes.drop 2 = K_X12_goes_2 := rfl
theorem D_X12_goes_25 : C_X12_goes.drop 25 = K_X12_goes_25 := rfl
theorem D_X12_goes_50 : C_X12_goes.drop 50 = K_X12_goes_50 := rfl
theorem D_X12_goes_51 : C_X12_goes.drop 51 = K_X12_goes_51 := rfl
theorem D_X12_goes_67 : C_X12_goes.drop 67 = K_X12_goes_67 := rfl
theorem D_X12_goes_68 : C_X12_goes.drop 68 = K_X12_goes_68 := rfl
theorem D_X12_goes_77 : C_X12_goes.drop 77 = K_X12_goes_77 := rfl
theorem D_X12_goes_78 : C_X12_goes.drop 78 = K_X12_goes_78 := rfl
theorem D_X12_goes_80 : C_X12_goes.drop 80 = K_X12_goes_80 := rfl
theorem D_X12_goes_88 : C_X12_goes.drop 88 = K_X12_goes_88 := rfl
theorem cl_X12_work {d : Nat} {a0 : Nat} {a1 : Int} {A : pm_A} {σ : pm_S} : cl (d + 1) 222 [vR a0, vI a1] A σ = ex d C_X12_work K_X12_work [vR a0, vI a1] [] A σ := rfl
theorem D_X12_work_13 : C_X12_work.drop 13 = K_X12_work_13 := rfl
theorem D_X12_work_15 : C_X12_work.drop 15 = K_X12_work_15 := rfl
theorem D_X12_work_16 : C_X12_work.drop 16 = K_X12_work_16 := rfl
theorem D_X12_work_22 : C_X12_work.drop 22 = K_X12_work_22 := rfl
theorem D_X12_work_34 : C_X12_work.drop 34 = K_X12_work_34 := rfl
theorem D_X12_work_40 : C_X12_work.drop 40 = K_X12_work_40 := rfl
theorem D_X12_work_53 : C_X12_work.drop 53 = K_X12_work_53 := rfl
theorem D_X12_work_59 : C_X12_work.drop 59 = K_X12_work_59 := rfl
theorem cl_X12_undo {d : Nat} {a0 : Nat} {A : pm_A} {σ : pm_S} : cl (d + 1) 223 [vR a0] A σ = ex d C_X12_undo K_X12_undo [vR a0] [] A σ := rfl
theorem D_X12_undo_8 : C_X12_undo.drop 8 = K_X12_undo_8 := rfl
theorem cl_X12_amount {d : Nat} {a0 : Nat} {a1 : Nat} {a2 : Int} {a3 : Int} {A : pm_A} {σ : pm_S} : cl (d + 1) 224 [vR a0, vR a1, vI a2, vI a3] A σ = ex d C_X12_amount K_X12_amount [vR a0, vR a1, vI a2, vI a3] [] A σ := rfl
theorem cl_X12_thingOf {d : Nat} {a0 : Nat} {a1 : Nat} {a2 : Int} {A : pm_A} {σ : pm_S} : cl (d + 1) 225 [vR a0, vR a1, vI a2] A σ = ex d C_X12_thingOf K_X12_thingOf [vR a0, vR a1, vI a2, vO, vO] [] A σ := rfl
theorem D_X12_thingOf_4 : C_X12_thingOf.drop 4 = K_X12_thingOf_4 := rfl
theorem D_X12_thingOf_20 : C_X12_thingOf.drop 20 = K_X12_thingOf_20 := rfl
theorem D_X12_thingOf_21 : C_X12_thingOf.drop 21 = K_X12_thingOf_21 := rfl
theorem D_X12_thingOf_24 : C_X12_thingOf.drop 24 = K_X12_thingOf_24 := rfl
theorem cl_X12_wishedIn {d : Nat} {a0 : Nat} {a1 : Nat} {A : pm_A} {σ : pm_S} : cl (d + 1) 226 [vR a0, vR a1] A σ = ex d C_X12_wishedIn K_X12_wishedIn [vR a0, vR a1, vO, vO] [] A σ := rfl
theorem D_X12_wishedIn_4 : C_X12_wishedIn.drop 4 = K_X12_wishedIn_4 := rfl
theorem D_X12_wishedIn_24 : C_X12_wishedIn.drop 24 = K_X12_wishedIn_24 := rfl
theorem D_X12_wishedIn_25 : C_X12_wishedIn.drop 25 = K_X12_wishedIn_25 := rfl
theorem D_X12_wishedIn_29 : C_X12_wishedIn.drop 29 = K_X12_wishedIn_29 := rfl
theorem cl_X12_changedIn {d : Nat} {a0 : Nat} {a1 : Nat} {A : pm_A} {σ : pm_S} : cl (d + 1) 227 [vR a0, vR a1] A σ = ex d C_X12_changedIn K_X12_changedIn [vR a0, vR a1, vO, vO] [] A σ := rfl
theorem D_X12_changedIn_4 : C_X12_changedIn.drop 4 = K_X12_changedIn_4 := rfl
theorem D_X12_changedIn_24 : C_X12_changedIn.drop 24 = K_X12_changedIn_24 := rfl
theorem D_X12_changedIn_25 : C_X12_changedIn.drop 25 = K_X12_changedIn_25 := rfl
theorem D_X12_changedIn_29 : C_X12_changedIn.drop 29 = K_X12_changedIn_29 := rfl
theorem cl_X12_allIn {d : Nat} {a0 : Nat} {a1 : Nat} {A : pm_A} {σ : pm_S} : cl (d + 1) 228 [vR a0, vR a1] A σ = ex d C_X12_allIn K_X12_allIn [vR a0, vR a1, vO, vO] [] A σ := rfl
theorem D_X12_allIn_4 : C_X12_allIn.drop 4 = K_X12_allIn_4 := rfl
theorem D_X12_allIn_22 : C_X12_allIn.drop 22 = K_X12_allIn_22 := rfl
theorem cl_X12_fightsOf {d : Nat} {a0 : Nat} {a1 : Nat} {a2 : Int} {A : pm_A} {σ : pm_S} : cl (d + 1) 229 [vR a0, vR a1, vI a2] A σ = ex d C_X12_fightsOf K_X12_fightsOf [vR a0, vR a1, vI a2, vO, vO] [] A σ := rfl
theorem D_X12_fightsOf_4 : C_X12_fightsOf.drop 4 = K_X12_fightsOf_4 := rfl
theorem D_X12_fightsOf_21 : C_X12_fightsOf.drop 21 = K_X12_fightsOf_21 := rfl
theorem D_X12_fightsOf_22 : C_X12_fightsOf.drop 22 = K_X12_fightsOf_22 := rfl
theorem D_X12_fightsOf_26 : C_X12_fightsOf.drop 26 = K_X12_fightsOf_26 := rfl
theorem cl_X12_told {d : Nat} {a0 : Nat} {a1 : Int} {A : pm_A} {σ : pm_S} : cl (d + 1) 230 [vR a0, vI a1] A σ = ex d C_X12_told K_X12_told [vR a0, vI a1, vO, vO, vO] [] A σ := rfl
theorem D_X12_told_11 : C_X12_told.drop 11 = K_X12_told_11 := rfl
theorem D_X12_told_12 : C_X12_told.drop 12 = K_X12_told_12 := rfl
theorem D_X12_told_18 : C_X12_told.drop 18 = K_X12_told_18 := rfl
theorem D_X12_told_24 : C_X12_told.drop 24 = K_X12_told_24 := rfl
theorem D_X12_told_41 : C_X12_told.drop 41 = K_X12_told_41 := rfl
theorem D_X12_told_44 : C_X12_told.drop 44 = K_X12_told_44 := rfl
theorem D_X12_told_55 : C_X12_told.drop 55 = K_X12_told_55 := rfl
theorem D_X12_told_58 : C_X12_told.drop 58 = K_X12_told_58 := rfl
theorem D_X12_told_62 : C_X12_told.drop 62 = K_X12_told_62 := rfl
theorem D_X12_told_64 : C_X12_told.drop 64 = K_X12_told_64 := rfl
theorem D_X12_told_69 : C_X12_told.drop 69 = K_X12_told_69 := rfl
theorem D_X12_told_74 : C_X12_told.drop 74 = K_X12_told_74 := rfl
theorem D_X12_told_79 : C_X12_told.drop 79 = K_X12_told_79 := rfl
theorem D_X12_told_81 : C_X12_told.drop 81 = K_X12_told_81 := rfl
theorem D_X12_told_86 : C_X12_told.drop 86 = K_X12_told_86 := rfl
theorem D_X12_told_88 : C_X12_told.drop 88 = K_X12_told_88 := rfl
theorem D_X12_told_91 : C_X12_told.drop 91 = K_X12_told_91 := rfl
theorem D_X12_told_94 : C_X12_told.drop 94 = K_X12_told_94 := rfl
theorem cl_X12_isHouse {d : Nat} {a0 : Nat} {a1 : Int} {A : pm_A} {σ : pm_S} : cl (d + 1) 231 [vR a0, vI a1] A σ = ex d C_X12_isHouse K_X12_isHouse [vR a0, vI a1] [] A σ := rfl
theorem cl_X12_isPiano {d : Nat} {a0 : Nat} {a1 : Int} {A : pm_A} {σ : pm_S} : cl (d + 1) 232 [vR a0, vI a1] A σ = ex d C_X12_isPiano K_X12_isPiano [vR a0, vI a1] [] A σ := rfl
theorem cl_X12_isThing {d : Nat} {a0 : Int} {A : pm_A} {σ : pm_S} : cl (d + 1) 233 [vI a0] A σ = ex d C_X12_isThing K_X12_isThing [vI a0] [] A σ := rfl
theorem cl_X12_house {d : Nat} {a0 : Nat} {a1 : Int} {a2 : Int} {A : pm_A} {σ : pm_S} : cl (d + 1) 234 [vR a0, vI a1, vI a2] A σ = ex d C_X12_house K_X12_house [vR a0, vI a1, vI a2, vO, vO, vO] [] A σ := rfl
theorem D_X12_house_10 : C_X12_house.drop 10 = K_X12_house_10 := rfl
theorem D_X12_house_11 : C_X12_house.drop 11 = K_X12_house_11 := rfl
theorem D_X12_house_23 : C_X12_house.drop 23 = K_X12_house_23 := rfl
theorem D_X12_house_24 : C_X12_house.drop 24 = K_X12_house_24 := rfl
theorem D_X12_house_28 : C_X12_house.drop 28 = K_X12_house_28 := rfl
theorem D_X12_house_30 : C_X12_house.drop 30 = K_X12_house_30 := rfl
theorem D_X12_house_36 : C_X12_house.drop 36 = K_X12_house_36 := rfl
theorem D_X12_house_52 : C_X12_house.drop 52 = K_X12_house_52 := rfl
theorem D_X12_house_53 : C_X12_house.drop 53 = K_X12_house_53 := rfl
theorem D_X12_house_57 : C_X12_house.drop 57 = K_X12_house_57 := rfl
theorem D_X12_house_59 : C_X12_house.drop 59 = K_X12_house_59 := rfl
theorem D_X12_house_72 : C_X12_house.drop 72 = K_X12_house_72 := rfl
theorem D_X12_house_73 : C_X12_house.drop 73 = K_X12_house_73 := rfl
theorem D_X12_house_77 : C_X12_house.drop 77 = K_X12_house_77 := rfl
theorem D_X12_house_79 : C_X12_house.drop 79 = K_X12_house_79 := rfl
theorem D_X12_house_85 : C_X12_house.drop 85 = K_X12_house_85 := rfl
theorem D_X12_house_91 : C_X12_house.drop 91 = K_X12_house_91 := rfl
theorem D_X12_house_93 : C_X12_house.drop 93 = K_X12_house_93 := rfl
theorem D_X12_house_98 : C_X12_house.drop 98 = K_X12_house_98 := rfl
theorem D_X12_house_100 : C_X12_house.drop 100 = K_X12_house_100 := rfl
theorem cl_X12_there {d : Nat} {a0 : Nat} {a1 : Int} {a2 : Int} {A : pm_A} {σ : pm_S} : cl (d + 1) 235 [vR a0, vI a1, vI a2] A σ = ex d C_X12_there K_X12_there [vR a0, vI a1, vI a2] [] A σ := rfl
theorem D_X12_there_10 : C_X12_there.drop 10 = K_X12_there_10 := rfl
theorem D_X12_there_11 : C_X12_there.drop 11 = K_X12_there_11 := rfl
theorem D_X12_there_21 : C_X12_there.drop 21 = K_X12_there_21 := rfl
theorem D_X12_there_22 : C_X12_there.drop 22 = K_X12_there_22 := rfl
theorem D_X12_there_26 : C_X12_there.drop 26 = K_X12_there_26 := rfl
theorem D_X12_there_28 : C_X12_there.drop 28 = K_X12_there_28 := rfl
theorem cl_X12_wall {d : Nat} {a0 : Nat} {a1 : Int} {a2 : Int} {A : pm_A} {σ : pm_S} : cl (d + 1) 236 [vR a0, vI a1, vI a2] A σ = ex d C_X12_wall K_X12_wall [vR a0, vI a1, vI a2] [] A σ := rfl
theorem D_X12_wall_16 : C_X12_wall.drop 16 = K_X12_wall_16 := rfl
theorem D_X12_wall_17 : C_X12_wall.drop 17 = K_X12_wall_17 := rfl
theorem D_X12_wall_29 : C_X12_wall.drop 29 = K_X12_wall_29 := rfl
theorem D_X12_wall_30 : C_X12_wall.drop 30 = K_X12_wall_30 := rfl
theorem D_X12_wall_34 : C_X12_wall.drop 34 = K_X12_wall_34 := rfl
theorem D_X12_wall_36 : C_X12_wall.drop 36 = K_X12_wall_36 := rfl
theorem cl_X12_piano {d : Nat} {a0 : Nat} {a1 : Int} {a2 : Int} {A : pm_A} {σ : pm_S} : cl (d + 1) 237 [vR a0, vI a1, vI a2] A σ = ex d C_X12_piano K_X12_piano [vR a0, vI a1, vI a2] [] A σ := rfl
theorem D_X12_piano_10 : C_X12_piano.drop 10 = K_X12_piano_10 := rfl
theorem D_X12_piano_11 : C_X12_piano.drop 11 = K_X12_piano_11 := rfl
theorem D_X12_piano_23 : C_X12_piano.drop 23 = K_X12_piano_23 := rfl
theorem D_X12_piano_24 : C_X12_piano.drop 24 = K_X12_piano_24 := rfl
theorem D_X12_piano_28 : C_X12_piano.drop 28 = K_X12_piano_28 := rfl
theorem D_X12_piano_30 : C_X12_piano.drop 30 = K_X12_piano_30 := rfl
theorem D_X12_piano_32 : C_X12_piano.drop 32 = K_X12_piano_32 := rfl
theorem D_X12_piano_39 : C_X12_piano.drop 39 = K_X12_piano_39 := rfl
theorem D_X12_piano_46 : C_X12_piano.drop 46 = K_X12_piano_46 := rfl
theorem D_X12_piano_53 : C_X12_piano.drop 53 = K_X12_piano_53 := rfl
theorem D_X12_piano_60 : C_X12_piano.drop 60 = K_X12_piano_60 := rfl
theorem D_X12_piano_66 : C_X12_piano.drop 66 = K_X12_piano_66 := rfl
theorem D_X12_piano_72 : C_X12_piano.drop 72 = K_X12_piano_72 := rfl
theorem cl_X12_would {d : Nat} {a0 : Nat} {a1 : Int} {a2 : Int} {a3 : Int} {a4 : Int} {a5 : Int} {a6 : Int} {a7 : Int} {a8 : Int} {A : pm_A} {σ : pm_S} : cl (d + 1) 238 [vR a0, vI a1, vI a2, vI a3, vI a4, vI a5, vI a6, vI a7, vI a8] A σ = ex d C_X12_would K_X12_would [vR a0, vI a1, vI a2, vI a3, vI a4, vI a5, vI a6, vI a7, vI a8] [] A σ := rfl
theorem D_X12_would_42 : C_X12_would.drop 42 = K_X12_would_42 := rfl
theorem D_X12_would_44 : C_X12_would.drop 44 = K_X12_would_44 := rfl
theorem D_X12_would_45 : C_X12_would.drop 45 = K_X12_would_45 := rfl
theorem D_X12_would_51 : C_X12_would.drop 51 = K_X12_would_51 := rfl
theorem cl_X12_ahead {d : Nat} {a0 : Nat} {a1 : Int} {a2 : Int} {a3 : Int} {A : pm_A} {σ : pm_S} : cl (d + 1) 239 [vR a0, vI a1, vI a2, vI a3] A σ = ex d C_X12_ahead K_X12_ahead [vR a0, vI a1, vI a2, vI a3, vO] [] A σ := rfl
theorem D_X12_ahead_10 : C_X12_ahead.drop 10 = K_X12_ahead_10 := rfl
theorem D_X12_ahead_11 : C_X12_ahead.drop 11 = K_X12_ahead_11 := rfl
theorem D_X12_ahead_26 : C_X12_ahead.drop 26 = K_X12_ahead_26 := rfl
theorem D_X12_ahead_28 : C_X12_ahead.drop 28 = K_X12_ahead_28 := rfl
theorem D_X12_ahead_29 : C_X12_ahead.drop 29 = K_X12_ahead_29 := rfl
theorem D_X12_ahead_33 : C_X12_ahead.drop 33 = K_X12_ahead_33 := rfl
theorem D_X12_ahead_35 : C_X12_ahead.drop 35 = K_X12_ahead_35 := rfl
theorem D_X12_ahead_42 : C_X12_ahead.drop 42 = K_X12_ahead_42 := rfl
theorem D_X12_ahead_51 : C_X12_ahead.drop 51 = K_X12_ahead_51 := rfl
theorem D_X12_ahead_61 : C_X12_ahead.drop 61 = K_X12_ahead_61 := rfl
theorem D_X12_ahead_67 : C_X12_ahead.drop 67 = K_X12_ahead_67 := rfl
theorem cl_X12_when {d : Nat} {a0 : Nat} {a1 : Int} {a2 : Int} {A : pm_A} {σ : pm_S} : cl (d + 1) 240 [vR a0, vI a1, vI a2] A σ = ex d C_X12_when K_X12_when [vR a0, vI a1, vI a2, vO] [] A σ := rfl
theorem D_X12_when_10 : C_X12_when.drop 10 = K_X12_when_10 := rfl
theorem D_X12_when_11 : C_X12_when.drop 11 = K_X12_when_11 := rfl
theorem D_X12_when_21 : C_X12_when.drop 21 = K_X12_when_21 := rfl
theorem D_X12_when_22 : C_X12_when.drop 22 = K_X12_when_22 := rfl
theorem D_X12_when_26 : C_X12_when.drop 26 = K_X12_when_26 := rfl
theorem D_X12_when_28 : C_X12_when.drop 28 = K_X12_when_28 := rfl
theorem D_X12_when_35 : C_X12_when.drop 35 = K_X12_when_35 := rfl
theorem D_X12_when_47 : C_X12_when.drop 47 = K_X12_when_47 := rfl
theorem D_X12_when_53 : C_X12_when.drop 53 = K_X12_when_53 := rfl
theorem cl_X12_muffle {d : Nat} {a0 : Nat} {a1 : Int} {A : pm_A} {σ : pm_S} : cl (d + 1) 241 [vR a0, vI a1] A σ = ex d C_X12_muffle K_X12_muffle [vR a0, vI a1, vO] [] A σ := rfl
theorem D_X12_muffle_10 : C_X12_muffle.drop 10 = K_X12_muffle_10 := rfl
theorem D_X12_muffle_11 : C_X12_muffle.drop 11 = K_X12_muffle_11 := rfl
theorem D_X12_muffle_17 : C_X12_muffle.drop 17 = K_X12_muffle_17 := rfl
theorem D_X12_muffle_19 : C_X12_muffle.drop 19 = K_X12_muffle_19 := rfl
theorem D_X12_muffle_39 : C_X12_muffle.drop 39 = K_X12_muffle_39 := rfl
theorem D_X12_muffle_41 : C_X12_muffle.drop 41 = K_X12_muffle_41 := rfl
theorem cl_X12_putsFrom {d : Nat} {a0 : Nat} {a1 : Int} {a2 : Int} {A : pm_A} {σ : pm_S} : cl (d + 1) 242 [vR a0, vI a1, vI a2] A σ = ex d C_X12_putsFrom K_X12_putsFrom [vR a0, vI a1, vI a2, vO, vO, vO] [] A σ := rfl
theorem D_X12_putsFrom_11 : C_X12_putsFrom.drop 11 = K_X12_putsFrom_11 := rfl
theorem D_X12_putsFrom_16 : C_X12_putsFrom.drop 16 = K_X12_putsFrom_16 := rfl
theorem D_X12_putsFrom_31 : C_X12_putsFrom.drop 31 = K_X12_putsFrom_31 := rfl
theorem D_X12_putsFrom_32 : C_X12_putsFrom.drop 32 = K_X12_putsFrom_32 := rfl
theorem D_X12_putsFrom_34 : C_X12_putsFrom.drop 34 = K_X12_putsFrom_34 := rfl
theorem D_X12_putsFrom_51 : C_X12_putsFrom.drop 51 = K_X12_putsFrom_51 := rfl
theorem D_X12_putsFrom_73 : C_X12_putsFrom.drop 73 = K_X12_putsFrom_73 := rfl
theorem D_X12_putsFrom_74 : C_X12_putsFrom.drop 74 = K_X12_putsFrom_74 := rfl
theorem D_X12_putsFrom_77 : C_X12_putsFrom.drop 77 = K_X12_putsFrom_77 := rfl
theorem D_X12_putsFrom_97 : C_X12_putsFrom.drop 97 = K_X12_putsFrom_97 := rfl
theorem D_X12_putsFrom_98 : C_X12_putsFrom.drop 98 = K_X12_putsFrom_98 := rfl
theorem D_X12_putsFrom_100 : C_X12_putsFrom.drop 100 = K_X12_putsFrom_100 := rfl
theorem D_X12_putsFrom_102 : C_X12_putsFrom.drop 102 = K_X12_putsFrom_102 := rfl
theorem cl_X12_placesAll {d : Nat} {a0 : Nat} {A : pm_A} {σ : pm_S} : cl (d + 1) 243 [vR a0] A σ = ex d C_X12_placesAll K_X12_placesAll [vR a0, vO] [] A σ := rfl
theorem D_X12_placesAll_5 : C_X12_placesAll.drop 5 = K_X12_placesAll_5 := rfl
theorem D_X12_placesAll_22 : C_X12_placesAll.drop 22 = K_X12_placesAll_22 := rfl
theorem cl_X12_places {d : Nat} {a0 : Nat} {A : pm_A} {σ : pm_S} : cl (d + 1) 244 [vR a0] A σ = ex d C_X12_places K_X12_places [vR a0] [] A σ := rfl
theorem cl_X12_placed {d : Nat} {a0 : Nat} {a1 : Int} {A : pm_A} {σ : pm_S} : cl (d + 1) 245 [vR a0, vI a1] A σ = ex d C_X12_placed K_X12_placed [vR a0, vI a1] [] A σ := rfl
theorem D_X12_placed_10 : C_X12_placed.drop 10 = K_X12_placed_10 := rfl
theorem D_X12_placed_11 : C_X12_placed.drop 11 = K_X12_placed_11 := rfl
theorem D_X12_placed_17 : C_X12_placed.drop 17 = K_X12_placed_17 := rfl
theorem cl_X12_laysHeard {d : Nat} {a0 : Nat} {a1 : Int} {a2 : Int} {a3 : Int} {A : pm_A} {σ : pm_S} : cl (d + 1) 246 [vR a0, vI a1, vI a2, vI a3] A σ = ex d C_X12_laysHeard K_X12_laysHeard [vR a0, vI a1, vI a2, vI a3, vO, vO] [] A σ := rfl
theorem D_X12_laysHeard_4 : C_X12_laysHeard.drop 4 = K_X12_laysHeard_4 := rfl
theorem D_X12_laysHeard_29 : C_X12_laysHeard.drop 29 = K_X12_laysHeard_29 := rfl
theorem cl_X12_isHeard {d : Nat} {a0 : Nat} {A : pm_A} {σ : pm_S} : cl (d + 1) 247 [vR a0] A σ = ex d C_X12_isHeard K_X12_isHeard [vR a0, vO] [] A σ := rfl
theorem D_X12_isHeard_2 : C_X12_isHeard.drop 2 = K_X12_isHeard_2 := rfl
theorem D_X12_isHeard_24 : C_X12_isHeard.drop 24 = K_X12_isHeard_24 := rfl
theorem D_X12_isHeard_26 : C_X12_isHeard.drop 26 = K_X12_isHeard_26 := rfl
theorem cl_X12_from {d : Nat} {a0 : Nat} {a1 : Int} {a2 : Int} {A : pm_A} {σ : pm_S} : cl (d + 1) 248 [vR a0, vI a1, vI a2] A σ = ex d C_X12_from K_X12_from [vR a0, vI a1, vI a2, vO, vO, vO, vO] [] A σ := rfl
theorem D_X12_from_10 : C_X12_from.drop 10 = K_X12_from_10 := rfl
theorem D_X12_from_11 : C_X12_from.drop 11 = K_X12_from_11 := rfl
theorem D_X12_from_23 : C_X12_from.drop 23 = K_X12_from_23 := rfl
theorem D_X12_from_24 : C_X12_from.drop 24 = K_X12_from_24 := rfl
theorem D_X12_from_28 : C_X12_from.drop 28 = K_X12_from_28 := rfl
theorem D_X12_from_30 : C_X12_from.drop 30 = K_X12_from_30 := rfl
theorem D_X12_from_36 : C_X12_from.drop 36 = K_X12_from_36 := rfl
theorem D_X12_from_41 : C_X12_from.drop 41 = K_X12_from_41 := rfl
theorem D_X12_from_53 : C_X12_from.drop 53 = K_X12_from_53 := rfl
theorem D_X12_from_61 : C_X12_from.drop 61 = K_X12_from_61 := rfl
theorem D_X12_from_62 : C_X12_from.drop 62 = K_X12_from_62 := rfl
theorem D_X12_from_64 : C_X12_from.drop 64 = K_X12_from_64 := rfl
theorem D_X12_from_66 : C_X12_from.drop 66 = K_X12_from_66 := rfl
theorem D_X12_from_68 : C_X12_from.drop 68 = K_X12_from_68 := rfl
theorem D_X12_from_72 : C_X12_from.drop 72 = K_X12_from_72 := rfl
theorem D_X12_from_73 : C_X12_from.drop 73 = K_X12_from_73 := rfl
theorem cl_X12_isTold {d : Nat} {a0 : Nat} {a1 : Int} {A : pm_A} {σ : pm_S} : cl (d + 1) 249 [vR a0, vI a1] A σ = ex d C_X12_isTold K_X12_isTold [vR a0, vI a1, vO] [] A σ := rfl
theorem D_X12_isTold_2 : C_X12_isTold.drop 2 = K_X12_isTold_2 := rfl
theorem D_X12_isTold_16 : C_X12_isTold.drop 16 = K_X12_isTold_16 := rfl
theorem D_X12_isTold_18 : C_X12_isTold.drop 18 = K_X12_isTold_18 := rfl
theorem cl_X12_look {d : Nat} {a0 : Nat} {a1 : Int} {a2 : Int} {A : pm_A} {σ : pm_S} : cl (d + 1) 250 [vR a0, vI a1, vI a2] A σ = ex d C_X12_look K_X12_look [vR a0, vI a1, vI a2, vO, vO, vO, vO, vO] [] A σ := rfl
theorem D_X12_look_10 : C_X12_look.drop 10 = K_X12_look_10 := rfl
theorem D_X12_look_11 : C_X12_look.drop 11 = K_X12_look_11 := rfl
theorem D_X12_look_23 : C_X12_look.drop 23 = K_X12_look_23 := rfl
theorem D_X12_look_24 : C_X12_look.drop 24 = K_X12_look_24 := rfl
theorem D_X12_look_28 : C_X12_look.drop 28 = K_X12_look_28 := rfl
theorem D_X12_look_30 : C_X12_look.drop 30 = K_X12_look_30 := rfl
theorem D_X12_look_32 : C_X12_look.drop 32 = K_X12_look_32 := rfl
theorem D_X12_look_37 : C_X12_look.drop 37 = K_X12_look_37 := rfl
theorem D_X12_look_49 : C_X12_look.drop 49 = K_X12_look_49 := rfl
theorem D_X12_look_51 : C_X12_look.drop 51 = K_X12_look_51 := rfl
theorem D_X12_look_53 : C_X12_look.drop 53 = K_X12_look_53 := rfl
theorem D_X12_look_58 : C_X12_look.drop 58 = K_X12_look_58 := rfl
theorem D_X12_look_71 : C_X12_look.drop 71 = K_X12_look_71 := rfl
theorem D_X12_look_89 : C_X12_look.drop 89 = K_X12_look_89 := rfl
theorem D_X12_look_91 : C_X12_look.drop 91 = K_X12_look_91 := rfl
theorem D_X12_look_93 : C_X12_look.drop 93 = K_X12_look_93 := rfl
theorem D_X12_look_99 : C_X12_look.drop 99 = K_X12_look_99 := rfl
theorem D_X12_look_107 : C_X12_look.drop 107 = K_X12_look_107 := rfl
theorem D_X12_look_111 : C_X12_look.drop 111 = K_X12_look_111 := rfl
theorem D_X12_look_125 : C_X12_look.drop 125 = K_X12_look_125 := rfl
theorem D_X12_look_132 : C_X12_look.drop 132 = K_X12_look_132 := rfl
theorem D_X12_look_136 : C_X12_look.drop 136 = K_X12_look_136 := rfl
theorem D_X12_look_138 : C_X12_look.drop 138 = K_X12_look_138 := rfl
theorem D_X12_look_142 : C_X12_look.drop 142 = K_X12_look_142 := rfl
theorem D_X12_look_143 : C_X12_look.drop 143 = K_X12_look_143 := rfl
theorem cl_X12_way {d : Nat} {a0 : Nat} {a1 : Int} {a2 : Int} {A : pm_A} {σ : pm_S} : cl (d + 1) 251 [vR a0, vI a1, vI a2] A σ = ex d C_X12_way K_X12_way [vR a0, vI a1, vI a2, vO, vO, vO] [] A σ := rfl
theorem D_X12_way_12 : C_X12_way.drop 12 = K_X12_way_12 := rfl
theorem D_X12_way_14 : C_X12_way.drop 14 = K_X12_way_14 := rfl
theorem D_X12_way_15 : C_X12_way.drop 15 = K_X12_way_15 := rfl
theorem D_X12_way_21 : C_X12_way.drop 21 = K_X12_way_21 := rfl
theorem D_X12_way_23 : C_X12_way.drop 23 = K_X12_way_23 := rfl
theorem D_X12_way_37 : C_X12_way.drop 37 = K_X12_way_37 := rfl
theorem D_X12_way_38 : C_X12_way.drop 38 = K_X12_way_38 := rfl
theorem D_X12_way_41 : C_X12_way.drop 41 = K_X12_way_41 := rfl
theorem D_X12_way_43 : C_X12_way.drop 43 = K_X12_way_43 := rfl
theorem D_X12_way_51 : C_X12_way.drop 51 = K_X12_way_51 := rfl
theorem D_X12_way_59 : C_X12_way.drop 59 = K_X12_way_59 := rfl
theorem D_X12_way_89 : C_X12_way.drop 89 = K_X12_way_89 := rfl
theorem D_X12_way_93 : C_X12_way.drop 93 = K_X12_way_93 := rfl
theorem D_X12_way_96 : C_X12_way.drop 96 = K_X12_way_96 := rfl
theorem D_X12_way_98 : C_X12_way.drop 98 = K_X12_way_98 := rfl
theorem D_X12_way_100 : C_X12_way.drop 100 = K_X12_way_100 := rfl
theorem cl_X12_ones {d : Nat} {a0 : Int} {A : pm_A} {σ : pm_S} : cl (d + 1) 252 [vI a0] A σ = ex d C_X12_ones K_X12_ones [vI a0, vO, vO] [] A σ := rfl
theorem D_X12_ones_4 : C_X12_ones.drop 4 = K_X12_ones_4 := rfl
theorem D_X12_ones_17 : C_X12_ones.drop 17 = K_X12_ones_17 := rfl
theorem cl_X12_alone {d : Nat} {a0 : Nat} {A : pm_A} {σ : pm_S} : cl (d + 1) 253 [vR a0] A σ = ex d C_X12_alone K_X12_alone [vR a0, vO, vO, vO, vO] [] A σ := rfl
theorem D_X12_alone_7 : C_X12_alone.drop 7 = K_X12_alone_7 := rfl
theorem D_X12_alone_22 : C_X12_alone.drop 22 = K_X12_alone_22 := rfl
theorem D_X12_alone_23 : C_X12_alone.drop 23 = K_X12_alone_23 := rfl
theorem D_X12_alone_26 : C_X12_alone.drop 26 = K_X12_alone_26 := rfl
theorem D_X12_alone_52 : C_X12_alone.drop 52 = K_X12_alone_52 := rfl
theorem D_X12_alone_54 : C_X12_alone.drop 54 = K_X12_alone_54 := rfl
theorem D_X12_alone_55 : C_X12_alone.drop 55 = K_X12_alone_55 := rfl
theorem D_X12_alone_58 : C_X12_alone.drop 58 = K_X12_alone_58 := rfl
theorem D_X12_alone_62 : C_X12_alone.drop 62 = K_X12_alone_62 := rfl
theorem D_X12_alone_63 : C_X12_alone.drop 63 = K_X12_alone_63 := rfl
theorem D_X12_alone_66 : C_X12_alone.drop 66 = K_X12_alone_66 := rfl
theorem cl_X12_price {d : Nat} {a0 : Nat} {a1 : Int} {a2 : Int} {a3 : Int} {A : pm_A} {σ : pm_S} : cl (d + 1) 254 [vR a0, vI a1, vI a2, vI a3] A σ = ex d C_X12_price K_X12_price [vR a0, vI a1, vI a2, vI a3, vO, vO, vO, vO, vO, vO, vO, vO, vO, vO] [] A σ := rfl
theorem D_X12_price_19 : C_X12_price.drop 19 = K_X12_price_19 := rfl
theorem D_X12_price_21 : C_X12_price.drop 21 = K_X12_price_21 := rfl
theorem D_X12_price_22 : C_X12_price.drop 22 = K_X12_price_22 := rfl
theorem D_X12_price_28 : C_X12_price.drop 28 = K_X12_price_28 := rfl
theorem D_X12_price_34 : C_X12_price.drop 34 = K_X12_price_34 := rfl
theorem D_X12_price_41 : C_X12_price.drop 41 = K_X12_price_41 := rfl
theorem D_X12_price_57 : C_X12_price.drop 57 = K_X12_price_57 := rfl
theorem D_X12_price_58 : C_X12_price.drop 58 = K_X12_price_58 := rfl
theorem D_X12_price_62 : C_X12_price.drop 62 = K_X12_price_62 := rfl
theorem D_X12_price_71 : C_X12_price.drop 71 = K_X12_price_71 := rfl
theorem D_X12_price_75 : C_X12_price.drop 75 = K_X12_price_75 := rfl
theorem D_X12_price_88 : C_X12_price.drop 88 = K_X12_price_88 := rfl
theorem D_X12_price_94 : C_X12_price.drop 94 = K_X12_price_94 := rfl
theorem D_X12_price_97 : C_X12_price.drop 97 = K_X12_price_97 := rfl
theorem cl_X12_hisBy {d : Nat} {a0 : Int} {a1 : Int} {a2 : Int} {A : pm_A} {σ : pm_S} : cl (d + 1) 255 [vI a0, vI a1, vI a2] A σ = ex d C_X12_hisBy K_X12_hisBy [vI a0, vI a1, vI a2] [] A σ := rfl
theorem D_X12_hisBy_5 : C_X12_hisBy.drop 5 = K_X12_hisBy_5 := rfl
theorem D_X12_hisBy_9 : C_X12_hisBy.drop 9 = K_X12_hisBy_9 := rfl
theorem D_X12_hisBy_10 : C_X12_hisBy.drop 10 = K_X12_hisBy_10 := rfl
theorem cl_X12_itsBy {d : Nat} {a0 : Int} {a1 : Int} {a2 : Int} {a3 : Int} {A : pm_A} {σ : pm_S} : cl (d + 1) 256 [vI a0, vI a1, vI a2, vI a3] A σ = ex d C_X12_itsBy K_X12_itsBy [vI a0, vI a1, vI a2, vI a3] [] A σ := rfl
theorem D_X12_itsBy_5 : C_X12_itsBy.drop 5 = K_X12_itsBy_5 := rfl
theorem D_X12_itsBy_9 : C_X12_itsBy.drop 9 = K_X12_itsBy_9 := rfl
theorem D_X12_itsBy_10 : C_X12_itsBy.drop 10 = K_X12_itsBy_10 := rfl
theorem cl_X12_tuner {d : Nat} {a0 : Nat} {a1 : Int} {a2 : Int} {a3 : Int} {A : pm_A} {σ : pm_S} : cl (d + 1) 257 [vR a0, vI a1, vI a2, vI a3] A σ = ex d C_X12_tuner K_X12_tuner [vR a0, vI a1, vI a2, vI a3, vO, vO, vO, vO, vO, vO] [] A σ := rfl
theorem D_X12_tuner_19 : C_X12_tuner.drop 19 = K_X12_tuner_19 := rfl
theorem D_X12_tuner_21 : C_X12_tuner.drop 21 = K_X12_tuner_21 := rfl
theorem D_X12_tuner_22 : C_X12_tuner.drop 22 = K_X12_tuner_22 := rfl
theorem D_X12_tuner_28 : C_X12_tuner.drop 28 = K_X12_tuner_28 := rfl
theorem D_X12_tuner_36 : C_X12_tuner.drop 36 = K_X12_tuner_36 := rfl
theorem D_X12_tuner_72 : C_X12_tuner.drop 72 = K_X12_tuner_72 := rfl
theorem D_X12_tuner_85 : C_X12_tuner.drop 85 = K_X12_tuner_85 := rfl
theorem D_X12_tuner_86 : C_X12_tuner.drop 86 = K_X12_tuner_86 := rfl
theorem D_X12_tuner_95 : C_X12_tuner.drop 95 = K_X12_tuner_95 := rfl
theorem D_X12_tuner_96 : C_X12_tuner.drop 96 = K_X12_tuner_96 := rfl
theorem D_X12_tuner_98 : C_X12_tuner.drop 98 = K_X12_tuner_98 := rfl
theorem D_X12_tuner_100 : C_X12_tuner.drop 100 = K_X12_tuner_100 := rfl
theorem D_X12_tuner_104 : C_X12_tuner.drop 104 = K_X12_tuner_104 := rfl
theorem D_X12_tuner_109 : C_X12_tuner.drop 109 = K_X12_tuner_109 := rfl
theorem D_X12_tuner_110 : C_X12_tuner.drop 110 = K_X12_tuner_110 := rfl
theorem cl_X12_givenBy {d : Nat} {a0 : Nat} {a1 : Int} {a2 : Int} {A : pm_A} {σ : pm_S} : cl (d + 1) 258 [vR a0, vI a1, vI a2] A σ = ex d C_X12_givenBy K_X12_givenBy [vR a0, vI a1, vI a2, vO, vO] [] A σ := rfl
theorem D_X12_givenBy_4 : C_X12_givenBy.drop 4 = K_X12_givenBy_4 := rfl
theorem D_X12_givenBy_24 : C_X12_givenBy.drop 24 = K_X12_givenBy_24 := rfl
theorem D_X12_givenBy_25 : C_X12_givenBy.drop 25 = K_X12_givenBy_25 := rfl
theorem D_X12_givenBy_29 : C_X12_givenBy.drop 29 = K_X12_givenBy_29 := rfl
theorem cl_X12_share {d : Nat} {a0 : Nat} {a1 : Int} {a2 : Int} {a3 : Int} {A : pm_A} {σ : pm_S} : cl (d + 1) 259 [vR a0, vI a1, vI a2, vI a3] A σ = ex d C_X12_share K_X12_share [vR a0, vI a1, vI a2, vI a3, vO] [] A σ := rfl
theorem D_X12_share_10 : C_X12_share.drop 10 = K_X12_share_10 := rfl
theorem D_X12_share_11 : C_X12_share.drop 11 = K_X12_share_11 := rfl
theorem D_X12_share_33 : C_X12_share.drop 33 = K_X12_share_33 := rfl
theorem D_X12_share_35 : C_X12_share.drop 35 = K_X12_share_35 := rfl
theorem D_X12_share_36 : C_X12_share.drop 36 = K_X12_share_36 := rfl
theorem D_X12_share_40 : C_X12_share.drop 40 = K_X12_share_40 := rfl
theorem D_X12_share_42 : C_X12_share.drop 42 = K_X12_share_42 := rfl
theorem D_X12_share_44 : C_X12_share.drop 44 = K_X12_share_44 := rfl
theorem D_X12_share_57 : C_X12_share.drop 57 = K_X12_share_57 := rfl
theorem D_X12_share_70 : C_X12_share.drop 70 = K_X12_share_70 := rfl
theorem D_X12_share_71 : C_X12_share.drop 71 = K_X12_share_71 := rfl
theorem cl_X12_those {d : Nat} {a0 : Nat} {a1 : Int} {A : pm_A} {σ : pm_S} : cl (d + 1) 260 [vR a0, vI a1] A σ = ex d C_X12_those K_X12_those [vR a0, vI a1, vO, vO] [] A σ := rfl
theorem D_X12_those_9 : C_X12_those.drop 9 = K_X12_those_9 := rfl
theorem D_X12_those_10 : C_X12_those.drop 10 = K_X12_those_10 := rfl
theorem D_X12_those_16 : C_X12_those.drop 16 = K_X12_those_16 := rfl
theorem D_X12_those_20 : C_X12_those.drop 20 = K_X12_those_20 := rfl
theorem D_X12_those_38 : C_X12_those.drop 38 = K_X12_those_38 := rfl
theorem D_X12_those_39 : C_X12_those.drop 39 = K_X12_those_39 := rfl
theorem D_X12_those_43 : C_X12_those.drop 43 = K_X12_those_43 := rfl
theorem cl_X12_loudest {d : Nat} {a0 : Nat} {a1 : Int} {A : pm_A} {σ : pm_S} : cl (d + 1) 261 [vR a0, vI a1] A σ = ex d C_X12_loudest K_X12_loudest [vR a0, vI a1, vO, vO, vO] [] A σ := rfl
theorem D_X12_loudest_11 : C_X12_loudest.drop 11 = K_X12_loudest_11 := rfl
theorem D_X12_loudest_12 : C_X12_loudest.drop 12 = K_X12_loudest_12 := rfl
theorem D_X12_loudest_18 : C_X12_loudest.drop 18 = K_X12_loudest_18 := rfl
theorem D_X12_loudest_24 : C_X12_loudest.drop 24 = K_X12_loudest_24 := rfl
theorem D_X12_loudest_46 : C_X12_loudest.drop 46 = K_X12_loudest_46 := rfl
theorem D_X12_loudest_54 : C_X12_loudest.drop 54 = K_X12_loudest_54 := rfl
theorem D_X12_loudest_56 : C_X12_loudest.drop 56 = K_X12_loudest_56 := rfl
theorem D_X12_loudest_60 : C_X12_loudest.drop 60 = K_X12_loudest_60 := rfl
theorem D_X12_loudest_61 : C_X12_loudest.drop 61 = K_X12_loudest_61 := rfl
theorem cl_X12_quiet {d : Nat} {a0 : Nat} {a1 : Int} {A : pm_A} {σ : pm_S} : cl (d + 1) 262 [vR a0, vI a1] A σ = ex d C_X12_quiet K_X12_quiet [vR a0, vI a1, vO, vO, vO] [] A σ := rfl
theorem D_X12_quiet_10 : C_X12_quiet.drop 10 = K_X12_quiet_10 := rfl
theorem D_X12_quiet_11 : C_X12_quiet.drop 11 = K_X12_quiet_11 := rfl
theorem D_X12_quiet_17 : C_X12_quiet.drop 17 = K_X12_quiet_17 := rfl
theorem D_X12_quiet_26 : C_X12_quiet.drop 26 = K_X12_quiet_26 := rfl
theorem D_X12_quiet_45 : C_X12_quiet.drop 45 = K_X12_quiet_45 := rfl
theorem D_X12_quiet_63 : C_X12_quiet.drop 63 = K_X12_quiet_63 := rfl
theorem D_X12_quiet_64 : C_X12_quiet.drop 64 = K_X12_quiet_64 := rfl
theorem D_X12_quiet_66 : C_X12_quiet.drop 66 = K_X12_quiet_66 := rfl
theorem D_X12_quiet_68 : C_X12_quiet.drop 68 = K_X12_quiet_68 := rfl
theorem cl_X12_tunes {d : Nat} {a0 : Nat} {a1 : Int} {a2 : Int} {A : pm_A} {σ : pm_S} : cl (d + 1) 263 [vR a0, vI a1, vI a2] A σ = ex d C_X12_tunes K_X12_tunes [vR a0, vI a1, vI a2] [] A σ := rfl
theorem D_X12_tunes_12 : C_X12_tunes.drop 12 = K_X12_tunes_12 := rfl
theorem D_X12_tunes_14 : C_X12_tunes.drop 14 = K_X12_tunes_14 := rfl
theorem D_X12_tunes_15 : C_X12_tunes.drop 15 = K_X12_tunes_15 := rfl
theorem D_X12_tunes_21 : C_X12_tunes.drop 21 = K_X12_tunes_21 := rfl
theorem D_X12_tunes_43 : C_X12_tunes.drop 43 = K_X12_tunes_43 := rfl
theorem cl_X12_oldest {d : Nat} {a0 : Nat} {a1 : Int} {A : pm_A} {σ : pm_S} : cl (d + 1) 264 [vR a0, vI a1] A σ = ex d C_X12_oldest K_X12_oldest [vR a0, vI a1, vO, vO, vO] [] A σ := rfl
theorem D_X12_oldest_11 : C_X12_oldest.drop 11 = K_X12_oldest_11 := rfl
theorem D_X12_oldest_12 : C_X12_oldest.drop 12 = K_X12_oldest_12 := rfl
theorem D_X12_oldest_18 : C_X12_oldest.drop 18 = K_X12_oldest_18 := rfl
theorem D_X12_oldest_24 : C_X12_oldest.drop 24 = K_X12_oldest_24 := rfl
theorem D_X12_oldest_47 : C_X12_oldest.drop 47 = K_X12_oldest_47 := rfl
theorem D_X12_oldest_56 : C_X12_oldest.drop 56 = K_X12_oldest_56 := rfl
theorem D_X12_oldest_58 : C_X12_oldest.drop 58 = K_X12_oldest_58 := rfl
theorem D_X12_oldest_62 : C_X12_oldest.drop 62 = K_X12_oldest_62 := rfl
theorem D_X12_oldest_63 : C_X12_oldest.drop 63 = K_X12_oldest_63 := rfl
theorem cl_X12_empty {d : Nat} {a0 : Nat} {A : pm_A} {σ : pm_S} : cl (d + 1) 265 [vR a0] A σ = ex d C_X12_empty K_X12_empty [vR a0, vO, vO] [] A σ := rfl
theorem D_X12_empty_7 : C_X12_empty.drop 7 = K_X12_empty_7 := rfl
theorem D_X12_empty_25 : C_X12_empty.drop 25 = K_X12_empty_25 := rfl
theorem D_X12_empty_26 : C_X12_empty.drop 26 = K_X12_empty_26 := rfl
theorem D_X12_empty_30 : C_X12_empty.drop 30 = K_X12_empty_30 := rfl
theorem cl_X12_margin {d : Nat} {a0 : Nat} {a1 : Int} {A : pm_A} {σ : pm_S} : cl (d + 1) 266 [vR a0, vI a1] A σ = ex d C_X12_margin K_X12_margin [vR a0, vI a1, vO, vO, vO] [] A σ := rfl
theorem D_X12_margin_10 : C_X12_margin.drop 10 = K_X12_margin_10 := rfl
theorem D_X12_margin_11 : C_X12_margin.drop 11 = K_X12_margin_11 := rfl
theorem D_X12_margin_17 : C_X12_margin.drop 17 = K_X12_margin_17 := rfl
theorem D_X12_margin_27 : C_X12_margin.drop 27 = K_X12_margin_27 := rfl
theorem D_X12_margin_35 : C_X12_margin.drop 35 = K_X12_margin_35 := rfl
theorem D_X12_margin_43 : C_X12_margin.drop 43 = K_X12_margin_43 := rfl
theorem D_X12_margin_46 : C_X12_margin.drop 46 = K_X12_margin_46 := rfl
theorem cl_X12_changed {d : Nat} {a0 : Nat} {A : pm_A} {σ : pm_S} : cl (d + 1) 267 [vR a0] A σ = ex d C_X12_changed K_X12_changed [vR a0] [] A σ := rfl
theorem cl_X12_draw {d : Nat} {a0 : Nat} {a1 : Int} {A : pm_A} {σ : pm_S} : cl (d + 1) 268 [vR a0, vI a1] A σ = ex d C_X12_draw K_X12_draw [vR a0, vI a1] [] A σ := rfl
theorem cl_X12_yearBy {d : Nat} {a0 : Nat} {a1 : Int} {a2 : Int} {a3 : Int} {A : pm_A} {σ : pm_S} : cl (d + 1) 269 [vR a0, vI a1, vI a2, vI a3] A σ = ex d C_X12_yearBy K_X12_yearBy [vR a0, vI a1, vI a2, vI a3, vO, vO] [] A σ := rfl
theorem D_X12_yearBy_13 : C_X12_yearBy.drop 13 = K_X12_yearBy_13 := rfl
theorem D_X12_yearBy_55 : C_X12_yearBy.drop 55 = K_X12_yearBy_55 := rfl
theorem D_X12_yearBy_56 : C_X12_yearBy.drop 56 = K_X12_yearBy_56 := rfl
theorem D_X12_yearBy_58 : C_X12_yearBy.drop 58 = K_X12_yearBy_58 := rfl
theorem D_X12_yearBy_64 : C_X12_yearBy.drop 64 = K_X12_yearBy_64 := rfl
theorem cl_X12_isYear {d : Nat} {a0 : Int} {a1 : Int} {A : pm_A} {σ : pm_S} : cl (d + 1) 270 [vI a0, vI a1] A σ = ex d C_X12_isYear K_X12_isYear [vI a0, vI a1] [] A σ := rfl
theorem D_X12_isYear_12 : C_X12_isYear.drop 12 = K_X12_isYear_12 := rfl
theorem D_X12_isYear_13 : C_X12_isYear.drop 13 = K_X12_isYear_13 := rfl
theorem cl_X12_year {d : Nat} {a0 : Nat} {a1 : Int} {a2 : Int} {a3 : Int} {a4 : Int} {A : pm_A} {σ : pm_S} : cl (d + 1) 271 [vR a0, vI a1, vI a2, vI a3, vI a4] A σ = ex d C_X12_year K_X12_year [vR a0, vI a1, vI a2, vI a3, vI a4] [] A σ := rfl
theorem D_X12_year_13 : C_X12_year.drop 13 = K_X12_year_13 := rfl
theorem D_X12_year_15 : C_X12_year.drop 15 = K_X12_year_15 := rfl
theorem D_X12_year_16 : C_X12_year.drop 16 = K_X12_year_16 := rfl
theorem D_X12_year_22 : C_X12_year.drop 22 = K_X12_year_22 := rfl
theorem D_X12_year_29 : C_X12_year.drop 29 = K_X12_year_29 := rfl
theorem D_X12_year_34 : C_X12_year.drop 34 = K_X12_year_34 := rfl
theorem D_X12_year_37 : C_X12_year.drop 37 = K_X12_year_37 := rfl
theorem D_X12_year_42 : C_X12_year.drop 42 = K_X12_year_42 := rfl
theorem cl_X12_span {d : Nat} {a0 : Nat} {a1 : Int} {a2 : Int} {a3 : Int} {a4 : Int} {a5 : Int} {a6 : Int} {A : pm_A} {σ : pm_S} : cl (d + 1) 272 [vR a0, vI a1, vI a2, vI a3, vI a4, vI a5, vI a6] A σ = ex d C_X12_span K_X12_span [vR a0, vI a1, vI a2, vI a3, vI a4, vI a5, vI a6, vO, vO, vO, vO, vO] [] A σ := rfl
theorem D_X12_span_22 : C_X12_span.drop 22 = K_X12_span_22 := rfl
theorem D_X12_span_24 : C_X12_span.drop 24 = K_X12_span_24 := rfl
theorem D_X12_span_25 : C_X12_span.drop 25 = K_X12_span_25 := rfl
theorem D_X12_span_31 : C_X12_span.drop 31 = K_X12_span_31 := rfl
theorem D_X12_span_39 : C_X12_span.drop 39 = K_X12_span_39 := rfl
theorem D_X12_span_60 : C_X12_span.drop 60 = K_X12_span_60 := rfl
theorem D_X12_span_63 : C_X12_span.drop 63 = K_X12_span_63 := rfl
theorem D_X12_span_78 : C_X12_span.drop 78 = K_X12_span_78 := rfl
theorem D_X12_span_79 : C_X12_span.drop 79 = K_X12_span_79 := rfl
theorem D_X12_span_83 : C_X12_span.drop 83 = K_X12_span_83 := rfl
theorem D_X12_span_87 : C_X12_span.drop 87 = K_X12_span_87 := rfl
theorem D_X12_span_92 : C_X12_span.drop 92 = K_X12_span_92 := rfl
theorem D_X12_span_93 : C_X12_span.drop 93 = K_X12_span_93 := rfl
theorem cl_X12_puts {d : Nat} {a0 : Nat} {a1 : Nat} {a2 : Int} {a3 : Int} {A : pm_A} {σ : pm_S} : cl (d + 1) 273 [vR a0, vR a1, vI a2, vI a3] A σ = ex d C_X12_puts K_X12_puts [vR a0, vR a1, vI a2, vI a3] [] A σ := rfl
theorem D_X12_puts_7 : C_X12_puts.drop 7 = K_X12_puts_7 := rfl
theorem cl_X12_putsAll {d : Nat} {a0 : Nat} {a1 : Nat} {a2 : Int} {A : pm_A} {σ : pm_S} : cl (d + 1) 274 [vR a0, vR a1, vI a2] A σ = ex d C_X12_putsAll K_X12_putsAll [vR a0, vR a1, vI a2, vO, vO] [] A σ := rfl
theorem D_X12_putsAll_13 : C_X12_putsAll.drop 13 = K_X12_putsAll_13 := rfl
theorem D_X12_putsAll_30 : C_X12_putsAll.drop 30 = K_X12_putsAll_30 := rfl
theorem D_X12_putsAll_32 : C_X12_putsAll.drop 32 = K_X12_putsAll_32 := rfl
theorem D_X12_putsAll_37 : C_X12_putsAll.drop 37 = K_X12_putsAll_37 := rfl
theorem D_X12_putsAll_58 : C_X12_putsAll.drop 58 = K_X12_putsAll_58 := rfl
theorem D_X12_putsAll_60 : C_X12_putsAll.drop 60 = K_X12_putsAll_60 := rfl
theorem cl_X12_image {d : Nat} {a0 : Nat} {A : pm_A} {σ : pm_S} : cl (d + 1) 275 [vR a0] A σ = ex d C_X12_image K_X12_image [vR a0] [] A σ := rfl
theorem D_X12_image_9 : C_X12_image.drop 9 = K_X12_image_9 := rfl
theorem cl_X12_restore {d : Nat} {a0 : Nat} {A : pm_A} {σ : pm_S} : cl (d + 1) 276 [vR a0] A σ = ex d C_X12_restore K_X12_restore [vR a0] [] A σ := rfl
theorem D_X12_restore_8 : C_X12_restore.drop 8 = K_X12_restore_8 := rfl
theorem cl_X12_status {d : Nat} {a0 : Nat} {a1 : Int} {A : pm_A} {σ : pm_S} : cl (d + 1) 277 [vR a0, vI a1] A σ = ex d C_X12_status K_X12_status [vR a0, vI a1] [] A σ := rfl
theorem D_X12_status_13 : C_X12_status.drop 13 = K_X12_status_13 := rfl
theorem D_X12_status_14 : C_X12_status.drop 14 = K_X12_status_14 := rfl
theorem cl_X12_count {d : Nat} {a0 : Nat} {a1 : Int} {A : pm_A} {σ : pm_S} : cl (d + 1) 278 [vR a0, vI a1] A σ = ex d C_X12_count K_X12_count [vR a0, vI a1] [] A σ := rfl
theorem D_X12_count_8 : C_X12_count.drop 8 = K_X12_count_8 := rfl
theorem D_X12_count_14 : C_X12_count.drop 14 = K_X12_count_14 := rfl
theorem D_X12_count_20 : C_X12_count.drop 20 = K_X12_count_20 := rfl
theorem D_X12_count_21 : C_X12_count.drop 21 = K_X12_count_21 := rfl
theorem cl_L_terrace {d : Nat} {a0 : Nat} {a1 : Int} {a2 : Nat} {A : pm_A} {σ : pm_S} : cl (d + 1) 279 [vR a0, vI a1, vR a2] A σ = ex d C_L_terrace K_L_terrace [vR a0, vI a1, vR a2, vO] [] A σ := rfl
theorem D_L_terrace_8 : C_L_terrace.drop 8 = K_L_terrace_8 := rfl
theorem D_L_terrace_11 : C_L_terrace.drop 11 = K_L_terrace_11 := rfl
theorem cl_L_law {d : Nat} {a0 : Nat} {a1 : Int} {a2 : Nat} {A : pm_A} {σ : pm_S} : cl (d + 1) 280 [vR a0, vI a1, vR a2] A σ = ex d C_L_law K_L_law [vR a0, vI a1, vR a2, vO] [] A σ := rfl
theorem D_L_law_8 : C_L_law.drop 8 = K_L_law_8 := rfl
theorem D_L_law_11 : C_L_law.drop 11 = K_L_law_11 := rfl
theorem cl_L_work {d : Nat} {a0 : Nat} {a1 : Int} {a2 : Nat} {A : pm_A} {σ : pm_S} : cl (d + 1) 281 [vR a0, vI a1, vR a2] A σ = ex d C_L_work K_L_work [vR a0, vI a1, vR a2, vO] [] A σ := rfl
theorem D_L_work_8 : C_L_work.drop 8 = K_L_work_8 := rfl
theorem D_L_work_11 : C_L_work.drop 11 = K_L_work_11 := rfl
theorem cl_L_book {d : Nat} {a0 : Nat} {a1 : Int} {a2 : Nat} {A : pm_A} {σ : pm_S} : cl (d + 1) 282 [vR a0, vI a1, vR a2] A σ = ex d C_L_book K_L_book [vR a0, vI a1, vR a2, vO] [] A σ := rfl
theorem D_L_book_8 : C_L_book.drop 8 = K_L_book_8 := rfl
theorem D_L_book_11 : C_L_book.drop 11 = K_L_book_11 := rfl
theorem cl_L_told {d : Nat} {a0 : Nat} {a1 : Int} {a2 : Nat} {A : pm_A} {σ : pm_S} : cl (d + 1) 283 [vR a0, vI a1, vR a2] A σ = ex d C_L_told K_L_told [vR a0, vI a1, vR a2, vO] [] A σ := rfl
theorem D_L_told_8 : C_L_told.drop 8 = K_L_told_8 := rfl
theorem D_L_told_11 : C_L_told.drop 11 = K_L_told_11 := rfl
theorem cl_L_house {d : Nat} {a0 : Nat} {a1 : Int} {a2 : Int} {a3 : Nat} {A : pm_A} {σ : pm_S} : cl (d + 1) 284 [vR a0, vI a1, vI a2, vR a3] A σ = ex d C_L_house K_L_house [vR a0, vI a1, vI a2, vR a3, vO] [] A σ := rfl
theorem D_L_house_9 : C_L_house.drop 9 = K_L_house_9 := rfl
theorem D_L_house_12 : C_L_house.drop 12 = K_L_house_12 := rfl
theorem D_L_house_15 : C_L_house.drop 15 = K_L_house_15 := rfl
theorem cl_L_there {d : Nat} {a0 : Nat} {a1 : Int} {a2 : Int} {a3 : Nat} {A : pm_A} {σ : pm_S} : cl (d + 1) 285 [vR a0, vI a1, vI a2, vR a3] A σ = ex d C_L_there K_L_there [vR a0, vI a1, vI a2, vR a3, vO] [] A σ := rfl
theorem D_L_there_9 : C_L_there.drop 9 = K_L_there_9 := rfl
theorem D_L_there_12 : C_L_there.drop 12 = K_L_there_12 := rfl
theorem D_L_there_15 : C_L_there.drop 15 = K_L_there_15 := rfl
theorem cl_L_wall {d : Nat} {a0 : Nat} {a1 : Int} {a2 : Int} {a3 : Nat} {A : pm_A} {σ : pm_S} : cl (d + 1) 286 [vR a0, vI a1, vI a2, vR a3] A σ = ex d C_L_wall K_L_wall [vR a0, vI a1, vI a2, vR a3, vO] [] A σ := rfl
theorem D_L_wall_9 : C_L_wall.drop 9 = K_L_wall_9 := rfl
theorem D_L_wall_12 : C_L_wall.drop 12 = K_L_wall_12 := rfl
theorem D_L_wall_15 : C_L_wall.drop 15 = K_L_wall_15 := rfl
theorem cl_L_piano {d : Nat} {a0 : Nat} {a1 : Int} {a2 : Int} {a3 : Nat} {A : pm_A} {σ : pm_S} : cl (d + 1) 287 [vR a0, vI a1, vI a2, vR a3] A σ = ex d C_L_piano K_L_piano [vR a0, vI a1, vI a2, vR a3, vO] [] A σ := rfl
theorem D_L_piano_9 : C_L_piano.drop 9 = K_L_piano_9 := rfl
theorem D_L_piano_12 : C_L_piano.drop 12 = K_L_piano_12 := rfl
theorem D_L_piano_15 : C_L_piano.drop 15 = K_L_piano_15 := rfl
theorem cl_L_would {d : Nat} {a0 : Nat} {a1 : Int} {a2 : Int} {a3 : Int} {a4 : Int} {a5 : Int} {a6 : Int} {a7 : Int} {a8 : Int} {a9 : Nat} {A : pm_A} {σ : pm_S} : cl (d + 1) 288 [vR a0, vI a1, vI a2, vI a3, vI a4, vI a5, vI a6, vI a7, vI a8, vR a9] A σ = ex d C_L_would K_L_would [vR a0, vI a1, vI a2, vI a3, vI a4, vI a5, vI a6, vI a7, vI a8, vR a9, vO] [] A σ := rfl
theorem D_L_would_15 : C_L_would.drop 15 = K_L_would_15 := rfl
theorem D_L_would_18 : C_L_would.drop 18 = K_L_would_18 := rfl
theorem cl_L_ahead {d : Nat} {a0 : Nat} {a1 : Int} {a2 : Int} {a3 : Int} {a4 : Nat} {A : pm_A} {σ : pm_S} : cl (d + 1) 289 [vR a0, vI a1, vI a2, vI a3, vR a4] A σ = ex d C_L_ahead K_L_ahead [vR a0, vI a1, vI a2, vI a3, vR a4, vO] [] A σ := rfl
theorem D_L_ahead_10 : C_L_ahead.drop 10 = K_L_ahead_10 := rfl
theorem D_L_ahead_13 : C_L_ahead.drop 13 = K_L_ahead_13 := rfl
theorem D_L_ahead_16 : C_L_ahead.drop 16 = K_L_ahead_16 := rfl
theorem cl_L_when {d : Nat} {a0 : Nat} {a1 : Int} {a2 : Int} {a3 : Nat} {A : pm_A} {σ : pm_S} : cl (d + 1) 290 [vR a0, vI a1, vI a2, vR a3] A σ = ex d C_L_when K_L_when [vR a0, vI a1, vI a2, vR a3, vO] [] A σ := rfl
theorem D_L_when_9 : C_L_when.drop 9 = K_L_when_9 := rfl
theorem D_L_when_12 : C_L_when.drop 12 = K_L_when_12 := rfl
theorem D_L_when_15 : C_L_when.drop 15 = K_L_when_15 := rfl
theorem cl_L_muffle {d : Nat} {a0 : Nat} {a1 : Int} {a2 : Nat} {A : pm_A} {σ : pm_S} : cl (d + 1) 291 [vR a0, vI a1, vR a2] A σ = ex d C_L_muffle K_L_muffle [vR a0, vI a1, vR a2, vO] [] A σ := rfl
theorem D_L_muffle_8 : C_L_muffle.drop 8 = K_L_muffle_8 := rfl
theorem D_L_muffle_11 : C_L_muffle.drop 11 = K_L_muffle_11 := rfl
theorem cl_L_placed {d : Nat} {a0 : Nat} {a1 : Int} {a2 : Nat} {A : pm_A} {σ : pm_S} : cl (d + 1) 292 [vR a0, vI a1, vR a2] A σ = ex d C_L_placed K_L_placed [vR a0, vI a1, vR a2, vO] [] A σ := rfl
theorem D_L_placed_8 : C_L_placed.drop 8 = K_L_placed_8 := rfl
theorem D_L_placed_11 : C_L_placed.drop 11 = K_L_placed_11 := rfl
theorem cl_L_from {d : Nat} {a0 : Nat} {a1 : Int} {a2 : Int} {a3 : Nat} {A : pm_A} {σ : pm_S} : cl (d + 1) 293 [vR a0, vI a1, vI a2, vR a3] A σ = ex d C_L_from K_L_from [vR a0, vI a1, vI a2, vR a3, vO] [] A σ := rfl
theorem D_L_from_9 : C_L_from.drop 9 = K_L_from_9 := rfl
theorem D_L_from_12 : C_L_from.drop 12 = K_L_from_12 := rfl
theorem D_L_from_15 : C_L_from.drop 15 = K_L_from_15 := rfl
theorem cl_L_look {d : Nat} {a0 : Nat} {a1 : Int} {a2 : Int} {a3 : Nat} {A : pm_A} {σ : pm_S} : cl (d + 1) 294 [vR a0, vI a1, vI a2, vR a3] A σ = ex d C_L_look K_L_look [vR a0, vI a1, vI a2, vR a3, vO] [] A σ := rfl
theorem D_L_look_9 : C_L_look.drop 9 = K_L_look_9 := rfl
theorem D_L_look_12 : C_L_look.drop 12 = K_L_look_12 := rfl
theorem D_L_look_15 : C_L_look.drop 15 = K_L_look_15 := rfl
theorem cl_L_way {d : Nat} {a0 : Nat} {a1 : Int} {a2 : Int} {a3 : Nat} {A : pm_A} {σ : pm_S} : cl (d + 1) 295 [vR a0, vI a1, vI a2, vR a3] A σ = ex d C_L_way K_L_way [vR a0, vI a1, vI a2, vR a3, vO] [] A σ := rfl
theorem D_L_way_9 : C_L_way.drop 9 = K_L_way_9 := rfl
theorem D_L_way_12 : C_L_way.drop 12 = K_L_way_12 := rfl
theorem cl_L_price {d : Nat} {a0 : Nat} {a1 : Int} {a2 : Int} {a3 : Int} {a4 : Nat} {A : pm_A} {σ : pm_S} : cl (d + 1) 296 [vR a0, vI a1, vI a2, vI a3, vR a4] A σ = ex d C_L_price K_L_price [vR a0, vI a1, vI a2, vI a3, vR a4, vO] [] A σ := rfl
theorem D_L_price_9 : C_L_price.drop 9 = K_L_price_9 := rfl
theorem D_L_price_12 : C_L_price.drop 12 = K_L_price_12 := rfl
theorem cl_L_tuner {d : Nat} {a0 : Nat} {a1 : Int} {a2 : Int} {a3 : Int} {a4 : Nat} {A : pm_A} {σ : pm_S} : cl (d + 1) 297 [vR a0, vI a1, vI a2, vI a3, vR a4] A σ = ex d C_L_tuner K_L_tuner [vR a0, vI a1, vI a2, vI a3, vR a4, vO] [] A σ := rfl
theorem D_L_tuner_10 : C_L_tuner.drop 10 = K_L_tuner_10 := rfl
theorem D_L_tuner_13 : C_L_tuner.drop 13 = K_L_tuner_13 := rfl
theorem cl_L_share {d : Nat} {a0 : Nat} {a1 : Int} {a2 : Int} {a3 : Int} {a4 : Nat} {A : pm_A} {σ : pm_S} : cl (d + 1) 298 [vR a0, vI a1, vI a2, vI a3, vR a4] A σ = ex d C_L_share K_L_share [vR a0, vI a1, vI a2, vI a3, vR a4, vO] [] A σ := rfl
theorem D_L_share_10 : C_L_share.drop 10 = K_L_share_10 := rfl
theorem D_L_share_13 : C_L_share.drop 13 = K_L_share_13 := rfl
theorem D_L_share_16 : C_L_share.drop 16 = K_L_share_16 := rfl
theorem cl_L_those {d : Nat} {a0 : Nat} {a1 : Int} {a2 : Nat} {A : pm_A} {σ : pm_S} : cl (d + 1) 299 [vR a0, vI a1, vR a2] A σ = ex d C_L_those K_L_those [vR a0, vI a1, vR a2, vO] [] A σ := rfl
theorem D_L_those_8 : C_L_those.drop 8 = K_L_those_8 := rfl
theorem D_L_those_11 : C_L_those.drop 11 = K_L_those_11 := rfl
theorem cl_L_loudest {d : Nat} {a0 : Nat} {a1 : Int} {a2 : Nat} {A : pm_A} {σ : pm_S} : cl (d + 1) 300 [vR a0, vI a1, vR a2] A σ = ex d C_L_loudest K_L_loudest [vR a0, vI a1, vR a2, vO] [] A σ := rfl
theorem D_L_loudest_8 : C_L_loudest.drop 8 = K_L_loudest_8 := rfl
theorem D_L_loudest_11 : C_L_loudest.drop 11 = K_L_loudest_11 := rfl
theorem cl_L_quiet {d : Nat} {a0 : Nat} {a1 : Int} {a2 : Nat} {A : pm_A} {σ : pm_S} : cl (d + 1) 301 [vR a0, vI a1, vR a2] A σ = ex d C_L_quiet K_L_quiet [vR a0, vI a1, vR a2, vO] [] A σ := rfl
theorem D_L_quiet_8 : C_L_quiet.drop 8 = K_L_quiet_8 := rfl
theorem D_L_quiet_11 : C_L_quiet.drop 11 = K_L_quiet_11 := rfl
theorem cl_L_oldest {d : Nat} {a0 : Nat} {a1 : Int} {a2 : Nat} {A : pm_A} {σ : pm_S} : cl (d + 1) 302 [vR a0, vI a1, vR a2] A σ = ex d C_L_oldest K_L_oldest [vR a0, vI a1, vR a2, vO] [] A σ := rfl
theorem D_L_oldest_8 : C_L_oldest.drop 8 = K_L_oldest_8 := rfl
theorem D_L_oldest_11 : C_L_oldest.drop 11 = K_L_oldest_11 := rfl
theorem cl_L_margin {d : Nat} {a0 : Nat} {a1 : Int} {a2 : Nat} {A : pm_A} {σ : pm_S} : cl (d + 1) 303 [vR a0, vI a1, vR a2] A σ = ex d C_L_margin K_L_margin [vR a0, vI a1, vR a2, vO] [] A σ := rfl
theorem D_L_margin_8 : C_L_margin.drop 8 = K_L_margin_8 := rfl
theorem D_L_margin_11 : C_L_margin.drop 11 = K_L_margin_11 := rfl
theorem cl_L_tunes {d : Nat} {a0 : Nat} {a1 : Int} {a2 : Int} {a3 : Nat} {A : pm_A} {σ : pm_S} : cl (d + 1) 304 [vR a0, vI a1, vI a2, vR a3] A σ = ex d C_L_tunes K_L_tunes [vR a0, vI a1, vI a2, vR a3, vO] [] A σ := rfl
theorem D_L_tunes_9 : C_L_tunes.drop 9 = K_L_tunes_9 := rfl
theorem D_L_tunes_12 : C_L_tunes.drop 12 = K_L_tunes_12 := rfl
theorem cl_L_year {d : Nat} {a0 : Nat} {a1 : Int} {a2 : Int} {a3 : Int} {a4 : Int} {a5 : Nat} {A : pm_A} {σ : pm_S} : cl (d + 1) 305 [vR a0, vI a1, vI a2, vI a3, vI a4, vR a5] A σ = ex d C_L_year K_L_year [vR a0, vI a1, vI a2, vI a3, vI a4, vR a5, vO] [] A σ := rfl
theorem D_L_year_11 : C_L_year.drop 11 = K_L_year_11 := rfl
theorem D_L_year_14 : C_L_year.drop 14 = K_L_year_14 := rfl
theorem cl_L_span {d : Nat} {a0 : Nat} {a1 : Int} {a2 : Int} {a3 : Int} {a4 : Int} {a5 : Int} {a6 : Int} {a7 : Nat} {A : pm_A} {σ : pm_S} : cl (d + 1) 306 [vR a0, vI a1, vI a2, vI a3, vI a4, vI a5, vI a6, vR a7] A σ = ex d C_L_span K_L_span [vR a0, vI a1, vI a2, vI a3, vI a4, vI a5, vI a6, vR a7, vO] [] A σ := rfl
theorem D_L_span_13 : C_L_span.drop 13 = K_L_span_13 := rfl
theorem D_L_span_16 : C_L_span.drop 16 = K_L_span_16 := rfl
theorem cl_L_law_ {d : Nat} {a0 : Nat} {A : pm_A} {σ : pm_S} : cl (d + 1) 307 [vS a0] A σ = ex d C_L_law_ K_L_law_ [vS a0, vO, vO, vO, vO, vO, vO, vO] [] A σ := rfl
theorem D_L_law__13 : C_L_law_.drop 13 = K_L_law__13 := rfl
theorem D_L_law__25 : C_L_law_.drop 25 = K_L_law__25 := rfl
theorem D_L_law__82 : C_L_law_.drop 82 = K_L_law__82 := rfl
theorem D_L_law__105 : C_L_law_.drop 105 = K_L_law__105 := rfl
theorem D_L_law__116 : C_L_law_.drop 116 = K_L_law__116 := rfl
theorem D_L_law__117 : C_L_law_.drop 117 = K_L_law__117 := rfl
theorem D_L_law__140 : C_L_law_.drop 140 = K_L_law__140 := rfl
set_option maxRecDepth 40000 in
theorem D_L_law__151 : C_L_law_.drop 151 = K_L_law__151 := rfl
set_option maxRecDepth 40000 in
theorem D_L_law__152 : C_L_law_.drop 152 = K_L_law__152 := rfl
set_option maxRecDepth 40000 in
theorem D_L_law__175 : C_L_law_.drop 175 = K_L_law__175 := rfl
set_option maxRecDepth 40000 in
theorem D_L_law__186 : C_L_law_.drop 186 = K_L_law__186 := rfl
set_option maxRecDepth 40000 in
theorem D_L_law__187 : C_L_law_.drop 187 = K_L_law__187 := rfl
set_option maxRecDepth 40000 in
theorem D_L_law__210 : C_L_law_.drop 210 = K_L_law__210 := rfl
set_option maxRecDepth 40000 in
theorem D_L_law__221 : C_L_law_.drop 221 = K_L_law__221 := rfl
set_option maxRecDepth 40000 in
theorem D_L_law__222 : C_L_law_.drop 222 = K_L_law__222 := rfl
set_option maxRecDepth 40000 in
theorem D_L_law__229 : C_L_law_.drop 229 = K_L_law__229 := rfl
set_option maxRecDepth 40000 in
theorem D_L_law__236 : C_L_law_.drop 236 = K_L_law__236 := rfl
set_option maxRecDepth 40000 in
theorem D_L_law__259 : C_L_law_.drop 259 = K_L_law__259 := rfl
set_option maxRecDepth 40000 in
theorem D_L_law__270 : C_L_law_.drop 270 = K_L_law__270 := rfl
set_option maxRecDepth 40000 in
theorem D_L_law__271 : C_L_law_.drop 271 = K_L_law__271 := rfl
set_option maxRecDepth 40000 in
theorem D_L_law__304 : C_L_law_.drop 304 = K_L_law__304 := rfl
set_option maxRecDepth 40000 in
theorem D_L_law__315 : C_L_law_.drop 315 = K_L_law__315 := rfl
set_option maxRecDepth 40000 in
theorem D_L_law__316 : C_L_law_.drop 316 = K_L_law__316 := rfl
set_option maxRecDepth 40000 in
theorem D_L_law__349 : C_L_law_.drop 349 = K_L_law__349 := rfl
set_option maxRecDepth 40000 in
theorem D_L_law__360 : C_L_law_.drop 360 = K_L_law__360 := rfl
set_option maxRecDepth 40000 in
theorem D_L_law__361 : C_L_law_.drop 361 = K_L_law__361 := rfl
set_option maxRecDepth 40000 in
theorem D_L_law__394 : C_L_law_.drop 394 = K_L_law__394 := rfl
set_option maxRecDepth 40000 in
theorem D_L_law__405 : C_L_law_.drop 405 = K_L_law__405 := rfl
set_option maxRecDepth 40000 in
theorem D_L_law__406 : C_L_law_.drop 406 = K_L_law__406 := rfl
set_option maxRecDepth 40000 in
theorem D_L_law__439 : C_L_law_.drop 439 = K_L_law__439 := rfl
set_option maxRecDepth 40000 in
theorem D_L_law__450 : C_L_law_.drop 450 = K_L_law__450 := rfl
set_option maxRecDepth 40000 in
theorem D_L_law__451 : C_L_law_.drop 451 = K_L_law__451 := rfl
set_option maxRecDepth 40000 in
theorem D_L_law__544 : C_L_law_.drop 544 = K_L_law__544 := rfl
set_option maxRecDepth 40000 in
theorem D_L_law__555 : C_L_law_.drop 555 = K_L_law__555 := rfl
set_option maxRecDepth 40000 in
theorem D_L_law__556 : C_L_law_.drop 556 = K_L_law__556 := rfl
set_option maxRecDepth 40000 in
theorem D_L_law__599 : C_L_law_.drop 599 = K_L_law__599 := rfl
set_option maxRecDepth 40000 in
theorem D_L_law__610 : C_L_law_.drop 610 = K_L_law__610 := rfl
set_option maxRecDepth 40000 in
theorem D_L_law__611 : C_L_law_.drop 611 = K_L_law__611 := rfl
set_option maxRecDepth 40000 in
theorem D_L_law__644 : C_L_law_.drop 644 = K_L_law__644 := rfl
set_option maxRecDepth 40000 in
theorem D_L_law__655 : C_L_law_.drop 655 = K_L_law__655 := rfl
set_option maxRecDepth 40000 in
theorem D_L_law__656 : C_L_law_.drop 656 = K_L_law__656 := rfl
set_option maxRecDepth 40000 in
theorem D_L_law__679 : C_L_law_.drop 679 = K_L_law__679 := rfl
set_option maxRecDepth 40000 in
theorem D_L_law__690 : C_L_law_.drop 690 = K_L_law__690 := rfl
set_option maxRecDepth 40000 in
theorem D_L_law__691 : C_L_law_.drop 691 = K_L_law__691 := rfl
set_option maxRecDepth 40000 in
theorem D_L_law__698 : C_L_law_.drop 698 = K_L_law__698 := rfl
set_option maxRecDepth 40000 in
theorem D_L_law__721 : C_L_law_.drop 721 = K_L_law__721 := rfl
set_option maxRecDepth 40000 in
theorem D_L_law__732 : C_L_law_.drop 732 = K_L_law__732 := rfl
set_option maxRecDepth 40000 in
theorem D_L_law__733 : C_L_law_.drop 733 = K_L_law__733 := rfl
set_option maxRecDepth 40000 in
theorem D_L_law__766 : C_L_law_.drop 766 = K_L_law__766 := rfl
set_option maxRecDepth 40000 in
theorem D_L_law__777 : C_L_law_.drop 777 = K_L_law__777 := rfl
set_option maxRecDepth 40000 in
theorem D_L_law__778 : C_L_law_.drop 778 = K_L_law__778 := rfl
set_option maxRecDepth 40000 in
theorem D_L_law__811 : C_L_law_.drop 811 = K_L_law__811 := rfl
set_option maxRecDepth 40000 in
theorem D_L_law__822 : C_L_law_.drop 822 = K_L_law__822 := rfl
set_option maxRecDepth 40000 in
theorem D_L_law__823 : C_L_law_.drop 823 = K_L_law__823 := rfl
set_option maxRecDepth 40000 in
theorem D_L_law__856 : C_L_law_.drop 856 = K_L_law__856 := rfl
set_option maxRecDepth 40000 in
theorem D_L_law__867 : C_L_law_.drop 867 = K_L_law__867 := rfl
set_option maxRecDepth 40000 in
theorem D_L_law__868 : C_L_law_.drop 868 = K_L_law__868 := rfl
set_option maxRecDepth 40000 in
theorem D_L_law__875 : C_L_law_.drop 875 = K_L_law__875 := rfl
set_option maxRecDepth 40000 in
theorem D_L_law__918 : C_L_law_.drop 918 = K_L_law__918 := rfl
set_option maxRecDepth 40000 in
theorem D_L_law__928 : C_L_law_.drop 928 = K_L_law__928 := rfl
set_option maxRecDepth 40000 in
theorem D_L_law__929 : C_L_law_.drop 929 = K_L_law__929 := rfl
set_option maxRecDepth 40000 in
theorem D_L_law__972 : C_L_law_.drop 972 = K_L_law__972 := rfl
set_option maxRecDepth 40000 in
theorem D_L_law__983 : C_L_law_.drop 983 = K_L_law__983 := rfl
set_option maxRecDepth 40000 in
theorem D_L_law__984 : C_L_law_.drop 984 = K_L_law__984 := rfl
set_option maxRecDepth 40000 in
theorem D_L_law__1027 : C_L_law_.drop 1027 = K_L_law__1027 := rfl
set_option maxRecDepth 40000 in
theorem D_L_law__1038 : C_L_law_.drop 1038 = K_L_law__1038 := rfl
set_option maxRecDepth 40000 in
theorem D_L_law__1039 : C_L_law_.drop 1039 = K_L_law__1039 := rfl
set_option maxRecDepth 40000 in
theorem D_L_law__1062 : C_L_law_.drop 1062 = K_L_law__1062 := rfl
set_option maxRecDepth 40000 in
theorem D_L_law__1073 : C_L_law_.drop 1073 = K_L_law__1073 := rfl
set_option maxRecDepth 40000 in
theorem D_L_law__1074 : C_L_law_.drop 1074 = K_L_law__1074 := rfl
set_option maxRecDepth 40000 in
theorem D_L_law__1097 : C_L_law_.drop 1097 = K_L_law__1097 := rfl
set_option maxRecDepth 40000 in
theorem D_L_law__1108 : C_L_law_.drop 1108 = K_L_law__1108 := rfl
set_option maxRecDepth 40000 in
theorem D_L_law__1109 : C_L_law_.drop 1109 = K_L_law__1109 := rfl
set_option maxRecDepth 40000 in
theorem D_L_law__1132 : C_L_law_.drop 1132 = K_L_law__1132 := rfl
set_option maxRecDepth 40000 in
theorem D_L_law__1143 : C_L_law_.drop 1143 = K_L_law__1143 := rfl
set_option maxRecDepth 40000 in
theorem D_L_law__1144 : C_L_law_.drop 1144 = K_L_law__1144 := rfl
set_option maxRecDepth 40000 in
theorem D_L_law__1151 : C_L_law_.drop 1151 = K_L_law__1151 := rfl
set_option maxRecDepth 40000 in
theorem D_L_law__1174 : C_L_law_.drop 1174 = K_L_law__1174 := rfl
set_option maxRecDepth 40000 in
theorem D_L_law__1185 : C_L_law_.drop 1185 = K_L_law__1185 := rfl
set_option maxRecDepth 40000 in
theorem D_L_law__1186 : C_L_law_.drop 1186 = K_L_law__1186 := rfl
set_option maxRecDepth 40000 in
theorem D_L_law__1193 : C_L_law_.drop 1193 = K_L_law__1193 := rfl
set_option maxRecDepth 40000 in
theorem D_L_law__1216 : C_L_law_.drop 1216 = K_L_law__1216 := rfl
set_option maxRecDepth 40000 in
theorem D_L_law__1227 : C_L_law_.drop 1227 = K_L_law__1227 := rfl
set_option maxRecDepth 40000 in
theorem D_L_law__1228 : C_L_law_.drop 1228 = K_L_law__1228 := rfl
set_option maxRecDepth 40000 in
theorem D_L_law__1261 : C_L_law_.drop 1261 = K_L_law__1261 := rfl
set_option maxRecDepth 40000 in
theorem D_L_law__1272 : C_L_law_.drop 1272 = K_L_law__1272 := rfl
set_option maxRecDepth 40000 in
theorem D_L_law__1273 : C_L_law_.drop 1273 = K_L_law__1273 := rfl
set_option maxRecDepth 40000 in
theorem D_L_law__1326 : C_L_law_.drop 1326 = K_L_law__1326 := rfl
set_option maxRecDepth 40000 in
theorem D_L_law__1337 : C_L_law_.drop 1337 = K_L_law__1337 := rfl
set_option maxRecDepth 40000 in
theorem D_L_law__1338 : C_L_law_.drop 1338 = K_L_law__1338 := rfl
set_option maxRecDepth 40000 in
theorem D_L_law__1411 : C_L_law_.drop 1411 = K_L_law__1411 := rfl
set_option maxRecDepth 40000 in
theorem D_L_law__1422 : C_L_law_.drop 1422 = K_L_law__1422 := rfl
set_option maxRecDepth 40000 in
theorem D_L_law__1423 : C_L_law_.drop 1423 = K_L_law__1423 := rfl
set_option maxRecDepth 40000 in
theorem D_L_law__1430 : C_L_law_.drop 1430 = K_L_law__1430 := rfl
set_option maxRecDepth 40000 in
theorem D_L_law__1437 : C_L_law_.drop 1437 = K_L_law__1437 := rfl
set_option maxRecDepth 40000 in
theorem D_L_law__1454 : C_L_law_.drop 1454 = K_L_law__1454 := rfl
set_option maxRecDepth 40000 in
theorem D_L_law__1471 : C_L_law_.drop 1471 = K_L_law__1471 := rfl
set_option maxRecDepth 40000 in
theorem D_L_law__1473 : C_L_law_.drop 1473 = K_L_law__1473 := rfl
theorem cl_J6_bitCount_0f7a4 {d : Nat} {a0 : Int} {A : pm_A} {σ : pm_S} : cl (d + 1) 308 [vI a0] A σ = ex d C_J6_bitCount_0f7a4 K_J6_bitCount_0f7a4 [vI a0] [] A σ := rfl
theorem cl_J7_fill_53178 {d : Nat} {a0 : Nat} {a1 : Int} {A : pm_A} {σ : pm_S} : cl (d + 1) 309 [vR a0, vI a1] A σ = ex d C_J7_fill_53178 K_J7_fill_53178 [vR a0, vI a1, vO, vO] [] A σ := rfl
theorem D_J7_fill_53178_5 : C_J7_fill_53178.drop 5 = K_J7_fill_53178_5 := rfl
theorem D_J7_fill_53178_14 : C_J7_fill_53178.drop 14 = K_J7_fill_53178_14 := rfl
