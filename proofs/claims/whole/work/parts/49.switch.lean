/-! PURE: the switches -/
theorem w_X2_joined {d : Nat} {C r : List pm_I} {a : Int} {y : Nat} {ls st : List pm_V} {A : pm_A} {σ : pm_S} {p : Int} : ex d C ((3,3,a,0,y) :: r) ls (vI p :: st) A σ = if p = 1045 then ex d C (C.drop 22) ls st A σ else if p = 1050 then ex d C (C.drop 10) ls st A σ else if p = 1051 then ex d C (C.drop 2) ls st A σ else if p = 1053 then ex d C (C.drop 6) ls st A σ else if p = 1055 then ex d C (C.drop 14) ls st A σ else if p = 2000 then ex d C (C.drop 30) ls st A σ else ex d C (C.drop 37) ls st A σ := by
  rw [e_sw (show pm_ws[0]? = some ([(1045,22), (1050,10), (1051,2), (1053,6), (1055,14), (2000,30)], 37) from rfl)]
  simp only [pm_sw]
  (repeat' split) <;> rfl
theorem w_X8_parseClause {d : Nat} {C r : List pm_I} {a : Int} {y : Nat} {ls st : List pm_V} {A : pm_A} {σ : pm_S} {p : Int} : ex d C ((3,3,a,1,y) :: r) ls (vI p :: st) A σ = if p = 0 then ex d C (C.drop 27) ls st A σ else if p = 1 then ex d C (C.drop 31) ls st A σ else if p = 2 then ex d C (C.drop 35) ls st A σ else if p = 3 then ex d C (C.drop 39) ls st A σ else ex d C (C.drop 43) ls st A σ := by
  rw [e_sw (show pm_ws[1]? = some ([(0,27), (1,31), (2,35), (3,39)], 43) from rfl)]
  simp only [pm_sw]
  (repeat' split) <;> rfl
theorem w_X9_doStep {d : Nat} {C r : List pm_I} {a : Int} {y : Nat} {ls st : List pm_V} {A : pm_A} {σ : pm_S} {p : Int} : ex d C ((3,3,a,2,y) :: r) ls (vI p :: st) A σ = if p = 0 then ex d C (C.drop 5) ls st A σ else if p = 1 then ex d C (C.drop 16) ls st A σ else if p = 2 then ex d C (C.drop 23) ls st A σ else ex d C (C.drop 34) ls st A σ := by
  rw [e_sw (show pm_ws[2]? = some ([(0,5), (1,16), (2,23)], 34) from rfl)]
  simp only [pm_sw]
  (repeat' split) <;> rfl
theorem w_X11_told {d : Nat} {C r : List pm_I} {a : Int} {y : Nat} {ls st : List pm_V} {A : pm_A} {σ : pm_S} {p : Int} : ex d C ((3,3,a,3,y) :: r) ls (vI p :: st) A σ = if p = 0 then ex d C (C.drop 7) ls st A σ else if p = 1 then ex d C (C.drop 11) ls st A σ else if p = 2 then ex d C (C.drop 15) ls st A σ else if p = 3 then ex d C (C.drop 19) ls st A σ else if p = 4 then ex d C (C.drop 25) ls st A σ else if p = 5 then ex d C (C.drop 31) ls st A σ else if p = 6 then ex d C (C.drop 35) ls st A σ else if p = 7 then ex d C (C.drop 39) ls st A σ else if p = 8 then ex d C (C.drop 43) ls st A σ else if p = 9 then ex d C (C.drop 47) ls st A σ else ex d C (C.drop 50) ls st A σ := by
  rw [e_sw (show pm_ws[3]? = some ([(0,7), (1,11), (2,15), (3,19), (4,25), (5,31), (6,35), (7,39), (8,43), (9,47)], 50) from rfl)]
  simp only [pm_sw]
  (repeat' split) <;> rfl
theorem w_X11_house {d : Nat} {C r : List pm_I} {a : Int} {y : Nat} {ls st : List pm_V} {A : pm_A} {σ : pm_S} {p : Int} : ex d C ((3,3,a,4,y) :: r) ls (vI p :: st) A σ = if p = 0 then ex d C (C.drop 10) ls st A σ else if p = 1 then ex d C (C.drop 15) ls st A σ else if p = 2 then ex d C (C.drop 20) ls st A σ else if p = 3 then ex d C (C.drop 26) ls st A σ else if p = 4 then ex d C (C.drop 32) ls st A σ else ex d C (C.drop 37) ls st A σ := by
  rw [e_sw (show pm_ws[4]? = some ([(0,10), (1,15), (2,20), (3,26), (4,32)], 37) from rfl)]
  simp only [pm_sw]
  (repeat' split) <;> rfl
theorem w_X11_piano {d : Nat} {C r : List pm_I} {a : Int} {y : Nat} {ls st : List pm_V} {A : pm_A} {σ : pm_S} {p : Int} : ex d C ((3,3,a,5,y) :: r) ls (vI p :: st) A σ = if p = 0 then ex d C (C.drop 10) ls st A σ else if p = 1 then ex d C (C.drop 16) ls st A σ else if p = 2 then ex d C (C.drop 22) ls st A σ else if p = 3 then ex d C (C.drop 27) ls st A σ else if p = 4 then ex d C (C.drop 32) ls st A σ else if p = 5 then ex d C (C.drop 37) ls st A σ else if p = 6 then ex d C (C.drop 42) ls st A σ else ex d C (C.drop 47) ls st A σ := by
  rw [e_sw (show pm_ws[5]? = some ([(0,10), (1,16), (2,22), (3,27), (4,32), (5,37), (6,42)], 47) from rfl)]
  simp only [pm_sw]
  (repeat' split) <;> rfl
theorem w_X11_year {d : Nat} {C r : List pm_I} {a : Int} {y : Nat} {ls st : List pm_V} {A : pm_A} {σ : pm_S} {p : Int} : ex d C ((3,3,a,6,y) :: r) ls (vI p :: st) A σ = if p = 0 then ex d C (C.drop 19) ls st A σ else if p = 1 then ex d C (C.drop 23) ls st A σ else if p = 2 then ex d C (C.drop 27) ls st A σ else ex d C (C.drop 31) ls st A σ := by
  rw [e_sw (show pm_ws[6]? = some ([(0,19), (1,23), (2,27)], 31) from rfl)]
  simp only [pm_sw]
  (repeat' split) <;> rfl
theorem w_X11_status {d : Nat} {C r : List pm_I} {a : Int} {y : Nat} {ls st : List pm_V} {A : pm_A} {σ : pm_S} {p : Int} : ex d C ((3,3,a,7,y) :: r) ls (vI p :: st) A σ = if p = 0 then ex d C (C.drop 2) ls st A σ else if p = 1 then ex d C (C.drop 5) ls st A σ else ex d C (C.drop 8) ls st A σ := by
  rw [e_sw (show pm_ws[7]? = some ([(0,2), (1,5)], 8) from rfl)]
  simp only [pm_sw]
  (repeat' split) <;> rfl
theorem w_X11_count {d : Nat} {C r : List pm_I} {a : Int} {y : Nat} {ls st : List pm_V} {A : pm_A} {σ : pm_S} {p : Int} : ex d C ((3,3,a,8,y) :: r) ls (vI p :: st) A σ = if p = 0 then ex d C (C.drop 2) ls st A σ else if p = 1 then ex d C (C.drop 5) ls st A σ else if p = 2 then ex d C (C.drop 9) ls st A σ else ex d C (C.drop 13) ls st A σ := by
  rw [e_sw (show pm_ws[8]? = some ([(0,2), (1,5), (2,9)], 13) from rfl)]
  simp only [pm_sw]
  (repeat' split) <;> rfl
theorem w_X12_clause {d : Nat} {C r : List pm_I} {a : Int} {y : Nat} {ls st : List pm_V} {A : pm_A} {σ : pm_S} {p : Int} : ex d C ((3,3,a,9,y) :: r) ls (vI p :: st) A σ = if p = 0 then ex d C (C.drop 55) ls st A σ else if p = 1 then ex d C (C.drop 64) ls st A σ else if p = 2 then ex d C (C.drop 105) ls st A σ else if p = 3 then ex d C (C.drop 126) ls st A σ else ex d C (C.drop 140) ls st A σ := by
  rw [e_sw (show pm_ws[9]? = some ([(0,55), (1,64), (2,105), (3,126)], 140) from rfl)]
  simp only [pm_sw]
  (repeat' split) <;> rfl
theorem w_X12_by {d : Nat} {C r : List pm_I} {a : Int} {y : Nat} {ls st : List pm_V} {A : pm_A} {σ : pm_S} {p : Int} : ex d C ((3,3,a,10,y) :: r) ls (vI p :: st) A σ = if p = 2 then ex d C (C.drop 2) ls st A σ else if p = 3 then ex d C (C.drop 6) ls st A σ else if p = 4 then ex d C (C.drop 10) ls st A σ else if p = 5 then ex d C (C.drop 14) ls st A σ else if p = 6 then ex d C (C.drop 28) ls st A σ else if p = 7 then ex d C (C.drop 39) ls st A σ else ex d C (C.drop 43) ls st A σ := by
  rw [e_sw (show pm_ws[10]? = some ([(2,2), (3,6), (4,10), (5,14), (6,28), (7,39)], 43) from rfl)]
  simp only [pm_sw]
  (repeat' split) <;> rfl
theorem w_X12_does {d : Nat} {C r : List pm_I} {a : Int} {y : Nat} {ls st : List pm_V} {A : pm_A} {σ : pm_S} {p : Int} : ex d C ((3,3,a,11,y) :: r) ls (vI p :: st) A σ = if p = 0 then ex d C (C.drop 8) ls st A σ else if p = 1 then ex d C (C.drop 16) ls st A σ else if p = 2 then ex d C (C.drop 39) ls st A σ else ex d C (C.drop 88) ls st A σ := by
  rw [e_sw (show pm_ws[11]? = some ([(0,8), (1,16), (2,39)], 88) from rfl)]
  simp only [pm_sw]
  (repeat' split) <;> rfl
theorem w_X12_told {d : Nat} {C r : List pm_I} {a : Int} {y : Nat} {ls st : List pm_V} {A : pm_A} {σ : pm_S} {p : Int} : ex d C ((3,3,a,12,y) :: r) ls (vI p :: st) A σ = if p = 0 then ex d C (C.drop 64) ls st A σ else if p = 1 then ex d C (C.drop 64) ls st A σ else if p = 2 then ex d C (C.drop 64) ls st A σ else if p = 3 then ex d C (C.drop 69) ls st A σ else if p = 4 then ex d C (C.drop 74) ls st A σ else if p = 5 then ex d C (C.drop 79) ls st A σ else if p = 6 then ex d C (C.drop 81) ls st A σ else if p = 7 then ex d C (C.drop 86) ls st A σ else if p = 8 then ex d C (C.drop 88) ls st A σ else if p = 9 then ex d C (C.drop 91) ls st A σ else ex d C (C.drop 94) ls st A σ := by
  rw [e_sw (show pm_ws[12]? = some ([(0,64), (1,64), (2,64), (3,69), (4,74), (5,79), (6,81), (7,86), (8,88), (9,91)], 94) from rfl)]
  simp only [pm_sw]
  (repeat' split) <;> rfl
theorem w_X12_house {d : Nat} {C r : List pm_I} {a : Int} {y : Nat} {ls st : List pm_V} {A : pm_A} {σ : pm_S} {p : Int} : ex d C ((3,3,a,13,y) :: r) ls (vI p :: st) A σ = if p = 0 then ex d C (C.drop 79) ls st A σ else if p = 1 then ex d C (C.drop 85) ls st A σ else if p = 2 then ex d C (C.drop 91) ls st A σ else if p = 3 then ex d C (C.drop 93) ls st A σ else if p = 4 then ex d C (C.drop 98) ls st A σ else ex d C (C.drop 100) ls st A σ := by
  rw [e_sw (show pm_ws[13]? = some ([(0,79), (1,85), (2,91), (3,93), (4,98)], 100) from rfl)]
  simp only [pm_sw]
  (repeat' split) <;> rfl
theorem w_X12_piano {d : Nat} {C r : List pm_I} {a : Int} {y : Nat} {ls st : List pm_V} {A : pm_A} {σ : pm_S} {p : Int} : ex d C ((3,3,a,14,y) :: r) ls (vI p :: st) A σ = if p = 0 then ex d C (C.drop 32) ls st A σ else if p = 1 then ex d C (C.drop 32) ls st A σ else if p = 2 then ex d C (C.drop 39) ls st A σ else if p = 3 then ex d C (C.drop 46) ls st A σ else if p = 4 then ex d C (C.drop 53) ls st A σ else if p = 5 then ex d C (C.drop 60) ls st A σ else if p = 6 then ex d C (C.drop 66) ls st A σ else ex d C (C.drop 72) ls st A σ := by
  rw [e_sw (show pm_ws[14]? = some ([(0,32), (1,32), (2,39), (3,46), (4,53), (5,60), (6,66)], 72) from rfl)]
  simp only [pm_sw]
  (repeat' split) <;> rfl
theorem w_X12_year {d : Nat} {C r : List pm_I} {a : Int} {y : Nat} {ls st : List pm_V} {A : pm_A} {σ : pm_S} {p : Int} : ex d C ((3,3,a,15,y) :: r) ls (vI p :: st) A σ = if p = 0 then ex d C (C.drop 29) ls st A σ else if p = 1 then ex d C (C.drop 34) ls st A σ else if p = 2 then ex d C (C.drop 37) ls st A σ else ex d C (C.drop 42) ls st A σ := by
  rw [e_sw (show pm_ws[15]? = some ([(0,29), (1,34), (2,37)], 42) from rfl)]
  simp only [pm_sw]
  (repeat' split) <;> rfl
