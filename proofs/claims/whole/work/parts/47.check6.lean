/-! SOUNDNESS, 4: the check of the methods' own words, ten by ten -/
theorem mck_0 : (List.range 10).all (fun k => mCk (0 + k)) = true := by decide +kernel
theorem mck_10 : (List.range 10).all (fun k => mCk (10 + k)) = true := by decide +kernel
theorem mck_20 : (List.range 10).all (fun k => mCk (20 + k)) = true := by decide +kernel
theorem mck_30 : (List.range 10).all (fun k => mCk (30 + k)) = true := by decide +kernel
theorem mck_40 : (List.range 10).all (fun k => mCk (40 + k)) = true := by decide +kernel
theorem mck_50 : (List.range 10).all (fun k => mCk (50 + k)) = true := by decide +kernel
theorem mck_60 : (List.range 10).all (fun k => mCk (60 + k)) = true := by decide +kernel
theorem mck_70 : (List.range 10).all (fun k => mCk (70 + k)) = true := by decide +kernel
theorem mck_80 : (List.range 10).all (fun k => mCk (80 + k)) = true := by decide +kernel
theorem mck_90 : (List.range 10).all (fun k => mCk (90 + k)) = true := by decide +kernel
theorem mck_100 : (List.range 10).all (fun k => mCk (100 + k)) = true := by decide +kernel
theorem mck_110 : (List.range 10).all (fun k => mCk (110 + k)) = true := by decide +kernel
theorem mck_120 : (List.range 10).all (fun k => mCk (120 + k)) = true := by decide +kernel
theorem mck_130 : (List.range 10).all (fun k => mCk (130 + k)) = true := by decide +kernel
theorem mck_140 : (List.range 10).all (fun k => mCk (140 + k)) = true := by decide +kernel
theorem mck_150 : (List.range 10).all (fun k => mCk (150 + k)) = true := by decide +kernel
theorem mck_160 : (List.range 10).all (fun k => mCk (160 + k)) = true := by decide +kernel
theorem mck_170 : (List.range 10).all (fun k => mCk (170 + k)) = true := by decide +kernel
theorem mck_180 : (List.range 10).all (fun k => mCk (180 + k)) = true := by decide +kernel
theorem mck_190 : (List.range 10).all (fun k => mCk (190 + k)) = true := by decide +kernel
theorem mck_200 : (List.range 10).all (fun k => mCk (200 + k)) = true := by decide +kernel
theorem mck_210 : (List.range 10).all (fun k => mCk (210 + k)) = true := by decide +kernel
theorem mck_220 : (List.range 10).all (fun k => mCk (220 + k)) = true := by decide +kernel
theorem mck_230 : (List.range 10).all (fun k => mCk (230 + k)) = true := by decide +kernel
theorem mck_240 : (List.range 10).all (fun k => mCk (240 + k)) = true := by decide +kernel
theorem mck_250 : (List.range 10).all (fun k => mCk (250 + k)) = true := by decide +kernel
theorem mck_260 : (List.range 10).all (fun k => mCk (260 + k)) = true := by decide +kernel
theorem mck_270 : (List.range 10).all (fun k => mCk (270 + k)) = true := by decide +kernel
theorem mck_280 : (List.range 10).all (fun k => mCk (280 + k)) = true := by decide +kernel
theorem mck_290 : (List.range 10).all (fun k => mCk (290 + k)) = true := by decide +kernel
theorem mck_300 : (List.range 10).all (fun k => mCk (300 + k)) = true := by decide +kernel
theorem mk_all : ∀ M, M < 310 → mCk M = true := by
  intro M h
  by_cases h0 : M < 10
  · have := List.all_eq_true.mp mck_0 (M - 0) (List.mem_range.mpr (by omega))
    rw [show 0 + (M - 0) = M by omega] at this
    exact this
  by_cases h10 : M < 20
  · have := List.all_eq_true.mp mck_10 (M - 10) (List.mem_range.mpr (by omega))
    rw [show 10 + (M - 10) = M by omega] at this
    exact this
  by_cases h20 : M < 30
  · have := List.all_eq_true.mp mck_20 (M - 20) (List.mem_range.mpr (by omega))
    rw [show 20 + (M - 20) = M by omega] at this
    exact this
  by_cases h30 : M < 40
  · have := List.all_eq_true.mp mck_30 (M - 30) (List.mem_range.mpr (by omega))
    rw [show 30 + (M - 30) = M by omega] at this
    exact this
  by_cases h40 : M < 50
  · have := List.all_eq_true.mp mck_40 (M - 40) (List.mem_range.mpr (by omega))
    rw [show 40 + (M - 40) = M by omega] at this
    exact this
  by_cases h50 : M < 60
  · have := List.all_eq_true.mp mck_50 (M - 50) (List.mem_range.mpr (by omega))
    rw [show 50 + (M - 50) = M by omega] at this
    exact this
  by_cases h60 : M < 70
  · have := List.all_eq_true.mp mck_60 (M - 60) (List.mem_range.mpr (by omega))
    rw [show 60 + (M - 60) = M by omega] at this
    exact this
  by_cases h70 : M < 80
  · have := List.all_eq_true.mp mck_70 (M - 70) (List.mem_range.mpr (by omega))
    rw [show 70 + (M - 70) = M by omega] at this
    exact this
  by_cases h80 : M < 90
  · have := List.all_eq_true.mp mck_80 (M - 80) (List.mem_range.mpr (by omega))
    rw [show 80 + (M - 80) = M by omega] at this
    exact this
  by_cases h90 : M < 100
  · have := List.all_eq_true.mp mck_90 (M - 90) (List.mem_range.mpr (by omega))
    rw [show 90 + (M - 90) = M by omega] at this
    exact this
  by_cases h100 : M < 110
  · have := List.all_eq_true.mp mck_100 (M - 100) (List.mem_range.mpr (by omega))
    rw [show 100 + (M - 100) = M by omega] at this
    exact this
  by_cases h110 : M < 120
  · have := List.all_eq_true.mp mck_110 (M - 110) (List.mem_range.mpr (by omega))
    rw [show 110 + (M - 110) = M by omega] at this
    exact this
  by_cases h120 : M < 130
  · have := List.all_eq_true.mp mck_120 (M - 120) (List.mem_range.mpr (by omega))
    rw [show 120 + (M - 120) = M by omega] at this
    exact this
  by_cases h130 : M < 140
  · have := List.all_eq_true.mp mck_130 (M - 130) (List.mem_range.mpr (by omega))
    rw [show 130 + (M - 130) = M by omega] at this
    exact this
  by_cases h140 : M < 150
  · have := List.all_eq_true.mp mck_140 (M - 140) (List.mem_range.mpr (by omega))
    rw [show 140 + (M - 140) = M by omega] at this
    exact this
  by_cases h150 : M < 160
  · have := List.all_eq_true.mp mck_150 (M - 150) (List.mem_range.mpr (by omega))
    rw [show 150 + (M - 150) = M by omega] at this
    exact this
  by_cases h160 : M < 170
  · have := List.all_eq_true.mp mck_160 (M - 160) (List.mem_range.mpr (by omega))
    rw [show 160 + (M - 160) = M by omega] at this
    exact this
  by_cases h170 : M < 180
  · have := List.all_eq_true.mp mck_170 (M - 170) (List.mem_range.mpr (by omega))
    rw [show 170 + (M - 170) = M by omega] at this
    exact this
  by_cases h180 : M < 190
  · have := List.all_eq_true.mp mck_180 (M - 180) (List.mem_range.mpr (by omega))
    rw [show 180 + (M - 180) = M by omega] at this
    exact this
  by_cases h190 : M < 200
  · have := List.all_eq_true.mp mck_190 (M - 190) (List.mem_range.mpr (by omega))
    rw [show 190 + (M - 190) = M by omega] at this
    exact this
  by_cases h200 : M < 210
  · have := List.all_eq_true.mp mck_200 (M - 200) (List.mem_range.mpr (by omega))
    rw [show 200 + (M - 200) = M by omega] at this
    exact this
  by_cases h210 : M < 220
  · have := List.all_eq_true.mp mck_210 (M - 210) (List.mem_range.mpr (by omega))
    rw [show 210 + (M - 210) = M by omega] at this
    exact this
  by_cases h220 : M < 230
  · have := List.all_eq_true.mp mck_220 (M - 220) (List.mem_range.mpr (by omega))
    rw [show 220 + (M - 220) = M by omega] at this
    exact this
  by_cases h230 : M < 240
  · have := List.all_eq_true.mp mck_230 (M - 230) (List.mem_range.mpr (by omega))
    rw [show 230 + (M - 230) = M by omega] at this
    exact this
  by_cases h240 : M < 250
  · have := List.all_eq_true.mp mck_240 (M - 240) (List.mem_range.mpr (by omega))
    rw [show 240 + (M - 240) = M by omega] at this
    exact this
  by_cases h250 : M < 260
  · have := List.all_eq_true.mp mck_250 (M - 250) (List.mem_range.mpr (by omega))
    rw [show 250 + (M - 250) = M by omega] at this
    exact this
  by_cases h260 : M < 270
  · have := List.all_eq_true.mp mck_260 (M - 260) (List.mem_range.mpr (by omega))
    rw [show 260 + (M - 260) = M by omega] at this
    exact this
  by_cases h270 : M < 280
  · have := List.all_eq_true.mp mck_270 (M - 270) (List.mem_range.mpr (by omega))
    rw [show 270 + (M - 270) = M by omega] at this
    exact this
  by_cases h280 : M < 290
  · have := List.all_eq_true.mp mck_280 (M - 280) (List.mem_range.mpr (by omega))
    rw [show 280 + (M - 280) = M by omega] at this
    exact this
  by_cases h290 : M < 300
  · have := List.all_eq_true.mp mck_290 (M - 290) (List.mem_range.mpr (by omega))
    rw [show 290 + (M - 290) = M by omega] at this
    exact this
  by_cases h300 : M < 310
  · have := List.all_eq_true.mp mck_300 (M - 300) (List.mem_range.mpr (by omega))
    rw [show 300 + (M - 300) = M by omega] at this
    exact this
  omega
