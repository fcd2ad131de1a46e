/-! PURE, 81: queries that may be refused -/
theorem jt_ahead {al sl : Nat} {w : Nat × (Nat → Int)} {σ : pm_S} (h : INV σ) (x0 x1 x2 : Int) : JT 289 239 [vR 0, vI x0, vI x1, vI x2, vR 690] [vR 133, vI x0, vI x1, vI x2] (fun z => vI z) al sl w σ := by
  by_cases c0 : 0 ≤ x0 ∧ x0 < σ 3 0
  · by_cases c1 : 0 ≤ x1 ∧ x1 ≤ 99
    · by_cases c2 : 0 ≤ x2 ∧ x2 ≤ 1
      · exact JT.q0 h (lo_ahead (d := 940) (co_ahead (d := 959) h.1 c0 c1 c2)) (fun τ hq hb => ro_ahead (d := 960) h.1 hq c0 c1 c2)
      · exact JT.r (k := 2) (y := 19) (Y := 1) h (by decide) (by decide) (lb_ahead_2 (d := 940) (cb_ahead_2 (d := 959) h.1.1 c0 c1 c2)) (fun τ hq => rb_ahead_2 (d := 960) h.1.1 hq c0 c1 c2)
    · exact JT.r (k := 2) (y := 19) (Y := 1) h (by decide) (by decide) (lb_ahead_2 (d := 940) (cb_ahead_1 (d := 959) h.1.1 c0 c1)) (fun τ hq => rb_ahead_1 (d := 960) h.1.1 hq c0 c1)
  · exact JT.r (k := 1) (y := 18) (Y := 0) h (by decide) (by decide) (lb_ahead_1 (d := 940) (cb_ahead_0 (d := 959) h.1.1 c0)) (fun τ hq => rb_ahead_0 (d := 960) h.1.1 hq c0)
theorem jt_from {al sl : Nat} {w : Nat × (Nat → Int)} {σ : pm_S} (h : INV σ) (x0 x1 : Int) : JT 293 248 [vR 0, vI x0, vI x1, vR 690] [vR 133, vI x0, vI x1] (fun z => vI z) al sl w σ := by
  by_cases c0 : 0 ≤ x0 ∧ x0 < σ 3 0
  · by_cases c1 : 0 ≤ x1 ∧ x1 ≤ 1
    · exact JT.qa h (lo_from (d := 940) (co_from (d := 959) h.1 h.2.2.1.1 h.2.2.2.1.2 c0 c1)) (fun τ hq hb => ro_from (d := 960) h.1 h.2.2.1.1 hq hb c0 c1)
    · exact JT.r (k := 2) (y := 19) (Y := 1) h (by decide) (by decide) (lb_from_2 (d := 940) (cb_from_1 (d := 959) h.1.1 c0 c1)) (fun τ hq => rb_from_1 (d := 960) h.1.1 hq c0 c1)
  · exact JT.r (k := 1) (y := 18) (Y := 0) h (by decide) (by decide) (lb_from_1 (d := 940) (cb_from_0 (d := 959) h.1.1 c0)) (fun τ hq => rb_from_0 (d := 960) h.1.1 hq c0)
theorem jt_house {al sl : Nat} {w : Nat × (Nat → Int)} {σ : pm_S} (h : INV σ) (x0 x1 : Int) : JT 284 234 [vR 0, vI x0, vI x1, vR 690] [vR 133, vI x0, vI x1] (fun z => vI z) al sl w σ := by
  by_cases c0 : 0 ≤ x0 ∧ x0 < σ 3 0
  · by_cases c1 : 0 ≤ x1 ∧ x1 ≤ 5
    · exact JT.q0 h (lo_house (d := 940) (co_house (d := 959) h.1 c0 c1)) (fun τ hq hb => ro_house (d := 960) h.1 hq c0 c1)
    · exact JT.r (k := 2) (y := 19) (Y := 1) h (by decide) (by decide) (lb_house_2 (d := 940) (cb_house_1 (d := 959) h.1.1 c0 c1)) (fun τ hq => rb_house_1 (d := 960) h.1.1 hq c0 c1)
  · exact JT.r (k := 1) (y := 18) (Y := 0) h (by decide) (by decide) (lb_house_1 (d := 940) (cb_house_0 (d := 959) h.1.1 c0)) (fun τ hq => rb_house_0 (d := 960) h.1.1 hq c0)
theorem jt_look {al sl : Nat} {w : Nat × (Nat → Int)} {σ : pm_S} (h : INV σ) (x0 x1 : Int) : JT 294 250 [vR 0, vI x0, vI x1, vR 690] [vR 133, vI x0, vI x1] (fun z => vI z) al sl w σ := by
  by_cases c0 : 0 ≤ x0 ∧ x0 < σ 3 0
  · by_cases c1 : 0 ≤ x1 ∧ x1 ≤ 1
    · exact JT.qa h (lo_look (d := 940) (co_look (d := 959) h.1 h.2.2.1.1 h.2.2.2.1.2 c0 c1)) (fun τ hq hb => ro_look (d := 960) h.1 h.2.2.1.1 hq hb c0 c1)
    · exact JT.r (k := 2) (y := 19) (Y := 1) h (by decide) (by decide) (lb_look_2 (d := 940) (cb_look_1 (d := 959) h.1.1 c0 c1)) (fun τ hq => rb_look_1 (d := 960) h.1.1 hq c0 c1)
  · exact JT.r (k := 1) (y := 18) (Y := 0) h (by decide) (by decide) (lb_look_1 (d := 940) (cb_look_0 (d := 959) h.1.1 c0)) (fun τ hq => rb_look_0 (d := 960) h.1.1 hq c0)
theorem jt_loudest {al sl : Nat} {w : Nat × (Nat → Int)} {σ : pm_S} (h : INV σ) (x0 : Int) : JT 300 261 [vR 0, vI x0, vR 690] [vR 133, vI x0] (fun z => vI z) al sl w σ := by
  by_cases c0 : 0 ≤ x0 ∧ x0 ≤ 1
  · exact JT.q0 h (lo_loudest (d := 940) (co_loudest (d := 959) h.1 c0)) (fun τ hq hb => ro_loudest (d := 960) h.1 hq c0)
  · exact JT.r (k := 1) (y := 19) (Y := 1) h (by decide) (by decide) (lb_loudest_2 (d := 940) (cb_loudest_0 (d := 959) h.1.1 c0)) (fun τ hq => rb_loudest_0 (d := 960) h.1.1 hq c0)
theorem jt_margin {al sl : Nat} {w : Nat × (Nat → Int)} {σ : pm_S} (h : INV σ) (x0 : Int) : JT 303 266 [vR 0, vI x0, vR 690] [vR 133, vI x0] (fun z => vI z) al sl w σ := by
  by_cases c0 : 0 ≤ x0 ∧ x0 < σ 3 0
  · exact JT.q0 h (lo_margin (d := 940) (co_margin (d := 959) h.1 c0)) (fun τ hq hb => ro_margin (d := 960) h.1 hq c0)
  · exact JT.r (k := 1) (y := 18) (Y := 0) h (by decide) (by decide) (lb_margin_1 (d := 940) (cb_margin_0 (d := 959) h.1.1 c0)) (fun τ hq => rb_margin_0 (d := 960) h.1.1 hq c0)
theorem jt_muffle {al sl : Nat} {w : Nat × (Nat → Int)} {σ : pm_S} (h : INV σ) (x0 : Int) : JT 291 241 [vR 0, vI x0, vR 690] [vR 133, vI x0] (fun z => vI z) al sl w σ := by
  by_cases c0 : 0 ≤ x0 ∧ x0 < σ 3 2
  · exact JT.q0 h (lo_muffle (d := 940) (co_muffle (d := 959) h.1 c0)) (fun τ hq hb => ro_muffle (d := 960) h.1 hq c0)
  · exact JT.r (k := 1) (y := 18) (Y := 0) h (by decide) (by decide) (lb_muffle_1 (d := 940) (cb_muffle_0 (d := 959) h.1.1 c0)) (fun τ hq => rb_muffle_0 (d := 960) h.1.1 hq c0)
theorem jt_oldest {al sl : Nat} {w : Nat × (Nat → Int)} {σ : pm_S} (h : INV σ) (x0 : Int) : JT 302 264 [vR 0, vI x0, vR 690] [vR 133, vI x0] (fun z => vI z) al sl w σ := by
  by_cases c0 : 0 ≤ x0 ∧ x0 ≤ 1
  · exact JT.q0 h (lo_oldest (d := 940) (co_oldest (d := 959) h.1 c0)) (fun τ hq hb => ro_oldest (d := 960) h.1 hq c0)
  · exact JT.r (k := 1) (y := 19) (Y := 1) h (by decide) (by decide) (lb_oldest_2 (d := 940) (cb_oldest_0 (d := 959) h.1.1 c0)) (fun τ hq => rb_oldest_0 (d := 960) h.1.1 hq c0)
theorem jt_piano {al sl : Nat} {w : Nat × (Nat → Int)} {σ : pm_S} (h : INV σ) (x0 x1 : Int) : JT 287 237 [vR 0, vI x0, vI x1, vR 690] [vR 133, vI x0, vI x1] (fun z => vI z) al sl w σ := by
  by_cases c0 : 0 ≤ x0 ∧ x0 < σ 3 2
  · by_cases c1 : 0 ≤ x1 ∧ x1 ≤ 7
    · exact JT.q0 h (lo_piano (d := 940) (co_piano (d := 959) h.1 c0 c1)) (fun τ hq hb => ro_piano (d := 960) h.1 hq c0 c1)
    · exact JT.r (k := 2) (y := 19) (Y := 1) h (by decide) (by decide) (lb_piano_2 (d := 940) (cb_piano_1 (d := 959) h.1.1 c0 c1)) (fun τ hq => rb_piano_1 (d := 960) h.1.1 hq c0 c1)
  · exact JT.r (k := 1) (y := 18) (Y := 0) h (by decide) (by decide) (lb_piano_1 (d := 940) (cb_piano_0 (d := 959) h.1.1 c0)) (fun τ hq => rb_piano_0 (d := 960) h.1.1 hq c0)
theorem jt_placed {al sl : Nat} {w : Nat × (Nat → Int)} {σ : pm_S} (h : INV σ) (x0 : Int) : JT 292 245 [vR 0, vI x0, vR 690] [vR 133, vI x0] (fun z => vI z) al sl w σ := by
  by_cases c0 : 0 ≤ x0 ∧ x0 < σ 3 2
  · exact JT.ql h (lo_placed (d := 940) (co_placed (d := 959) h.1.1 h.2.2.2.1.1 c0)) (fun τ hq hb => ro_placed (d := 960) h.1.1 hq c0)
  · exact JT.r (k := 1) (y := 18) (Y := 0) h (by decide) (by decide) (lb_placed_1 (d := 940) (cb_placed_0 (d := 959) h.1.1 c0)) (fun τ hq => rb_placed_0 (d := 960) h.1.1 hq c0)
theorem jt_price {al sl : Nat} {w : Nat × (Nat → Int)} {σ : pm_S} (h : INV σ) (x0 x1 x2 : Int) : JT 296 254 [vR 0, vI x0, vI x1, vI x2, vR 690] [vR 133, vI x0, vI x1, vI x2] (fun z => vL z) al sl w σ := by
  by_cases c0 : 1 ≤ x0 ∧ x0 ≤ 6
  · by_cases c1 : 1 ≤ x1 ∧ x1 ≤ 9
    · by_cases c2 : 0 ≤ x2 ∧ x2 ≤ 1
      · exact JT.q0 h (lo_price (d := 940) (co_price (d := 959) c0 c1 c2)) (fun τ hq hb => ro_price (d := 960) c0 c1 c2)
      · exact JT.r (k := 1) (y := 19) (Y := 1) h (by decide) (by decide) (lb_price_2 (d := 940) (cb_price_2 (d := 959) h.1.1 c0 c1 c2)) (fun τ hq => rb_price_2 (d := 960) h.1.1 hq c0 c1 c2)
    · exact JT.r (k := 1) (y := 19) (Y := 1) h (by decide) (by decide) (lb_price_2 (d := 940) (cb_price_1 (d := 959) h.1.1 c0 c1)) (fun τ hq => rb_price_1 (d := 960) h.1.1 hq c0 c1)
  · exact JT.r (k := 1) (y := 19) (Y := 1) h (by decide) (by decide) (lb_price_2 (d := 940) (cb_price_0 (d := 959) h.1.1 c0)) (fun τ hq => rb_price_0 (d := 960) h.1.1 hq c0)
theorem jt_quiet {al sl : Nat} {w : Nat × (Nat → Int)} {σ : pm_S} (h : INV σ) (x0 : Int) : JT 301 262 [vR 0, vI x0, vR 690] [vR 133, vI x0] (fun z => vI z) al sl w σ := by
  by_cases c0 : 0 ≤ x0 ∧ x0 < σ 3 2
  · exact JT.q0 h (lo_quiet (d := 940) (co_quiet (d := 959) h.1 c0)) (fun τ hq hb => ro_quiet (d := 960) h.1 hq c0)
  · exact JT.r (k := 1) (y := 18) (Y := 0) h (by decide) (by decide) (lb_quiet_1 (d := 940) (cb_quiet_0 (d := 959) h.1.1 c0)) (fun τ hq => rb_quiet_0 (d := 960) h.1.1 hq c0)
theorem jt_share {al sl : Nat} {w : Nat × (Nat → Int)} {σ : pm_S} (h : INV σ) (x0 x1 x2 : Int) : JT 298 259 [vR 0, vI x0, vI x1, vI x2, vR 690] [vR 133, vI x0, vI x1, vI x2] (fun z => vI z) al sl w σ := by
  by_cases c0 : 0 ≤ x0 ∧ x0 < σ 3 2
  · by_cases c1 : 0 ≤ x1 ∧ x1 ≤ i_shl 1 (σ 3 2) - 1
    · by_cases c2 : 0 ≤ x2 ∧ x2 ≤ 99
      · exact JT.q0 h (lo_share (d := 940) (co_share (d := 959) h.1 c0 c1 c2)) (fun τ hq hb => ro_share (d := 960) h.1 hq c0 c1 c2)
      · exact JT.r (k := 2) (y := 19) (Y := 1) h (by decide) (by decide) (lb_share_2 (d := 940) (cb_share_2 (d := 959) h.1.1 c0 c1 c2)) (fun τ hq => rb_share_2 (d := 960) h.1.1 hq c0 c1 c2)
    · exact JT.r (k := 2) (y := 19) (Y := 1) h (by decide) (by decide) (lb_share_2 (d := 940) (cb_share_1 (d := 959) h.1.1 c0 c1)) (fun τ hq => rb_share_1 (d := 960) h.1.1 hq c0 c1)
  · exact JT.r (k := 1) (y := 18) (Y := 0) h (by decide) (by decide) (lb_share_1 (d := 940) (cb_share_0 (d := 959) h.1.1 c0)) (fun τ hq => rb_share_0 (d := 960) h.1.1 hq c0)
theorem jt_span {al sl : Nat} {w : Nat × (Nat → Int)} {σ : pm_S} (h : INV σ) (x0 x1 x2 x3 x4 x5 : Int) : JT 306 272 [vR 0, vI x0, vI x1, vI x2, vI x3, vI x4, vI x5, vR 690] [vR 133, vI x0, vI x1, vI x2, vI x3, vI x4, vI x5] (fun z => vI z) al sl w σ := by
  by_cases c0 : 1 ≤ x1 ∧ x1 ≤ 20
  · by_cases c1 : 1 ≤ x2 ∧ x2 ≤ 96
    · by_cases c2 : 0 ≤ x3 ∧ x3 ≤ 16
      · by_cases c3 : 0 ≤ x4 ∧ x4 ≤ 2
        · by_cases c4 : 0 ≤ x5 ∧ x5 ≤ σ 3 0 - 1
          · exact JT.q0 h (lo_span (d := 940) (co_span (d := 959) h.1 c0 c1 c2 c3 c4)) (fun τ hq hb => ro_span (d := 960) h.1 hq c0 c1 c2 c3 c4)
          · exact JT.r (k := 1) (y := 19) (Y := 1) h (by decide) (by decide) (lb_span_2 (d := 940) (cb_span_4 (d := 959) h.1.1 c0 c1 c2 c3 c4)) (fun τ hq => rb_span_4 (d := 960) h.1.1 hq c0 c1 c2 c3 c4)
        · exact JT.r (k := 1) (y := 19) (Y := 1) h (by decide) (by decide) (lb_span_2 (d := 940) (cb_span_3 (d := 959) h.1.1 c0 c1 c2 c3)) (fun τ hq => rb_span_3 (d := 960) h.1.1 hq c0 c1 c2 c3)
      · exact JT.r (k := 1) (y := 19) (Y := 1) h (by decide) (by decide) (lb_span_2 (d := 940) (cb_span_2 (d := 959) h.1.1 c0 c1 c2)) (fun τ hq => rb_span_2 (d := 960) h.1.1 hq c0 c1 c2)
    · exact JT.r (k := 1) (y := 19) (Y := 1) h (by decide) (by decide) (lb_span_2 (d := 940) (cb_span_1 (d := 959) h.1.1 c0 c1)) (fun τ hq => rb_span_1 (d := 960) h.1.1 hq c0 c1)
  · exact JT.r (k := 1) (y := 19) (Y := 1) h (by decide) (by decide) (lb_span_2 (d := 940) (cb_span_0 (d := 959) h.1.1 c0)) (fun τ hq => rb_span_0 (d := 960) h.1.1 hq c0)
theorem jt_there {al sl : Nat} {w : Nat × (Nat → Int)} {σ : pm_S} (h : INV σ) (x0 x1 : Int) : JT 285 235 [vR 0, vI x0, vI x1, vR 690] [vR 133, vI x0, vI x1] (fun z => vI z) al sl w σ := by
  by_cases c0 : 0 ≤ x0 ∧ x0 < σ 3 0
  · by_cases c1 : 0 ≤ x1 ∧ x1 ≤ 9
    · exact JT.q0 h (lo_there (d := 940) (co_there (d := 959) h.1 c0 c1)) (fun τ hq hb => ro_there (d := 960) h.1 hq c0 c1)
    · exact JT.r (k := 2) (y := 19) (Y := 1) h (by decide) (by decide) (lb_there_2 (d := 940) (cb_there_1 (d := 959) h.1.1 c0 c1)) (fun τ hq => rb_there_1 (d := 960) h.1.1 hq c0 c1)
  · exact JT.r (k := 1) (y := 18) (Y := 0) h (by decide) (by decide) (lb_there_1 (d := 940) (cb_there_0 (d := 959) h.1.1 c0)) (fun τ hq => rb_there_0 (d := 960) h.1.1 hq c0)
theorem jt_those {al sl : Nat} {w : Nat × (Nat → Int)} {σ : pm_S} (h : INV σ) (x0 : Int) : JT 299 260 [vR 0, vI x0, vR 690] [vR 133, vI x0] (fun z => vI z) al sl w σ := by
  by_cases c0 : 0 ≤ x0 ∧ x0 ≤ 9
  · exact JT.q0 h (lo_those (d := 940) (co_those (d := 959) h.1 c0)) (fun τ hq hb => ro_those (d := 960) h.1 hq c0)
  · exact JT.r (k := 1) (y := 19) (Y := 1) h (by decide) (by decide) (lb_those_2 (d := 940) (cb_those_0 (d := 959) h.1.1 c0)) (fun τ hq => rb_those_0 (d := 960) h.1.1 hq c0)
theorem jt_told {al sl : Nat} {w : Nat × (Nat → Int)} {σ : pm_S} (h : INV σ) (x0 : Int) : JT 283 230 [vR 0, vI x0, vR 690] [vR 133, vI x0] (fun z => vI z) al sl w σ := by
  by_cases c0 : 0 ≤ x0 ∧ x0 ≤ 10
  · exact JT.q0 h (lo_told (d := 940) (co_told (d := 959) h.1 c0)) (fun τ hq hb => ro_told (d := 960) h.1 hq c0)
  · exact JT.r (k := 1) (y := 19) (Y := 1) h (by decide) (by decide) (lb_told_2 (d := 940) (cb_told_0 (d := 959) h.1.1 c0)) (fun τ hq => rb_told_0 (d := 960) h.1.1 hq c0)
theorem jt_tuner {al sl : Nat} {w : Nat × (Nat → Int)} {σ : pm_S} (h : INV σ) (x0 x1 x2 : Int) : JT 297 257 [vR 0, vI x0, vI x1, vI x2, vR 690] [vR 133, vI x0, vI x1, vI x2] (fun z => vI z) al sl w σ := by
  by_cases c0 : 0 ≤ x0 ∧ x0 ≤ 99
  · by_cases c1 : 0 ≤ x1 ∧ x1 ≤ 99
    · by_cases c2 : 0 ≤ x2 ∧ x2 ≤ 2
      · exact JT.q0 h (lo_tuner (d := 940) (co_tuner (d := 959) c0 c1 c2)) (fun τ hq hb => ro_tuner (d := 960) c0 c1 c2)
      · exact JT.r (k := 1) (y := 19) (Y := 1) h (by decide) (by decide) (lb_tuner_2 (d := 940) (cb_tuner_2 (d := 959) h.1.1 c0 c1 c2)) (fun τ hq => rb_tuner_2 (d := 960) h.1.1 hq c0 c1 c2)
    · exact JT.r (k := 1) (y := 19) (Y := 1) h (by decide) (by decide) (lb_tuner_2 (d := 940) (cb_tuner_1 (d := 959) h.1.1 c0 c1)) (fun τ hq => rb_tuner_1 (d := 960) h.1.1 hq c0 c1)
  · exact JT.r (k := 1) (y := 19) (Y := 1) h (by decide) (by decide) (lb_tuner_2 (d := 940) (cb_tuner_0 (d := 959) h.1.1 c0)) (fun τ hq => rb_tuner_0 (d := 960) h.1.1 hq c0)
theorem jt_tunes {al sl : Nat} {w : Nat × (Nat → Int)} {σ : pm_S} (h : INV σ) (x0 x1 : Int) : JT 304 263 [vR 0, vI x0, vI x1, vR 690] [vR 133, vI x0, vI x1] (fun z => vI z) al sl w σ := by
  by_cases c0 : 0 ≤ x0 ∧ x0 < σ 3 2
  · by_cases c1 : 0 ≤ x1 ∧ x1 < σ 3 0
    · exact JT.q0 h (lo_tunes (d := 940) (co_tunes (d := 959) h.1 c0 c1)) (fun τ hq hb => ro_tunes (d := 960) h.1 hq c0 c1)
    · exact JT.r (k := 1) (y := 18) (Y := 0) h (by decide) (by decide) (lb_tunes_1 (d := 940) (cb_tunes_1 (d := 959) h.1.1 c0 c1)) (fun τ hq => rb_tunes_1 (d := 960) h.1.1 hq c0 c1)
  · exact JT.r (k := 1) (y := 18) (Y := 0) h (by decide) (by decide) (lb_tunes_1 (d := 940) (cb_tunes_0 (d := 959) h.1.1 c0)) (fun τ hq => rb_tunes_0 (d := 960) h.1.1 hq c0)
theorem jt_wall {al sl : Nat} {w : Nat × (Nat → Int)} {σ : pm_S} (h : INV σ) (x0 x1 : Int) : JT 286 236 [vR 0, vI x0, vI x1, vR 690] [vR 133, vI x0, vI x1] (fun z => vI z) al sl w σ := by
  by_cases c0 : 0 ≤ x0 ∧ x0 < σ 3 1
  · by_cases c1 : 0 ≤ x1 ∧ x1 ≤ 1
    · exact JT.q0 h (lo_wall (d := 940) (co_wall (d := 959) h.1 c0 c1)) (fun τ hq hb => ro_wall (d := 960) h.1 hq c0 c1)
    · exact JT.r (k := 2) (y := 19) (Y := 1) h (by decide) (by decide) (lb_wall_2 (d := 940) (cb_wall_1 (d := 959) h.1.1 c0 c1)) (fun τ hq => rb_wall_1 (d := 960) h.1.1 hq c0 c1)
  · exact JT.r (k := 1) (y := 18) (Y := 0) h (by decide) (by decide) (lb_wall_1 (d := 940) (cb_wall_0 (d := 959) h.1.1 c0)) (fun τ hq => rb_wall_0 (d := 960) h.1.1 hq c0)
theorem jt_way {al sl : Nat} {w : Nat × (Nat → Int)} {σ : pm_S} (h : INV σ) (x0 x1 : Int) : JT 295 251 [vR 0, vI x0, vI x1, vR 690] [vR 133, vI x0, vI x1] (fun z => vI z) al sl w σ := by
  by_cases c0 : 0 ≤ x0 ∧ x0 < σ 3 0
  · by_cases c1 : 0 ≤ x1 ∧ x1 < σ 3 0
    · exact JT.q0 h (lo_way (d := 940) (co_way (d := 959) h.1 c0 c1)) (fun τ hq hb => ro_way (d := 960) h.1 hq c0 c1)
    · exact JT.r (k := 1) (y := 18) (Y := 0) h (by decide) (by decide) (lb_way_1 (d := 940) (cb_way_1 (d := 959) h.1.1 c0 c1)) (fun τ hq => rb_way_1 (d := 960) h.1.1 hq c0 c1)
  · exact JT.r (k := 1) (y := 18) (Y := 0) h (by decide) (by decide) (lb_way_1 (d := 940) (cb_way_0 (d := 959) h.1.1 c0)) (fun τ hq => rb_way_0 (d := 960) h.1.1 hq c0)
theorem jt_when {al sl : Nat} {w : Nat × (Nat → Int)} {σ : pm_S} (h : INV σ) (x0 x1 : Int) : JT 290 240 [vR 0, vI x0, vI x1, vR 690] [vR 133, vI x0, vI x1] (fun z => vI z) al sl w σ := by
  by_cases c0 : 0 ≤ x0 ∧ x0 < σ 3 0
  · by_cases c1 : 0 ≤ x1 ∧ x1 ≤ 9
    · exact JT.q0 h (lo_when (d := 940) (co_when (d := 959) h.1 c0 c1)) (fun τ hq hb => ro_when (d := 960) h.1 hq c0 c1)
    · exact JT.r (k := 2) (y := 19) (Y := 1) h (by decide) (by decide) (lb_when_2 (d := 940) (cb_when_1 (d := 959) h.1.1 c0 c1)) (fun τ hq => rb_when_1 (d := 960) h.1.1 hq c0 c1)
  · exact JT.r (k := 1) (y := 18) (Y := 0) h (by decide) (by decide) (lb_when_1 (d := 940) (cb_when_0 (d := 959) h.1.1 c0)) (fun τ hq => rb_when_0 (d := 960) h.1.1 hq c0)
theorem jt_would {al sl : Nat} {w : Nat × (Nat → Int)} {σ : pm_S} (h : INV σ) (x0 x1 x2 x3 x4 x5 x6 x7 : Int) : JT 288 238 [vR 0, vI x0, vI x1, vI x2, vI x3, vI x4, vI x5, vI x6, vI x7, vR 690] [vR 133, vI x0, vI x1, vI x2, vI x3, vI x4, vI x5, vI x6, vI x7] (fun z => vI z) al sl w σ := by
  by_cases c0 : 1 ≤ x0 ∧ x0 ≤ 9
  · by_cases c1 : 0 ≤ x1 ∧ x1 ≤ 9
    · by_cases c2 : 0 ≤ x2 ∧ x2 ≤ 999
      · by_cases c3 : 0 ≤ x3 ∧ x3 ≤ 99
        · by_cases c4 : 0 ≤ x4 ∧ x4 ≤ 9
          · by_cases c5 : 0 ≤ x5 ∧ x5 ≤ 5
            · by_cases c6 : 0 ≤ x6 ∧ x6 ≤ 7
              · by_cases c7 : 0 ≤ x7 ∧ x7 ≤ 500
                · exact JT.q0 h (lo_would (d := 940) (co_would (d := 959) h.1 c0 c1 c2 c3 c4 c5 c6 c7)) (fun τ hq hb => ro_would (d := 960) h.1 hq c0 c1 c2 c3 c4 c5 c6 c7)
                · exact JT.r (k := 1) (y := 19) (Y := 1) h (by decide) (by decide) (lb_would_2 (d := 940) (cb_would_7 (d := 959) h.1.1 c0 c1 c2 c3 c4 c5 c6 c7)) (fun τ hq => rb_would_7 (d := 960) h.1.1 hq c0 c1 c2 c3 c4 c5 c6 c7)
              · exact JT.r (k := 1) (y := 19) (Y := 1) h (by decide) (by decide) (lb_would_2 (d := 940) (cb_would_6 (d := 959) h.1.1 c0 c1 c2 c3 c4 c5 c6)) (fun τ hq => rb_would_6 (d := 960) h.1.1 hq c0 c1 c2 c3 c4 c5 c6)
            · exact JT.r (k := 1) (y := 19) (Y := 1) h (by decide) (by decide) (lb_would_2 (d := 940) (cb_would_5 (d := 959) h.1.1 c0 c1 c2 c3 c4 c5)) (fun τ hq => rb_would_5 (d := 960) h.1.1 hq c0 c1 c2 c3 c4 c5)
          · exact JT.r (k := 1) (y := 19) (Y := 1) h (by decide) (by decide) (lb_would_2 (d := 940) (cb_would_4 (d := 959) h.1.1 c0 c1 c2 c3 c4)) (fun τ hq => rb_would_4 (d := 960) h.1.1 hq c0 c1 c2 c3 c4)
        · exact JT.r (k := 1) (y := 19) (Y := 1) h (by decide) (by decide) (lb_would_2 (d := 940) (cb_would_3 (d := 959) h.1.1 c0 c1 c2 c3)) (fun τ hq => rb_would_3 (d := 960) h.1.1 hq c0 c1 c2 c3)
      · exact JT.r (k := 1) (y := 19) (Y := 1) h (by decide) (by decide) (lb_would_2 (d := 940) (cb_would_2 (d := 959) h.1.1 c0 c1 c2)) (fun τ hq => rb_would_2 (d := 960) h.1.1 hq c0 c1 c2)
    · exact JT.r (k := 1) (y := 19) (Y := 1) h (by decide) (by decide) (lb_would_2 (d := 940) (cb_would_1 (d := 959) h.1.1 c0 c1)) (fun τ hq => rb_would_1 (d := 960) h.1.1 hq c0 c1)
  · exact JT.r (k := 1) (y := 19) (Y := 1) h (by decide) (by decide) (lb_would_2 (d := 940) (cb_would_0 (d := 959) h.1.1 c0)) (fun τ hq => rb_would_0 (d := 960) h.1.1 hq c0)
theorem jt_year {al sl : Nat} {w : Nat × (Nat → Int)} {σ : pm_S} (h : INV σ) (x0 x1 x2 x3 : Int) : JT 305 271 [vR 0, vI x0, vI x1, vI x2, vI x3, vR 690] [vR 133, vI x0, vI x1, vI x2, vI x3] (fun z => vI z) al sl w σ := by
  by_cases c0 : 1 ≤ x1 ∧ x1 ≤ 96
  · by_cases c1 : 0 ≤ x2 ∧ x2 ≤ 16
    · by_cases c2 : 0 ≤ x3 ∧ x3 ≤ 3
      · exact JT.q0 h (lo_year (d := 940) (co_year (d := 959) h.1 c0 c1 c2)) (fun τ hq hb => ro_year (d := 960) h.1 hq c0 c1 c2)
      · exact JT.r (k := 1) (y := 19) (Y := 1) h (by decide) (by decide) (lb_year_2 (d := 940) (cb_year_2 (d := 959) h.1.1 c0 c1 c2)) (fun τ hq => rb_year_2 (d := 960) h.1.1 hq c0 c1 c2)
    · exact JT.r (k := 1) (y := 19) (Y := 1) h (by decide) (by decide) (lb_year_2 (d := 940) (cb_year_1 (d := 959) h.1.1 c0 c1)) (fun τ hq => rb_year_1 (d := 960) h.1.1 hq c0 c1)
  · exact JT.r (k := 1) (y := 19) (Y := 1) h (by decide) (by decide) (lb_year_2 (d := 940) (cb_year_0 (d := 959) h.1.1 c0)) (fun τ hq => rb_year_0 (d := 960) h.1.1 hq c0)
