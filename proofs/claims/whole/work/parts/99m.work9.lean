/-! PURE, 68: a step without a list, both sides -/
def WJ (b : Nat → Int) (e np nh k : Int) (l m : Nat) (T : pm_S) : Prop := ∃ r : WRes, WOK e k np nh l m T r ∧
    (∀ (x al sl : Nat) (w : Nat × (Nat → Int)) (σ : pm_S) (kc : Int), 3 * l + 5 ≤ x → sk b e kc = sk b e k → CT b e kc σ → CWt m T σ → σ 3 2 = np → σ 3 0 = nh → Rv (cl x 102 [vR 31, vR 1, vI (6 - (l : Int))] (al, sl, SH, w) σ) (al, sl, SH, w) (CPW b e r σ)) ∧
    (∀ (x al sl : Nat) (w : Nat × (Nat → Int)) (ρ : pm_S), l + 7 ≤ x → RT b e (sk b e k) ρ → ρ 133 30 = (m : Int) → ρ 133 8 = 6 - (l : Int) → ρ 137 2 = np → ρ 137 0 = nh → Rn (cl x 207 [vR 133] (al, sl, SH, w) ρ) (al, sl, SH, w) (RPW b e (6 - (l : Int)) m (semiW b e r) ρ))
theorem GS_one {np nh : Int} {T : pm_S} {o m : Nat} (h1 : m < 38) (h2 : stK np nh T m) (h3 : T 35 m = (m : Int) + 1) : GS np nh T o m (m + 1) := fun T2 m2 ag hl => WL.one h1 (by
  unfold stK at h2 ⊢
  rw [ag m (Nat.le_refl _) (by omega) 32, ag m (Nat.le_refl _) (by omega) 33, ag m (Nat.le_refl _) (by omega) 34]
  exact h2) (by rw [ag m (Nat.le_refl _) (by omega) 35]; exact h3) hl
theorem WOK.T {e k np nh q κ x y : Int} {o m : Nat} {T : pm_S} (h1 : k + 3 ≤ q) (h2 : q ≤ e) (h3 : 4 * (m : Int) ≤ k) (e5 : e ≤ 150) (hs : stK np nh (tbU T m κ x y) m) : WOK e k np nh o m T (.inr (q, m + 1, tbU T m κ x y)) := ⟨fun _ _ z => (by cases z), fun _ _ _ z => (by
  cases z
  exact ⟨h1, h2, by omega, by omega, fun j _ j1 c => tbU_k (by omega), GS_one (by omega) hs tbU_v.2.2.2⟩)⟩
theorem rw_one {m : Nat} {T τ : pm_S} {κ x y : Int} (h0 : τ (521 + m) 0 = κ) (h1 : κ ≠ 3 → τ (521 + m) 1 = x) (h2 : κ = 0 ∨ κ = 2 → τ (521 + m) 2 = y) : RWs m (m + 1) (tbU T m κ x y) (stv τ (521 + m) 3 ((m + 1 : Nat) : Int)) := fun j a1 a2 => by
  have ej : j = m := by omega
  subst ej
  obtain ⟨t1, t2, t3, t4⟩ := tbU_v (m := j) (T := T) (x := κ) (y := x) (z := y)
  rw [t1, t2, t3, t4, stv_k (by decide), stv_k (by decide), stv_k (by decide), stv_s]
  exact ⟨h0, h1, h2, by omega⟩
theorem CW.sm {m : Nat} {f1 f2 f3 f4 : Nat → Int} {σ σ' : pm_S} (h : CW m f1 f2 f3 f4 σ) (g : Sm [(1, 2)] σ σ') : CW m f1 f2 f3 f4 σ' := ⟨by rw [g 31 (by decide)]; exact h.1, by rw [g 32 (by decide)]; exact h.2.1, by rw [g 33 (by decide)]; exact h.2.2.1, by rw [g 34 (by decide)]; exact h.2.2.2.1, by rw [g 35 (by decide)]; exact h.2.2.2.2⟩
theorem rsS_f {ρ : pm_S} {q κ : Int} {m : Nat} (hm : m < 80) : WFr m ρ (rsS ρ q m κ) := ((WFr.refl.st (by decide)).st (by decide)).row (Nat.le_refl _) hm
theorem wd_len {b : Nat → Int} {p q : Int} {t : List Nat} (h : wdB b p q t = true) : q - p = (t.length : Int) := (wdB_iff.mp h).1
theorem gk_put {b : Nat → Int} {e : Int} (e5 : e ≤ 150) {np nh k : Int} {l m : Nat} {T : pm_S} (p0 : 0 ≤ np) (p6 : np ≤ 6) (n0 : 0 ≤ nh) (n8 : nh ≤ 8) (k0 : 0 ≤ k) (ke : k ≤ e) (hm : 4 * (m : Int) ≤ k) (hκ : wdB b (sk b e k) (lw b e (sk b e k)) tw_put = true) : WJ b e np nh k l m T := by
  have pg := sk_ge (b := b) (e := e) (k := k)
  have pl := sk_le (b := b) ke
  have hlen : lw b e (sk b e k) - sk b e k = 3 := wd_len hκ
  have hqe : lw b e (sk b e k) ≤ e := rn_le _ pl
  have hq : ¬ lw b e (sk b e k) = sk b e k := by omega
  have m38 : m < 38 := by omega
  have hks : ksI b (sk b e k) (lw b e (sk b e k)) = 0 := by
    unfold ksI
    rw [if_pos hκ]
  cases hn1 : nmS b e (lw b e (sk b e k)) 0 (np - 1) with
  | inl f =>
    obtain ⟨kd, p⟩ := f
    have hkd := nm_flt hn1
    refine ⟨.inl (kd, p), WOK.F (by omega), fun x al sl w σ kc hx hkc hc hw hp hh => ?_, fun x al sl w ρ hx hr h30 h8 hp hh => ?_⟩
    · obtain ⟨y, rfl⟩ : ∃ y, x = y + 5 := ⟨x - 5, by omega⟩
      obtain ⟨v, σ2, e1, rfl, f2, f3, f4⟩ := c_word_T (d := y + 1) (al := al) (sl := sl) (w := w) hc (by rw [hkc]; exact hq)
      rw [hkc] at f2 f3
      have w0 := fun {d al sl : Nat} {w : Nat × (Nat → Int)} => c_isWord (d := d) (al := al) (sl := sl) (w := w) (i := 16) (t := tw_put) rfl f2 f3 (by omega) (by omega)
      have w1 := fun {d al sl : Nat} {w : Nat × (Nat → Int)} => c_isWord (d := d) (al := al) (sl := sl) (w := w) (i := 17) (t := tw_take) rfl f2 f3 (by omega) (by omega)
      have w2 := fun {d al sl : Nat} {w : Nat × (Nat → Int)} => c_isWord (d := d) (al := al) (sl := sl) (w := w) (i := 18) (t := tw_lay) rfl f2 f3 (by omega) (by omega)
      rw [if_pos hκ] at w0
      obtain ⟨v', σ3, e2, g1, g2, g3⟩ := c_piano (d := y) (al := al) (sl := sl) (w := w) f2 (by rw [f4 3 (by decide)]; exact hp) p0 p6
      have g4 : Sm [(1, 2)] σ σ3 := f4.trans g3
      obtain ⟨rfl, hF⟩ := g1 kd p hn1
      simp (disch := (first | assumption | omega | exact pm_nl_I _ | exact pm_nl_R _ | exact pm_nl_O | exact pm_nl_S _ | exact pm_rcv_1 | exact pm_rcv_2 | exact pm_rcv_4 | exact pm_rcv_5 | exact ct4_0 | exact ct4_1 | exact ct4_2 | exact ct8_0 | exact ct8_1 | exact ct8_2 | exact ct8_3 | exact ct8_4 | exact tk_0 | exact tk_0_h1 | exact tk_0_h2 | exact tk_0_h3 | exact tk_0_h4 | exact tk_0_h5 | exact tk_0_h6 | exact tk_0_h7 | exact tk_0_h8 | exact tk_0_h9 | exact tk_0_h10 | exact tq_0 | exact tk_1 | exact tq_1 | exact tk_3 | exact tq_3 | exact tk_11 | exact tq_11 | exact tk_19 | exact tq_19 | exact tk_22 | exact tq_22 | exact tk_25 | exact tq_25 | exact tk_28 | exact tq_28 | exact tk_31 | exact tq_31 | exact tk_36 | exact tq_36 | exact tk_40 | exact tq_40 | exact tk_44 | exact tq_44 | exact tk_63 | exact tq_63 | exact tk_66 | exact tq_66 | exact tk_71 | exact tq_71 | exact tk_73 | exact tq_73 | exact tk_75 | exact tq_75 | exact tk_93 | exact tq_93 | exact tk_95 | exact tq_95 | exact tk_113 | exact tq_113 | exact tk_115 | exact tq_115 | exact tk_133 | exact tq_133)) only [cl_X9_parseStep, K_X9_parseStep, D_X9_parseStep_5, K_X9_parseStep_5, D_X9_parseStep_25, K_X9_parseStep_25, D_X9_parseStep_26, K_X9_parseStep_26, D_X9_parseStep_27, K_X9_parseStep_27, D_X9_parseStep_44, K_X9_parseStep_44, D_X9_parseStep_45, K_X9_parseStep_45, D_X9_parseStep_46, K_X9_parseStep_46, D_X9_parseStep_62, K_X9_parseStep_62, D_X9_parseStep_63, K_X9_parseStep_63, D_X9_parseStep_64, K_X9_parseStep_64, D_X9_parseStep_74, K_X9_parseStep_74, D_X9_parseStep_83, K_X9_parseStep_83, D_X9_parseStep_86, K_X9_parseStep_86,  pm_then_if, pm_nl_I, pm_nl_R, pm_nl_S, pm_nl_O, pm_cat_nil, pm_cat_I, pm_cat_R, pm_cat_S, pm_cat_L, pm_then_v, pm_then_n, pm_then_x, pm_rcv_1, pm_rcv_2, pm_rcv_4, pm_rcv_5, e_const, e_lconst, e_ldcs, e_iload_0, e_lload_0, e_aload_0, e_sload_0, e_iinc_0, e_istore_0, e_astore_0, e_lstore_0, e_iload_1, e_lload_1, e_aload_1, e_sload_1, e_iinc_1, e_istore_1, e_astore_1, e_lstore_1, e_iload_2, e_lload_2, e_aload_2, e_sload_2, e_iinc_2, e_istore_2, e_astore_2, e_lstore_2, e_iload_3, e_lload_3, e_aload_3, e_sload_3, e_iinc_3, e_istore_3, e_astore_3, e_lstore_3, e_iload_4, e_lload_4, e_aload_4, e_sload_4, e_iinc_4, e_istore_4, e_astore_4, e_lstore_4, e_iload_5, e_lload_5, e_aload_5, e_sload_5, e_iinc_5, e_istore_5, e_astore_5, e_lstore_5, e_iload_6, e_lload_6, e_aload_6, e_sload_6, e_iinc_6, e_istore_6, e_astore_6, e_lstore_6, e_iload_7, e_lload_7, e_aload_7, e_sload_7, e_iinc_7, e_istore_7, e_astore_7, e_lstore_7, e_iload_8, e_lload_8, e_aload_8, e_sload_8, e_iinc_8, e_istore_8, e_astore_8, e_lstore_8, e_iload_9, e_lload_9, e_aload_9, e_sload_9, e_iinc_9, e_istore_9, e_astore_9, e_lstore_9, e_iload_10, e_lload_10, e_aload_10, e_sload_10, e_iinc_10, e_istore_10, e_astore_10, e_lstore_10, e_iload_11, e_lload_11, e_aload_11, e_sload_11, e_iinc_11, e_istore_11, e_astore_11, e_lstore_11, e_iload_12, e_lload_12, e_aload_12, e_sload_12, e_iinc_12, e_istore_12, e_astore_12, e_lstore_12, e_iload_13, e_lload_13, e_aload_13, e_sload_13, e_iinc_13, e_istore_13, e_astore_13, e_lstore_13, e_iload_14, e_lload_14, e_aload_14, e_sload_14, e_iinc_14, e_istore_14, e_astore_14, e_lstore_14, e_iload_15, e_lload_15, e_aload_15, e_sload_15, e_iinc_15, e_istore_15, e_astore_15, e_lstore_15, e_dup, e_dup2, e_pop, e_iadd, e_isub, e_imul, e_ishl, e_ishr, e_iushr, e_iand, e_ior, e_ixor, e_min, e_max, e_idiv, e_irem, e_ineg, e_i2l, e_ladd, e_lmul, e_lcmp, e_lmax, e_ldiv, e_lrem, e_goto, e_if_eq, e_ic_eq, e_if_ne, e_ic_ne, e_if_lt, e_ic_lt, e_if_ge, e_ic_ge, e_if_gt, e_ic_gt, e_if_le, e_ic_le, e_sw, e_scr, e_slen, e_acpy, e_strl, e_char, e_oinit, e_call_0, e_call_1, e_call_2, e_call_3, e_call_4, e_call_5, e_call_6, e_call_7, e_call_8, e_call_9, e_call_10, e_call_11, e_iret, e_zret, e_lret, e_vret, e_thr, tr_1_0, tg_1_1, tp_1_1, tg_1_2, tp_1_2, tg_1_3, tp_1_3, tg_1_4, tp_1_4, tg_1_5, tp_1_5, tg_1_6, tp_1_6, tg_1_7, tp_1_7, tg_3_0, tp_3_0, tg_3_1, tp_3_1, tg_3_2, tp_3_2, tg_3_3, tp_3_3, tr_3_4, tr_3_5, tr_3_6, tr_3_7, tr_3_8, tr_3_9, tr_3_10, tr_31_0, tr_31_1, tr_31_2, tr_31_3, tr_31_4, tg_31_5, tp_31_5, tg_31_6, tp_31_6, tg_31_7, tp_31_7, tg_31_8, tp_31_8, Nat.reduceAdd, Nat.reduceSub, Nat.reduceMul, Nat.reduceLT, Nat.reduceLeDiff, Nat.reduceEqDiff, Int.reduceAdd, Int.reduceSub, Int.reduceMul, Int.reduceNeg, Int.reduceLT, Int.reduceLE, Int.reduceEq, Int.reduceNe, Int.reduceToNat, ne_eq, not_false_eq_true, not_true_eq_false, Nat.le_refl, true_or, or_true, reduceCtorEq, ↓reduceIte, wr_id, e1, w0, w1, w2, e2]
      exact Rv.some (CPW.F hF (fun i _ => by rw [g4 31 (by decide)]) (g4.mono (by decide)))
    · obtain ⟨y, rfl⟩ : ∃ y, x = y + 7 := ⟨x - 7, by omega⟩
      obtain ⟨x1, y1, ρ1, ρ2, e1, g1, g2, g3, g4⟩ := rs_put (d := y) (al := al) (sl := sl) (w := w) hr h30 (by omega) (by omega) hqe hp p0 p6 hh n0 n8
      have a1 : ρ1 133 30 = (m : Int) + 1 := by rw [g3.2 30 (by decide) (by decide) (by decide), rsS_30]
      have a8 : ρ1 133 8 = 6 - (l : Int) := by rw [g3.2 8 (by decide) (by decide) (by decide)]; unfold rsS; rw [stv_o (by omega), stv_k (by decide), stv_k (by decide)]; exact h8
      have t30 : stv ρ2 (521 + m) 2 y1 133 30 = ((m + 1 : Nat) : Int) := by rw [stv_o (by omega), g4.2 30 (by decide) (by decide) (by decide), stv_o (by omega), a1]; omega
      have t8 : stv ρ2 (521 + m) 2 y1 133 8 = 6 - (l : Int) := by rw [stv_o (by omega), g4.2 8 (by decide) (by decide) (by decide), stv_o (by omega), a8]
      have tf : WFr m ρ (stv ρ2 (521 + m) 2 y1) := (((((rsS_f (by omega)).tr g3).row (Nat.le_refl _) (by omega)).tr g4).row (Nat.le_refl _) (by omega))
      rw [rs_22 hr sk_sk hks (by decide) (by decide), e1]
      exact r117_x (d := y + 2) (g1 kd p hn1).sr5 t30 (by omega) tf
  | inr f =>
    obtain ⟨q, x0⟩ := f
    obtain ⟨q0, qe, ql⟩ := nm_q (by omega) hqe hn1
    have hx0 := nm_ok hn1
    cases hn2 : nmS b e q 0 (nh - 1) with
    | inl f =>
      obtain ⟨kd, p⟩ := f
      have hkd := nm_flt hn2
      refine ⟨.inl (kd, p), WOK.F (by omega), fun x al sl w σ kc hx hkc hc hw hp hh => ?_, fun x al sl w ρ hx hr h30 h8 hp hh => ?_⟩
      · obtain ⟨y, rfl⟩ : ∃ y, x = y + 5 := ⟨x - 5, by omega⟩
        obtain ⟨v, σ2, e1, rfl, f2, f3, f4⟩ := c_word_T (d := y + 1) (al := al) (sl := sl) (w := w) hc (by rw [hkc]; exact hq)
        rw [hkc] at f2 f3
        have w0 := fun {d al sl : Nat} {w : Nat × (Nat → Int)} => c_isWord (d := d) (al := al) (sl := sl) (w := w) (i := 16) (t := tw_put) rfl f2 f3 (by omega) (by omega)
        have w1 := fun {d al sl : Nat} {w : Nat × (Nat → Int)} => c_isWord (d := d) (al := al) (sl := sl) (w := w) (i := 17) (t := tw_take) rfl f2 f3 (by omega) (by omega)
        have w2 := fun {d al sl : Nat} {w : Nat × (Nat → Int)} => c_isWord (d := d) (al := al) (sl := sl) (w := w) (i := 18) (t := tw_lay) rfl f2 f3 (by omega) (by omega)
        rw [if_pos hκ] at w0
        obtain ⟨v', σ3, e2, g1, g2, g3⟩ := c_piano (d := y) (al := al) (sl := sl) (w := w) f2 (by rw [f4 3 (by decide)]; exact hp) p0 p6
        have g4 : Sm [(1, 2)] σ σ3 := f4.trans g3

        obtain ⟨rfl, hC, h5⟩ := g2 q x0 hn1
        obtain ⟨v3, σ4, e3, i1, i2, i3, i4⟩ := c_second (d := y) (al := al) (sl := sl) (w := w) (κ := 0) (hi := nh - 1) hC h5 (CW.sm hw g4) m38
        obtain ⟨rfl, hF⟩ := i1 kd p hn2
        have hh3 : σ3 3 0 = nh := by rw [g4 3 (by decide)]; exact hh
        simp (disch := (first | assumption | omega | exact pm_nl_I _ | exact pm_nl_R _ | exact pm_nl_O | exact pm_nl_S _ | exact pm_rcv_1 | exact pm_rcv_2 | exact pm_rcv_4 | exact pm_rcv_5 | exact ct4_0 | exact ct4_1 | exact ct4_2 | exact ct8_0 | exact ct8_1 | exact ct8_2 | exact ct8_3 | exact ct8_4 | exact tk_0 | exact tk_0_h1 | exact tk_0_h2 | exact tk_0_h3 | exact tk_0_h4 | exact tk_0_h5 | exact tk_0_h6 | exact tk_0_h7 | exact tk_0_h8 | exact tk_0_h9 | exact tk_0_h10 | exact tq_0 | exact tk_1 | exact tq_1 | exact tk_3 | exact tq_3 | exact tk_11 | exact tq_11 | exact tk_19 | exact tq_19 | exact tk_22 | exact tq_22 | exact tk_25 | exact tq_25 | exact tk_28 | exact tq_28 | exact tk_31 | exact tq_31 | exact tk_36 | exact tq_36 | exact tk_40 | exact tq_40 | exact tk_44 | exact tq_44 | exact tk_63 | exact tq_63 | exact tk_66 | exact tq_66 | exact tk_71 | exact tq_71 | exact tk_73 | exact tq_73 | exact tk_75 | exact tq_75 | exact tk_93 | exact tq_93 | exact tk_95 | exact tq_95 | exact tk_113 | exact tq_113 | exact tk_115 | exact tq_115 | exact tk_133 | exact tq_133)) only [cl_X9_parseStep, K_X9_parseStep, D_X9_parseStep_5, K_X9_parseStep_5, D_X9_parseStep_25, K_X9_parseStep_25, D_X9_parseStep_26, K_X9_parseStep_26, D_X9_parseStep_27, K_X9_parseStep_27, D_X9_parseStep_44, K_X9_parseStep_44, D_X9_parseStep_45, K_X9_parseStep_45, D_X9_parseStep_46, K_X9_parseStep_46, D_X9_parseStep_62, K_X9_parseStep_62, D_X9_parseStep_63, K_X9_parseStep_63, D_X9_parseStep_64, K_X9_parseStep_64, D_X9_parseStep_74, K_X9_parseStep_74, D_X9_parseStep_83, K_X9_parseStep_83, D_X9_parseStep_86, K_X9_parseStep_86,  pm_then_if, pm_nl_I, pm_nl_R, pm_nl_S, pm_nl_O, pm_cat_nil, pm_cat_I, pm_cat_R, pm_cat_S, pm_cat_L, pm_then_v, pm_then_n, pm_then_x, pm_rcv_1, pm_rcv_2, pm_rcv_4, pm_rcv_5, e_const, e_lconst, e_ldcs, e_iload_0, e_lload_0, e_aload_0, e_sload_0, e_iinc_0, e_istore_0, e_astore_0, e_lstore_0, e_iload_1, e_lload_1, e_aload_1, e_sload_1, e_iinc_1, e_istore_1, e_astore_1, e_lstore_1, e_iload_2, e_lload_2, e_aload_2, e_sload_2, e_iinc_2, e_istore_2, e_astore_2, e_lstore_2, e_iload_3, e_lload_3, e_aload_3, e_sload_3, e_iinc_3, e_istore_3, e_astore_3, e_lstore_3, e_iload_4, e_lload_4, e_aload_4, e_sload_4, e_iinc_4, e_istore_4, e_astore_4, e_lstore_4, e_iload_5, e_lload_5, e_aload_5, e_sload_5, e_iinc_5, e_istore_5, e_astore_5, e_lstore_5, e_iload_6, e_lload_6, e_aload_6, e_sload_6, e_iinc_6, e_istore_6, e_astore_6, e_lstore_6, e_iload_7, e_lload_7, e_aload_7, e_sload_7, e_iinc_7, e_istore_7, e_astore_7, e_lstore_7, e_iload_8, e_lload_8, e_aload_8, e_sload_8, e_iinc_8, e_istore_8, e_astore_8, e_lstore_8, e_iload_9, e_lload_9, e_aload_9, e_sload_9, e_iinc_9, e_istore_9, e_astore_9, e_lstore_9, e_iload_10, e_lload_10, e_aload_10, e_sload_10, e_iinc_10, e_istore_10, e_astore_10, e_lstore_10, e_iload_11, e_lload_11, e_aload_11, e_sload_11, e_iinc_11, e_istore_11, e_astore_11, e_lstore_11, e_iload_12, e_lload_12, e_aload_12, e_sload_12, e_iinc_12, e_istore_12, e_astore_12, e_lstore_12, e_iload_13, e_lload_13, e_aload_13, e_sload_13, e_iinc_13, e_istore_13, e_astore_13, e_lstore_13, e_iload_14, e_lload_14, e_aload_14, e_sload_14, e_iinc_14, e_istore_14, e_astore_14, e_lstore_14, e_iload_15, e_lload_15, e_aload_15, e_sload_15, e_iinc_15, e_istore_15, e_astore_15, e_lstore_15, e_dup, e_dup2, e_pop, e_iadd, e_isub, e_imul, e_ishl, e_ishr, e_iushr, e_iand, e_ior, e_ixor, e_min, e_max, e_idiv, e_irem, e_ineg, e_i2l, e_ladd, e_lmul, e_lcmp, e_lmax, e_ldiv, e_lrem, e_goto, e_if_eq, e_ic_eq, e_if_ne, e_ic_ne, e_if_lt, e_ic_lt, e_if_ge, e_ic_ge, e_if_gt, e_ic_gt, e_if_le, e_ic_le, e_sw, e_scr, e_slen, e_acpy, e_strl, e_char, e_oinit, e_call_0, e_call_1, e_call_2, e_call_3, e_call_4, e_call_5, e_call_6, e_call_7, e_call_8, e_call_9, e_call_10, e_call_11, e_iret, e_zret, e_lret, e_vret, e_thr, tr_1_0, tg_1_1, tp_1_1, tg_1_2, tp_1_2, tg_1_3, tp_1_3, tg_1_4, tp_1_4, tg_1_5, tp_1_5, tg_1_6, tp_1_6, tg_1_7, tp_1_7, tg_3_0, tp_3_0, tg_3_1, tp_3_1, tg_3_2, tp_3_2, tg_3_3, tp_3_3, tr_3_4, tr_3_5, tr_3_6, tr_3_7, tr_3_8, tr_3_9, tr_3_10, tr_31_0, tr_31_1, tr_31_2, tr_31_3, tr_31_4, tg_31_5, tp_31_5, tg_31_6, tp_31_6, tg_31_7, tp_31_7, tg_31_8, tp_31_8, Nat.reduceAdd, Nat.reduceSub, Nat.reduceMul, Nat.reduceLT, Nat.reduceLeDiff, Nat.reduceEqDiff, Int.reduceAdd, Int.reduceSub, Int.reduceMul, Int.reduceNeg, Int.reduceLT, Int.reduceLE, Int.reduceEq, Int.reduceNe, Int.reduceToNat, ne_eq, not_false_eq_true, not_true_eq_false, Nat.le_refl, true_or, or_true, reduceCtorEq, ↓reduceIte, wr_id, e1, w0, w1, w2, e2, hh3, e3]
        exact Rv.some (CPW.F hF (fun i hi => (i3 i hi).trans (by rw [g4 31 (by decide)])) ((g4.mono (by decide)).trans i4))
      · obtain ⟨y, rfl⟩ : ∃ y, x = y + 7 := ⟨x - 7, by omega⟩
        obtain ⟨x1, y1, ρ1, ρ2, e1, g1, g2, g3, g4⟩ := rs_put (d := y) (al := al) (sl := sl) (w := w) hr h30 (by omega) (by omega) hqe hp p0 p6 hh n0 n8
        have a1 : ρ1 133 30 = (m : Int) + 1 := by rw [g3.2 30 (by decide) (by decide) (by decide), rsS_30]
        have a8 : ρ1 133 8 = 6 - (l : Int) := by rw [g3.2 8 (by decide) (by decide) (by decide)]; unfold rsS; rw [stv_o (by omega), stv_k (by decide), stv_k (by decide)]; exact h8
        have t30 : stv ρ2 (521 + m) 2 y1 133 30 = ((m + 1 : Nat) : Int) := by rw [stv_o (by omega), g4.2 30 (by decide) (by decide) (by decide), stv_o (by omega), a1]; omega
        have t8 : stv ρ2 (521 + m) 2 y1 133 8 = 6 - (l : Int) := by rw [stv_o (by omega), g4.2 8 (by decide) (by decide) (by decide), stv_o (by omega), a8]
        have tf : WFr m ρ (stv ρ2 (521 + m) 2 y1) := (((((rsS_f (by omega)).tr g3).row (Nat.le_refl _) (by omega)).tr g4).row (Nat.le_refl _) (by omega))
        rw [rs_22 hr sk_sk hks (by decide) (by decide), e1]

        obtain ⟨rfl, z1, z2⟩ := g2 q x0 hn1
        exact r117_x (d := y + 2) (z1 kd p hn2).sr5 t30 (by omega) tf
    | inr f =>
      obtain ⟨q2, y0⟩ := f
      obtain ⟨q20, q2e, q2l⟩ := nm_q q0 qe hn2
      have hy0 := nm_ok hn2
      refine ⟨.inr (q2, m + 1, tbU T m 0 x0 y0), WOK.T (by omega) q2e hm e5 ?_, fun x al sl w σ kc hx hkc hc hw hp hh => ?_, fun x al sl w ρ hx hr h30 h8 hp hh => ?_⟩
      · unfold stK
        obtain ⟨t1, t2, t3, t4⟩ := tbU_v (m := m) (T := T) (x := 0) (y := x0) (z := y0)
        rw [t1, t2, t3]
        omega
      · obtain ⟨y, rfl⟩ : ∃ y, x = y + 5 := ⟨x - 5, by omega⟩
        obtain ⟨v, σ2, e1, rfl, f2, f3, f4⟩ := c_word_T (d := y + 1) (al := al) (sl := sl) (w := w) hc (by rw [hkc]; exact hq)
        rw [hkc] at f2 f3
        have w0 := fun {d al sl : Nat} {w : Nat × (Nat → Int)} => c_isWord (d := d) (al := al) (sl := sl) (w := w) (i := 16) (t := tw_put) rfl f2 f3 (by omega) (by omega)
        have w1 := fun {d al sl : Nat} {w : Nat × (Nat → Int)} => c_isWord (d := d) (al := al) (sl := sl) (w := w) (i := 17) (t := tw_take) rfl f2 f3 (by omega) (by omega)
        have w2 := fun {d al sl : Nat} {w : Nat × (Nat → Int)} => c_isWord (d := d) (al := al) (sl := sl) (w := w) (i := 18) (t := tw_lay) rfl f2 f3 (by omega) (by omega)
        rw [if_pos hκ] at w0
        obtain ⟨v', σ3, e2, g1, g2, g3⟩ := c_piano (d := y) (al := al) (sl := sl) (w := w) f2 (by rw [f4 3 (by decide)]; exact hp) p0 p6
        have g4 : Sm [(1, 2)] σ σ3 := f4.trans g3

        obtain ⟨rfl, hC, h5⟩ := g2 q x0 hn1
        obtain ⟨v3, σ4, e3, i1, i2, i3, i4⟩ := c_second (d := y) (al := al) (sl := sl) (w := w) (κ := 0) (hi := nh - 1) hC h5 (CW.sm hw g4) m38
        obtain ⟨rfl, hD, hW⟩ := i2 q2 y0 hn2
        have hh3 : σ3 3 0 = nh := by rw [g4 3 (by decide)]; exact hh
        simp (disch := (first | assumption | omega | exact pm_nl_I _ | exact pm_nl_R _ | exact pm_nl_O | exact pm_nl_S _ | exact pm_rcv_1 | exact pm_rcv_2 | exact pm_rcv_4 | exact pm_rcv_5 | exact ct4_0 | exact ct4_1 | exact ct4_2 | exact ct8_0 | exact ct8_1 | exact ct8_2 | exact ct8_3 | exact ct8_4 | exact tk_0 | exact tk_0_h1 | exact tk_0_h2 | exact tk_0_h3 | exact tk_0_h4 | exact tk_0_h5 | exact tk_0_h6 | exact tk_0_h7 | exact tk_0_h8 | exact tk_0_h9 | exact tk_0_h10 | exact tq_0 | exact tk_1 | exact tq_1 | exact tk_3 | exact tq_3 | exact tk_11 | exact tq_11 | exact tk_19 | exact tq_19 | exact tk_22 | exact tq_22 | exact tk_25 | exact tq_25 | exact tk_28 | exact tq_28 | exact tk_31 | exact tq_31 | exact tk_36 | exact tq_36 | exact tk_40 | exact tq_40 | exact tk_44 | exact tq_44 | exact tk_63 | exact tq_63 | exact tk_66 | exact tq_66 | exact tk_71 | exact tq_71 | exact tk_73 | exact tq_73 | exact tk_75 | exact tq_75 | exact tk_93 | exact tq_93 | exact tk_95 | exact tq_95 | exact tk_113 | exact tq_113 | exact tk_115 | exact tq_115 | exact tk_133 | exact tq_133)) only [cl_X9_parseStep, K_X9_parseStep, D_X9_parseStep_5, K_X9_parseStep_5, D_X9_parseStep_25, K_X9_parseStep_25, D_X9_parseStep_26, K_X9_parseStep_26, D_X9_parseStep_27, K_X9_parseStep_27, D_X9_parseStep_44, K_X9_parseStep_44, D_X9_parseStep_45, K_X9_parseStep_45, D_X9_parseStep_46, K_X9_parseStep_46, D_X9_parseStep_62, K_X9_parseStep_62, D_X9_parseStep_63, K_X9_parseStep_63, D_X9_parseStep_64, K_X9_parseStep_64, D_X9_parseStep_74, K_X9_parseStep_74, D_X9_parseStep_83, K_X9_parseStep_83, D_X9_parseStep_86, K_X9_parseStep_86,  pm_then_if, pm_nl_I, pm_nl_R, pm_nl_S, pm_nl_O, pm_cat_nil, pm_cat_I, pm_cat_R, pm_cat_S, pm_cat_L, pm_then_v, pm_then_n, pm_then_x, pm_rcv_1, pm_rcv_2, pm_rcv_4, pm_rcv_5, e_const, e_lconst, e_ldcs, e_iload_0, e_lload_0, e_aload_0, e_sload_0, e_iinc_0, e_istore_0, e_astore_0, e_lstore_0, e_iload_1, e_lload_1, e_aload_1, e_sload_1, e_iinc_1, e_istore_1, e_astore_1, e_lstore_1, e_iload_2, e_lload_2, e_aload_2, e_sload_2, e_iinc_2, e_istore_2, e_astore_2, e_lstore_2, e_iload_3, e_lload_3, e_aload_3, e_sload_3, e_iinc_3, e_istore_3, e_astore_3, e_lstore_3, e_iload_4, e_lload_4, e_aload_4, e_sload_4, e_iinc_4, e_istore_4, e_astore_4, e_lstore_4, e_iload_5, e_lload_5, e_aload_5, e_sload_5, e_iinc_5, e_istore_5, e_astore_5, e_lstore_5, e_iload_6, e_lload_6, e_aload_6, e_sload_6, e_iinc_6, e_istore_6, e_astore_6, e_lstore_6, e_iload_7, e_lload_7, e_aload_7, e_sload_7, e_iinc_7, e_istore_7, e_astore_7, e_lstore_7, e_iload_8, e_lload_8, e_aload_8, e_sload_8, e_iinc_8, e_istore_8, e_astore_8, e_lstore_8, e_iload_9, e_lload_9, e_aload_9, e_sload_9, e_iinc_9, e_istore_9, e_astore_9, e_lstore_9, e_iload_10, e_lload_10, e_aload_10, e_sload_10, e_iinc_10, e_istore_10, e_astore_10, e_lstore_10, e_iload_11, e_lload_11, e_aload_11, e_sload_11, e_iinc_11, e_istore_11, e_astore_11, e_lstore_11, e_iload_12, e_lload_12, e_aload_12, e_sload_12, e_iinc_12, e_istore_12, e_astore_12, e_lstore_12, e_iload_13, e_lload_13, e_aload_13, e_sload_13, e_iinc_13, e_istore_13, e_astore_13, e_lstore_13, e_iload_14, e_lload_14, e_aload_14, e_sload_14, e_iinc_14, e_istore_14, e_astore_14, e_lstore_14, e_iload_15, e_lload_15, e_aload_15, e_sload_15, e_iinc_15, e_istore_15, e_astore_15, e_lstore_15, e_dup, e_dup2, e_pop, e_iadd, e_isub, e_imul, e_ishl, e_ishr, e_iushr, e_iand, e_ior, e_ixor, e_min, e_max, e_idiv, e_irem, e_ineg, e_i2l, e_ladd, e_lmul, e_lcmp, e_lmax, e_ldiv, e_lrem, e_goto, e_if_eq, e_ic_eq, e_if_ne, e_ic_ne, e_if_lt, e_ic_lt, e_if_ge, e_ic_ge, e_if_gt, e_ic_gt, e_if_le, e_ic_le, e_sw, e_scr, e_slen, e_acpy, e_strl, e_char, e_oinit, e_call_0, e_call_1, e_call_2, e_call_3, e_call_4, e_call_5, e_call_6, e_call_7, e_call_8, e_call_9, e_call_10, e_call_11, e_iret, e_zret, e_lret, e_vret, e_thr, tr_1_0, tg_1_1, tp_1_1, tg_1_2, tp_1_2, tg_1_3, tp_1_3, tg_1_4, tp_1_4, tg_1_5, tp_1_5, tg_1_6, tp_1_6, tg_1_7, tp_1_7, tg_3_0, tp_3_0, tg_3_1, tp_3_1, tg_3_2, tp_3_2, tg_3_3, tp_3_3, tr_3_4, tr_3_5, tr_3_6, tr_3_7, tr_3_8, tr_3_9, tr_3_10, tr_31_0, tr_31_1, tr_31_2, tr_31_3, tr_31_4, tg_31_5, tp_31_5, tg_31_6, tp_31_6, tg_31_7, tp_31_7, tg_31_8, tp_31_8, Nat.reduceAdd, Nat.reduceSub, Nat.reduceMul, Nat.reduceLT, Nat.reduceLeDiff, Nat.reduceEqDiff, Int.reduceAdd, Int.reduceSub, Int.reduceMul, Int.reduceNeg, Int.reduceLT, Int.reduceLE, Int.reduceEq, Int.reduceNe, Int.reduceToNat, ne_eq, not_false_eq_true, not_true_eq_false, Nat.le_refl, true_or, or_true, reduceCtorEq, ↓reduceIte, wr_id, e1, w0, w1, w2, e2, hh3, e3]
        exact Rv.some (CPW.T hD hW (fun i hi => (i3 i hi).trans (by rw [g4 31 (by decide)])) ((g4.mono (by decide)).trans i4))
      · obtain ⟨y, rfl⟩ : ∃ y, x = y + 7 := ⟨x - 7, by omega⟩
        obtain ⟨x1, y1, ρ1, ρ2, e1, g1, g2, g3, g4⟩ := rs_put (d := y) (al := al) (sl := sl) (w := w) hr h30 (by omega) (by omega) hqe hp p0 p6 hh n0 n8
        have a1 : ρ1 133 30 = (m : Int) + 1 := by rw [g3.2 30 (by decide) (by decide) (by decide), rsS_30]
        have a8 : ρ1 133 8 = 6 - (l : Int) := by rw [g3.2 8 (by decide) (by decide) (by decide)]; unfold rsS; rw [stv_o (by omega), stv_k (by decide), stv_k (by decide)]; exact h8
        have t30 : stv ρ2 (521 + m) 2 y1 133 30 = ((m + 1 : Nat) : Int) := by rw [stv_o (by omega), g4.2 30 (by decide) (by decide) (by decide), stv_o (by omega), a1]; omega
        have t8 : stv ρ2 (521 + m) 2 y1 133 8 = 6 - (l : Int) := by rw [stv_o (by omega), g4.2 8 (by decide) (by decide) (by decide), stv_o (by omega), a8]
        have tf : WFr m ρ (stv ρ2 (521 + m) 2 y1) := (((((rsS_f (by omega)).tr g3).row (Nat.le_refl _) (by omega)).tr g4).row (Nat.le_refl _) (by omega))
        rw [rs_22 hr sk_sk hks (by decide) (by decide), e1]

        obtain ⟨rfl, z1, z2⟩ := g2 q x0 hn1
        obtain ⟨rfl, hR⟩ := z2 q2 y0 hn2
        refine r117_w (d := y + 2) hR.sr5 t30 t8 (by omega) (rw_one ?_ (fun _ => ?_) (fun _ => stv_s)) tf
        · rw [stv_k (by decide), g4.1 (521 + m) (by simp only [off, Bool.and_true, Bool.or_eq_true, decide_eq_true_eq]; omega), stv_k (by decide), g3.1 (521 + m) (by simp only [off, Bool.and_true, Bool.or_eq_true, decide_eq_true_eq]; omega)]
          unfold rsS
          rw [stv_s]
        · rw [stv_k (by decide), g4.1 (521 + m) (by simp only [off, Bool.and_true, Bool.or_eq_true, decide_eq_true_eq]; omega), stv_s]
theorem gk_lay {b : Nat → Int} {e : Int} (e5 : e ≤ 150) {np nh k : Int} {l m : Nat} {T : pm_S} (p0 : 0 ≤ np) (p6 : np ≤ 6) (n0 : 0 ≤ nh) (n8 : nh ≤ 8) (k0 : 0 ≤ k) (ke : k ≤ e) (hm : 4 * (m : Int) ≤ k) (hκ : wdB b (sk b e k) (lw b e (sk b e k)) tw_lay = true) : WJ b e np nh k l m T := by
  have pg := sk_ge (b := b) (e := e) (k := k)
  have pl := sk_le (b := b) ke
  have hlen : lw b e (sk b e k) - sk b e k = 3 := wd_len hκ
  have hqe : lw b e (sk b e k) ≤ e := rn_le _ pl
  have hq : ¬ lw b e (sk b e k) = sk b e k := by omega
  have m38 : m < 38 := by omega
  have hks : ksI b (sk b e k) (lw b e (sk b e k)) = 2 := by
    unfold ksI
    rw [if_neg (tw_ex (by decide) hκ)]; rw [if_neg (tw_ex (by decide) hκ)]; rw [if_pos hκ]
  cases hn1 : nmS b e (lw b e (sk b e k)) 0 (np - 1) with
  | inl f =>
    obtain ⟨kd, p⟩ := f
    have hkd := nm_flt hn1
    refine ⟨.inl (kd, p), WOK.F (by omega), fun x al sl w σ kc hx hkc hc hw hp hh => ?_, fun x al sl w ρ hx hr h30 h8 hp hh => ?_⟩
    · obtain ⟨y, rfl⟩ : ∃ y, x = y + 5 := ⟨x - 5, by omega⟩
      obtain ⟨v, σ2, e1, rfl, f2, f3, f4⟩ := c_word_T (d := y + 1) (al := al) (sl := sl) (w := w) hc (by rw [hkc]; exact hq)
      rw [hkc] at f2 f3
      have w0 := fun {d al sl : Nat} {w : Nat × (Nat → Int)} => c_isWord (d := d) (al := al) (sl := sl) (w := w) (i := 16) (t := tw_put) rfl f2 f3 (by omega) (by omega)
      have w1 := fun {d al sl : Nat} {w : Nat × (Nat → Int)} => c_isWord (d := d) (al := al) (sl := sl) (w := w) (i := 17) (t := tw_take) rfl f2 f3 (by omega) (by omega)
      have w2 := fun {d al sl : Nat} {w : Nat × (Nat → Int)} => c_isWord (d := d) (al := al) (sl := sl) (w := w) (i := 18) (t := tw_lay) rfl f2 f3 (by omega) (by omega)
      rw [if_neg (tw_ex (by decide) hκ)] at w0; rw [if_neg (tw_ex (by decide) hκ)] at w1; rw [if_pos hκ] at w2
      obtain ⟨v', σ3, e2, g1, g2, g3⟩ := c_piano (d := y) (al := al) (sl := sl) (w := w) f2 (by rw [f4 3 (by decide)]; exact hp) p0 p6
      have g4 : Sm [(1, 2)] σ σ3 := f4.trans g3
      obtain ⟨rfl, hF⟩ := g1 kd p hn1
      simp (disch := (first | assumption | omega | exact pm_nl_I _ | exact pm_nl_R _ | exact pm_nl_O | exact pm_nl_S _ | exact pm_rcv_1 | exact pm_rcv_2 | exact pm_rcv_4 | exact pm_rcv_5 | exact ct4_0 | exact ct4_1 | exact ct4_2 | exact ct8_0 | exact ct8_1 | exact ct8_2 | exact ct8_3 | exact ct8_4 | exact tk_0 | exact tk_0_h1 | exact tk_0_h2 | exact tk_0_h3 | exact tk_0_h4 | exact tk_0_h5 | exact tk_0_h6 | exact tk_0_h7 | exact tk_0_h8 | exact tk_0_h9 | exact tk_0_h10 | exact tq_0 | exact tk_1 | exact tq_1 | exact tk_3 | exact tq_3 | exact tk_11 | exact tq_11 | exact tk_19 | exact tq_19 | exact tk_22 | exact tq_22 | exact tk_25 | exact tq_25 | exact tk_28 | exact tq_28 | exact tk_31 | exact tq_31 | exact tk_36 | exact tq_36 | exact tk_40 | exact tq_40 | exact tk_44 | exact tq_44 | exact tk_63 | exact tq_63 | exact tk_66 | exact tq_66 | exact tk_71 | exact tq_71 | exact tk_73 | exact tq_73 | exact tk_75 | exact tq_75 | exact tk_93 | exact tq_93 | exact tk_95 | exact tq_95 | exact tk_113 | exact tq_113 | exact tk_115 | exact tq_115 | exact tk_133 | exact tq_133)) only [cl_X9_parseStep, K_X9_parseStep, D_X9_parseStep_5, K_X9_parseStep_5, D_X9_parseStep_25, K_X9_parseStep_25, D_X9_parseStep_26, K_X9_parseStep_26, D_X9_parseStep_27, K_X9_parseStep_27, D_X9_parseStep_44, K_X9_parseStep_44, D_X9_parseStep_45, K_X9_parseStep_45, D_X9_parseStep_46, K_X9_parseStep_46, D_X9_parseStep_62, K_X9_parseStep_62, D_X9_parseStep_63, K_X9_parseStep_63, D_X9_parseStep_64, K_X9_parseStep_64, D_X9_parseStep_74, K_X9_parseStep_74, D_X9_parseStep_83, K_X9_parseStep_83, D_X9_parseStep_86, K_X9_parseStep_86,  pm_then_if, pm_nl_I, pm_nl_R, pm_nl_S, pm_nl_O, pm_cat_nil, pm_cat_I, pm_cat_R, pm_cat_S, pm_cat_L, pm_then_v, pm_then_n, pm_then_x, pm_rcv_1, pm_rcv_2, pm_rcv_4, pm_rcv_5, e_const, e_lconst, e_ldcs, e_iload_0, e_lload_0, e_aload_0, e_sload_0, e_iinc_0, e_istore_0, e_astore_0, e_lstore_0, e_iload_1, e_lload_1, e_aload_1, e_sload_1, e_iinc_1, e_istore_1, e_astore_1, e_lstore_1, e_iload_2, e_lload_2, e_aload_2, e_sload_2, e_iinc_2, e_istore_2, e_astore_2, e_lstore_2, e_iload_3, e_lload_3, e_aload_3, e_sload_3, e_iinc_3, e_istore_3, e_astore_3, e_lstore_3, e_iload_4, e_lload_4, e_aload_4, e_sload_4, e_iinc_4, e_istore_4, e_astore_4, e_lstore_4, e_iload_5, e_lload_5, e_aload_5, e_sload_5, e_iinc_5, e_istore_5, e_astore_5, e_lstore_5, e_iload_6, e_lload_6, e_aload_6, e_sload_6, e_iinc_6, e_istore_6, e_astore_6, e_lstore_6, e_iload_7, e_lload_7, e_aload_7, e_sload_7, e_iinc_7, e_istore_7, e_astore_7, e_lstore_7, e_iload_8, e_lload_8, e_aload_8, e_sload_8, e_iinc_8, e_istore_8, e_astore_8, e_lstore_8, e_iload_9, e_lload_9, e_aload_9, e_sload_9, e_iinc_9, e_istore_9, e_astore_9, e_lstore_9, e_iload_10, e_lload_10, e_aload_10, e_sload_10, e_iinc_10, e_istore_10, e_astore_10, e_lstore_10, e_iload_11, e_lload_11, e_aload_11, e_sload_11, e_iinc_11, e_istore_11, e_astore_11, e_lstore_11, e_iload_12, e_lload_12, e_aload_12, e_sload_12, e_iinc_12, e_istore_12, e_astore_12, e_lstore_12, e_iload_13, e_lload_13, e_aload_13, e_sload_13, e_iinc_13, e_istore_13, e_astore_13, e_lstore_13, e_iload_14, e_lload_14, e_aload_14, e_sload_14, e_iinc_14, e_istore_14, e_astore_14, e_lstore_14, e_iload_15, e_lload_15, e_aload_15, e_sload_15, e_iinc_15, e_istore_15, e_astore_15, e_lstore_15, e_dup, e_dup2, e_pop, e_iadd, e_isub, e_imul, e_ishl, e_ishr, e_iushr, e_iand, e_ior, e_ixor, e_min, e_max, e_idiv, e_irem, e_ineg, e_i2l, e_ladd, e_lmul, e_lcmp, e_lmax, e_ldiv, e_lrem, e_goto, e_if_eq, e_ic_eq, e_if_ne, e_ic_ne, e_if_lt, e_ic_lt, e_if_ge, e_ic_ge, e_if_gt, e_ic_gt, e_if_le, e_ic_le, e_sw, e_scr, e_slen, e_acpy, e_strl, e_char, e_oinit, e_call_0, e_call_1, e_call_2, e_call_3, e_call_4, e_call_5, e_call_6, e_call_7, e_call_8, e_call_9, e_call_10, e_call_11, e_iret, e_zret, e_lret, e_vret, e_thr, tr_1_0, tg_1_1, tp_1_1, tg_1_2, tp_1_2, tg_1_3, tp_1_3, tg_1_4, tp_1_4, tg_1_5, tp_1_5, tg_1_6, tp_1_6, tg_1_7, tp_1_7, tg_3_0, tp_3_0, tg_3_1, tp_3_1, tg_3_2, tp_3_2, tg_3_3, tp_3_3, tr_3_4, tr_3_5, tr_3_6, tr_3_7, tr_3_8, tr_3_9, tr_3_10, tr_31_0, tr_31_1, tr_31_2, tr_31_3, tr_31_4, tg_31_5, tp_31_5, tg_31_6, tp_31_6, tg_31_7, tp_31_7, tg_31_8, tp_31_8, Nat.reduceAdd, Nat.reduceSub, Nat.reduceMul, Nat.reduceLT, Nat.reduceLeDiff, Nat.reduceEqDiff, Int.reduceAdd, Int.reduceSub, Int.reduceMul, Int.reduceNeg, Int.reduceLT, Int.reduceLE, Int.reduceEq, Int.reduceNe, Int.reduceToNat, ne_eq, not_false_eq_true, not_true_eq_false, Nat.le_refl, true_or, or_true, reduceCtorEq, ↓reduceIte, wr_id, e1, w0, w1, w2, e2]
      exact Rv.some (CPW.F hF (fun i _ => by rw [g4 31 (by decide)]) (g4.mono (by decide)))
    · obtain ⟨y, rfl⟩ : ∃ y, x = y + 7 := ⟨x - 7, by omega⟩
      obtain ⟨x1, y1, ρ1, ρ2, e1, g1, g2, g3, g4⟩ := rs_lay (d := y) (al := al) (sl := sl) (w := w) hr h30 (by omega) (by omega) hqe hp p0 p6 hh n0 n8
      have a1 : ρ1 133 30 = (m : Int) + 1 := by rw [g3.2 30 (by decide) (by decide) (by decide), rsS_30]
      have a8 : ρ1 133 8 = 6 - (l : Int) := by rw [g3.2 8 (by decide) (by decide) (by decide)]; unfold rsS; rw [stv_o (by omega), stv_k (by decide), stv_k (by decide)]; exact h8
      have t30 : stv ρ2 (521 + m) 2 y1 133 30 = ((m + 1 : Nat) : Int) := by rw [stv_o (by omega), g4.2 30 (by decide) (by decide) (by decide), stv_o (by omega), a1]; omega
      have t8 : stv ρ2 (521 + m) 2 y1 133 8 = 6 - (l : Int) := by rw [stv_o (by omega), g4.2 8 (by decide) (by decide) (by decide), stv_o (by omega), a8]
      have tf : WFr m ρ (stv ρ2 (521 + m) 2 y1) := (((((rsS_f (by omega)).tr g3).row (Nat.le_refl _) (by omega)).tr g4).row (Nat.le_refl _) (by omega))
      rw [rs_22 hr sk_sk hks (by decide) (by decide), e1]
      exact r117_x (d := y + 2) (g1 kd p hn1).sr5 t30 (by omega) tf
  | inr f =>
    obtain ⟨q, x0⟩ := f
    obtain ⟨q0, qe, ql⟩ := nm_q (by omega) hqe hn1
    have hx0 := nm_ok hn1
    cases hn2 : nmS b e q 0 (9) with
    | inl f =>
      obtain ⟨kd, p⟩ := f
      have hkd := nm_flt hn2
      refine ⟨.inl (kd, p), WOK.F (by omega), fun x al sl w σ kc hx hkc hc hw hp hh => ?_, fun x al sl w ρ hx hr h30 h8 hp hh => ?_⟩
      · obtain ⟨y, rfl⟩ : ∃ y, x = y + 5 := ⟨x - 5, by omega⟩
        obtain ⟨v, σ2, e1, rfl, f2, f3, f4⟩ := c_word_T (d := y + 1) (al := al) (sl := sl) (w := w) hc (by rw [hkc]; exact hq)
        rw [hkc] at f2 f3
        have w0 := fun {d al sl : Nat} {w : Nat × (Nat → Int)} => c_isWord (d := d) (al := al) (sl := sl) (w := w) (i := 16) (t := tw_put) rfl f2 f3 (by omega) (by omega)
        have w1 := fun {d al sl : Nat} {w : Nat × (Nat → Int)} => c_isWord (d := d) (al := al) (sl := sl) (w := w) (i := 17) (t := tw_take) rfl f2 f3 (by omega) (by omega)
        have w2 := fun {d al sl : Nat} {w : Nat × (Nat → Int)} => c_isWord (d := d) (al := al) (sl := sl) (w := w) (i := 18) (t := tw_lay) rfl f2 f3 (by omega) (by omega)
        rw [if_neg (tw_ex (by decide) hκ)] at w0; rw [if_neg (tw_ex (by decide) hκ)] at w1; rw [if_pos hκ] at w2
        obtain ⟨v', σ3, e2, g1, g2, g3⟩ := c_piano (d := y) (al := al) (sl := sl) (w := w) f2 (by rw [f4 3 (by decide)]; exact hp) p0 p6
        have g4 : Sm [(1, 2)] σ σ3 := f4.trans g3

        obtain ⟨rfl, hC, h5⟩ := g2 q x0 hn1
        obtain ⟨v3, σ4, e3, i1, i2, i3, i4⟩ := c_second (d := y) (al := al) (sl := sl) (w := w) (κ := 2) (hi := 9) hC h5 (CW.sm hw g4) m38
        obtain ⟨rfl, hF⟩ := i1 kd p hn2
        have hh3 : σ3 3 0 = nh := by rw [g4 3 (by decide)]; exact hh
        simp (disch := (first | assumption | omega | exact pm_nl_I _ | exact pm_nl_R _ | exact pm_nl_O | exact pm_nl_S _ | exact pm_rcv_1 | exact pm_rcv_2 | exact pm_rcv_4 | exact pm_rcv_5 | exact ct4_0 | exact ct4_1 | exact ct4_2 | exact ct8_0 | exact ct8_1 | exact ct8_2 | exact ct8_3 | exact ct8_4 | exact tk_0 | exact tk_0_h1 | exact tk_0_h2 | exact tk_0_h3 | exact tk_0_h4 | exact tk_0_h5 | exact tk_0_h6 | exact tk_0_h7 | exact tk_0_h8 | exact tk_0_h9 | exact tk_0_h10 | exact tq_0 | exact tk_1 | exact tq_1 | exact tk_3 | exact tq_3 | exact tk_11 | exact tq_11 | exact tk_19 | exact tq_19 | exact tk_22 | exact tq_22 | exact tk_25 | exact tq_25 | exact tk_28 | exact tq_28 | exact tk_31 | exact tq_31 | exact tk_36 | exact tq_36 | exact tk_40 | exact tq_40 | exact tk_44 | exact tq_44 | exact tk_63 | exact tq_63 | exact tk_66 | exact tq_66 | exact tk_71 | exact tq_71 | exact tk_73 | exact tq_73 | exact tk_75 | exact tq_75 | exact tk_93 | exact tq_93 | exact tk_95 | exact tq_95 | exact tk_113 | exact tq_113 | exact tk_115 | exact tq_115 | exact tk_133 | exact tq_133)) only [cl_X9_parseStep, K_X9_parseStep, D_X9_parseStep_5, K_X9_parseStep_5, D_X9_parseStep_25, K_X9_parseStep_25, D_X9_parseStep_26, K_X9_parseStep_26, D_X9_parseStep_27, K_X9_parseStep_27, D_X9_parseStep_44, K_X9_parseStep_44, D_X9_parseStep_45, K_X9_parseStep_45, D_X9_parseStep_46, K_X9_parseStep_46, D_X9_parseStep_62, K_X9_parseStep_62, D_X9_parseStep_63, K_X9_parseStep_63, D_X9_parseStep_64, K_X9_parseStep_64, D_X9_parseStep_74, K_X9_parseStep_74, D_X9_parseStep_83, K_X9_parseStep_83, D_X9_parseStep_86, K_X9_parseStep_86,  pm_then_if, pm_nl_I, pm_nl_R, pm_nl_S, pm_nl_O, pm_cat_nil, pm_cat_I, pm_cat_R, pm_cat_S, pm_cat_L, pm_then_v, pm_then_n, pm_then_x, pm_rcv_1, pm_rcv_2, pm_rcv_4, pm_rcv_5, e_const, e_lconst, e_ldcs, e_iload_0, e_lload_0, e_aload_0, e_sload_0, e_iinc_0, e_istore_0, e_astore_0, e_lstore_0, e_iload_1, e_lload_1, e_aload_1, e_sload_1, e_iinc_1, e_istore_1, e_astore_1, e_lstore_1, e_iload_2, e_lload_2, e_aload_2, e_sload_2, e_iinc_2, e_istore_2, e_astore_2, e_lstore_2, e_iload_3, e_lload_3, e_aload_3, e_sload_3, e_iinc_3, e_istore_3, e_astore_3, e_lstore_3, e_iload_4, e_lload_4, e_aload_4, e_sload_4, e_iinc_4, e_istore_4, e_astore_4, e_lstore_4, e_iload_5, e_lload_5, e_aload_5, e_sload_5, e_iinc_5, e_istore_5, e_astore_5, e_lstore_5, e_iload_6, e_lload_6, e_aload_6, e_sload_6, e_iinc_6, e_istore_6, e_astore_6, e_lstore_6, e_iload_7, e_lload_7, e_aload_7, e_sload_7, e_iinc_7, e_istore_7, e_astore_7, e_lstore_7, e_iload_8, e_lload_8, e_aload_8, e_sload_8, e_iinc_8, e_istore_8, e_astore_8, e_lstore_8, e_iload_9, e_lload_9, e_aload_9, e_sload_9, e_iinc_9, e_istore_9, e_astore_9, e_lstore_9, e_iload_10, e_lload_10, e_aload_10, e_sload_10, e_iinc_10, e_istore_10, e_astore_10, e_lstore_10, e_iload_11, e_lload_11, e_aload_11, e_sload_11, e_iinc_11, e_istore_11, e_astore_11, e_lstore_11, e_iload_12, e_lload_12, e_aload_12, e_sload_12, e_iinc_12, e_istore_12, e_astore_12, e_lstore_12, e_iload_13, e_lload_13, e_aload_13, e_sload_13, e_iinc_13, e_istore_13, e_astore_13, e_lstore_13, e_iload_14, e_lload_14, e_aload_14, e_sload_14, e_iinc_14, e_istore_14, e_astore_14, e_lstore_14, e_iload_15, e_lload_15, e_aload_15, e_sload_15, e_iinc_15, e_istore_15, e_astore_15, e_lstore_15, e_dup, e_dup2, e_pop, e_iadd, e_isub, e_imul, e_ishl, e_ishr, e_iushr, e_iand, e_ior, e_ixor, e_min, e_max, e_idiv, e_irem, e_ineg, e_i2l, e_ladd, e_lmul, e_lcmp, e_lmax, e_ldiv, e_lrem, e_goto, e_if_eq, e_ic_eq, e_if_ne, e_ic_ne, e_if_lt, e_ic_lt, e_if_ge, e_ic_ge, e_if_gt, e_ic_gt, e_if_le, e_ic_le, e_sw, e_scr, e_slen, e_acpy, e_strl, e_char, e_oinit, e_call_0, e_call_1, e_call_2, e_call_3, e_call_4, e_call_5, e_call_6, e_call_7, e_call_8, e_call_9, e_call_10, e_call_11, e_iret, e_zret, e_lret, e_vret, e_thr, tr_1_0, tg_1_1, tp_1_1, tg_1_2, tp_1_2, tg_1_3, tp_1_3, tg_1_4, tp_1_4, tg_1_5, tp_1_5, tg_1_6, tp_1_6, tg_1_7, tp_1_7, tg_3_0, tp_3_0, tg_3_1, tp_3_1, tg_3_2, tp_3_2, tg_3_3, tp_3_3, tr_3_4, tr_3_5, tr_3_6, tr_3_7, tr_3_8, tr_3_9, tr_3_10, tr_31_0, tr_31_1, tr_31_2, tr_31_3, tr_31_4, tg_31_5, tp_31_5, tg_31_6, tp_31_6, tg_31_7, tp_31_7, tg_31_8, tp_31_8, Nat.reduceAdd, Nat.reduceSub, Nat.reduceMul, Nat.reduceLT, Nat.reduceLeDiff, Nat.reduceEqDiff, Int.reduceAdd, Int.reduceSub, Int.reduceMul, Int.reduceNeg, Int.reduceLT, Int.reduceLE, Int.reduceEq, Int.reduceNe, Int.reduceToNat, ne_eq, not_false_eq_true, not_true_eq_false, Nat.le_refl, true_or, or_true, reduceCtorEq, ↓reduceIte, wr_id, e1, w0, w1, w2, e2, hh3, e3]
        exact Rv.some (CPW.F hF (fun i hi => (i3 i hi).trans (by rw [g4 31 (by decide)])) ((g4.mono (by decide)).trans i4))
      · obtain ⟨y, rfl⟩ : ∃ y, x = y + 7 := ⟨x - 7, by omega⟩
        obtain ⟨x1, y1, ρ1, ρ2, e1, g1, g2, g3, g4⟩ := rs_lay (d := y) (al := al) (sl := sl) (w := w) hr h30 (by omega) (by omega) hqe hp p0 p6 hh n0 n8
        have a1 : ρ1 133 30 = (m : Int) + 1 := by rw [g3.2 30 (by decide) (by decide) (by decide), rsS_30]
        have a8 : ρ1 133 8 = 6 - (l : Int) := by rw [g3.2 8 (by decide) (by decide) (by decide)]; unfold rsS; rw [stv_o (by omega), stv_k (by decide), stv_k (by decide)]; exact h8
        have t30 : stv ρ2 (521 + m) 2 y1 133 30 = ((m + 1 : Nat) : Int) := by rw [stv_o (by omega), g4.2 30 (by decide) (by decide) (by decide), stv_o (by omega), a1]; omega
        have t8 : stv ρ2 (521 + m) 2 y1 133 8 = 6 - (l : Int) := by rw [stv_o (by omega), g4.2 8 (by decide) (by decide) (by decide), stv_o (by omega), a8]
        have tf : WFr m ρ (stv ρ2 (521 + m) 2 y1) := (((((rsS_f (by omega)).tr g3).row (Nat.le_refl _) (by omega)).tr g4).row (Nat.le_refl _) (by omega))
        rw [rs_22 hr sk_sk hks (by decide) (by decide), e1]

        obtain ⟨rfl, z1, z2⟩ := g2 q x0 hn1
        exact r117_x (d := y + 2) (z1 kd p hn2).sr5 t30 (by omega) tf
    | inr f =>
      obtain ⟨q2, y0⟩ := f
      obtain ⟨q20, q2e, q2l⟩ := nm_q q0 qe hn2
      have hy0 := nm_ok hn2
      refine ⟨.inr (q2, m + 1, tbU T m 2 x0 y0), WOK.T (by omega) q2e hm e5 ?_, fun x al sl w σ kc hx hkc hc hw hp hh => ?_, fun x al sl w ρ hx hr h30 h8 hp hh => ?_⟩
      · unfold stK
        obtain ⟨t1, t2, t3, t4⟩ := tbU_v (m := m) (T := T) (x := 2) (y := x0) (z := y0)
        rw [t1, t2, t3]
        omega
      · obtain ⟨y, rfl⟩ : ∃ y, x = y + 5 := ⟨x - 5, by omega⟩
        obtain ⟨v, σ2, e1, rfl, f2, f3, f4⟩ := c_word_T (d := y + 1) (al := al) (sl := sl) (w := w) hc (by rw [hkc]; exact hq)
        rw [hkc] at f2 f3
        have w0 := fun {d al sl : Nat} {w : Nat × (Nat → Int)} => c_isWord (d := d) (al := al) (sl := sl) (w := w) (i := 16) (t := tw_put) rfl f2 f3 (by omega) (by omega)
        have w1 := fun {d al sl : Nat} {w : Nat × (Nat → Int)} => c_isWord (d := d) (al := al) (sl := sl) (w := w) (i := 17) (t := tw_take) rfl f2 f3 (by omega) (by omega)
        have w2 := fun {d al sl : Nat} {w : Nat × (Nat → Int)} => c_isWord (d := d) (al := al) (sl := sl) (w := w) (i := 18) (t := tw_lay) rfl f2 f3 (by omega) (by omega)
        rw [if_neg (tw_ex (by decide) hκ)] at w0; rw [if_neg (tw_ex (by decide) hκ)] at w1; rw [if_pos hκ] at w2
        obtain ⟨v', σ3, e2, g1, g2, g3⟩ := c_piano (d := y) (al := al) (sl := sl) (w := w) f2 (by rw [f4 3 (by decide)]; exact hp) p0 p6
        have g4 : Sm [(1, 2)] σ σ3 := f4.trans g3

        obtain ⟨rfl, hC, h5⟩ := g2 q x0 hn1
        obtain ⟨v3, σ4, e3, i1, i2, i3, i4⟩ := c_second (d := y) (al := al) (sl := sl) (w := w) (κ := 2) (hi := 9) hC h5 (CW.sm hw g4) m38
        obtain ⟨rfl, hD, hW⟩ := i2 q2 y0 hn2
        have hh3 : σ3 3 0 = nh := by rw [g4 3 (by decide)]; exact hh
        simp (disch := (first | assumption | omega | exact pm_nl_I _ | exact pm_nl_R _ | exact pm_nl_O | exact pm_nl_S _ | exact pm_rcv_1 | exact pm_rcv_2 | exact pm_rcv_4 | exact pm_rcv_5 | exact ct4_0 | exact ct4_1 | exact ct4_2 | exact ct8_0 | exact ct8_1 | exact ct8_2 | exact ct8_3 | exact ct8_4 | exact tk_0 | exact tk_0_h1 | exact tk_0_h2 | exact tk_0_h3 | exact tk_0_h4 | exact tk_0_h5 | exact tk_0_h6 | exact tk_0_h7 | exact tk_0_h8 | exact tk_0_h9 | exact tk_0_h10 | exact tq_0 | exact tk_1 | exact tq_1 | exact tk_3 | exact tq_3 | exact tk_11 | exact tq_11 | exact tk_19 | exact tq_19 | exact tk_22 | exact tq_22 | exact tk_25 | exact tq_25 | exact tk_28 | exact tq_28 | exact tk_31 | exact tq_31 | exact tk_36 | exact tq_36 | exact tk_40 | exact tq_40 | exact tk_44 | exact tq_44 | exact tk_63 | exact tq_63 | exact tk_66 | exact tq_66 | exact tk_71 | exact tq_71 | exact tk_73 | exact tq_73 | exact tk_75 | exact tq_75 | exact tk_93 | exact tq_93 | exact tk_95 | exact tq_95 | exact tk_113 | exact tq_113 | exact tk_115 | exact tq_115 | exact tk_133 | exact tq_133)) only [cl_X9_parseStep, K_X9_parseStep, D_X9_parseStep_5, K_X9_parseStep_5, D_X9_parseStep_25, K_X9_parseStep_25, D_X9_parseStep_26, K_X9_parseStep_26, D_X9_parseStep_27, K_X9_parseStep_27, D_X9_parseStep_44, K_X9_parseStep_44, D_X9_parseStep_45, K_X9_parseStep_45, D_X9_parseStep_46, K_X9_parseStep_46, D_X9_parseStep_62, K_X9_parseStep_62, D_X9_parseStep_63, K_X9_parseStep_63, D_X9_parseStep_64, K_X9_parseStep_64, D_X9_parseStep_74, K_X9_parseStep_74, D_X9_parseStep_83, K_X9_parseStep_83, D_X9_parseStep_86, K_X9_parseStep_86,  pm_then_if, pm_nl_I, pm_nl_R, pm_nl_S, pm_nl_O, pm_cat_nil, pm_cat_I, pm_cat_R, pm_cat_S, pm_cat_L, pm_then_v, pm_then_n, pm_then_x, pm_rcv_1, pm_rcv_2, pm_rcv_4, pm_rcv_5, e_const, e_lconst, e_ldcs, e_iload_0, e_lload_0, e_aload_0, e_sload_0, e_iinc_0, e_istore_0, e_astore_0, e_lstore_0, e_iload_1, e_lload_1, e_aload_1, e_sload_1, e_iinc_1, e_istore_1, e_astore_1, e_lstore_1, e_iload_2, e_lload_2, e_aload_2, e_sload_2, e_iinc_2, e_istore_2, e_astore_2, e_lstore_2, e_iload_3, e_lload_3, e_aload_3, e_sload_3, e_iinc_3, e_istore_3, e_astore_3, e_lstore_3, e_iload_4, e_lload_4, e_aload_4, e_sload_4, e_iinc_4, e_istore_4, e_astore_4, e_lstore_4, e_iload_5, e_lload_5, e_aload_5, e_sload_5, e_iinc_5, e_istore_5, e_astore_5, e_lstore_5, e_iload_6, e_lload_6, e_aload_6, e_sload_6, e_iinc_6, e_istore_6, e_astore_6, e_lstore_6, e_iload_7, e_lload_7, e_aload_7, e_sload_7, e_iinc_7, e_istore_7, e_astore_7, e_lstore_7, e_iload_8, e_lload_8, e_aload_8, e_sload_8, e_iinc_8, e_istore_8, e_astore_8, e_lstore_8, e_iload_9, e_lload_9, e_aload_9, e_sload_9, e_iinc_9, e_istore_9, e_astore_9, e_lstore_9, e_iload_10, e_lload_10, e_aload_10, e_sload_10, e_iinc_10, e_istore_10, e_astore_10, e_lstore_10, e_iload_11, e_lload_11, e_aload_11, e_sload_11, e_iinc_11, e_istore_11, e_astore_11, e_lstore_11, e_iload_12, e_lload_12, e_aload_12, e_sload_12, e_iinc_12, e_istore_12, e_astore_12, e_lstore_12, e_iload_13, e_lload_13, e_aload_13, e_sload_13, e_iinc_13, e_istore_13, e_astore_13, e_lstore_13, e_iload_14, e_lload_14, e_aload_14, e_sload_14, e_iinc_14, e_istore_14, e_astore_14, e_lstore_14, e_iload_15, e_lload_15, e_aload_15, e_sload_15, e_iinc_15, e_istore_15, e_astore_15, e_lstore_15, e_dup, e_dup2, e_pop, e_iadd, e_isub, e_imul, e_ishl, e_ishr, e_iushr, e_iand, e_ior, e_ixor, e_min, e_max, e_idiv, e_irem, e_ineg, e_i2l, e_ladd, e_lmul, e_lcmp, e_lmax, e_ldiv, e_lrem, e_goto, e_if_eq, e_ic_eq, e_if_ne, e_ic_ne, e_if_lt, e_ic_lt, e_if_ge, e_ic_ge, e_if_gt, e_ic_gt, e_if_le, e_ic_le, e_sw, e_scr, e_slen, e_acpy, e_strl, e_char, e_oinit, e_call_0, e_call_1, e_call_2, e_call_3, e_call_4, e_call_5, e_call_6, e_call_7, e_call_8, e_call_9, e_call_10, e_call_11, e_iret, e_zret, e_lret, e_vret, e_thr, tr_1_0, tg_1_1, tp_1_1, tg_1_2, tp_1_2, tg_1_3, tp_1_3, tg_1_4, tp_1_4, tg_1_5, tp_1_5, tg_1_6, tp_1_6, tg_1_7, tp_1_7, tg_3_0, tp_3_0, tg_3_1, tp_3_1, tg_3_2, tp_3_2, tg_3_3, tp_3_3, tr_3_4, tr_3_5, tr_3_6, tr_3_7, tr_3_8, tr_3_9, tr_3_10, tr_31_0, tr_31_1, tr_31_2, tr_31_3, tr_31_4, tg_31_5, tp_31_5, tg_31_6, tp_31_6, tg_31_7, tp_31_7, tg_31_8, tp_31_8, Nat.reduceAdd, Nat.reduceSub, Nat.reduceMul, Nat.reduceLT, Nat.reduceLeDiff, Nat.reduceEqDiff, Int.reduceAdd, Int.reduceSub, Int.reduceMul, Int.reduceNeg, Int.reduceLT, Int.reduceLE, Int.reduceEq, Int.reduceNe, Int.reduceToNat, ne_eq, not_false_eq_true, not_true_eq_false, Nat.le_refl, true_or, or_true, reduceCtorEq, ↓reduceIte, wr_id, e1, w0, w1, w2, e2, hh3, e3]
        exact Rv.some (CPW.T hD hW (fun i hi => (i3 i hi).trans (by rw [g4 31 (by decide)])) ((g4.mono (by decide)).trans i4))
      · obtain ⟨y, rfl⟩ : ∃ y, x = y + 7 := ⟨x - 7, by omega⟩
        obtain ⟨x1, y1, ρ1, ρ2, e1, g1, g2, g3, g4⟩ := rs_lay (d := y) (al := al) (sl := sl) (w := w) hr h30 (by omega) (by omega) hqe hp p0 p6 hh n0 n8
        have a1 : ρ1 133 30 = (m : Int) + 1 := by rw [g3.2 30 (by decide) (by decide) (by decide), rsS_30]
        have a8 : ρ1 133 8 = 6 - (l : Int) := by rw [g3.2 8 (by decide) (by decide) (by decide)]; unfold rsS; rw [stv_o (by omega), stv_k (by decide), stv_k (by decide)]; exact h8
        have t30 : stv ρ2 (521 + m) 2 y1 133 30 = ((m + 1 : Nat) : Int) := by rw [stv_o (by omega), g4.2 30 (by decide) (by decide) (by decide), stv_o (by omega), a1]; omega
        have t8 : stv ρ2 (521 + m) 2 y1 133 8 = 6 - (l : Int) := by rw [stv_o (by omega), g4.2 8 (by decide) (by decide) (by decide), stv_o (by omega), a8]
        have tf : WFr m ρ (stv ρ2 (521 + m) 2 y1) := (((((rsS_f (by omega)).tr g3).row (Nat.le_refl _) (by omega)).tr g4).row (Nat.le_refl _) (by omega))
        rw [rs_22 hr sk_sk hks (by decide) (by decide), e1]

        obtain ⟨rfl, z1, z2⟩ := g2 q x0 hn1
        obtain ⟨rfl, hR⟩ := z2 q2 y0 hn2
        refine r117_w (d := y + 2) hR.sr5 t30 t8 (by omega) (rw_one ?_ (fun _ => ?_) (fun _ => stv_s)) tf
        · rw [stv_k (by decide), g4.1 (521 + m) (by simp only [off, Bool.and_true, Bool.or_eq_true, decide_eq_true_eq]; omega), stv_k (by decide), g3.1 (521 + m) (by simp only [off, Bool.and_true, Bool.or_eq_true, decide_eq_true_eq]; omega)]
          unfold rsS
          rw [stv_s]
        · rw [stv_k (by decide), g4.1 (521 + m) (by simp only [off, Bool.and_true, Bool.or_eq_true, decide_eq_true_eq]; omega), stv_s]
