/-! PURE, 85: work as the law makes it -/
theorem wk_full {al sl : Nat} {w : Nat × (Nat → Int)} {σ : pm_S} (h : INV σ) {n : Int} (c : 0 ≤ n ∧ n ≤ 150 ∧ n ≤ σ 1 1) (hf : σ 44 1 = 16) : JT 281 222 [vR 0, vI n, vR 690] [vR 133, vI n] (fun z => vI z) al sl w σ := by
  obtain ⟨⟨t1, t2⟩, t3, t4, t5, t6⟩ := h.2.2.2.2.1
  have p37 := h.2.2.2.2.2.2.1.2.1
  have hC := opn_CT (σ := σ) c.1 (show n ≤ 600 by omega) t5
  have hF : CF (σ 2) 0 (-1) (opn σ n) := ⟨hC.2.1, hC.2.2.2.2.1, hC.2.2.2.2.2.1, hC.2.2.2.2.2.2⟩
  have hS : Sm [(1, 2)] σ (opn σ n) := opn_Sm
  have g44 : opn σ n 44 1 = 16 := by rw [hS 44 (by decide)]; exact hf
  have k1 : Rv (cl (959 + 40) 117 [vR 0, vI n] (al, sl, SH, w) σ) (al, sl, SH, w) (fun v σ1 => v = vI (-20) ∧ σ1 = opn σ n) := by
    have ho := fun {d al sl : Nat} {w : Nat × (Nat → Int)} => c_openT (d := d) (al := al) (sl := sl) (w := w) (m := 150) (σ := σ) rfl c t2
    generalize hd : (959 : Nat) = d
    simp (disch := (first | assumption | omega | exact pm_nl_I _ | exact pm_nl_R _ | exact pm_nl_O | exact pm_nl_S _ | exact pm_rcv_1 | exact pm_rcv_2 | exact pm_rcv_4 | exact pm_rcv_5 | exact ct4_0 | exact ct4_1 | exact ct4_2 | exact ct8_0 | exact ct8_1 | exact ct8_2 | exact ct8_3 | exact ct8_4 | exact tk_0 | exact tk_0_h1 | exact tk_0_h2 | exact tk_0_h3 | exact tk_0_h4 | exact tk_0_h5 | exact tk_0_h6 | exact tk_0_h7 | exact tk_0_h8 | exact tk_0_h9 | exact tk_0_h10 | exact tq_0 | exact tk_1 | exact tq_1 | exact tk_3 | exact tq_3 | exact tk_11 | exact tq_11 | exact tk_19 | exact tq_19 | exact tk_22 | exact tq_22 | exact tk_25 | exact tq_25 | exact tk_28 | exact tq_28 | exact tk_31 | exact tq_31 | exact tk_36 | exact tq_36 | exact tk_40 | exact tq_40 | exact tk_44 | exact tq_44 | exact tk_63 | exact tq_63 | exact tk_66 | exact tq_66 | exact tk_71 | exact tq_71 | exact tk_73 | exact tq_73 | exact tk_75 | exact tq_75 | exact tk_93 | exact tq_93 | exact tk_95 | exact tq_95 | exact tk_113 | exact tq_113 | exact tk_115 | exact tq_115 | exact tk_133 | exact tq_133)) only [cl_X11_work, K_X11_work, D_X11_work_11, K_X11_work_11, D_X11_work_23, K_X11_work_23,  pm_then_if, pm_nl_I, pm_nl_R, pm_nl_S, pm_nl_O, pm_cat_nil, pm_cat_I, pm_cat_R, pm_cat_S, pm_cat_L, pm_then_v, pm_then_n, pm_then_x, pm_rcv_1, pm_rcv_2, pm_rcv_4, pm_rcv_5, e_const, e_lconst, e_ldcs, e_iload_0, e_lload_0, e_aload_0, e_sload_0, e_iinc_0, e_istore_0, e_astore_0, e_lstore_0, e_iload_1, e_lload_1, e_aload_1, e_sload_1, e_iinc_1, e_istore_1, e_astore_1, e_lstore_1, e_iload_2, e_lload_2, e_aload_2, e_sload_2, e_iinc_2, e_istore_2, e_astore_2, e_lstore_2, e_iload_3, e_lload_3, e_aload_3, e_sload_3, e_iinc_3, e_istore_3, e_astore_3, e_lstore_3, e_iload_4, e_lload_4, e_aload_4, e_sload_4, e_iinc_4, e_istore_4, e_astore_4, e_lstore_4, e_iload_5, e_lload_5, e_aload_5, e_sload_5, e_iinc_5, e_istore_5, e_astore_5, e_lstore_5, e_iload_6, e_lload_6, e_aload_6, e_sload_6, e_iinc_6, e_istore_6, e_astore_6, e_lstore_6, e_iload_7, e_lload_7, e_aload_7, e_sload_7, e_iinc_7, e_istore_7, e_astore_7, e_lstore_7, e_iload_8, e_lload_8, e_aload_8, e_sload_8, e_iinc_8, e_istore_8, e_astore_8, e_lstore_8, e_iload_9, e_lload_9, e_aload_9, e_sload_9, e_iinc_9, e_istore_9, e_astore_9, e_lstore_9, e_iload_10, e_lload_10, e_aload_10, e_sload_10, e_iinc_10, e_istore_10, e_astore_10, e_lstore_10, e_iload_11, e_lload_11, e_aload_11, e_sload_11, e_iinc_11, e_istore_11, e_astore_11, e_lstore_11, e_iload_12, e_lload_12, e_aload_12, e_sload_12, e_iinc_12, e_istore_12, e_astore_12, e_lstore_12, e_iload_13, e_lload_13, e_aload_13, e_sload_13, e_iinc_13, e_istore_13, e_astore_13, e_lstore_13, e_iload_14, e_lload_14, e_aload_14, e_sload_14, e_iinc_14, e_istore_14, e_astore_14, e_lstore_14, e_iload_15, e_lload_15, e_aload_15, e_sload_15, e_iinc_15, e_istore_15, e_astore_15, e_lstore_15, e_dup, e_dup2, e_pop, e_iadd, e_isub, e_imul, e_ishl, e_ishr, e_iushr, e_iand, e_ior, e_ixor, e_min, e_max, e_idiv, e_irem, e_ineg, e_i2l, e_ladd, e_lmul, e_lcmp, e_lmax, e_ldiv, e_lrem, e_goto, e_if_eq, e_ic_eq, e_if_ne, e_ic_ne, e_if_lt, e_ic_lt, e_if_ge, e_ic_ge, e_if_gt, e_ic_gt, e_if_le, e_ic_le, e_sw, e_scr, e_slen, e_acpy, e_strl, e_char, e_oinit, e_call_0, e_call_1, e_call_2, e_call_3, e_call_4, e_call_5, e_call_6, e_call_7, e_call_8, e_call_9, e_call_10, e_call_11, e_iret, e_zret, e_lret, e_vret, e_thr, tr_0_0, tr_0_1, tr_0_2, tr_0_3, tr_0_4, tr_0_5, tr_0_6, tr_0_7, tr_0_8, tr_0_9, tr_0_10, tr_0_11, tg_0_12, tp_0_12, tr_0_13, tr_0_14, tr_0_15, tr_0_16, tg_0_17, tp_0_17, tg_0_18, tp_0_18, tg_0_19, tp_0_19, tr_44_0, tg_44_1, tp_44_1, Nat.reduceAdd, Nat.reduceSub, Nat.reduceMul, Nat.reduceLT, Nat.reduceLeDiff, Nat.reduceEqDiff, Int.reduceAdd, Int.reduceSub, Int.reduceMul, Int.reduceNeg, Int.reduceLT, Int.reduceLE, Int.reduceEq, Int.reduceNe, Int.reduceToNat, ne_eq, not_false_eq_true, not_true_eq_false, Nat.le_refl, true_or, or_true, reduceCtorEq, ↓reduceIte, wr_id, ho, g44]
    exact Rv.some ⟨rfl, rfl⟩
  obtain ⟨x, σ1, ⟨rfl, _, rfl⟩, e1⟩ := lo_work (d := 940) (k1.ex (V := -20) (fun v σ1 hp => hp.1))
  have k2 : ∀ d, cl (d + 40) 222 [vR 133, vI n] (al, sl, SH, w) (stv (opn σ n) 690 0 (-20)) = some (.inl (some (vI (-20))), (al, sl, SH, w), stv (stv (stv (stv (opn σ n) 690 0 (-20)) 133 0 0) 133 1 0) 133 3 (-1)) := by
    intro d
    have e133 : ∀ i, stv (opn σ n) 690 0 (-20) 133 i = σ 133 i := fun i => by rw [stv_o (by decide), hS 133 (by decide)]
    generalize stv (opn σ n) 690 0 (-20) = τ at *
    have gs : n ≤ stv τ 133 0 0 133 1 := by rw [stv_k (by decide), e133, t3]; exact c.2.2
    have g37 : stv τ 133 0 0 133 37 = 16 := by rw [stv_k (by decide), e133, p37]; exact hf
    have n1 : n ≤ 150 := c.2.1
    simp (disch := (first | assumption | omega | exact pm_nl_I _ | exact pm_nl_R _ | exact pm_nl_O | exact pm_nl_S _ | exact pm_rcv_1 | exact pm_rcv_2 | exact pm_rcv_4 | exact pm_rcv_5 | exact ct4_0 | exact ct4_1 | exact ct4_2 | exact ct8_0 | exact ct8_1 | exact ct8_2 | exact ct8_3 | exact ct8_4 | exact tk_0 | exact tk_0_h1 | exact tk_0_h2 | exact tk_0_h3 | exact tk_0_h4 | exact tk_0_h5 | exact tk_0_h6 | exact tk_0_h7 | exact tk_0_h8 | exact tk_0_h9 | exact tk_0_h10 | exact tq_0 | exact tk_1 | exact tq_1 | exact tk_3 | exact tq_3 | exact tk_11 | exact tq_11 | exact tk_19 | exact tq_19 | exact tk_22 | exact tq_22 | exact tk_25 | exact tq_25 | exact tk_28 | exact tq_28 | exact tk_31 | exact tq_31 | exact tk_36 | exact tq_36 | exact tk_40 | exact tq_40 | exact tk_44 | exact tq_44 | exact tk_63 | exact tq_63 | exact tk_66 | exact tq_66 | exact tk_71 | exact tq_71 | exact tk_73 | exact tq_73 | exact tk_75 | exact tq_75 | exact tk_93 | exact tq_93 | exact tk_95 | exact tq_95 | exact tk_113 | exact tq_113 | exact tk_115 | exact tq_115 | exact tk_133 | exact tq_133)) only [cl_X12_work, K_X12_work, D_X12_work_13, K_X12_work_13, D_X12_work_15, K_X12_work_15, D_X12_work_16, K_X12_work_16, D_X12_work_22, K_X12_work_22, D_X12_work_34, K_X12_work_34, D_X12_work_40, K_X12_work_40, D_X12_work_53, K_X12_work_53, D_X12_work_59, K_X12_work_59,  pm_then_if, pm_nl_I, pm_nl_R, pm_nl_S, pm_nl_O, pm_cat_nil, pm_cat_I, pm_cat_R, pm_cat_S, pm_cat_L, pm_then_v, pm_then_n, pm_then_x, pm_rcv_1, pm_rcv_2, pm_rcv_4, pm_rcv_5, e_const, e_lconst, e_ldcs, e_iload_0, e_lload_0, e_aload_0, e_sload_0, e_iinc_0, e_istore_0, e_astore_0, e_lstore_0, e_iload_1, e_lload_1, e_aload_1, e_sload_1, e_iinc_1, e_istore_1, e_astore_1, e_lstore_1, e_iload_2, e_lload_2, e_aload_2, e_sload_2, e_iinc_2, e_istore_2, e_astore_2, e_lstore_2, e_iload_3, e_lload_3, e_aload_3, e_sload_3, e_iinc_3, e_istore_3, e_astore_3, e_lstore_3, e_iload_4, e_lload_4, e_aload_4, e_sload_4, e_iinc_4, e_istore_4, e_astore_4, e_lstore_4, e_iload_5, e_lload_5, e_aload_5, e_sload_5, e_iinc_5, e_istore_5, e_astore_5, e_lstore_5, e_iload_6, e_lload_6, e_aload_6, e_sload_6, e_iinc_6, e_istore_6, e_astore_6, e_lstore_6, e_iload_7, e_lload_7, e_aload_7, e_sload_7, e_iinc_7, e_istore_7, e_astore_7, e_lstore_7, e_iload_8, e_lload_8, e_aload_8, e_sload_8, e_iinc_8, e_istore_8, e_astore_8, e_lstore_8, e_iload_9, e_lload_9, e_aload_9, e_sload_9, e_iinc_9, e_istore_9, e_astore_9, e_lstore_9, e_iload_10, e_lload_10, e_aload_10, e_sload_10, e_iinc_10, e_istore_10, e_astore_10, e_lstore_10, e_iload_11, e_lload_11, e_aload_11, e_sload_11, e_iinc_11, e_istore_11, e_astore_11, e_lstore_11, e_iload_12, e_lload_12, e_aload_12, e_sload_12, e_iinc_12, e_istore_12, e_astore_12, e_lstore_12, e_iload_13, e_lload_13, e_aload_13, e_sload_13, e_iinc_13, e_istore_13, e_astore_13, e_lstore_13, e_iload_14, e_lload_14, e_aload_14, e_sload_14, e_iinc_14, e_istore_14, e_astore_14, e_lstore_14, e_iload_15, e_lload_15, e_aload_15, e_sload_15, e_iinc_15, e_istore_15, e_astore_15, e_lstore_15, e_dup, e_dup2, e_pop, e_iadd, e_isub, e_imul, e_ishl, e_ishr, e_iushr, e_iand, e_ior, e_ixor, e_min, e_max, e_idiv, e_irem, e_ineg, e_i2l, e_ladd, e_lmul, e_lcmp, e_lmax, e_ldiv, e_lrem, e_goto, e_if_eq, e_ic_eq, e_if_ne, e_ic_ne, e_if_lt, e_ic_lt, e_if_ge, e_ic_ge, e_if_gt, e_ic_gt, e_if_le, e_ic_le, e_sw, e_scr, e_slen, e_acpy, e_strl, e_char, e_oinit, e_call_0, e_call_1, e_call_2, e_call_3, e_call_4, e_call_5, e_call_6, e_call_7, e_call_8, e_call_9, e_call_10, e_call_11, e_iret, e_zret, e_lret, e_vret, e_thr, tg_133_0, tp_133_0, tg_133_1, tp_133_1, tg_133_2, tp_133_2, tg_133_3, tp_133_3, tg_133_4, tp_133_4, tg_133_5, tp_133_5, tg_133_6, tp_133_6, tg_133_7, tp_133_7, tg_133_8, tp_133_8, tr_133_9, tr_133_10, tr_133_11, tr_133_12, tr_133_13, tr_133_14, tr_133_15, tr_133_16, tr_133_17, tr_133_18, tr_133_19, tr_133_20, tg_133_21, tp_133_21, tg_133_22, tp_133_22, tr_133_23, tr_133_24, tr_133_25, tr_133_26, tr_133_27, tr_133_28, tr_133_29, tg_133_30, tp_133_30, tr_133_31, tr_133_32, tr_133_33, tr_133_34, tr_133_35, tg_133_36, tp_133_36, tg_133_37, tp_133_37, tg_133_38, tp_133_38, tg_133_39, tp_133_39, tg_133_40, tp_133_40, tg_133_41, tp_133_41, tg_133_42, tp_133_42, tr_133_43, tg_133_44, tp_133_44, tr_133_45, tr_133_46, tr_133_47, tg_133_48, tp_133_48, tg_133_49, tp_133_49, Nat.reduceAdd, Nat.reduceSub, Nat.reduceMul, Nat.reduceLT, Nat.reduceLeDiff, Nat.reduceEqDiff, Int.reduceAdd, Int.reduceSub, Int.reduceMul, Int.reduceNeg, Int.reduceLT, Int.reduceLE, Int.reduceEq, Int.reduceNe, Int.reduceToNat, ne_eq, not_false_eq_true, not_true_eq_false, Nat.le_refl, true_or, or_true, reduceCtorEq, ↓reduceIte, wr_id, s_in_T (show 0 ≤ n ∧ n ≤ stv τ 133 0 0 133 1 from ⟨c.1, gs⟩), n1, b0, g37]
  refine ⟨0, -20, al, sl, _, _, e1, k2 960, ?_, fun _ => ?_, h.flt hF (hS.mono (by decide)) (((Sm.refl.stv (by decide)).stv (by decide)).stv (by decide)) (fun k hk => ?_) ?_ stv_s, by omega, by omega⟩
  · rw [stv_k (by decide), stv_k (by decide), stv_s]
  · rw [stv_o (by decide), stv_o (by decide), stv_o (by decide), stv_s]
  · rw [stv_k (by omega), stv_k (by omega), stv_k (by omega)]
  · rw [stv_k (by decide), stv_s]
theorem jt_work {al sl : Nat} {w : Nat × (Nat → Int)} {σ : pm_S} (h : INV σ) (n : Int) : JT 281 222 [vR 0, vI n, vR 690] [vR 133, vI n] (fun z => vI z) al sl w σ := by
  have tp := h.2.2.2.2.1
  obtain ⟨⟨t1, t2⟩, t3, t4, t5, t6⟩ := h.2.2.2.2.1
  obtain ⟨⟨p1, p2⟩, p3, p4⟩ := h.2.2.2.2.2.2.1
  by_cases c : 0 ≤ n ∧ n ≤ 150 ∧ n ≤ σ 1 1
  · by_cases hf : σ 44 1 = 16
    · exact wk_full h c hf
    · obtain ⟨k, hk⟩ : ∃ k : Nat, σ 44 1 = (k : Int) := ⟨(σ 44 1).toNat, by omega⟩
      have k16 : k < 16 := by omega
      obtain ⟨r, g1, g2, f1, f2⟩ := work_joint (σ0 := σ) h.1 t5 c.1 c.2.1 k16
      have k1 := f1 959 al sl w (σ 1 1) rfl t2 c.2.2 hk
      have k2 := fun (σ1 : pm_S) (x : Int) (hs : ∀ o, 133 ≤ o → σ1 o = σ o) => f2 960 al sl w (stv σ1 690 0 x) (σ 1 1) (h.2.1.1.sm (S := [(0, 133), (690, 691)]) h.1.1 h.1.2.2 (Sm.stv (show Sm [(0, 133), (690, 691)] σ σ1 from fun o ho => hs o (by simp only [off, Bool.and_true, Bool.and_eq_true, Bool.or_eq_true, decide_eq_true_eq] at ho; omega)) (by decide)) (by decide) (by decide) (fun k hk => by simp only [off, Bool.and_true, Bool.and_eq_true, Bool.or_eq_true, decide_eq_true_eq]; omega)) (by rw [stv_o (by decide), hs 601 (by decide)]; exact h.2.1.2.1) (fun j hj => by rw [stv_o (by decide), hs 134 (by decide)]; exact t4 j hj) (by rw [stv_o (by decide), hs 133 (by decide)]; exact t3) c.2.2 (by rw [stv_o (by decide), hs 133 (by decide), p3]; exact hk)
      cases r with
      | inl f =>
        obtain ⟨kd, p⟩ := f
        obtain ⟨x, σ1, ⟨rfl, a1, _⟩, e1⟩ := lo_work (d := 940) (k1.ex (V := kd - 10) (fun v σ1 hp => (hp.1 kd p rfl).1))
        obtain ⟨_, hF, hS⟩ := a1 kd p rfl
        obtain ⟨v, σ2, e2, b0', b1', b2', b3, _⟩ := k2 σ1 (kd - 10) (fun o ho => hS o (by simp only [off, Bool.and_true, Bool.and_eq_true, Bool.or_eq_true, decide_eq_true_eq]; omega))
        obtain ⟨rfl, b4, b5, b6, b7⟩ := b3 kd p rfl
        refine ⟨0, kd - 10, al, sl, _, σ2, e1, e2, b0', fun _ => ?_, h.flt hF (hS.mono (by decide)) (b7.mono (by decide)) (fun i hi => ?_) b1' b4, by omega, by omega⟩
        · rw [b7 690 (by decide), stv_s]
        · by_cases i7 : i = 37
          · rw [i7]; exact b5
          · by_cases i8 : i = 38
            · rw [i8]; exact b6
            · exact b2' i (by unfold woF; omega)
      | inr f =>
        obtain ⟨a, ff, r'⟩ := f
        obtain ⟨x, σ1, ⟨hx, _, a2⟩, e1⟩ := lo_work (d := 940) (k1.ex (V := a) (fun v σ1 hp => (hp.2 a ff r' rfl).1))
        rw [hx] at e1
        obtain ⟨_, hF, c1, c2, c3, c4, c5, c6⟩ := a2 a ff r' rfl
        have s1 : ∀ o, 133 ≤ o → σ1 o = σ o := fun o ho => c6 o (by omega) (by simp only [ckS, off, Bool.and_true, Bool.and_eq_true, Bool.or_eq_true, decide_eq_true_eq]; omega)
        obtain ⟨v, σ2, e2, b0', b1', b2', _, b3⟩ := k2 σ1 a s1
        obtain ⟨rfl, b4, b5, b6, b7, b8, b9⟩ := b3 a ff r' rfl
        have hR' := g2 a ff r' rfl
        have o1 : ∀ o, o < 133 → σ2 o = σ1 o := fun o ho => by rw [b9 o (by omega) (by simp only [rkS, off, Bool.and_true, Bool.and_eq_true, Bool.or_eq_true, decide_eq_true_eq]; omega), stv_o (by omega)]
        have f3 : ∀ i, woF i → σ2 133 i = σ 133 i := fun i hi => by rw [b2' i hi, stv_o (by decide), s1 133 (by decide)]
        have sS : Sm rowS σ σ2 := fun o ho => by
          have ho' := ho
          simp only [rowS, off, Bool.and_true, Bool.and_eq_true, Bool.or_eq_true, decide_eq_true_eq] at ho'
          by_cases h3 : o < 133
          · rw [o1 o h3, c6 o (by omega) (by simp only [ckS, off, Bool.and_true, Bool.and_eq_true, Bool.or_eq_true, decide_eq_true_eq]; omega)]
          · rw [b9 o (by omega) (by simp only [rkS, off, Bool.and_true, Bool.and_eq_true, Bool.or_eq_true, decide_eq_true_eq]; omega), stv_o (by omega), s1 o (by omega)]
        have eT : rtT σ2 = rtT σ := sS.rtT (by decide)
        have x690 : σ2 690 0 = a := by rw [b9 690 (by omega) (by decide), stv_s]
        refine ⟨0, a, al, sl, _, σ2, e1, e2, b0', fun _ => x690, h.row sS ?_ ?_ ?_ ?_ ?_ ?_ ?_ (tp.ok (x := 0) hF (o1 1 (by decide)) (o1 2 (by decide)) ?_ b1' b4) ⟨?_, ?_, fun m hm => ?_⟩ (h.2.2.2.2.2.2.2.cg eT ?_ ?_ (fun o h1 h2 => ?_) (fun i hi => ?_)), by omega, by omega⟩
        · rw [o1 37 (by decide), c3]; exact hR'
        · rw [o1 37 (by decide), c3]; exact b7
        · exact f3 21 (by unfold woF; decide)
        · exact f3 36 (by unfold woF; decide)
        · rw [b6, o1 0 (by decide), c4]
        · rw [o1 0 (by decide), c5 18 (by decide)]
        · rw [o1 0 (by decide), c5 19 (by decide)]
        · rw [b9 134 (by omega) (by decide), stv_o (by decide), s1 134 (by decide)]
        · rw [o1 44 (by decide), c1]; omega
        · rw [b5, o1 44 (by decide), c1]
        · rw [o1 44 (by decide), c1] at hm
          rw [o1 (46 + m) (by omega)]
          by_cases em : m = k
          · subst em
            refine ⟨(h.1.2.1.lt92 (fun j hj => c2 j (by omega))).cg eT, ?_⟩
            have z := h.2.1.2.1.r c2
            exact z.cp (fun j hj => by rw [b8 j hj, stv_o (by decide), s1 601 (by decide)])
          · obtain ⟨z1, z2⟩ := p4 m (by omega)
            have q1 : σ1 (46 + m) = σ (46 + m) := c6 (46 + m) (by omega) (by simp only [ckS, off, Bool.and_true, Bool.and_eq_true, Bool.or_eq_true, decide_eq_true_eq]; omega)
            have q2 : σ2 (605 + m) = σ (605 + m) := by rw [b9 (605 + m) (by omega) (by simp only [rkS, off, Bool.and_true, Bool.and_eq_true, Bool.or_eq_true, decide_eq_true_eq]; omega), stv_o (by omega), s1 (605 + m) (by omega)]
            rw [q1, q2]
            exact ⟨z1.cg eT, z2⟩
        · rw [o1 0 (by decide), c5 12 (by decide)]
        · exact f3 39 (by unfold woF; decide)
        · rw [o1 o h2, c6 o (by omega) (by simp only [ckS, off, Bool.and_true, Bool.and_eq_true, Bool.or_eq_true, decide_eq_true_eq]; omega)]
        · rw [b9 (622 + i) (by omega) (by simp only [rkS, off, Bool.and_true, Bool.and_eq_true, Bool.or_eq_true, decide_eq_true_eq]; omega), stv_o (by omega), s1 (622 + i) (by omega)]
  · exact JT.r2 (k := 1) (y := 19) (Y := 1) h (by decide) (by decide) (lb_work_2 (d := 940) (cb_len_work (d := 959) rfl c)) (rb_len_work (d := 960) (by rw [stv_o (by decide)]; exact t3) c)
/-! PURE, 86: a terrace as the law makes it -/
theorem TK.cp {δ σ : pm_S} (h : TK δ) (e3 : ∀ k, k < 4 → σ 3 k = δ 3 k) (e4 : ∀ k, k < 8 → σ 4 k = δ 4 k ∧ σ 5 k = δ 5 k ∧ σ 6 k = δ 6 k) (e7 : ∀ k, k < 12 → σ 7 k = δ 7 k ∧ σ 8 k = δ 8 k) (e9 : ∀ k, k < 6 → σ 9 k = δ 9 k ∧ σ 10 k = δ 10 k) : TK σ := by
  obtain ⟨h1, h2, h3, h4, h5, h6, h7, h8⟩ := h
  refine ⟨by rw [e3 0 (by decide)]; exact h1, by rw [e3 1 (by decide)]; exact h2, by rw [e3 2 (by decide)]; exact h3, by rw [e3 3 (by decide)]; exact h4, fun x x0 x1 => ?_, fun x x0 x1 => ?_, fun x x0 x1 => ?_, fun a b a0 a1 b0 b1 => ?_⟩
  · rw [e3 0 (by decide)] at x1
    obtain ⟨z1, z2, z3⟩ := e4 x.toNat (by omega)
    rw [z1, z2, z3]; exact h5 x x0 x1
  · rw [e3 2 (by decide)] at x1
    obtain ⟨z1, z2⟩ := e9 x.toNat (by omega)
    rw [z1, z2]; exact h6 x x0 x1
  · rw [e3 1 (by decide)] at x1
    obtain ⟨z1, z2⟩ := e7 x.toNat (by omega)
    rw [z1, z2, e3 0 (by decide)]; exact h7 x x0 x1
  · rw [e3 0 (by decide)] at a1
    have z := h8 a b a0 a1 b0 b1
    unfold hwl at z ⊢
    rw [(e4 a.toNat (by omega)).2.2, z, e3 1 (by decide)]
    constructor
    · rintro ⟨x, hx, hy⟩
      refine ⟨x, hx, ?_⟩
      rw [(e7 x.toNat (by omega)).1, (e7 x.toNat (by omega)).2]; exact hy
    · rintro ⟨x, hx, hy⟩
      refine ⟨x, hx, ?_⟩
      rw [(e7 x.toNat (by omega)).1, (e7 x.toNat (by omega)).2] at hy; exact hy
theorem QT.cp {δ σ ρ : pm_S} (hT : TK δ) (h : QT δ ρ) (e3 : ∀ k, k < 4 → σ 3 k = δ 3 k) (e4 : ∀ k, k < 8 → σ 4 k = δ 4 k ∧ σ 5 k = δ 5 k ∧ σ 6 k = δ 6 k) (e7 : ∀ k, k < 12 → σ 7 k = δ 7 k ∧ σ 8 k = δ 8 k) (e9 : ∀ k, k < 6 → σ 9 k = δ 9 k ∧ σ 10 k = δ 10 k) : QT σ ρ := by
  have t1 := hT.ho
  have t2 := hT.wa
  have t3 := hT.pi
  obtain ⟨h1, h2, h3, h4⟩ := h
  refine ⟨fun k hk => by rw [e3 k hk]; exact h1 k hk, fun x x0 x1 => ?_, fun x x0 x1 => ?_, fun x x0 x1 => ?_⟩
  · rw [e3 0 (by decide)] at x1
    obtain ⟨z1, z2, z3⟩ := e4 x.toNat (by omega)
    rw [z1, z2]; exact h2 x x0 x1
  · rw [e3 1 (by decide)] at x1
    obtain ⟨z1, z2⟩ := e7 x.toNat (by omega)
    rw [z1, z2]; exact h3 x x0 x1
  · rw [e3 2 (by decide)] at x1
    obtain ⟨z1, z2⟩ := e9 x.toNat (by omega)
    rw [z1, z2]; exact h4 x x0 x1
theorem bgV_RK {δ : pm_S} (hT : TK δ) : RK δ (bgV δ) := by
  have t1 := hT.ho
  refine ⟨fun k k0 k1 => ?_, fun p p0 p1 => ?_, fun p q p0 p1 q0 q1 _ _ => ?_, fun p p0 p1 => ?_⟩
  · unfold bgV
    rw [if_pos (by omega)]
    by_cases hc : ((k.toNat : Nat) : Int) < 10 * δ 3 0 ∧ δ 4 (k.toNat / 10) = ((k.toNat % 10 : Nat) : Int)
    · rw [if_pos hc]; exact ⟨by omega, fun z => by omega⟩
    · rw [if_neg hc]; exact ⟨by omega, fun z => rfl⟩
  · unfold bgV
    rw [if_neg (by omega), if_pos (by omega)]
    exact ⟨by omega, by omega, fun _ => rfl⟩
  · unfold bgV
    rw [if_neg (by omega), if_pos (by omega)]
  · unfold bgV
    rw [if_neg (by omega), if_neg (by omega), if_neg (by omega)]
    omega
theorem jt_terrace {al sl : Nat} {w : Nat × (Nat → Int)} {σ : pm_S} (h : INV σ) (n : Int) : JT 279 193 [vR 0, vI n, vR 690] [vR 133, vI n] (fun z => vI z) al sl w σ := by
  have tp := h.2.2.2.2.1
  obtain ⟨⟨t1, t2⟩, t3, t4, t5, t6⟩ := h.2.2.2.2.1
  by_cases c : 0 ≤ n ∧ n ≤ 600 ∧ n ≤ σ 1 1
  · obtain ⟨r, g1, g2, f1, f2⟩ := terr_joint (b := σ 2) t5 c.1 c.2.1 σ
    have k1 := f1 959 al sl w σ (σ 1 1) rfl (fun _ _ _ => rfl) rfl t2 c.2.2
    have k2 := fun (σ1 : pm_S) (x : Int) (hs : ∀ o, 133 ≤ o → σ1 o = σ o) => f2 960 al sl w (stv σ1 690 0 x) (σ 1 1) (fun j hj => by rw [stv_o (by decide), hs 134 (by decide)]; exact t4 j hj) (by rw [stv_o (by decide), hs 133 (by decide)]; exact t3) c.2.2
    cases r with
    | inl f =>
      obtain ⟨kd, p⟩ := f
      obtain ⟨x, σ1, ⟨rfl, a1, _⟩, e1⟩ := lo_terrace (d := 940) (k1.ex (V := kd - 10) (fun v σ1 hp => (hp.1 kd p rfl).1))
      obtain ⟨_, hF, hS⟩ := a1 kd p rfl
      obtain ⟨v, σ2, e2, b0', b1', b3, _⟩ := k2 σ1 (kd - 10) (fun o ho => hS o (by simp only [off, Bool.and_true, Bool.and_eq_true, Bool.or_eq_true, decide_eq_true_eq]; omega))
      obtain ⟨rfl, b4, b5, b6⟩ := b3 kd p rfl
      refine ⟨0, kd - 10, al, sl, _, σ2, e1, e2, b0', fun _ => ?_, h.flt hF (hS.mono (by decide)) (b6.mono (by decide)) (fun i hi => ?_) b1' b4, by omega, by omega⟩
      · rw [b6 690 (by decide), stv_s]
      · exact b5 i (by unfold trF; omega)
    | inr δ =>
      obtain ⟨x, σ1, ⟨hx, _, a2⟩, e1⟩ := lo_terrace (d := 940) (k1.ex (V := δ 3 2) (fun v σ1 hp => (hp.2 δ rfl).1))
      rw [hx] at e1
      obtain ⟨_, hF, c3, c4, c7, c9, ⟨l1, l2, l3, l4⟩, c25, c66, c63, c44, c12, c17, c0, c37, hS⟩ := a2 δ rfl
      obtain ⟨v, σ2, e2, b0', b1', _, b3⟩ := k2 σ1 (δ 3 2) (fun o ho => hS o (by simp only [off, Bool.and_true, Bool.and_eq_true, Bool.or_eq_true, decide_eq_true_eq]; omega))
      obtain ⟨rfl, b4, b5, b6, b7, b8, ⟨b21, b36, b37, b38, b39⟩, b10, b11⟩ := b3 δ rfl
      have hT := g2 δ rfl
      have o1 : ∀ o, o < 133 → σ2 o = σ1 o := fun o ho => by rw [b11 o (by simp only [trS, anS, List.cons_append, List.nil_append, off, Bool.and_true, Bool.and_eq_true, Bool.or_eq_true, decide_eq_true_eq]; omega), stv_o (by omega)]
      have o2 : ∀ o, o = 134 ∨ o = 135 → σ2 o = σ o := fun o ho => by
        rw [b11 o (by simp only [trS, anS, List.cons_append, List.nil_append, off, Bool.and_true, Bool.and_eq_true, Bool.or_eq_true, decide_eq_true_eq]; omega), stv_o (by omega), hS o (by simp only [off, Bool.and_true, Bool.and_eq_true, Bool.or_eq_true, decide_eq_true_eq]; omega)]
      have d3 : ∀ k, k < 4 → σ2 3 k = δ 3 k := fun k hk => by rw [o1 3 (by decide)]; exact c3 k hk
      have d4 : ∀ k, k < 8 → σ2 4 k = δ 4 k ∧ σ2 5 k = δ 5 k ∧ σ2 6 k = δ 6 k := fun k hk => by rw [o1 4 (by decide), o1 5 (by decide), o1 6 (by decide)]; exact c4 k hk
      have d7 : ∀ k, k < 12 → σ2 7 k = δ 7 k ∧ σ2 8 k = δ 8 k := fun k hk => by rw [o1 7 (by decide), o1 8 (by decide)]; exact c7 k hk
      have d9 : ∀ k, k < 6 → σ2 9 k = δ 9 k ∧ σ2 10 k = δ 10 k := fun k hk => by rw [o1 9 (by decide), o1 10 (by decide)]; exact c9 k hk
      have tk : TK σ2 := hT.cp d3 d4 d7 d9
      have v37 : ∀ k, k < 100 → σ2 37 k = bgV δ k := fun k hk => by rw [o1 37 (by decide)]; exact c37 k hk
      have r1 : RK δ (σ2 37) := (bgV_RK hT).lt92 (fun k hk => v37 k (by omega))
      have rk : RK σ2 (σ2 37) := by
        unfold RK at r1 ⊢
        rw [d3 0 (by decide), d3 2 (by decide)]
        exact r1
      have v192 : σ2 19 2 = 3 := by rw [o1 19 (by decide)]; exact l1
      have v0 : σ2 20 0 = 1000 := by rw [o1 20 (by decide)]; exact l2
      have v1 : σ2 20 1 = 1001 := by rw [o1 20 (by decide)]; exact l3
      have v2 : σ2 20 2 = 1053 := by rw [o1 20 (by decide)]; exact l4
      have v25 : σ2 25 0 = 0 := by rw [o1 25 (by decide)]; exact c25
      have v44 : σ2 44 1 = 0 := by rw [o1 44 (by decide)]; exact c44
      have v12 : σ2 0 12 = 0 := by rw [o1 0 (by decide)]; exact c12
      have lk : LK σ2 := by
        refine ⟨by omega, by omega, ?_⟩
        rw [v192, show (3 : Int).toNat = 3 from rfl]
        have d1 : dp (σ2 20) 1 = 1 := by show (if σ2 20 0 < 1008 then 0 + 1 else 0 - 1) = 1; rw [v0]; rfl
        have d2 : dp (σ2 20) 2 = 2 := by show (if σ2 20 1 < 1008 then dp (σ2 20) 1 + 1 else dp (σ2 20) 1 - 1) = 2; rw [v1, d1]; rfl
        have d3 : dp (σ2 20) 3 = 1 := by show (if σ2 20 2 < 1008 then dp (σ2 20) 2 + 1 else dp (σ2 20) 2 - 1) = 1; rw [v2, d2]; rfl
        refine ⟨d3, fun k hk => ?_⟩
        have : k = 0 ∨ k = 1 ∨ k = 2 := by omega
        rcases this with rfl | rfl | rfl
        · rw [v0]; exact ⟨by omega, fun _ => (show (0 : Nat) < 31 by decide), fun z => absurd z (by decide)⟩
        · rw [v1, d1]; exact ⟨by omega, fun _ => by decide, fun z => absurd z (by decide)⟩
        · rw [v2, d2]; exact ⟨by omega, fun z => absurd z (by decide), fun _ => ⟨by decide, by decide⟩⟩
      refine ⟨0, δ 3 2, al, sl, _, σ2, e1, e2, b0', fun _ => ?_, ⟨⟨tk, rk, lk⟩, ⟨⟨b5.cp hT d3 d4 d7 d9, Or.inl ⟨b21, v192, v0, v1, v2⟩⟩, ⟨fun k hk => ?_, ?_, ?_⟩, ?_, ?_⟩, ⟨⟨by omega, fun k k0 kn => absurd kn (by omega), fun j k j0 jk kn => absurd kn (by omega)⟩, fun k k0 kn => absurd kn (by omega)⟩, ⟨Or.inl ?_, Or.inl ?_⟩, tp.ok (x := 0) hF (o1 1 (by decide)) (o1 2 (by decide)) (o2 134 (by decide)) b1' b4, ⟨?_, ?_⟩, ⟨by omega, ?_, fun m hm => absurd hm (by omega)⟩, ⟨by omega, ?_, fun m hm => absurd hm (by omega)⟩⟩, by omega, by omega⟩
      · rw [b11 690 (by decide), stv_s]
      · rw [b6 k hk, v37 k (by omega)]
      · rw [b7, v37 99 (by decide)]; rfl
      · rw [b8, v37 98 (by decide)]; rfl
      · rw [b36, v25]
      · rw [b38, o1 0 (by decide), c17]
      · rw [o1 63 (by decide)]; exact c63
      · rw [o1 66 (by decide)]; exact c66
      · rw [o1 0 (by decide), c0 18 (by decide) (by decide), o2 135 (by decide)]; exact h.2.2.2.2.2.1.1
      · rw [o1 0 (by decide), c0 19 (by decide) (by decide), o2 135 (by decide)]; exact h.2.2.2.2.2.1.2
      · rw [b37, v44]
      · rw [b39, v12]
  · exact JT.r2 (k := 1) (y := 19) (Y := 1) h (by decide) (by decide) (lb_terrace_2 (d := 940) (cb_len_terrace (d := 959) rfl c)) (rb_len_terrace (d := 960) (by rw [stv_o (by decide)]; exact t3) t2 c)
