/-! PURE, 80: a call of both, as the law makes it -/
def JT (ML MR : Nat) (as1 as2 : List pm_V) (bv : Int → pm_V) (al sl : Nat) (w : Nat × (Nat → Int)) (σ : pm_S) : Prop := ∃ (k b : Int) (al' sl' : Nat) (σ1 σ2 : pm_S), cl 1000 ML as1 (al, sl, SH, w) σ = some (.inl (some (vI k)), (al', sl', SH, w), σ1) ∧ cl 1000 MR as2 (al', sl', SH, w) σ1 = some (.inl (some (bv b)), (al', sl', SH, w), σ2) ∧ σ2 133 0 = k ∧ (k = 0 → σ2 690 0 = b) ∧ INV σ2 ∧ al' ≤ al + 1 ∧ sl' ≤ sl + 6
def JN (MC MR : Nat) (as1 as2 : List pm_V) (al sl : Nat) (w : Nat × (Nat → Int)) (σ : pm_S) : Prop := ∃ (b : Int) (σ1 σ2 : pm_S), cl 1000 MC as1 (al, sl, SH, w) σ = some (.inl (some (vI b)), (al, sl, SH, w), σ1) ∧ cl 1000 MR as2 (al, sl, SH, w) σ1 = some (.inl (some (vI b)), (al, sl, SH, w), σ2) ∧ INV σ2
abbrev bigS2 : List (Nat × Nat) := [(0, 3), (11, 19), (21, 25), (28, 36), (38, 44), (63, 73), (133, 137), (138, 139), (140, 141), (142, 155), (168, 175), (343, 504), (511, 601), (602, 604), (625, 691)]
theorem INV.fr2 {σ σ' : pm_S} (h : INV σ) (hS : Sm bigS2 σ σ') (h133 : ∀ k, k = 21 ∨ k = 36 ∨ k = 37 ∨ k = 38 ∨ k = 39 → σ' 133 k = σ 133 k) (h0 : ∀ k, k = 12 ∨ k = 17 → σ' 0 k = σ 0 k) (hd : σ' 0 18 = σ' 135 0 ∧ σ' 0 19 = σ' 135 1) (hT : TPo σ') (hPl : PlOK σ σ') (hPa : PaOK σ σ') : INV σ' := by
  obtain ⟨⟨a1, a2, a3⟩, ⟨b1, b2, b3, b4⟩, ⟨c1, c2⟩, _, _, ⟨d1, d2⟩, e1, f1⟩ := h
  have eB : rtB σ' = rtB σ := hS.rtB (by decide)
  have eT : rtT σ' = rtT σ := rtB_T eB
  have g1 : ∀ m : Nat, m < 16 → σ' (46 + m) = σ (46 + m) ∧ σ' (605 + m) = σ (605 + m) := fun m hm => ⟨hS _ (by simp only [off, Bool.and_true, Bool.and_eq_true, Bool.or_eq_true, decide_eq_true_eq]; omega), hS _ (by simp only [off, Bool.and_true, Bool.and_eq_true, Bool.or_eq_true, decide_eq_true_eq]; omega)⟩
  have g2 : ∀ o, 73 ≤ o → o < 133 → σ' o = σ o := fun o h1 h2 => hS _ (by simp only [off, Bool.and_true, Bool.and_eq_true, Bool.or_eq_true, decide_eq_true_eq]; omega)
  have g3 : ∀ i, i < 3 → σ' (622 + i) = σ (622 + i) := fun o h1 => hS _ (by simp only [off, Bool.and_true, Bool.and_eq_true, Bool.or_eq_true, decide_eq_true_eq]; omega)
  have g4 : ∀ k, k < 6 → σ' (505 + k) = σ (505 + k) := fun o h1 => hS _ (by simp only [off, Bool.and_true, Bool.and_eq_true, Bool.or_eq_true, decide_eq_true_eq]; omega)
  have e37 : σ' 37 = σ 37 := hS 37 (by decide)
  have bq : QQ σ σ' := ⟨b1.1.sm hS a1 (by decide), b1.2.sm a3 hS (h133 21 (by decide)) (fun k hk => by simp only [off, Bool.and_true, Bool.and_eq_true, Bool.or_eq_true, decide_eq_true_eq]; omega)⟩
  refine ⟨⟨a1.cg eT, ?_, a3.cg eB⟩, ⟨bq.cg eB, ?_, ?_, ?_⟩, ⟨c1.cg eB, fun k k0 k1 => ?_⟩, ⟨hPl.cg eT, hPa.cg eB⟩, hT, hd, e1.cg eT (by rw [hS 44 (by decide)]) (h133 37 (by decide)) g1, f1.cg eT (h0 12 (by decide)) (h133 39 (by decide)) g2 g3⟩
  · rw [e37]; exact a2.cg eT
  · rw [e37, hS 601 (by decide)]; exact b2
  · rw [h133 36 (by decide), hS 25 (by decide)]; exact b3
  · rw [h133 38 (by decide), h0 17 (by decide)]; exact b4
  · have c := c1.1
    rw [hS 25 (by decide)] at k1
    rw [g4 k.toNat (by omega), hS 26 (by decide), hS 27 (by decide)]
    exact c2 k k0 k1
theorem PlOK.sm {σ0 σ σ' : pm_S} (h : PlOK σ0 σ) (h1 : σ' 63 = σ 63) (h2 : σ' 65 = σ 65) : PlOK σ0 σ' := by unfold PlOK; rw [h1, h2]; exact h
theorem PaOK.sm {σ0 σ σ' : pm_S} (h : PaOK σ0 σ) (h1 : σ' 66 = σ 66) : PaOK σ0 σ' := by unfold PaOK; rw [h1]; exact h
theorem TPo.sm {σ σ' : pm_S} (h : TPo σ) (h1 : σ' 1 = σ 1) (h2 : σ' 2 = σ 2) (h3 : σ' 134 = σ 134) (h4 : σ' 133 1 = σ 133 1) (h5 : σ' 133 3 = σ 133 3) : TPo σ' := by unfold TPo; rw [h1, h2, h3, h4, h5]; exact h
abbrev cS0 : List (Nat × Nat) := (63, 73) :: scC
/-- behind the class's query the reference finds what it knew -/
theorem INV.tau {σ τ : pm_S} (h : INV σ) (hS : Sm ((690, 691) :: cS0) σ τ) : RQ σ τ ∧ QB σ τ := by
  obtain ⟨⟨a1, a2, a3⟩, ⟨b1, b2, b3, b4⟩, ⟨c1, c2⟩, _⟩ := h
  refine ⟨⟨b1.sm a1 a3 hS (by decide) (by decide) (fun k hk => by simp only [off, Bool.and_true, Bool.and_eq_true, Bool.or_eq_true, decide_eq_true_eq]; omega), ?_, ?_, ?_⟩, fun k k0 k1 => ?_⟩
  · rw [hS 601 (by decide)]; exact b2
  · rw [hS 133 (by decide)]; exact b3
  · rw [hS 133 (by decide)]; exact b4
  · have c := c1.1
    rw [hS (505 + k.toNat) (by simp only [off, Bool.and_true, Bool.and_eq_true, Bool.or_eq_true, decide_eq_true_eq]; omega)]
    exact c2 k k0 k1
theorem INV.q {σ τ σ2 : pm_S} (h : INV σ) (hS : Sm ((690, 691) :: cS0) σ τ) (hPl : PlOK σ τ) (hPa : PaOK σ τ) (hR : SmR τ σ2) : INV σ2 := by
  have s1 : Sm bigS σ τ := hS.mono (by decide)
  have s2 : Sm bigS τ σ2 := hR.1.mono (by decide)
  refine h.fr (s1.trans s2) (fun k hk => ?_) (fun k _ => ?_) (h.2.2.2.2.1.sm ?_ ?_ ?_ ?_ ?_) (hPl.sm (hR.1 63 (by decide)) (hR.1 65 (by decide))) (hPa.sm (hR.1 66 (by decide)))
  · rw [hR.2 k (by rcases hk with rfl | rfl | rfl | rfl | rfl <;> decide), hS 133 (by decide)]
  · rw [hR.1 0 (by decide), hS 0 (by decide)]
  · rw [hR.1 1 (by decide), hS 1 (by decide)]
  · rw [hR.1 2 (by decide), hS 2 (by decide)]
  · rw [hR.1 134 (by decide), hS 134 (by decide)]
  · rw [hR.2 1 (by decide), hS 133 (by decide)]
  · rw [hR.2 3 (by decide), hS 133 (by decide)]
theorem JT.q {ML MR : Nat} {as1 as2 : List pm_V} {bv : Int → pm_V} {al sl : Nat} {w : Nat × (Nat → Int)} {σ : pm_S} {V : Int} (h : INV σ) (hc : ∃ x σ1, (x = V ∧ PlOK σ σ1 ∧ PaOK σ σ1 ∧ Sm cS0 σ σ1) ∧ cl 1000 ML as1 (al, sl, SH, w) σ = some (.inl (some (vI 0)), (al, sl, SH, w), stv σ1 690 0 x)) (hr : ∀ τ, RQ σ τ → QB σ τ → Rv (cl 1000 MR as2 (al, sl, SH, w) τ) (al, sl, SH, w) (fun v σ2 => v = bv V ∧ σ2 133 0 = 0 ∧ SmR τ σ2)) : JT ML MR as1 as2 bv al sl w σ := by
  obtain ⟨x, σ1, ⟨rfl, hPl, hPa, hS⟩, e1⟩ := hc
  have hS1 : Sm ((690, 691) :: cS0) σ (stv σ1 690 0 x) := (hS.mono (by decide)).stv (by decide)
  obtain ⟨q1, q2⟩ := h.tau hS1
  obtain ⟨v, σ2, e2, rfl, h0, hR⟩ := hr _ q1 q2
  refine ⟨0, x, al, sl, _, σ2, e1, e2, h0, fun _ => ?_, h.q hS1 (hPl.sm (stv_o (by decide)) (stv_o (by decide))) (hPa.sm (stv_o (by decide))) hR, by omega, by omega⟩
  rw [hR.1 690 (by decide), stv_s]
theorem JT.q0 {ML MR : Nat} {as1 as2 : List pm_V} {bv : Int → pm_V} {al sl : Nat} {w : Nat × (Nat → Int)} {σ : pm_S} {V : Int} (h : INV σ) (hc : ∃ x σ1, (x = V ∧ Sm scC σ σ1) ∧ cl 1000 ML as1 (al, sl, SH, w) σ = some (.inl (some (vI 0)), (al, sl, SH, w), stv σ1 690 0 x)) (hr : ∀ τ, RQ σ τ → QB σ τ → Rv (cl 1000 MR as2 (al, sl, SH, w) τ) (al, sl, SH, w) (fun v σ2 => v = bv V ∧ σ2 133 0 = 0 ∧ SmR τ σ2)) : JT ML MR as1 as2 bv al sl w σ := by
  obtain ⟨x, σ1, ⟨hx, hS⟩, e1⟩ := hc
  exact JT.q h ⟨x, σ1, ⟨hx, h.2.2.2.1.1.sm (hS 63 (by decide)) (hS 65 (by decide)), h.2.2.2.1.2.sm (hS 66 (by decide)), hS.mono (by decide)⟩, e1⟩ hr
theorem JT.qa {ML MR : Nat} {as1 as2 : List pm_V} {bv : Int → pm_V} {al sl : Nat} {w : Nat × (Nat → Int)} {σ : pm_S} {V : Int} (h : INV σ) (hc : ∃ x σ1, (x = V ∧ PaOK σ σ1 ∧ Sm ((66, 73) :: scC) σ σ1) ∧ cl 1000 ML as1 (al, sl, SH, w) σ = some (.inl (some (vI 0)), (al, sl, SH, w), stv σ1 690 0 x)) (hr : ∀ τ, RQ σ τ → QB σ τ → Rv (cl 1000 MR as2 (al, sl, SH, w) τ) (al, sl, SH, w) (fun v σ2 => v = bv V ∧ σ2 133 0 = 0 ∧ SmR τ σ2)) : JT ML MR as1 as2 bv al sl w σ := by
  obtain ⟨x, σ1, ⟨hx, hPa, hS⟩, e1⟩ := hc
  exact JT.q h ⟨x, σ1, ⟨hx, h.2.2.2.1.1.sm (hS 63 (by decide)) (hS 65 (by decide)), hPa, hS.mono (by decide)⟩, e1⟩ hr
theorem JT.ql {ML MR : Nat} {as1 as2 : List pm_V} {bv : Int → pm_V} {al sl : Nat} {w : Nat × (Nat → Int)} {σ : pm_S} {V : Int} (h : INV σ) (hc : ∃ x σ1, (x = V ∧ PlOK σ σ1 ∧ Sm ((63, 66) :: scC) σ σ1) ∧ cl 1000 ML as1 (al, sl, SH, w) σ = some (.inl (some (vI 0)), (al, sl, SH, w), stv σ1 690 0 x)) (hr : ∀ τ, RQ σ τ → QB σ τ → Rv (cl 1000 MR as2 (al, sl, SH, w) τ) (al, sl, SH, w) (fun v σ2 => v = bv V ∧ σ2 133 0 = 0 ∧ SmR τ σ2)) : JT ML MR as1 as2 bv al sl w σ := by
  obtain ⟨x, σ1, ⟨hx, hPl, hS⟩, e1⟩ := hc
  exact JT.q h ⟨x, σ1, ⟨hx, hPl, h.2.2.2.1.2.sm (hS 66 (by decide)), hS.mono (by decide)⟩, e1⟩ hr
theorem JN.q {MC MR : Nat} {as1 as2 : List pm_V} {al sl : Nat} {w : Nat × (Nat → Int)} {σ : pm_S} {V : Int} (h : INV σ) (hc : Rv (cl 1000 MC as1 (al, sl, SH, w) σ) (al, sl, SH, w) (fun v σ1 => ∃ x, v = vI x ∧ x = V ∧ PlOK σ σ1 ∧ Sm ((63, 66) :: scC) σ σ1)) (hr : ∀ τ, RQ σ τ → Rv (cl 1000 MR as2 (al, sl, SH, w) τ) (al, sl, SH, w) (fun v σ2 => v = vI V ∧ σ2 133 0 = 0 ∧ SmR τ σ2)) : JN MC MR as1 as2 al sl w σ := by
  obtain ⟨v, σ1, e1, x, rfl, rfl, hPl, hS⟩ := hc
  have hS1 : Sm ((690, 691) :: cS0) σ σ1 := hS.mono (by decide)
  obtain ⟨q1, q2⟩ := h.tau hS1
  obtain ⟨v, σ2, e2, rfl, h0, hR⟩ := hr _ q1
  exact ⟨x, σ1, σ2, e1, e2, h.q hS1 hPl (h.2.2.2.1.2.sm (hS 66 (by decide))) hR⟩
theorem JN.q0 {MC MR : Nat} {as1 as2 : List pm_V} {al sl : Nat} {w : Nat × (Nat → Int)} {σ : pm_S} {V : Int} (h : INV σ) (hc : Rv (cl 1000 MC as1 (al, sl, SH, w) σ) (al, sl, SH, w) (fun v σ1 => ∃ x, v = vI x ∧ x = V ∧ Sm scC σ σ1)) (hr : ∀ τ, RQ σ τ → Rv (cl 1000 MR as2 (al, sl, SH, w) τ) (al, sl, SH, w) (fun v σ2 => v = vI V ∧ σ2 133 0 = 0 ∧ SmR τ σ2)) : JN MC MR as1 as2 al sl w σ := JN.q h (hc.mono (fun v σ1 ⟨x, hx, hV, hS⟩ => ⟨x, hx, hV, h.2.2.2.1.1.sm (hS 63 (by decide)) (hS 65 (by decide)), hS.mono (by decide)⟩)) hr
theorem INV.rf {σ : pm_S} (h : INV σ) {y Y : Nat} (k : Int) (hy : (y = 18 ∧ Y = 0) ∨ (y = 19 ∧ Y = 1)) : INV (rfs (stv σ 0 y (wr (σ 0 y + 1))) k Y) ∧ rfs (stv σ 0 y (wr (σ 0 y + 1))) k Y 133 0 = k ∧ QT σ (stv σ 0 y (wr (σ 0 y + 1))) := by
  have hd := h.2.2.2.2.2.1
  have hS : Sm bigS2 σ (rfs (stv σ 0 y (wr (σ 0 y + 1))) k Y) := (((Sm.refl.stv (by decide)).stv (by decide)).stv (by decide)).stv (by decide)
  have f3 : ∀ i : Nat, i ≠ 0 → rfs (stv σ 0 y (wr (σ 0 y + 1))) k Y 133 i = σ 133 i := fun i hi => by unfold rfs; rw [stv_o (by decide), stv_k hi, stv_k hi, stv_o (by decide)]
  refine ⟨h.fr2 hS (fun i hi => f3 i (by omega)) (fun i hi => ?_) ?_ (h.2.2.2.2.1.sm ?_ ?_ ?_ (f3 1 (by decide)) (f3 3 (by decide))) (h.2.2.2.1.1.sm ?_ ?_) (h.2.2.2.1.2.sm ?_), ?_, h.2.1.1.1.sm (S := [(0, 1)]) (Sm.refl.stv (by decide)) h.1.1 (by decide)⟩
  · unfold rfs; rw [stv_o (by decide), stv_o (by decide), stv_o (by decide), stv_k (by omega)]
  · unfold rfs
    rcases hy with ⟨rfl, rfl⟩ | ⟨rfl, rfl⟩
    · refine ⟨?_, ?_⟩ <;> simp (disch := decide) only [stv_o, stv_s, stv_k, ne_eq, hd.1, hd.2]
    · refine ⟨?_, ?_⟩ <;> simp (disch := decide) only [stv_o, stv_s, stv_k, ne_eq, hd.1, hd.2]
  · unfold rfs; rw [stv_o (by decide), stv_o (by decide), stv_o (by decide), stv_o (by decide)]
  · unfold rfs; rw [stv_o (by decide), stv_o (by decide), stv_o (by decide), stv_o (by decide)]
  · unfold rfs; rw [stv_o (by decide), stv_o (by decide), stv_o (by decide), stv_o (by decide)]
  · unfold rfs; rw [stv_o (by decide), stv_o (by decide), stv_o (by decide), stv_o (by decide)]
  · unfold rfs; rw [stv_o (by decide), stv_o (by decide), stv_o (by decide), stv_o (by decide)]
  · unfold rfs; rw [stv_o (by decide), stv_o (by decide), stv_o (by decide), stv_o (by decide)]
  · unfold rfs; rw [stv_o (by decide), stv_s]
theorem JT.r {ML MR : Nat} {as1 as2 : List pm_V} {bv : Int → pm_V} {al sl : Nat} {w : Nat × (Nat → Int)} {σ : pm_S} {k : Int} {y Y : Nat} (h : INV σ) (hk : k ≠ 0) (hy : (y = 18 ∧ Y = 0) ∨ (y = 19 ∧ Y = 1)) (hc : cl 1000 ML as1 (al, sl, SH, w) σ = some (.inl (some (vI k)), (al + 1, sl + 6, SH, w), stv σ 0 y (wr (σ 0 y + 1)))) (hr : ∀ τ, QT σ τ → cl 1000 MR as2 (al + 1, sl + 6, SH, w) τ = some (.inl (some (bv 0)), (al + 1, sl + 6, SH, w), rfs τ k Y)) : JT ML MR as1 as2 bv al sl w σ := by
  obtain ⟨i1, i2, i3⟩ := h.rf k hy
  exact ⟨k, 0, al + 1, sl + 6, _, _, hc, hr _ i3, i2, fun z => absurd z hk, i1, by omega, by omega⟩
