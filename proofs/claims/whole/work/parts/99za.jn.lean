/-! PURE, 82: calls that are never refused -/
theorem INV.z {σ : pm_S} (h : INV σ) : INV (stv σ 133 0 0) := h.q Sm.refl h.2.2.2.1.1 h.2.2.2.1.2 (SmR.refl.f (by decide))
theorem jn_places {al sl : Nat} {w : Nat × (Nat → Int)} {σ : pm_S} (h : INV σ) : JN 139 244 [vR 0] [vR 133] al sl w σ := JN.q h (co_places (d := 960) h.1.1 h.2.2.2.1.1) (fun τ hq => ro_places (d := 960) h.1.1 hq)
theorem jn_alone {al sl : Nat} {w : Nat × (Nat → Int)} {σ : pm_S} (h : INV σ) : JN 147 253 [vR 0] [vR 133] al sl w σ := JN.q0 h (co_alone (d := 960) h.1) (fun τ hq => ro_alone (d := 960) h.1 hq)
theorem jn_changed {al sl : Nat} {w : Nat × (Nat → Int)} {σ : pm_S} (h : INV σ) : JN 131 267 [vR 0] [vR 133] al sl w σ := JN.q0 h (co_changed (d := 960) h.1) (fun τ hq => ro_changed (d := 960) h.1 hq)
theorem jn_empty {al sl : Nat} {w : Nat × (Nat → Int)} {σ : pm_S} (h : INV σ) : JN 133 265 [vR 0] [vR 133] al sl w σ := JN.q0 h (co_empty (d := 960) h.1) (fun τ hq => ro_empty (d := 960) h.1 hq)
theorem jn_fault {al sl : Nat} {w : Nat × (Nat → Int)} {σ : pm_S} (h : INV σ) : JN 119 209 [vR 0] [vR 133] al sl w σ := ⟨σ 1 7, σ, _, co_fault (d := 960), by rw [← h.2.2.2.2.1.2.2.2.2]; exact ro_fault (d := 960), h.z⟩
theorem jn_status {al sl : Nat} {w : Nat × (Nat → Int)} {σ : pm_S} (h : INV σ) (x : Int) : JN 157 277 [vR 0, vI x] [vR 133, vI x] al sl w σ := ⟨stV σ x, σ, _, co_status (d := 960), ro_status (d := 960) h.2.2.2.2.2.1.1 h.2.2.2.2.2.1.2, h.z⟩
theorem jn_count {al sl : Nat} {w : Nat × (Nat → Int)} {σ : pm_S} (h : INV σ) (x : Int) : JN 158 278 [vR 0, vI x] [vR 133, vI x] al sl w σ := ⟨coV σ x, σ, _, co_count (d := 960), ro_count (d := 960) h.2.2.2.2.2.2.2.2.1.symm h.2.2.2.2.1.2.1.symm h.2.2.2.2.2.2.1.2.1.symm, h.z⟩
theorem jn_feed {al sl : Nat} {w : Nat × (Nat → Int)} {σ : pm_S} (h : INV σ) (x0 x1 x2 x3 x4 : Int) : JN 114 172 [vR 0, vI x0, vI x1, vI x2, vI x3, vI x4] [vR 133, vI x0, vI x1, vI x2, vI x3, vI x4] al sl w σ := by
  obtain ⟨⟨t1, t2⟩, t3, t4, t5, t6⟩ := h.2.2.2.2.1
  obtain ⟨v, σ1, e1, hc⟩ := co_feed (d := 960) (al := al) (sl := sl) (w := w) (x0 := x0) (x1 := x1) (x2 := x2) (x3 := x3) (x4 := x4) (σ := σ) rfl t1 t2
  rcases hc with ⟨g, rfl, rfl⟩ | ⟨g, rfl, c1, c2, c3, c4, c5⟩
  · obtain ⟨v, σ2, e2, hr⟩ := ro_feed (d := 960) (al := al) (sl := sl) (w := w) (x0 := x0) (x1 := x1) (x2 := x2) (x3 := x3) (x4 := x4) (σ := σ1) t3 t1 t2
    rcases hr with ⟨g', rfl, rfl⟩ | ⟨g', _⟩
    · exact ⟨-1, σ1, _, e1, e2, h.z⟩
    · omega
  · have s3 : σ1 133 1 = σ 1 1 := by rw [c5 133 (by decide)]; exact t3
    obtain ⟨v, σ2, e2, hr⟩ := ro_feed (d := 960) (al := al) (sl := sl) (w := w) (x0 := x0) (x1 := x1) (x2 := x2) (x3 := x3) (x4 := x4) (σ := σ1) s3 t1 t2
    rcases hr with ⟨g', _⟩ | ⟨g', rfl, r1, r2, r3, r4, r5⟩
    · omega
    · refine ⟨_, σ1, _, e1, e2, h.fr ((c5.mono (by decide)).trans (r5.mono (by decide))) (fun k hk => ?_) (fun k _ => ?_) ?_ (h.2.2.2.1.1.sm ?_ ?_) (h.2.2.2.1.2.sm ?_)⟩
      · rw [r4 k (by omega) (by omega), c5 133 (by decide)]
      · rw [r5 0 (by decide), c5 0 (by decide)]
      · refine ⟨?_, ?_, fun j hj => ?_, fun j => ?_, ?_⟩
        · rw [r5 1 (by decide), c1]; omega
        · rw [r1, r5 1 (by decide), c1]
        · rw [r5 2 (by decide)]
          by_cases hj2 : (j : Int) < σ 1 1 ∨ σ 1 1 + 20 ≤ (j : Int)
          · rw [r3 j hj2, c3 j hj2, c5 134 (by decide)]; exact t4 j hj
          · have ej : j = (σ 1 1 + ((j : Int) - σ 1 1)).toNat := by omega
            rw [ej, r2 _ (by omega) (by omega), c2 _ (by omega) (by omega)]
        · rw [r5 2 (by decide)]
          by_cases hj2 : (j : Int) < σ 1 1 ∨ σ 1 1 + 20 ≤ (j : Int)
          · rw [c3 j hj2]; exact t5 j
          · have ej : j = (σ 1 1 + ((j : Int) - σ 1 1)).toNat := by omega
            rw [ej, c2 _ (by omega) (by omega)]
            exact byF_rng.1
        · rw [r4 3 (by decide) (by decide), c5 133 (by decide), r5 1 (by decide), c4 7 (by decide)]; exact t6
      · rw [r5 63 (by decide), c5 63 (by decide)]
      · rw [r5 65 (by decide), c5 65 (by decide)]
      · rw [r5 66 (by decide), c5 66 (by decide)]
abbrev rowS : List (Nat × Nat) := [(0, 3), (11, 19), (21, 25), (28, 62), (73, 135), (511, 691)]
theorem RR.r {f r s : Nat → Int} (h : RR f r) (hs : ∀ k, k < 100 → s k = r k) : RR f s := ⟨fun k hk => (h.1 k hk).trans (hs k (by omega)).symm, h.2.1.trans (hs 99 (by omega)).symm, h.2.2.trans (hs 98 (by omega)).symm⟩
theorem INV.row {σ σ' : pm_S} (h : INV σ) (hS : Sm rowS σ σ') (h37 : RK σ (σ' 37)) (hR : RR (σ' 601) (σ' 37)) (k21 : σ' 133 21 = σ 133 21) (k36 : σ' 133 36 = σ 133 36) (k38 : σ' 133 38 = σ' 0 17) (h18 : σ' 0 18 = σ 0 18) (h19 : σ' 0 19 = σ 0 19) (hT : TPo σ') (hP : PST σ') (hI : IMG σ') : INV σ' := by
  obtain ⟨⟨a1, a2, a3⟩, ⟨b1, b2, b3, b4⟩, ⟨c1, c2⟩, ⟨p1, p2⟩, _, ⟨d1, d2⟩, e1, f1⟩ := h
  have eB : rtB σ' = rtB σ := hS.rtB (by decide)
  have eT : rtT σ' = rtT σ := rtB_T eB
  have g4 : ∀ k, k < 6 → σ' (505 + k) = σ (505 + k) := fun o h1 => hS _ (by simp only [off, Bool.and_true, Bool.and_eq_true, Bool.or_eq_true, decide_eq_true_eq]; omega)
  have bq : QQ σ σ' := ⟨b1.1.sm hS a1 (by decide), b1.2.sm a3 hS k21 (fun k hk => by simp only [off, Bool.and_true, Bool.and_eq_true, Bool.or_eq_true, decide_eq_true_eq]; omega)⟩
  refine ⟨⟨a1.cg eT, h37.cg eT, a3.cg eB⟩, ⟨bq.cg eB, hR, ?_, k38⟩, ⟨c1.cg eB, fun k k0 k1 => ?_⟩, ⟨(p1.sm (hS 63 (by decide)) (hS 65 (by decide))).cg eT, (p2.sm (hS 66 (by decide))).cg eB⟩, hT, ⟨?_, ?_⟩, hP, hI⟩
  · rw [k36, hS 25 (by decide)]; exact b3
  · have c := c1.1
    rw [hS 25 (by decide)] at k1
    rw [g4 k.toNat (by omega), hS 26 (by decide), hS 27 (by decide)]
    exact c2 k k0 k1
  · rw [h18, hS 135 (by decide)]; exact d1
  · rw [h19, hS 135 (by decide)]; exact d2
theorem jn_undo {al sl : Nat} {w : Nat × (Nat → Int)} {σ : pm_S} (h : INV σ) : JN 120 223 [vR 0] [vR 133] al sl w σ := by
  obtain ⟨⟨s1, s2⟩, s3, s4⟩ := h.2.2.2.2.2.2.1
  have hI := h.2.2.2.2.2.2.2
  obtain ⟨v, σ1, e1, hc⟩ := co_undo (d := 960) (al := al) (sl := sl) (w := w) (σ := σ) rfl s1 s2
  rcases hc with ⟨g, rfl, rfl⟩ | ⟨g, rfl, ec⟩
  · obtain ⟨v, σ2, e2, hr⟩ := ro_undo (d := 960) (al := al) (sl := sl) (w := w) (σ := σ1) s3 s1 s2
    rcases hr with ⟨g', rfl, rfl⟩ | ⟨g', _⟩
    · exact ⟨-1, σ1, _, e1, e2, h.z⟩
    · omega
  · have cs : Sm [(0, 1), (37, 38), (44, 45)] σ σ1 := by rw [ec]; exact ((Sm.refl.stv (by decide)).cpy (by decide)).stv (by decide)
    have s3' : σ1 133 37 = σ 44 1 := by rw [cs 133 (by decide)]; exact s3
    obtain ⟨v, σ2, e2, hr⟩ := ro_undo (d := 960) (al := al) (sl := sl) (w := w) (σ := σ1) s3' s1 s2
    rcases hr with ⟨g', _⟩ | ⟨g', rfl, r1, r2, r3, r4, r5⟩
    · omega
    · have hm : ((σ 44 1 - 1).toNat : Int) < σ 44 1 := by omega
      obtain ⟨q1, q2⟩ := s4 _ hm
      have v37 : ∀ k, k < 100 → σ2 37 k = σ (46 + (σ 44 1 - 1).toNat) k := fun k hk => by
        rw [r5 37 (by decide), ec, stv_o (by decide), cpy_d]
        show (if k < 100 then _ else _) = _
        rw [if_pos hk, stv_o (by omega)]
      have c44 : σ1 44 1 = σ 44 1 - 1 := by rw [ec, stv_o (by decide), cpy_o (by decide), stv_s]
      have c0 : ∀ i : Nat, i ≠ 17 → σ1 0 i = σ 0 i := fun i hi => by rw [ec, stv_k hi, cpy_o (by decide), stv_o (by decide)]
      have eT : rtT σ2 = rtT σ := (((cs.mono (by decide) : Sm rowS σ σ1).trans (r5.mono (by decide))).rtT (by decide))
      refine ⟨_, σ1, σ2, e1, e2, h.row ((cs.mono (by decide)).trans (r5.mono (by decide))) (q1.lt92 (fun k hk => v37 k (by omega))) ?_ ?_ ?_ ?_ ?_ ?_ (h.2.2.2.2.1.sm ?_ ?_ ?_ ?_ ?_) ?_ (hI.cg eT ?_ ?_ (fun o h1 h2 => ?_) (fun i hi => ?_))⟩
      · have q3 : RR (σ2 601) (σ (46 + (σ 44 1 - 1).toNat)) := q2.cp (fun k hk => by rw [r1 k hk, cs (605 + (σ 44 1 - 1).toNat) (by simp only [off, Bool.and_true, Bool.and_eq_true, Bool.or_eq_true, decide_eq_true_eq]; omega)])
        exact q3.r v37
      · rw [r4 21 (by decide) (by decide) (by decide), cs 133 (by decide)]
      · rw [r4 36 (by decide) (by decide) (by decide), cs 133 (by decide)]
      · rw [r3, r5 0 (by decide), ec, stv_s]
      · rw [r5 0 (by decide), c0 18 (by decide)]
      · rw [r5 0 (by decide), c0 19 (by decide)]
      · rw [r5 1 (by decide), cs 1 (by decide)]
      · rw [r5 2 (by decide), cs 2 (by decide)]
      · rw [r5 134 (by decide), cs 134 (by decide)]
      · rw [r4 1 (by decide) (by decide) (by decide), cs 133 (by decide)]
      · rw [r4 3 (by decide) (by decide) (by decide), cs 133 (by decide)]
      · refine ⟨?_, ?_, fun m hm' => ?_⟩
        · rw [r5 44 (by decide), c44]; omega
        · rw [r2, r5 44 (by decide), c44]
        · rw [r5 44 (by decide), c44] at hm'
          obtain ⟨z1, z2⟩ := s4 m (by omega)
          have f1 : σ2 (46 + m) = σ (46 + m) := by
            rw [r5 (46 + m) (by simp only [off, Bool.and_true, Bool.and_eq_true, Bool.or_eq_true, decide_eq_true_eq]; omega), cs (46 + m) (by simp only [off, Bool.and_true, Bool.and_eq_true, Bool.or_eq_true, decide_eq_true_eq]; omega)]
          have f2 : σ2 (605 + m) = σ (605 + m) := by
            rw [r5 (605 + m) (by simp only [off, Bool.and_true, Bool.and_eq_true, Bool.or_eq_true, decide_eq_true_eq]; omega), cs (605 + m) (by simp only [off, Bool.and_true, Bool.and_eq_true, Bool.or_eq_true, decide_eq_true_eq]; omega)]
          rw [f1, f2]
          exact ⟨z1.cg eT, z2⟩
      · rw [r5 0 (by decide), c0 12 (by decide)]
      · rw [r4 39 (by decide) (by decide) (by decide), cs 133 (by decide)]
      · rw [r5 o (by simp only [off, Bool.and_true, Bool.and_eq_true, Bool.or_eq_true, decide_eq_true_eq]; omega), cs o (by simp only [off, Bool.and_true, Bool.and_eq_true, Bool.or_eq_true, decide_eq_true_eq]; omega)]
      · rw [r5 (622 + i) (by simp only [off, Bool.and_true, Bool.and_eq_true, Bool.or_eq_true, decide_eq_true_eq]; omega), cs (622 + i) (by simp only [off, Bool.and_true, Bool.and_eq_true, Bool.or_eq_true, decide_eq_true_eq]; omega)]
