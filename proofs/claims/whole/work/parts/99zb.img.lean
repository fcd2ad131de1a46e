/-! PURE, 83: images -/
theorem IM1.cg2 {i : Nat} {σ σ' : pm_S} (h : IM1 i σ) (e : rtT σ' = rtT σ) (h1 : ∀ o, 73 + 20 * i ≤ o → o < 93 + 20 * i → σ' o = σ o) (h2 : σ' (622 + i) = σ (622 + i)) : IM1 i σ' := by
  obtain ⟨a1, a2, a3, a4, a5⟩ := h
  unfold IM1
  rw [h2, h1 (74 + 20 * i) (by omega) (by omega), h1 (75 + 20 * i) (by omega) (by omega)]
  refine ⟨a1.cg e, a2, a3, a4, fun m hm => ?_⟩
  rw [h1 (77 + 20 * i + m) (by omega) (by omega)]
  exact ⟨(a5 m hm).1.cg e, (a5 m hm).2⟩
theorem jn_image_0 {al sl : Nat} {w : Nat × (Nat → Int)} {σ : pm_S} (h : INV σ) (hi : σ 0 12 = 0) : JN 155 275 [vR 0] [vR 133] al sl w σ := by
  obtain ⟨⟨s1, s2⟩, s3, s4⟩ := h.2.2.2.2.2.2.1
  obtain ⟨i1, i2, i3⟩ := h.2.2.2.2.2.2.2
  obtain ⟨v, σ1, e1, rfl, c1, c2, c3, c4, c5, cs⟩ := co_image_0 (d := 960) (al := al) (sl := sl) (w := w) (σ := σ) hi rfl s1 s2
  have h39 : σ1 133 39 = 0 := by rw [cs 133 (by decide), i2]; exact hi
  obtain ⟨v, σ2, e2, hr⟩ := ro_image (d := 960) (al := al) (sl := sl) (w := w) (σ := σ1) h39 (by decide) (by decide)
  rcases hr with ⟨g', _⟩ | ⟨g', rfl, r1, r2, r3, r4, r5, r6⟩
  · omega
  · have tn : ((0 : Int).toNat) = 0 := rfl
    rw [tn] at r1 r2 r3 r6
    have sS : Sm rowS σ σ2 := fun o ho => by
      have ho' := ho
      simp only [rowS, off, Bool.and_true, Bool.and_eq_true, Bool.or_eq_true, decide_eq_true_eq] at ho'
      rw [r6 o (by omega) (by omega), cs o (by simp only [off, Bool.and_true, Bool.and_eq_true, Bool.or_eq_true, decide_eq_true_eq]; omega)]
    have eT : rtT σ2 = rtT σ := sS.rtT (by decide)
    have e37 : σ2 37 = σ 37 := by rw [r6 37 (by decide) (by decide), cs 37 (by decide)]
    have e601 : σ2 601 = σ 601 := by rw [r6 601 (by decide) (by decide), cs 601 (by decide)]
    have e0 : σ2 0 = σ1 0 := r6 0 (by decide) (by decide)
    refine ⟨_, σ1, σ2, e1, e2, h.row sS (by rw [e37]; exact h.1.2.1) (by rw [e37, e601]; exact h.2.1.2.1) ?_ ?_ ?_ ?_ ?_ (h.2.2.2.2.1.sm ?_ ?_ ?_ ?_ ?_) (h.2.2.2.2.2.2.1.cg eT ?_ ?_ (fun m hm => ⟨?_, ?_⟩)) ⟨?_, ?_, fun i hii => ?_⟩⟩
    · rw [r5 21 (by decide) (by decide) (by decide), cs 133 (by decide)]
    · rw [r5 36 (by decide) (by decide) (by decide), cs 133 (by decide)]
    · rw [r5 38 (by decide) (by decide) (by decide), cs 133 (by decide), e0, c2 17 (by decide)]; exact h.2.1.2.2.2
    · rw [e0, c2 18 (by decide)]
    · rw [e0, c2 19 (by decide)]
    · rw [r6 1 (by decide) (by decide), cs 1 (by decide)]
    · rw [r6 2 (by decide) (by decide), cs 2 (by decide)]
    · rw [r6 134 (by decide) (by decide), cs 134 (by decide)]
    · rw [r5 1 (by decide) (by decide) (by decide), cs 133 (by decide)]
    · rw [r5 3 (by decide) (by decide) (by decide), cs 133 (by decide)]
    · rw [r6 44 (by decide) (by decide), cs 44 (by decide)]
    · rw [r5 37 (by decide) (by decide) (by decide), cs 133 (by decide)]
    · rw [r6 (46 + m) (by omega) (by omega), cs (46 + m) (by simp only [off, Bool.and_true, Bool.and_eq_true, Bool.or_eq_true, decide_eq_true_eq]; omega)]
    · rw [r6 (605 + m) (by omega) (by omega), cs (605 + m) (by simp only [off, Bool.and_true, Bool.and_eq_true, Bool.or_eq_true, decide_eq_true_eq]; omega)]
    · rw [e0, c1]; decide
    · rw [r4, e0, c1]
    · rw [e0, c1] at hii
      by_cases ei : i = 0
      · subst ei
        have q37 := h.1.2.1
        have o74 : ∀ o, 73 ≤ o → o < 93 → σ2 o = σ1 o := fun o a1 a2 => r6 o (by omega) (by omega)
        unfold IM1
        show RK σ2 (σ2 74) ∧ RR (fun j => σ2 (622 + 0) (1 + j)) (σ2 74) ∧ (0 ≤ σ2 75 1 ∧ σ2 75 1 ≤ 16) ∧ σ2 (622 + 0) 0 = σ2 75 1 ∧ ∀ m : Nat, (m : Int) < σ2 75 1 → RK σ2 (σ2 (77 + m)) ∧ RR (fun j => σ2 (622 + 0) (101 + 100 * m + j)) (σ2 (77 + m))
        rw [o74 74 (by decide) (by decide), o74 75 (by decide) (by decide), c4]
        refine ⟨(q37.lt92 (fun k hk => c3 k (by omega))).cg eT, ?_, ⟨s1, s2⟩, ?_, fun m hm => ?_⟩
        · have z := (h.2.1.2.1.r c3 : RR (σ 601) (σ1 74))
          exact z.cp (fun k hk => by rw [r2 k hk, cs 601 (by decide)])
        · rw [r1, cs 133 (by decide)]; exact s3
        · obtain ⟨z1, z2⟩ := s4 m hm
          rw [o74 (77 + m) (by omega) (by omega)]
          refine ⟨(z1.lt92 (fun k hk => c5 m hm k (by omega))).cg eT, ?_⟩
          have z3 := z2.r (c5 m hm)
          exact z3.cp (fun k hk => by rw [r3 m k (by omega) hk, cs (605 + m) (by simp only [off, Bool.and_true, Bool.and_eq_true, Bool.or_eq_true, decide_eq_true_eq]; omega)])
      · refine (i3 i (by omega)).cg2 eT (fun o a1 a2 => ?_) ?_
        · rw [r6 o (by omega) (by omega), cs o (by simp only [off, Bool.and_true, Bool.and_eq_true, Bool.or_eq_true, decide_eq_true_eq]; omega)]
        · rw [r6 (622 + i) (by omega) (by omega), cs (622 + i) (by simp only [off, Bool.and_true, Bool.and_eq_true, Bool.or_eq_true, decide_eq_true_eq]; omega)]
theorem jn_restore_0 {al sl : Nat} {w : Nat × (Nat → Int)} {σ : pm_S} (h : INV σ) (hi : σ 0 12 = 0 + 1) : JN 156 276 [vR 0] [vR 133] al sl w σ := by
  obtain ⟨i1, i2, i3⟩ := h.2.2.2.2.2.2.2
  obtain ⟨m1, m2, ⟨m3, m4⟩, m5, m6⟩ := (show RK σ (σ 74) ∧ RR (fun j => σ (622 + 0) (1 + j)) (σ 74) ∧ (0 ≤ σ 75 1 ∧ σ 75 1 ≤ 16) ∧ σ (622 + 0) 0 = σ 75 1 ∧ ∀ m : Nat, (m : Int) < σ 75 1 → RK σ (σ (77 + m)) ∧ RR (fun j => σ (622 + 0) (101 + 100 * m + j)) (σ (77 + m)) from i3 0 (by rw [hi]; decide))
  obtain ⟨v, σ1, e1, rfl, c1, c2, c3, c4, c5, c6, cs⟩ := co_restore_0 (d := 960) (al := al) (sl := sl) (w := w) (σ := σ) hi rfl m3 m4
  have h39 : σ1 133 39 = 0 + 1 := by rw [cs 133 (by decide), i2]; exact hi
  obtain ⟨v, σ2, e2, hr⟩ := ro_restore (d := 960) (al := al) (sl := sl) (w := w) (σ := σ1) h39 (by decide) (by decide)
  rcases hr with ⟨g', _⟩ | ⟨g', rfl, r1, r2, r3, r4, r5, r6, r7⟩
  · omega
  · have tn : ((0 : Int) + 1 - 1).toNat = 0 := rfl
    have tm : ((0 : Int) + 1 - 1) = 0 := rfl
    rw [tn] at r1 r2 r3
    rw [tm] at r4 e2
    have sS : Sm rowS σ σ2 := (cs.mono (by decide)).trans (r7.mono (by decide))
    have eT : rtT σ2 = rtT σ := sS.rtT (by decide)
    have e37 : σ2 37 = σ1 37 := r7 37 (by decide)
    have e0 : σ2 0 = σ1 0 := r7 0 (by decide)
    have k622 : ∀ i, i < 3 → σ1 (622 + i) = σ (622 + i) := fun i h3 => cs (622 + i) (by simp only [off, Bool.and_true, Bool.and_eq_true, Bool.or_eq_true, decide_eq_true_eq]; omega)
    refine ⟨_, σ1, σ2, e1, e2, h.row sS ?_ ?_ ?_ ?_ ?_ ?_ ?_ (h.2.2.2.2.1.sm ?_ ?_ ?_ ?_ ?_) ⟨?_, ?_, fun m hm => ?_⟩ ⟨?_, ?_, fun i hii => ?_⟩⟩
    · rw [e37]; exact m1.lt92 (fun k hk => c4 k (by omega))
    · rw [e37]
      have z := (m2.r c4 : RR (fun j => σ (622 + 0) (1 + j)) (σ1 37))
      exact z.cp (fun k hk => by rw [r2 k hk, k622 0 (by decide)])
    · rw [r6 21 (by decide) (by decide) (by decide) (by decide) (by decide), cs 133 (by decide)]
    · rw [r6 36 (by decide) (by decide) (by decide) (by decide) (by decide), cs 133 (by decide)]
    · rw [r5, e0, c2]
    · rw [e0, c3 18 (by decide) (by decide)]
    · rw [e0, c3 19 (by decide) (by decide)]
    · rw [r7 1 (by decide), cs 1 (by decide)]
    · rw [r7 2 (by decide), cs 2 (by decide)]
    · rw [r7 134 (by decide), cs 134 (by decide)]
    · rw [r6 1 (by decide) (by decide) (by decide) (by decide) (by decide), cs 133 (by decide)]
    · rw [r6 3 (by decide) (by decide) (by decide) (by decide) (by decide), cs 133 (by decide)]
    · rw [r7 44 (by decide), c5]; exact ⟨m3, m4⟩
    · rw [r1, r7 44 (by decide), c5, k622 0 (by decide)]; exact m5
    · rw [r7 44 (by decide), c5] at hm
      obtain ⟨z1, z2⟩ := m6 m hm
      have f1 : σ2 (46 + m) = σ1 (46 + m) := r7 (46 + m) (by simp only [off, Bool.and_true, Bool.and_eq_true, Bool.or_eq_true, decide_eq_true_eq]; omega)
      rw [f1]
      refine ⟨(z1.lt92 (fun k hk => c6 m hm k (by omega))).cg eT, ?_⟩
      have z3 := z2.r (c6 m hm)
      exact z3.cp (fun k hk => by rw [r3 m k (by omega) hk, k622 0 (by decide)])
    · rw [e0, c1]; decide
    · rw [r4, e0, c1]
    · rw [e0, c1] at hii
      refine (i3 i (by omega)).cg eT (by omega) (fun o a1 a2 => ?_) ?_
      · rw [r7 o (by simp only [off, Bool.and_true, Bool.and_eq_true, Bool.or_eq_true, decide_eq_true_eq]; omega), cs o (by simp only [off, Bool.and_true, Bool.and_eq_true, Bool.or_eq_true, decide_eq_true_eq]; omega)]
      · rw [r7 (622 + i) (by simp only [off, Bool.and_true, Bool.and_eq_true, Bool.or_eq_true, decide_eq_true_eq]; omega), k622 i (by omega)]
theorem jn_image_1 {al sl : Nat} {w : Nat × (Nat → Int)} {σ : pm_S} (h : INV σ) (hi : σ 0 12 = 1) : JN 155 275 [vR 0] [vR 133] al sl w σ := by
  obtain ⟨⟨s1, s2⟩, s3, s4⟩ := h.2.2.2.2.2.2.1
  obtain ⟨i1, i2, i3⟩ := h.2.2.2.2.2.2.2
  obtain ⟨v, σ1, e1, rfl, c1, c2, c3, c4, c5, cs⟩ := co_image_1 (d := 960) (al := al) (sl := sl) (w := w) (σ := σ) hi rfl s1 s2
  have h39 : σ1 133 39 = 1 := by rw [cs 133 (by decide), i2]; exact hi
  obtain ⟨v, σ2, e2, hr⟩ := ro_image (d := 960) (al := al) (sl := sl) (w := w) (σ := σ1) h39 (by decide) (by decide)
  rcases hr with ⟨g', _⟩ | ⟨g', rfl, r1, r2, r3, r4, r5, r6⟩
  · omega
  · have tn : ((1 : Int).toNat) = 1 := rfl
    rw [tn] at r1 r2 r3 r6
    have sS : Sm rowS σ σ2 := fun o ho => by
      have ho' := ho
      simp only [rowS, off, Bool.and_true, Bool.and_eq_true, Bool.or_eq_true, decide_eq_true_eq] at ho'
      rw [r6 o (by omega) (by omega), cs o (by simp only [off, Bool.and_true, Bool.and_eq_true, Bool.or_eq_true, decide_eq_true_eq]; omega)]
    have eT : rtT σ2 = rtT σ := sS.rtT (by decide)
    have e37 : σ2 37 = σ 37 := by rw [r6 37 (by decide) (by decide), cs 37 (by decide)]
    have e601 : σ2 601 = σ 601 := by rw [r6 601 (by decide) (by decide), cs 601 (by decide)]
    have e0 : σ2 0 = σ1 0 := r6 0 (by decide) (by decide)
    refine ⟨_, σ1, σ2, e1, e2, h.row sS (by rw [e37]; exact h.1.2.1) (by rw [e37, e601]; exact h.2.1.2.1) ?_ ?_ ?_ ?_ ?_ (h.2.2.2.2.1.sm ?_ ?_ ?_ ?_ ?_) (h.2.2.2.2.2.2.1.cg eT ?_ ?_ (fun m hm => ⟨?_, ?_⟩)) ⟨?_, ?_, fun i hii => ?_⟩⟩
    · rw [r5 21 (by decide) (by decide) (by decide), cs 133 (by decide)]
    · rw [r5 36 (by decide) (by decide) (by decide), cs 133 (by decide)]
    · rw [r5 38 (by decide) (by decide) (by decide), cs 133 (by decide), e0, c2 17 (by decide)]; exact h.2.1.2.2.2
    · rw [e0, c2 18 (by decide)]
    · rw [e0, c2 19 (by decide)]
    · rw [r6 1 (by decide) (by decide), cs 1 (by decide)]
    · rw [r6 2 (by decide) (by decide), cs 2 (by decide)]
    · rw [r6 134 (by decide) (by decide), cs 134 (by decide)]
    · rw [r5 1 (by decide) (by decide) (by decide), cs 133 (by decide)]
    · rw [r5 3 (by decide) (by decide) (by decide), cs 133 (by decide)]
    · rw [r6 44 (by decide) (by decide), cs 44 (by decide)]
    · rw [r5 37 (by decide) (by decide) (by decide), cs 133 (by decide)]
    · rw [r6 (46 + m) (by omega) (by omega), cs (46 + m) (by simp only [off, Bool.and_true, Bool.and_eq_true, Bool.or_eq_true, decide_eq_true_eq]; omega)]
    · rw [r6 (605 + m) (by omega) (by omega), cs (605 + m) (by simp only [off, Bool.and_true, Bool.and_eq_true, Bool.or_eq_true, decide_eq_true_eq]; omega)]
    · rw [e0, c1]; decide
    · rw [r4, e0, c1]
    · rw [e0, c1] at hii
      by_cases ei : i = 1
      · subst ei
        have q37 := h.1.2.1
        have o74 : ∀ o, 93 ≤ o → o < 113 → σ2 o = σ1 o := fun o a1 a2 => r6 o (by omega) (by omega)
        unfold IM1
        show RK σ2 (σ2 94) ∧ RR (fun j => σ2 (622 + 1) (1 + j)) (σ2 94) ∧ (0 ≤ σ2 95 1 ∧ σ2 95 1 ≤ 16) ∧ σ2 (622 + 1) 0 = σ2 95 1 ∧ ∀ m : Nat, (m : Int) < σ2 95 1 → RK σ2 (σ2 (97 + m)) ∧ RR (fun j => σ2 (622 + 1) (101 + 100 * m + j)) (σ2 (97 + m))
        rw [o74 94 (by decide) (by decide), o74 95 (by decide) (by decide), c4]
        refine ⟨(q37.lt92 (fun k hk => c3 k (by omega))).cg eT, ?_, ⟨s1, s2⟩, ?_, fun m hm => ?_⟩
        · have z := (h.2.1.2.1.r c3 : RR (σ 601) (σ1 94))
          exact z.cp (fun k hk => by rw [r2 k hk, cs 601 (by decide)])
        · rw [r1, cs 133 (by decide)]; exact s3
        · obtain ⟨z1, z2⟩ := s4 m hm
          rw [o74 (97 + m) (by omega) (by omega)]
          refine ⟨(z1.lt92 (fun k hk => c5 m hm k (by omega))).cg eT, ?_⟩
          have z3 := z2.r (c5 m hm)
          exact z3.cp (fun k hk => by rw [r3 m k (by omega) hk, cs (605 + m) (by simp only [off, Bool.and_true, Bool.and_eq_true, Bool.or_eq_true, decide_eq_true_eq]; omega)])
      · refine (i3 i (by omega)).cg2 eT (fun o a1 a2 => ?_) ?_
        · rw [r6 o (by omega) (by omega), cs o (by simp only [off, Bool.and_true, Bool.and_eq_true, Bool.or_eq_true, decide_eq_true_eq]; omega)]
        · rw [r6 (622 + i) (by omega) (by omega), cs (622 + i) (by simp only [off, Bool.and_true, Bool.and_eq_true, Bool.or_eq_true, decide_eq_true_eq]; omega)]
theorem jn_restore_1 {al sl : Nat} {w : Nat × (Nat → Int)} {σ : pm_S} (h : INV σ) (hi : σ 0 12 = 1 + 1) : JN 156 276 [vR 0] [vR 133] al sl w σ := by
  obtain ⟨i1, i2, i3⟩ := h.2.2.2.2.2.2.2
  obtain ⟨m1, m2, ⟨m3, m4⟩, m5, m6⟩ := (show RK σ (σ 94) ∧ RR (fun j => σ (622 + 1) (1 + j)) (σ 94) ∧ (0 ≤ σ 95 1 ∧ σ 95 1 ≤ 16) ∧ σ (622 + 1) 0 = σ 95 1 ∧ ∀ m : Nat, (m : Int) < σ 95 1 → RK σ (σ (97 + m)) ∧ RR (fun j => σ (622 + 1) (101 + 100 * m + j)) (σ (97 + m)) from i3 1 (by rw [hi]; decide))
  obtain ⟨v, σ1, e1, rfl, c1, c2, c3, c4, c5, c6, cs⟩ := co_restore_1 (d := 960) (al := al) (sl := sl) (w := w) (σ := σ) hi rfl m3 m4
  have h39 : σ1 133 39 = 1 + 1 := by rw [cs 133 (by decide), i2]; exact hi
  obtain ⟨v, σ2, e2, hr⟩ := ro_restore (d := 960) (al := al) (sl := sl) (w := w) (σ := σ1) h39 (by decide) (by decide)
  rcases hr with ⟨g', _⟩ | ⟨g', rfl, r1, r2, r3, r4, r5, r6, r7⟩
  · omega
  · have tn : ((1 : Int) + 1 - 1).toNat = 1 := rfl
    have tm : ((1 : Int) + 1 - 1) = 1 := rfl
    rw [tn] at r1 r2 r3
    rw [tm] at r4 e2
    have sS : Sm rowS σ σ2 := (cs.mono (by decide)).trans (r7.mono (by decide))
    have eT : rtT σ2 = rtT σ := sS.rtT (by decide)
    have e37 : σ2 37 = σ1 37 := r7 37 (by decide)
    have e0 : σ2 0 = σ1 0 := r7 0 (by decide)
    have k622 : ∀ i, i < 3 → σ1 (622 + i) = σ (622 + i) := fun i h3 => cs (622 + i) (by simp only [off, Bool.and_true, Bool.and_eq_true, Bool.or_eq_true, decide_eq_true_eq]; omega)
    refine ⟨_, σ1, σ2, e1, e2, h.row sS ?_ ?_ ?_ ?_ ?_ ?_ ?_ (h.2.2.2.2.1.sm ?_ ?_ ?_ ?_ ?_) ⟨?_, ?_, fun m hm => ?_⟩ ⟨?_, ?_, fun i hii => ?_⟩⟩
    · rw [e37]; exact m1.lt92 (fun k hk => c4 k (by omega))
    · rw [e37]
      have z := (m2.r c4 : RR (fun j => σ (622 + 1) (1 + j)) (σ1 37))
      exact z.cp (fun k hk => by rw [r2 k hk, k622 1 (by decide)])
    · rw [r6 21 (by decide) (by decide) (by decide) (by decide) (by decide), cs 133 (by decide)]
    · rw [r6 36 (by decide) (by decide) (by decide) (by decide) (by decide), cs 133 (by decide)]
    · rw [r5, e0, c2]
    · rw [e0, c3 18 (by decide) (by decide)]
    · rw [e0, c3 19 (by decide) (by decide)]
    · rw [r7 1 (by decide), cs 1 (by decide)]
    · rw [r7 2 (by decide), cs 2 (by decide)]
    · rw [r7 134 (by decide), cs 134 (by decide)]
    · rw [r6 1 (by decide) (by decide) (by decide) (by decide) (by decide), cs 133 (by decide)]
    · rw [r6 3 (by decide) (by decide) (by decide) (by decide) (by decide), cs 133 (by decide)]
    · rw [r7 44 (by decide), c5]; exact ⟨m3, m4⟩
    · rw [r1, r7 44 (by decide), c5, k622 1 (by decide)]; exact m5
    · rw [r7 44 (by decide), c5] at hm
      obtain ⟨z1, z2⟩ := m6 m hm
      have f1 : σ2 (46 + m) = σ1 (46 + m) := r7 (46 + m) (by simp only [off, Bool.and_true, Bool.and_eq_true, Bool.or_eq_true, decide_eq_true_eq]; omega)
      rw [f1]
      refine ⟨(z1.lt92 (fun k hk => c6 m hm k (by omega))).cg eT, ?_⟩
      have z3 := z2.r (c6 m hm)
      exact z3.cp (fun k hk => by rw [r3 m k (by omega) hk, k622 1 (by decide)])
    · rw [e0, c1]; decide
    · rw [r4, e0, c1]
    · rw [e0, c1] at hii
      refine (i3 i (by omega)).cg eT (by omega) (fun o a1 a2 => ?_) ?_
      · rw [r7 o (by simp only [off, Bool.and_true, Bool.and_eq_true, Bool.or_eq_true, decide_eq_true_eq]; omega), cs o (by simp only [off, Bool.and_true, Bool.and_eq_true, Bool.or_eq_true, decide_eq_true_eq]; omega)]
      · rw [r7 (622 + i) (by simp only [off, Bool.and_true, Bool.and_eq_true, Bool.or_eq_true, decide_eq_true_eq]; omega), k622 i (by omega)]
theorem jn_image_2 {al sl : Nat} {w : Nat × (Nat → Int)} {σ : pm_S} (h : INV σ) (hi : σ 0 12 = 2) : JN 155 275 [vR 0] [vR 133] al sl w σ := by
  obtain ⟨⟨s1, s2⟩, s3, s4⟩ := h.2.2.2.2.2.2.1
  obtain ⟨i1, i2, i3⟩ := h.2.2.2.2.2.2.2
  obtain ⟨v, σ1, e1, rfl, c1, c2, c3, c4, c5, cs⟩ := co_image_2 (d := 960) (al := al) (sl := sl) (w := w) (σ := σ) hi rfl s1 s2
  have h39 : σ1 133 39 = 2 := by rw [cs 133 (by decide), i2]; exact hi
  obtain ⟨v, σ2, e2, hr⟩ := ro_image (d := 960) (al := al) (sl := sl) (w := w) (σ := σ1) h39 (by decide) (by decide)
  rcases hr with ⟨g', _⟩ | ⟨g', rfl, r1, r2, r3, r4, r5, r6⟩
  · omega
  · have tn : ((2 : Int).toNat) = 2 := rfl
    rw [tn] at r1 r2 r3 r6
    have sS : Sm rowS σ σ2 := fun o ho => by
      have ho' := ho
      simp only [rowS, off, Bool.and_true, Bool.and_eq_true, Bool.or_eq_true, decide_eq_true_eq] at ho'
      rw [r6 o (by omega) (by omega), cs o (by simp only [off, Bool.and_true, Bool.and_eq_true, Bool.or_eq_true, decide_eq_true_eq]; omega)]
    have eT : rtT σ2 = rtT σ := sS.rtT (by decide)
    have e37 : σ2 37 = σ 37 := by rw [r6 37 (by decide) (by decide), cs 37 (by decide)]
    have e601 : σ2 601 = σ 601 := by rw [r6 601 (by decide) (by decide), cs 601 (by decide)]
    have e0 : σ2 0 = σ1 0 := r6 0 (by decide) (by decide)
    refine ⟨_, σ1, σ2, e1, e2, h.row sS (by rw [e37]; exact h.1.2.1) (by rw [e37, e601]; exact h.2.1.2.1) ?_ ?_ ?_ ?_ ?_ (h.2.2.2.2.1.sm ?_ ?_ ?_ ?_ ?_) (h.2.2.2.2.2.2.1.cg eT ?_ ?_ (fun m hm => ⟨?_, ?_⟩)) ⟨?_, ?_, fun i hii => ?_⟩⟩
    · rw [r5 21 (by decide) (by decide) (by decide), cs 133 (by decide)]
    · rw [r5 36 (by decide) (by decide) (by decide), cs 133 (by decide)]
    · rw [r5 38 (by decide) (by decide) (by decide), cs 133 (by decide), e0, c2 17 (by decide)]; exact h.2.1.2.2.2
    · rw [e0, c2 18 (by decide)]
    · rw [e0, c2 19 (by decide)]
    · rw [r6 1 (by decide) (by decide), cs 1 (by decide)]
    · rw [r6 2 (by decide) (by decide), cs 2 (by decide)]
    · rw [r6 134 (by decide) (by decide), cs 134 (by decide)]
    · rw [r5 1 (by decide) (by decide) (by decide), cs 133 (by decide)]
    · rw [r5 3 (by decide) (by decide) (by decide), cs 133 (by decide)]
    · rw [r6 44 (by decide) (by decide), cs 44 (by decide)]
    · rw [r5 37 (by decide) (by decide) (by decide), cs 133 (by decide)]
    · rw [r6 (46 + m) (by omega) (by omega), cs (46 + m) (by simp only [off, Bool.and_true, Bool.and_eq_true, Bool.or_eq_true, decide_eq_true_eq]; omega)]
    · rw [r6 (605 + m) (by omega) (by omega), cs (605 + m) (by simp only [off, Bool.and_true, Bool.and_eq_true, Bool.or_eq_true, decide_eq_true_eq]; omega)]
    · rw [e0, c1]; decide
    · rw [r4, e0, c1]
    · rw [e0, c1] at hii
      by_cases ei : i = 2
      · subst ei
        have q37 := h.1.2.1
        have o74 : ∀ o, 113 ≤ o → o < 133 → σ2 o = σ1 o := fun o a1 a2 => r6 o (by omega) (by omega)
        unfold IM1
        show RK σ2 (σ2 114) ∧ RR (fun j => σ2 (622 + 2) (1 + j)) (σ2 114) ∧ (0 ≤ σ2 115 1 ∧ σ2 115 1 ≤ 16) ∧ σ2 (622 + 2) 0 = σ2 115 1 ∧ ∀ m : Nat, (m : Int) < σ2 115 1 → RK σ2 (σ2 (117 + m)) ∧ RR (fun j => σ2 (622 + 2) (101 + 100 * m + j)) (σ2 (117 + m))
        rw [o74 114 (by decide) (by decide), o74 115 (by decide) (by decide), c4]
        refine ⟨(q37.lt92 (fun k hk => c3 k (by omega))).cg eT, ?_, ⟨s1, s2⟩, ?_, fun m hm => ?_⟩
        · have z := (h.2.1.2.1.r c3 : RR (σ 601) (σ1 114))
          exact z.cp (fun k hk => by rw [r2 k hk, cs 601 (by decide)])
        · rw [r1, cs 133 (by decide)]; exact s3
        · obtain ⟨z1, z2⟩ := s4 m hm
          rw [o74 (117 + m) (by omega) (by omega)]
          refine ⟨(z1.lt92 (fun k hk => c5 m hm k (by omega))).cg eT, ?_⟩
          have z3 := z2.r (c5 m hm)
          exact z3.cp (fun k hk => by rw [r3 m k (by omega) hk, cs (605 + m) (by simp only [off, Bool.and_true, Bool.and_eq_true, Bool.or_eq_true, decide_eq_true_eq]; omega)])
      · refine (i3 i (by omega)).cg2 eT (fun o a1 a2 => ?_) ?_
        · rw [r6 o (by omega) (by omega), cs o (by simp only [off, Bool.and_true, Bool.and_eq_true, Bool.or_eq_true, decide_eq_true_eq]; omega)]
        · rw [r6 (622 + i) (by omega) (by omega), cs (622 + i) (by simp only [off, Bool.and_true, Bool.and_eq_true, Bool.or_eq_true, decide_eq_true_eq]; omega)]
theorem jn_restore_2 {al sl : Nat} {w : Nat × (Nat → Int)} {σ : pm_S} (h : INV σ) (hi : σ 0 12 = 2 + 1) : JN 156 276 [vR 0] [vR 133] al sl w σ := by
  obtain ⟨i1, i2, i3⟩ := h.2.2.2.2.2.2.2
  obtain ⟨m1, m2, ⟨m3, m4⟩, m5, m6⟩ := (show RK σ (σ 114) ∧ RR (fun j => σ (622 + 2) (1 + j)) (σ 114) ∧ (0 ≤ σ 115 1 ∧ σ 115 1 ≤ 16) ∧ σ (622 + 2) 0 = σ 115 1 ∧ ∀ m : Nat, (m : Int) < σ 115 1 → RK σ (σ (117 + m)) ∧ RR (fun j => σ (622 + 2) (101 + 100 * m + j)) (σ (117 + m)) from i3 2 (by rw [hi]; decide))
  obtain ⟨v, σ1, e1, rfl, c1, c2, c3, c4, c5, c6, cs⟩ := co_restore_2 (d := 960) (al := al) (sl := sl) (w := w) (σ := σ) hi rfl m3 m4
  have h39 : σ1 133 39 = 2 + 1 := by rw [cs 133 (by decide), i2]; exact hi
  obtain ⟨v, σ2, e2, hr⟩ := ro_restore (d := 960) (al := al) (sl := sl) (w := w) (σ := σ1) h39 (by decide) (by decide)
  rcases hr with ⟨g', _⟩ | ⟨g', rfl, r1, r2, r3, r4, r5, r6, r7⟩
  · omega
  · have tn : ((2 : Int) + 1 - 1).toNat = 2 := rfl
    have tm : ((2 : Int) + 1 - 1) = 2 := rfl
    rw [tn] at r1 r2 r3
    rw [tm] at r4 e2
    have sS : Sm rowS σ σ2 := (cs.mono (by decide)).trans (r7.mono (by decide))
    have eT : rtT σ2 = rtT σ := sS.rtT (by decide)
    have e37 : σ2 37 = σ1 37 := r7 37 (by decide)
    have e0 : σ2 0 = σ1 0 := r7 0 (by decide)
    have k622 : ∀ i, i < 3 → σ1 (622 + i) = σ (622 + i) := fun i h3 => cs (622 + i) (by simp only [off, Bool.and_true, Bool.and_eq_true, Bool.or_eq_true, decide_eq_true_eq]; omega)
    refine ⟨_, σ1, σ2, e1, e2, h.row sS ?_ ?_ ?_ ?_ ?_ ?_ ?_ (h.2.2.2.2.1.sm ?_ ?_ ?_ ?_ ?_) ⟨?_, ?_, fun m hm => ?_⟩ ⟨?_, ?_, fun i hii => ?_⟩⟩
    · rw [e37]; exact m1.lt92 (fun k hk => c4 k (by omega))
    · rw [e37]
      have z := (m2.r c4 : RR (fun j => σ (622 + 2) (1 + j)) (σ1 37))
      exact z.cp (fun k hk => by rw [r2 k hk, k622 2 (by decide)])
    · rw [r6 21 (by decide) (by decide) (by decide) (by decide) (by decide), cs 133 (by decide)]
    · rw [r6 36 (by decide) (by decide) (by decide) (by decide) (by decide), cs 133 (by decide)]
    · rw [r5, e0, c2]
    · rw [e0, c3 18 (by decide) (by decide)]
    · rw [e0, c3 19 (by decide) (by decide)]
    · rw [r7 1 (by decide), cs 1 (by decide)]
    · rw [r7 2 (by decide), cs 2 (by decide)]
    · rw [r7 134 (by decide), cs 134 (by decide)]
    · rw [r6 1 (by decide) (by decide) (by decide) (by decide) (by decide), cs 133 (by decide)]
    · rw [r6 3 (by decide) (by decide) (by decide) (by decide) (by decide), cs 133 (by decide)]
    · rw [r7 44 (by decide), c5]; exact ⟨m3, m4⟩
    · rw [r1, r7 44 (by decide), c5, k622 2 (by decide)]; exact m5
    · rw [r7 44 (by decide), c5] at hm
      obtain ⟨z1, z2⟩ := m6 m hm
      have f1 : σ2 (46 + m) = σ1 (46 + m) := r7 (46 + m) (by simp only [off, Bool.and_true, Bool.and_eq_true, Bool.or_eq_true, decide_eq_true_eq]; omega)
      rw [f1]
      refine ⟨(z1.lt92 (fun k hk => c6 m hm k (by omega))).cg eT, ?_⟩
      have z3 := z2.r (c6 m hm)
      exact z3.cp (fun k hk => by rw [r3 m k (by omega) hk, k622 2 (by decide)])
    · rw [e0, c1]; decide
    · rw [r4, e0, c1]
    · rw [e0, c1] at hii
      refine (i3 i (by omega)).cg eT (by omega) (fun o a1 a2 => ?_) ?_
      · rw [r7 o (by simp only [off, Bool.and_true, Bool.and_eq_true, Bool.or_eq_true, decide_eq_true_eq]; omega), cs o (by simp only [off, Bool.and_true, Bool.and_eq_true, Bool.or_eq_true, decide_eq_true_eq]; omega)]
      · rw [r7 (622 + i) (by simp only [off, Bool.and_true, Bool.and_eq_true, Bool.or_eq_true, decide_eq_true_eq]; omega), k622 i (by omega)]
theorem jn_image {al sl : Nat} {w : Nat × (Nat → Int)} {σ : pm_S} (h : INV σ) : JN 155 275 [vR 0] [vR 133] al sl w σ := by
  obtain ⟨i1, i2, i3⟩ := h.2.2.2.2.2.2.2
  have hc : σ 0 12 = 0 ∨ σ 0 12 = 1 ∨ σ 0 12 = 2 ∨ σ 0 12 = 3 := by omega
  rcases hc with hc | hc | hc | hc
  · exact jn_image_0 h hc
  · exact jn_image_1 h hc
  · exact jn_image_2 h hc
  · obtain ⟨v, σ2, e2, hr⟩ := ro_image (d := 960) (al := al) (sl := sl) (w := w) (σ := σ) (i2.trans hc) (by decide) (by decide)
    rcases hr with ⟨_, rfl, rfl⟩ | ⟨g, _⟩
    · exact ⟨-1, σ, _, co_image_3 (d := 960) hc, e2, h.z⟩
    · omega
theorem jn_restore {al sl : Nat} {w : Nat × (Nat → Int)} {σ : pm_S} (h : INV σ) : JN 156 276 [vR 0] [vR 133] al sl w σ := by
  obtain ⟨i1, i2, i3⟩ := h.2.2.2.2.2.2.2
  have hc : σ 0 12 = 0 ∨ σ 0 12 = 0 + 1 ∨ σ 0 12 = 1 + 1 ∨ σ 0 12 = 2 + 1 := by omega
  rcases hc with hc | hc | hc | hc
  · obtain ⟨v, σ2, e2, hr⟩ := ro_restore (d := 960) (al := al) (sl := sl) (w := w) (σ := σ) (i2.trans hc) (by decide) (by decide)
    rcases hr with ⟨_, rfl, rfl⟩ | ⟨g, _⟩
    · exact ⟨-1, σ, _, co_restore_no (d := 960) hc, e2, h.z⟩
    · omega
  · exact jn_restore_0 h hc
  · exact jn_restore_1 h hc
  · exact jn_restore_2 h hc
