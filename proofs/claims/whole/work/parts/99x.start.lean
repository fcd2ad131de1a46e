/-! PURE, 79: the law's start -/
theorem ini_ok (w : Nat × (Nat → Int)) : ∃ (A1 : pm_A) (σ1 : pm_S) (A2 : pm_A) (σ2 : pm_S), ini1 w = some (.inl none, A1, σ1) ∧ A1.2.2.1.length = 133 ∧ A1.2.2.2 = w ∧ pm_cal pP (pm_x pP 1800) 1000 164 [vR 133] (A1.1 + 1, A1.2.1 + 50, A1.2.2.1 ++ [(12, 50, List.replicate 50 none)], A1.2.2.2) (zer σ1 A1.2.2.1.length (A1.2.2.1.length + 1)) = some (.inl none, A2, σ2) ∧ A2.1 = 690 ∧ A2.2.1 = 25825 ∧ A2.2.2.1 ++ [(102, 1, [])] = SH ∧ A2.2.2.2 = w ∧ ∀ j, iniV (zer σ2 690 691) j = true := by
  have h0 := fun j => iniC_all (w, j)
  unfold iniC at h0
  dsimp only at h0
  cases e1 : ini1 w with
  | none => have := h0 0; rw [e1] at this; cases this
  | some r1 =>
    obtain ⟨q1, A1, σ1⟩ := r1
    rcases q1 with (_ | v) | x
    · have e2 : ini2 w = pm_cal pP (pm_x pP 1800) 1000 164 [vR 133] (A1.1 + 1, A1.2.1 + 50, A1.2.2.1 ++ [(12, 50, List.replicate 50 none)], A1.2.2.2) (zer σ1 A1.2.2.1.length (A1.2.2.1.length + 1)) := by
        unfold ini2
        rw [e1]
      rw [e1] at h0
      dsimp only at h0
      have w1 : A1.2.2.2 = w := pm_cal_w (pm_x_w pP 1600) (show pm_cal pP (pm_x pP 1600) 1000 113 [vR 0] (1, 20, [(11, 20, List.replicate 20 none)], w) (zer (fun _ _ => 0) 0 1) = some (.inl none, A1, σ1) from e1)
      cases e3 : ini2 w with
      | none => have := h0 0; rw [e3] at this; simp at this
      | some r2 =>
        obtain ⟨q2, A2, σ2⟩ := r2
        rw [e3] at h0
        rcases q2 with (_ | v) | x
        · dsimp only at h0
          have w2 : A2.2.2.2 = w := (pm_cal_w (pm_x_w pP 1800) (e2.symm.trans e3)).trans w1
          have hh := h0 0
          simp only [Bool.and_eq_true, decide_eq_true_eq] at hh
          refine ⟨A1, σ1, A2, σ2, rfl, hh.1.2, w1, e2.symm.trans e3, hh.2.1.1.1, hh.2.1.1.2, hh.2.1.2, w2, fun j => ?_⟩
          have hj := h0 j
          simp only [Bool.and_eq_true] at hj
          exact hj.2.2
        · have := h0 0; simp at this
        · have := h0 0; simp at this
    · have := h0 0; rw [e1] at this; cases this
    · have := h0 0; rw [e1] at this; cases this
theorem INV0 {σ : pm_S} (h : ∀ j, iniV σ j = true) : INV σ := by
  have h0 := h 0
  unfold iniV at h0 h
  simp only [Bool.and_eq_true, List.all_eq_true, decide_eq_true_eq, List.mem_range] at h0 h
  obtain ⟨⟨⟨hv, hr⟩, _⟩, _⟩ := h0
  have h2 : ∀ j, σ 2 j = 0 := fun j => (h j).1.2
  have h134 : ∀ j, σ 134 j = 0 := fun j => (h j).2
  clear h
  have v : ∀ o k x, (o, k, x) ∈ ([(1, 1, 0), (1, 7, -1), (3, 0, 0), (3, 1, 0), (3, 2, 0), (3, 3, 12), (19, 2, 3), (20, 0, 1000), (20, 1, 1001), (20, 2, 1053), (25, 0, 0), (44, 1, 0), (63, 4, 0), (66, 6, -1), (0, 12, 0), (0, 17, 0), (0, 18, 0), (0, 19, 0), (135, 0, 0), (135, 1, 0), (133, 1, 0), (133, 3, -1), (133, 21, 0), (133, 36, 0), (133, 37, 0), (133, 38, 0), (133, 39, 0), (137, 0, 0), (137, 1, 0), (137, 2, 0), (137, 3, 12), (601, 98, 12), (601, 99, 0), (37, 98, 0), (37, 99, 12)] : List (Nat × Nat × Int)) → σ o k = x := fun o k x hm => hv (o, k, x) hm
  have v30 := v 3 0 0 (by decide)
  have v31 := v 3 1 0 (by decide)
  have v32 := v 3 2 0 (by decide)
  have v33 := v 3 3 12 (by decide)
  have v192 := v 19 2 3 (by decide)
  have c0 := v 20 0 1000 (by decide)
  have c1 := v 20 1 1001 (by decide)
  have c2 := v 20 2 1053 (by decide)
  have v25 := v 25 0 0 (by decide)
  have v44 := v 44 1 0 (by decide)
  have v012 := v 0 12 0 (by decide)
  have r37 : ∀ k, k < 98 → σ 37 k = if 80 ≤ k ∧ k < 86 then -1 else 0 := fun k hk => (hr k hk).2
  have tk : TK σ := by
    refine ⟨by omega, by omega, by omega, by omega, fun x x0 x1 => absurd x1 (by omega), fun x x0 x1 => absurd x1 (by omega), fun x x0 x1 => absurd x1 (by omega), fun a b a0 a1 _ _ => absurd a1 (by omega)⟩
  have rk : RK σ (σ 37) := by
    refine ⟨fun k k0 k1 => ?_, fun p p0 p1 => ?_, fun p q p0 p1 q0 q1 _ _ => ?_, fun p p0 p1 => ?_⟩
    · rw [r37 _ (by omega), if_neg (by omega)]; exact ⟨by omega, fun _ => rfl⟩
    · rw [r37 _ (by omega), if_pos (by omega)]; exact ⟨by omega, by omega, fun _ => rfl⟩
    · rw [r37 _ (by omega), if_pos (by omega)]
    · rw [r37 _ (by omega), if_neg (by omega)]; omega
  have lk : LK σ := by
    refine ⟨by omega, by omega, ?_⟩
    rw [v192, show (3 : Int).toNat = 3 from rfl]
    have d1 : dp (σ 20) 1 = 1 := by show (if σ 20 0 < 1008 then 0 + 1 else 0 - 1) = 1; rw [c0]; rfl
    have d2 : dp (σ 20) 2 = 2 := by show (if σ 20 1 < 1008 then dp (σ 20) 1 + 1 else dp (σ 20) 1 - 1) = 2; rw [c1, d1]; rfl
    have d3 : dp (σ 20) 3 = 1 := by show (if σ 20 2 < 1008 then dp (σ 20) 2 + 1 else dp (σ 20) 2 - 1) = 1; rw [c2, d2]; rfl
    refine ⟨d3, fun k hk => ?_⟩
    have : k = 0 ∨ k = 1 ∨ k = 2 := by omega
    rcases this with rfl | rfl | rfl
    · rw [c0]; exact ⟨by omega, fun _ => (show (0 : Nat) < 31 by decide), fun z => absurd z (by decide)⟩
    · rw [c1, d1]; exact ⟨by omega, fun _ => by decide, fun z => absurd z (by decide)⟩
    · rw [c2, d2]; exact ⟨by omega, fun z => absurd z (by decide), fun _ => ⟨by decide, by decide⟩⟩
  refine ⟨⟨tk, rk, lk⟩, ⟨⟨⟨fun k hk => ?_, fun x x0 x1 => absurd x1 (by omega), fun x x0 x1 => absurd x1 (by omega), fun x x0 x1 => absurd x1 (by omega)⟩, Or.inl ⟨v 133 21 0 (by decide), v192, c0, c1, c2⟩⟩, ⟨fun k hk => (hr k hk).1, ?_, ?_⟩, ?_, ?_⟩, ⟨⟨by omega, fun k k0 k1 => absurd k1 (by omega), fun j k j0 jk k1 => absurd k1 (by omega)⟩, fun k k0 k1 => absurd k1 (by omega)⟩, ⟨Or.inl (v 63 4 0 (by decide)), Or.inl (v 66 6 (-1) (by decide))⟩, ⟨?_, ?_, fun j _ => by rw [h2, h134], fun j => by rw [h2]; exact Int.le_refl 0, ?_⟩, ⟨?_, ?_⟩, ⟨by omega, ?_, fun m hm => absurd hm (by omega)⟩, ⟨by omega, ?_, fun m hm => absurd hm (by omega)⟩⟩
  · have : k = 0 ∨ k = 1 ∨ k = 2 ∨ k = 3 := by omega
    rcases this with rfl | rfl | rfl | rfl
    · rw [v30]; exact v 137 0 0 (by decide)
    · rw [v31]; exact v 137 1 0 (by decide)
    · rw [v32]; exact v 137 2 0 (by decide)
    · rw [v33]; exact v 137 3 12 (by decide)
  · rw [v 601 98 12 (by decide), v 37 99 12 (by decide)]
  · rw [v 601 99 0 (by decide), v 37 98 0 (by decide)]
  · rw [v 133 36 0 (by decide), v25]
  · rw [v 133 38 0 (by decide), v 0 17 0 (by decide)]
  · rw [v 1 1 0 (by decide)]; omega
  · rw [v 133 1 0 (by decide), v 1 1 0 (by decide)]
  · rw [v 133 3 (-1) (by decide), v 1 7 (-1) (by decide)]
  · rw [v 0 18 0 (by decide), v 135 0 0 (by decide)]
  · rw [v 0 19 0 (by decide), v 135 1 0 (by decide)]
  · rw [v 133 37 0 (by decide), v44]
  · rw [v 133 39 0 (by decide), v012]
theorem exs (d : Nat) (C : List pm_I) (i : pm_I) (r : List pm_I) (ls st : List pm_V) (A : pm_A) (σ : pm_S) : ex d C (i :: r) ls st A σ = pm_one pP ex d C i r ls st A σ := pm_E_cons pP d C i r ls st A σ
theorem ex_le (n : Nat) : pm_le (pm_x pP n) ex := fun _ _ _ _ _ _ _ _ h => pm_E_iff.mpr ⟨n, h⟩
theorem ex_call2 {d : Nat} {C r : List pm_I} {a : Int} {x : Nat} {ls : List pm_V} {o : Nat} {A A' : pm_A} {σ σ' : pm_S} (h : pm_cal pP ex d x [vR o] A σ = some (.inl none, A', σ')) : ex d C ((8, 2, a, x, 1) :: r) ls [vR o, vR o] A σ = ex d C r ls [vR o] A' σ' := by
  rw [exs]
  show (if 1 ≤ ([vR o, vR o] : List pm_V).length ∧ pm_cat [vR o] ≤ 8 ∧ true = true then (pm_cal pP ex d x [vR o] A σ).bind (fun q => pm_aft pP ex d C r 2 a ls [vR o] q) else none) = _
  rw [if_pos ⟨by show 1 ≤ 2; decide, by show 1 ≤ 8; decide, rfl⟩, h]
  rfl
theorem law_start (w : Nat × (Nat → Int)) : ∃ σ, ex 1000 C_L_law_ C_L_law_ (pm_in 8 [vS 99]) [] (0, 0, [], w) (fun _ _ => 0) = ex 1000 C_L_law_ K_L_law__13 [vS 99, vR 0, vR 133, vR 690, vI 0, vO, vO, vO] [] (691, 25826, SH, w) σ ∧ INV σ := by
  obtain ⟨A1, σ1, A2, σ2, e1, l1, w1, e2, a1, a2, a3, w2, hv⟩ := ini_ok w
  refine ⟨zer σ2 690 691, ?_, INV0 hv⟩
  have c1 : pm_cal pP ex 1000 113 [vR 0] (1, 20, [(11, 20, List.replicate 20 none)], w) (zer (fun _ _ => 0) 0 1) = some (.inl none, A1, σ1) := pm_cal_le (ex_le 1600) e1
  have c2 := pm_cal_le (ex_le 1800) e2
  have l2 : A2.2.2.1.length = 690 := by
    have := congrArg List.length a3
    rw [List.length_append] at this
    have hs : SH.length = 691 := by decide +kernel
    rw [hs] at this
    exact Nat.succ.inj this
  obtain ⟨al1, sl1, H1, w1'⟩ := A1
  obtain ⟨al2, sl2, H2, w2'⟩ := A2
  dsimp only at l1 w1 c1 c2 a1 a2 a3 w2 l2
  rw [w1] at c1 c2
  rw [w2] at c2
  subst a1
  subst a2
  rw [l1] at c2
  show ex 1000 C_L_law_ ((6,3,0,11,0) :: (0,8,0,0,0) :: (8,2,11,113,1) :: (0,4,0,1,0) :: (6,3,0,12,0) :: (0,8,0,0,0) :: (8,2,12,164,1) :: (0,4,0,2,0) :: (0,0,1,0,0) :: (6,0,0,102,0) :: (0,4,0,3,0) :: (0,0,0,0,0) :: (0,2,0,4,0) :: K_L_law__13) [vS 99, vO, vO, vO, vO, vO, vO, vO] [] (0, 0, [], w) (fun _ _ => 0) = _
  rw [exs]
  show ex 1000 C_L_law_ ((0,8,0,0,0) :: (8,2,11,113,1) :: (0,4,0,1,0) :: (6,3,0,12,0) :: (0,8,0,0,0) :: (8,2,12,164,1) :: (0,4,0,2,0) :: (0,0,1,0,0) :: (6,0,0,102,0) :: (0,4,0,3,0) :: (0,0,0,0,0) :: (0,2,0,4,0) :: K_L_law__13) [vS 99, vO, vO, vO, vO, vO, vO, vO] [vR 0] (1, 20, [(11, 20, List.replicate 20 none)], w) (zer (fun _ _ => 0) 0 1) = _
  rw [exs]
  show ex 1000 C_L_law_ ((8,2,11,113,1) :: (0,4,0,1,0) :: (6,3,0,12,0) :: (0,8,0,0,0) :: (8,2,12,164,1) :: (0,4,0,2,0) :: (0,0,1,0,0) :: (6,0,0,102,0) :: (0,4,0,3,0) :: (0,0,0,0,0) :: (0,2,0,4,0) :: K_L_law__13) [vS 99, vO, vO, vO, vO, vO, vO, vO] [vR 0, vR 0] (1, 20, [(11, 20, List.replicate 20 none)], w) (zer (fun _ _ => 0) 0 1) = _
  rw [ex_call2 c1]
  rw [exs]
  show ex 1000 C_L_law_ ((6,3,0,12,0) :: (0,8,0,0,0) :: (8,2,12,164,1) :: (0,4,0,2,0) :: (0,0,1,0,0) :: (6,0,0,102,0) :: (0,4,0,3,0) :: (0,0,0,0,0) :: (0,2,0,4,0) :: K_L_law__13) [vS 99, vR 0, vO, vO, vO, vO, vO, vO] [] (al1, sl1, H1, w) σ1 = _
  rw [exs]
  show ex 1000 C_L_law_ ((0,8,0,0,0) :: (8,2,12,164,1) :: (0,4,0,2,0) :: (0,0,1,0,0) :: (6,0,0,102,0) :: (0,4,0,3,0) :: (0,0,0,0,0) :: (0,2,0,4,0) :: K_L_law__13) [vS 99, vR 0, vO, vO, vO, vO, vO, vO] [vR H1.length] (al1 + 1, sl1 + 50, H1 ++ [(12, 50, List.replicate 50 none)], w) (zer σ1 H1.length (H1.length + 1)) = _
  rw [l1]
  rw [exs]
  show ex 1000 C_L_law_ ((8,2,12,164,1) :: (0,4,0,2,0) :: (0,0,1,0,0) :: (6,0,0,102,0) :: (0,4,0,3,0) :: (0,0,0,0,0) :: (0,2,0,4,0) :: K_L_law__13) [vS 99, vR 0, vO, vO, vO, vO, vO, vO] [vR 133, vR 133] (al1 + 1, sl1 + 50, H1 ++ [(12, 50, List.replicate 50 none)], w) (zer σ1 133 (133 + 1)) = _
  rw [ex_call2 c2]
  rw [exs]
  show ex 1000 C_L_law_ ((0,0,1,0,0) :: (6,0,0,102,0) :: (0,4,0,3,0) :: (0,0,0,0,0) :: (0,2,0,4,0) :: K_L_law__13) [vS 99, vR 0, vR 133, vO, vO, vO, vO, vO] [] (690, 25825, H2, w) σ2 = _
  rw [exs]
  show ex 1000 C_L_law_ ((6,0,0,102,0) :: (0,4,0,3,0) :: (0,0,0,0,0) :: (0,2,0,4,0) :: K_L_law__13) [vS 99, vR 0, vR 133, vO, vO, vO, vO, vO] [vI 1] (690, 25825, H2, w) σ2 = _
  rw [exs]
  show ex 1000 C_L_law_ ((0,4,0,3,0) :: (0,0,0,0,0) :: (0,2,0,4,0) :: K_L_law__13) [vS 99, vR 0, vR 133, vO, vO, vO, vO, vO] [vR H2.length] (690 + 1, 25825 + 1, H2 ++ [(102, 1, [])], w) (zer σ2 H2.length (H2.length + 1)) = _
  rw [l2, a3]
  rw [exs]
  show ex 1000 C_L_law_ ((0,0,0,0,0) :: (0,2,0,4,0) :: K_L_law__13) [vS 99, vR 0, vR 133, vR 690, vO, vO, vO, vO] [] (690 + 1, 25825 + 1, SH, w) (zer σ2 690 (690 + 1)) = _
  rw [exs]
  show ex 1000 C_L_law_ ((0,2,0,4,0) :: K_L_law__13) [vS 99, vR 0, vR 133, vR 690, vO, vO, vO, vO] [vI 0] (690 + 1, 25825 + 1, SH, w) (zer σ2 690 (690 + 1)) = _
  rw [exs]
  rfl
