/-! PURE, 77: what the answers hang on -/
def rtB (σ : pm_S) : pm_S := fun o => cond ((Nat.ble 3 o && Nat.ble o 10) || ((Nat.ble 19 o && Nat.ble o 20) || (Nat.ble 25 o && Nat.ble o 27))) (σ o) (fun _ => 0)
def rtT (σ : pm_S) : pm_S := fun o => cond (Nat.ble 3 o && Nat.ble o 10) (σ o) (fun _ => 0)
theorem frN_rt {σ : pm_S} {h n : Int} : frN (rtB σ) h n = frN σ h n := rfl
theorem lkF_rt {σ : pm_S} {h n : Int} : lkF (rtB σ) h n = lkF σ h n := rfl
theorem plF_rt {σ : pm_S} : ∀ n : Nat, plF (rtT σ) n = plF σ n
  | 0 => rfl
  | n + 1 => by
    funext p c w S
    show upto (fun h S => if okp σ c p h = true then plF (rtT σ) n (p + 1) (udI c p h) (w + wsh σ p h) S else S) S (σ 3 0) = upto (fun h S => if okp σ c p h = true then plF σ n (p + 1) (udI c p h) (w + wsh σ p h) S else S) S (σ 3 0)
    rw [plF_rt n]
theorem plS_rt {σ : pm_S} : plS (rtT σ) = plS σ := by
  show plF (rtT σ) (σ 3 2).toNat 0 (fun _ => -1) 0 (-1, fun _ => -1) = plF σ (σ 3 2).toNat 0 (fun _ => -1) 0 (-1, fun _ => -1)
  rw [plF_rt]
theorem rtT_eq {σ σ' : pm_S} (h : ∀ o, 3 ≤ o → o ≤ 10 → σ' o = σ o) : rtT σ' = rtT σ := by
  funext o
  unfold rtT
  cases hc : (Nat.ble 3 o && Nat.ble o 10) with
  | false => rfl
  | true =>
    simp only [Bool.and_eq_true, Nat.ble_eq] at hc
    exact h o hc.1 hc.2
theorem rtB_eq {σ σ' : pm_S} (h : ∀ o, (3 ≤ o ∧ o ≤ 10) ∨ (19 ≤ o ∧ o ≤ 20) ∨ (25 ≤ o ∧ o ≤ 27) → σ' o = σ o) : rtB σ' = rtB σ := by
  funext o
  unfold rtB
  cases hc : ((Nat.ble 3 o && Nat.ble o 10) || ((Nat.ble 19 o && Nat.ble o 20) || (Nat.ble 25 o && Nat.ble o 27))) with
  | false => rfl
  | true =>
    simp only [Bool.or_eq_true, Bool.and_eq_true, Nat.ble_eq] at hc
    exact h o hc
theorem Sm.rtB {S : List (Nat × Nat)} {σ σ' : pm_S} (hS : Sm S σ σ') (h : basL.all (off S) = true) : rtB σ' = rtB σ := rtB_eq (fun o ho => hS o (List.all_eq_true.mp h o (by
  have : o = 3 ∨ o = 4 ∨ o = 5 ∨ o = 6 ∨ o = 7 ∨ o = 8 ∨ o = 9 ∨ o = 10 ∨ o = 19 ∨ o = 20 ∨ o = 25 ∨ o = 26 ∨ o = 27 := by omega
  rcases this with rfl | rfl | rfl | rfl | rfl | rfl | rfl | rfl | rfl | rfl | rfl | rfl | rfl <;> decide)))
theorem Sm.rtT {S : List (Nat × Nat)} {σ σ' : pm_S} (hS : Sm S σ σ') (h : [3, 4, 5, 6, 7, 8, 9, 10].all (off S) = true) : rtT σ' = rtT σ := rtT_eq (fun o h1 h2 => hS o (List.all_eq_true.mp h o (by
  have : o = 3 ∨ o = 4 ∨ o = 5 ∨ o = 6 ∨ o = 7 ∨ o = 8 ∨ o = 9 ∨ o = 10 := by omega
  rcases this with rfl | rfl | rfl | rfl | rfl | rfl | rfl | rfl <;> decide)))
theorem rtB_T {σ σ' : pm_S} (h : rtB σ' = rtB σ) : rtT σ' = rtT σ := rtT_eq (fun o h1 h2 => by
  have := congrFun h o
  have : o = 3 ∨ o = 4 ∨ o = 5 ∨ o = 6 ∨ o = 7 ∨ o = 8 ∨ o = 9 ∨ o = 10 := by omega
  rcases this with rfl | rfl | rfl | rfl | rfl | rfl | rfl | rfl <;> assumption)
theorem TK.cg {σ σ' : pm_S} (h : TK σ) (e : rtT σ' = rtT σ) : TK σ' := by
  have h1 : TK (rtT σ) := h
  rw [← e] at h1; exact h1
theorem RK.cg {σ σ' : pm_S} {r : Nat → Int} (h : RK σ r) (e : rtT σ' = rtT σ) : RK σ' r := by
  have h1 : RK (rtT σ) r := h
  rw [← e] at h1; exact h1
theorem LK.cg {σ σ' : pm_S} (h : LK σ) (e : rtB σ' = rtB σ) : LK σ' := by
  have h1 : LK (rtB σ) := h
  rw [← e] at h1; exact h1
theorem BK.cg {σ σ' : pm_S} (h : BK σ) (e : rtB σ' = rtB σ) : BK σ' := by
  have h1 : BK (rtB σ) := h
  rw [← e] at h1; exact h1
theorem QT.cg {σ σ' ρ : pm_S} (h : QT σ ρ) (e : rtT σ' = rtT σ) : QT σ' ρ := by
  have h1 : QT (rtT σ) ρ := h
  rw [← e] at h1; exact h1
theorem QQ.cg {σ σ' ρ : pm_S} (h : QQ σ ρ) (e : rtB σ' = rtB σ) : QQ σ' ρ := by
  have h1 : QQ (rtB σ) ρ := h
  rw [← e] at h1; exact h1
theorem QB.cg {σ σ' ρ : pm_S} (h : QB σ ρ) (e : rtB σ' = rtB σ) : QB σ' ρ := by
  have h1 : QB (rtB σ) ρ := h
  rw [← e] at h1; exact h1
theorem PaOK.cg {σ σ' ρ : pm_S} (h : PaOK σ ρ) (e : rtB σ' = rtB σ) : PaOK σ' ρ := by
  have h1 : PaOK (rtB σ) ρ := h
  rw [← e] at h1; exact h1
theorem PlOK.cg {σ σ' ρ : pm_S} (h : PlOK σ ρ) (e : rtT σ' = rtT σ) : PlOK σ' ρ := by
  have e1 : plS σ' = plS σ := by rw [← plS_rt (σ := σ'), e, plS_rt]
  have e2 : σ' 3 2 = σ 3 2 := congrFun (congrFun e 3) 2
  unfold PlOK
  rw [e1, e2]
  exact h
/-- what holds between two calls -/
def TPo (σ : pm_S) : Prop := (0 ≤ σ 1 1 ∧ σ 1 1 ≤ 600) ∧ σ 133 1 = σ 1 1 ∧ (∀ j : Nat, j < 600 → σ 134 j = σ 2 j) ∧ (∀ j : Nat, 0 ≤ σ 2 j) ∧ σ 133 3 = σ 1 7
def PST (σ : pm_S) : Prop := (0 ≤ σ 44 1 ∧ σ 44 1 ≤ 16) ∧ σ 133 37 = σ 44 1 ∧ ∀ m : Nat, (m : Int) < σ 44 1 → RK σ (σ (46 + m)) ∧ RR (σ (605 + m)) (σ (46 + m))
def IM1 (i : Nat) (σ : pm_S) : Prop := RK σ (σ (74 + 20 * i)) ∧ RR (fun j => σ (622 + i) (1 + j)) (σ (74 + 20 * i)) ∧ (0 ≤ σ (75 + 20 * i) 1 ∧ σ (75 + 20 * i) 1 ≤ 16) ∧ σ (622 + i) 0 = σ (75 + 20 * i) 1 ∧ ∀ m : Nat, (m : Int) < σ (75 + 20 * i) 1 → RK σ (σ (77 + 20 * i + m)) ∧ RR (fun j => σ (622 + i) (101 + 100 * m + j)) (σ (77 + 20 * i + m))
def IMG (σ : pm_S) : Prop := (0 ≤ σ 0 12 ∧ σ 0 12 ≤ 3) ∧ σ 133 39 = σ 0 12 ∧ ∀ i : Nat, (i : Int) < σ 0 12 → IM1 i σ
def INV (σ : pm_S) : Prop := CK σ ∧ RQ σ σ ∧ (BK σ ∧ QB σ σ) ∧ (PlOK σ σ ∧ PaOK σ σ) ∧ TPo σ ∧ (σ 0 18 = σ 135 0 ∧ σ 0 19 = σ 135 1) ∧ PST σ ∧ IMG σ
theorem PST.cg {σ σ' : pm_S} (h : PST σ) (e : rtT σ' = rtT σ) (h1 : σ' 44 1 = σ 44 1) (h2 : σ' 133 37 = σ 133 37) (h3 : ∀ m : Nat, m < 16 → σ' (46 + m) = σ (46 + m) ∧ σ' (605 + m) = σ (605 + m)) : PST σ' := by
  obtain ⟨a1, a2, a3⟩ := h
  refine ⟨by rw [h1]; exact a1, by rw [h1, h2]; exact a2, fun m hm => ?_⟩
  rw [h1] at hm
  obtain ⟨b1, b2⟩ := h3 m (by omega)
  rw [b1, b2]
  exact ⟨(a3 m hm).1.cg e, (a3 m hm).2⟩
theorem IM1.cg {i : Nat} {σ σ' : pm_S} (h : IM1 i σ) (e : rtT σ' = rtT σ) (hi : i < 3) (h1 : ∀ o, 73 ≤ o → o < 133 → σ' o = σ o) (h2 : σ' (622 + i) = σ (622 + i)) : IM1 i σ' := by
  obtain ⟨a1, a2, a3, a4, a5⟩ := h
  unfold IM1
  rw [h2, h1 (74 + 20 * i) (by omega) (by omega), h1 (75 + 20 * i) (by omega) (by omega)]
  refine ⟨a1.cg e, a2, a3, a4, fun m hm => ?_⟩
  rw [h1 (77 + 20 * i + m) (by omega) (by omega)]
  exact ⟨(a5 m hm).1.cg e, (a5 m hm).2⟩
theorem IMG.cg {σ σ' : pm_S} (h : IMG σ) (e : rtT σ' = rtT σ) (h0 : σ' 0 12 = σ 0 12) (h9 : σ' 133 39 = σ 133 39) (h1 : ∀ o, 73 ≤ o → o < 133 → σ' o = σ o) (h2 : ∀ i, i < 3 → σ' (622 + i) = σ (622 + i)) : IMG σ' := by
  obtain ⟨a1, a2, a3⟩ := h
  refine ⟨by rw [h0]; exact a1, by rw [h0, h9]; exact a2, fun i hi => ?_⟩
  rw [h0] at hi
  exact (a3 i hi).cg e (by omega) h1 (h2 i (by omega))
abbrev bigS : List (Nat × Nat) := [(0, 3), (11, 19), (21, 25), (28, 36), (38, 44), (63, 73), (133, 135), (136, 137), (138, 139), (140, 141), (142, 155), (168, 175), (343, 504), (511, 601), (602, 604), (625, 691)]
theorem bigS_1 {σ σ' : pm_S} (hS : Sm bigS σ σ') : (∀ m : Nat, m < 16 → σ' (46 + m) = σ (46 + m) ∧ σ' (605 + m) = σ (605 + m)) ∧ (∀ o, 73 ≤ o → o < 133 → σ' o = σ o) ∧ (∀ i, i < 3 → σ' (622 + i) = σ (622 + i)) ∧ (∀ k, k < 6 → σ' (505 + k) = σ (505 + k)) := by
  refine ⟨fun m hm => ⟨hS _ ?_, hS _ ?_⟩, fun o h1 h2 => hS _ ?_, fun i hi => hS _ ?_, fun i hi => hS _ ?_⟩ <;> (simp only [off, Bool.and_true, Bool.and_eq_true, Bool.or_eq_true, decide_eq_true_eq]; omega)
theorem QQ.big {σ0 σ σ' : pm_S} (h : QQ σ0 σ) (hT : TK σ0) (hL : LK σ0) (hS : Sm bigS σ σ') (h21 : σ' 133 21 = σ 133 21) : QQ σ0 σ' := ⟨h.1.sm hS hT (by decide), h.2.sm hL hS h21 (fun k hk => by simp only [off, Bool.and_true, Bool.and_eq_true, Bool.or_eq_true, decide_eq_true_eq]; omega)⟩
/-- nothing that lasts has changed but the tape and what is known -/
theorem INV.fr {σ σ' : pm_S} (h : INV σ) (hS : Sm bigS σ σ') (h133 : ∀ k, k = 21 ∨ k = 36 ∨ k = 37 ∨ k = 38 ∨ k = 39 → σ' 133 k = σ 133 k) (h0 : ∀ k, k = 12 ∨ k = 17 ∨ k = 18 ∨ k = 19 → σ' 0 k = σ 0 k) (hT : TPo σ') (hPl : PlOK σ σ') (hPa : PaOK σ σ') : INV σ' := by
  obtain ⟨⟨a1, a2, a3⟩, ⟨b1, b2, b3, b4⟩, ⟨c1, c2⟩, _, _, ⟨d1, d2⟩, e1, f1⟩ := h
  have eB : rtB σ' = rtB σ := hS.rtB (by decide)
  have eT : rtT σ' = rtT σ := rtB_T eB
  obtain ⟨g1, g2, g3, g4⟩ := bigS_1 hS
  have e37 : σ' 37 = σ 37 := hS 37 (by decide)
  refine ⟨⟨a1.cg eT, ?_, a3.cg eB⟩, ⟨(b1.big a1 a3 hS (h133 21 (by decide))).cg eB, ?_, ?_, ?_⟩, ⟨c1.cg eB, fun k k0 k1 => ?_⟩, ⟨hPl.cg eT, hPa.cg eB⟩, hT, ⟨?_, ?_⟩, e1.cg eT (by rw [hS 44 (by decide)]) (h133 37 (by decide)) g1, f1.cg eT (h0 12 (by decide)) (h133 39 (by decide)) g2 g3⟩
  · rw [e37]; exact a2.cg eT
  · rw [e37, hS 601 (by decide)]; exact b2
  · rw [h133 36 (by decide), hS 25 (by decide)]; exact b3
  · rw [h133 38 (by decide), h0 17 (by decide)]; exact b4
  · have c := c1.1
    rw [hS 25 (by decide)] at k1
    rw [g4 k.toNat (by omega), hS 26 (by decide), hS 27 (by decide)]
    exact c2 k k0 k1
  · rw [h0 18 (by decide), hS 135 (by decide)]; exact d1
  · rw [h0 19 (by decide), hS 135 (by decide)]; exact d2
