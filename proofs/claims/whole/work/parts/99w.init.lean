/-! PURE, 78: the constructors -/
theorem pm_g4_w {k x y : Nat} {st : List pm_V} {A : pm_A} {σ : pm_S} {q : List pm_V × pm_A × pm_S} (e : pm_g4 k x y st A σ = some q) : q.2.1.2.2.2 = A.2.2.2 := by
  unfold pm_g4 at e
  repeat' split at e
  all_goals first | (cases e; rfl) | cases e
theorem pm_g5_w {k : Nat} {st : List pm_V} {A : pm_A} {σ : pm_S} {q : List pm_V × pm_A × pm_S} (e : pm_g5 k st A σ = some q) : q.2.1.2.2.2 = A.2.2.2 := by
  unfold pm_g5 at e
  repeat' split at e
  all_goals first | (cases e; rfl) | cases e
theorem pm_g6_w {k x : Nat} {st : List pm_V} {A : pm_A} {σ : pm_S} {q : List pm_V × pm_A × pm_S} (e : pm_g6 k x st A σ = some q) : q.2.1.2.2.2 = A.2.2.2 := by
  unfold pm_g6 at e
  repeat' split at e
  all_goals first | (cases e; rfl) | cases e
theorem map_w {α β : Type} {o : Option α} {f : α → β} {q : β} (e : o.map f = some q) : ∃ a, o = some a ∧ f a = q := by
  cases o with
  | none => cases e
  | some a => exact ⟨a, rfl, by cases e; rfl⟩
theorem pm_stp_w {T : List (List Nat)} {g k : Nat} {a : Int} {x y : Nat} {ls st : List pm_V} {A : pm_A} {σ : pm_S} {q : pm_F} (e : pm_stp T g k a x y ls st A σ = some q) : q.2.2.1.2.2.2 = A.2.2.2 := by
  unfold pm_stp at e
  split at e
  · obtain ⟨r, _, rfl⟩ := map_w e; rfl
  · repeat' split at e
    all_goals first | (cases e; rfl) | cases e | (obtain ⟨r, _, rfl⟩ := map_w e; rfl)
  · repeat' split at e
    all_goals first | (obtain ⟨r, _, rfl⟩ := map_w e; rfl) | cases e
  · obtain ⟨r, e1, rfl⟩ := map_w e; exact pm_g4_w e1
  · obtain ⟨r, e1, rfl⟩ := map_w e; exact pm_g5_w e1
  · obtain ⟨r, e1, rfl⟩ := map_w e; exact pm_g6_w e1
  · obtain ⟨r, _, rfl⟩ := map_w e; rfl
  · cases e
def pm_wk (f : pm_G) : Prop := ∀ d C is ls st A σ r, f d C is ls st A σ = some r → r.2.1.2.2.2 = A.2.2.2
theorem pm_cal_w {P : pm_P} {f : pm_G} (h : pm_wk f) {d x : Nat} {as : List pm_V} {A : pm_A} {σ : pm_S} {r : pm_R} (e : pm_cal P f d x as A σ = some r) : r.2.1.2.2.2 = A.2.2.2 := by
  unfold pm_cal at e
  repeat' split at e
  all_goals first | exact h _ _ _ _ _ _ _ _ e | cases e
theorem pm_ret_w {k x : Nat} {st : List pm_V} {A : pm_A} {σ : pm_S} {r : pm_R} (e : pm_ret k x st A σ = some r) : r.2.1.2.2.2 = A.2.2.2 := by
  unfold pm_ret at e
  repeat' split at e
  all_goals first | (cases e; rfl) | cases e
theorem pm_one_w {P : pm_P} {f : pm_G} (h : pm_wk f) {d : Nat} {C : List pm_I} {i : pm_I} {r : List pm_I} {ls st : List pm_V} {A : pm_A} {σ : pm_S} {v : pm_R} (e : pm_one P f d C i r ls st A σ = some v) : v.2.1.2.2.2 = A.2.2.2 := by
  unfold pm_one at e
  by_cases h3 : i.1 = 3
  · rw [if_pos h3] at e
    obtain ⟨⟨t, st'⟩, e1, e2⟩ := Option.bind_eq_some_iff.mp e
    cases t with
    | none => exact h _ _ _ _ _ _ _ _ e2
    | some t => exact h _ _ _ _ _ _ _ _ e2
  · rw [if_neg h3] at e
    by_cases h8 : i.1 = 8
    · rw [if_pos h8] at e
      by_cases hc : i.2.2.2.2 ≤ st.length ∧ pm_cat (st.drop i.2.2.2.2) ≤ 8 ∧ pm_rcv i.2.1 i.2.2.1 (st.take i.2.2.2.2).reverse A = true
      · rw [if_pos hc] at e
        obtain ⟨q, e1, e2⟩ := Option.bind_eq_some_iff.mp e
        have w1 := pm_cal_w h e1
        rw [← w1]
        obtain ⟨o, A', σ'⟩ := q
        unfold pm_aft at e2
        cases o with
        | inl w => exact h _ _ _ _ _ _ _ _ e2
        | inr w =>
          dsimp only at e2
          by_cases hk : i.2.1 = 0
          · rw [if_pos hk] at e2
            by_cases hz : i.2.2.1.toNat / 100 = 0
            · rw [if_pos hz] at e2; cases e2; rfl
            · rw [if_neg hz] at e2
              cases hh : pm_hd (P.2.2.2.getD (i.2.2.1.toNat / 100) []) w with
              | none => rw [hh] at e2; cases e2
              | some t => rw [hh] at e2; exact h _ _ _ _ _ _ _ _ e2
          · rw [if_neg hk] at e2; cases e2
      · rw [if_neg hc] at e; cases e
    · rw [if_neg h8] at e
      by_cases h9 : i.1 = 9
      · rw [if_pos h9] at e; exact pm_ret_w e
      · rw [if_neg h9] at e
        by_cases hd : (pm_need i && decide (9 < pm_cat st)) = true
        · rw [if_pos hd] at e; cases e
        · rw [if_neg hd] at e
          obtain ⟨q, e1, e2⟩ := Option.bind_eq_some_iff.mp e
          rw [← pm_stp_w e1]
          exact h _ _ _ _ _ _ _ _ e2
theorem pm_x_w (P : pm_P) : ∀ n, pm_wk (pm_x P n)
  | 0 => fun _ _ _ _ _ _ _ _ h => by cases h
  | n + 1 => fun d C is ls st A σ r h => by
    cases is with
    | nil => cases h
    | cons i is => exact pm_one_w (pm_x_w P n) h
def ini1 (w : Nat × (Nat → Int)) : Option pm_R := pm_cal pP (pm_x pP 1600) 1000 113 [vR 0] (1, 20, [(11, 20, List.replicate 20 none)], w) (zer (fun _ _ => 0) 0 1)
def ini2 (w : Nat × (Nat → Int)) : Option pm_R := match ini1 w with
  | some (.inl none, A, σ) => pm_cal pP (pm_x pP 1800) 1000 164 [vR 133] (A.1 + 1, A.2.1 + 50, A.2.2.1 ++ [(12, 50, List.replicate 50 none)], A.2.2.2) (zer σ A.2.2.1.length (A.2.2.1.length + 1))
  | _ => none
/-- the values behind them -/
def iniV (σ : pm_S) (j : Nat) : Bool := ([(1, 1, 0), (1, 7, -1), (3, 0, 0), (3, 1, 0), (3, 2, 0), (3, 3, 12), (19, 2, 3), (20, 0, 1000), (20, 1, 1001), (20, 2, 1053), (25, 0, 0), (44, 1, 0), (63, 4, 0), (66, 6, -1), (0, 12, 0), (0, 17, 0), (0, 18, 0), (0, 19, 0), (135, 0, 0), (135, 1, 0), (133, 1, 0), (133, 3, -1), (133, 21, 0), (133, 36, 0), (133, 37, 0), (133, 38, 0), (133, 39, 0), (137, 0, 0), (137, 1, 0), (137, 2, 0), (137, 3, 12), (601, 98, 12), (601, 99, 0), (37, 98, 0), (37, 99, 12)] : List (Nat × Nat × Int)).all (fun t => decide (σ t.1 t.2.1 = t.2.2)) && (List.range 98).all (fun k => decide (σ 601 k = σ 37 k) && decide (σ 37 k = if 80 ≤ k ∧ k < 86 then -1 else 0)) && decide (σ 2 j = 0) && decide (σ 134 j = 0)
def iniC (p : (Nat × (Nat → Int)) × Nat) : Bool := match ini1 p.1 with
  | some (.inl none, A, _) => decide (A.1 = 133) && decide (A.2.2.1.length = 133) && (match ini2 p.1 with
    | some (.inl none, A, σ) => decide (A.1 = 690) && decide (A.2.1 = 25825) && decide (A.2.2.1 ++ [(102, 1, [])] = SH) && iniV (zer σ 690 691) p.2
    | _ => false)
  | _ => false
noncomputable def iniP : (Nat × (Nat → Int)) × Nat := @Classical.epsilon _ ⟨((0, fun _ => 0), 0)⟩ (fun p => ¬ iniC p = true)
set_option maxRecDepth 100000 in
theorem iniC_P : iniC iniP = true := by decide +kernel
theorem iniC_all (p : (Nat × (Nat → Int)) × Nat) : iniC p = true := Classical.byContradiction fun h => (@Classical.epsilon_spec_aux _ ⟨((0, fun _ => 0), 0)⟩ (fun p => ¬ iniC p = true) ⟨p, h⟩) iniC_P
