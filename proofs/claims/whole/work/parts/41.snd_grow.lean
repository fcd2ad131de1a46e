/-! SOUNDNESS, 16: the heap only grows; a method's first locals -/
def pm_lt (A A' : pm_A) : Prop := A.1 ≤ A'.1 ∧ A.2.1 ≤ A'.2.1 ∧ A.2.2.1.length ≤ A'.2.2.1.length ∧ A'.2.2.2 = A.2.2.2
theorem pm_lt.rf (A : pm_A) : pm_lt A A := ⟨Nat.le_refl _, Nat.le_refl _, Nat.le_refl _, rfl⟩
theorem pm_lt.tr {A B C : pm_A} (h1 : pm_lt A B) (h2 : pm_lt B C) : pm_lt A C := ⟨Nat.le_trans h1.1 h2.1, Nat.le_trans h1.2.1 h2.2.1, Nat.le_trans h1.2.2.1 h2.2.2.1, h2.2.2.2.trans h1.2.2.2⟩
theorem pm_g4_lt {k x y : Nat} {st : List pm_V} {A : pm_A} {σ : pm_S} {r : List pm_V × pm_A × pm_S} (h : pm_g4 k x y st A σ = some r) : pm_lt A r.2.1 ∧ r.2.1.2.2.1.length = A.2.2.1.length := by
  unfold pm_g4 at h
  repeat' split at h
  all_goals (cases h <;> exact ⟨⟨Nat.le_refl _, Nat.le_refl _, by simp, rfl⟩, by simp⟩)
theorem pm_g5_lt {k : Nat} {st : List pm_V} {A : pm_A} {σ : pm_S} {r : List pm_V × pm_A × pm_S} (h : pm_g5 k st A σ = some r) : pm_lt A r.2.1 ∧ r.2.1.2.2.1.length = A.2.2.1.length := by
  unfold pm_g5 at h
  repeat' split at h
  all_goals (cases h <;> exact ⟨⟨Nat.le_refl _, Nat.le_refl _, by simp, rfl⟩, by simp⟩)
theorem pm_g4_al {k x y : Nat} {st : List pm_V} {A : pm_A} {σ : pm_S} {r : List pm_V × pm_A × pm_S} (h : pm_g4 k x y st A σ = some r) : r.2.1.1 = A.1 ∧ r.2.1.2.1 = A.2.1 := by
  unfold pm_g4 at h
  repeat' split at h
  all_goals (cases h <;> exact ⟨rfl, rfl⟩)
theorem pm_g5_al {k : Nat} {st : List pm_V} {A : pm_A} {σ : pm_S} {r : List pm_V × pm_A × pm_S} (h : pm_g5 k st A σ = some r) : r.2.1.1 = A.1 ∧ r.2.1.2.1 = A.2.1 := by
  unfold pm_g5 at h
  repeat' split at h
  all_goals (cases h <;> exact ⟨rfl, rfl⟩)
theorem pm_g6_lt {k x : Nat} {st : List pm_V} {A : pm_A} {σ : pm_S} {r : List pm_V × pm_A × pm_S} (h : pm_g6 k x st A σ = some r) : pm_lt A r.2.1 := by
  unfold pm_g6 at h
  repeat' split at h
  all_goals (cases h <;> exact ⟨by dsimp only; omega, by dsimp only; omega, by simp, rfl⟩)
theorem pm_set1_len (ls : List pm_V) (x : Nat) (v : pm_V) : (pm_set1 ls x v).length = ls.length := by
  unfold pm_set1
  cases x with
  | zero => simp
  | succ z =>
    dsimp only
    split <;> simp
theorem pm_g0_len {k : Nat} {a : Int} {x : Nat} {ls st : List pm_V} {r : List pm_V × List pm_V} (h : pm_g0 k a x ls st = some r) : r.1.length = ls.length := by
  unfold pm_g0 at h
  repeat' split at h
  all_goals (cases h <;> simp [pm_set1_len])
theorem pm_stp_lt {T : List (List Nat)} {g k : Nat} {a : Int} {x y : Nat} {ls st : List pm_V} {A : pm_A} {σ : pm_S} {q : pm_F} (h : pm_stp T g k a x y ls st A σ = some q) : pm_lt A q.2.2.1 ∧ q.1.length = ls.length := by
  unfold pm_stp at h
  split at h
  · obtain ⟨r, h1, rfl⟩ := Option.map_eq_some_iff.mp h
    exact ⟨pm_lt.rf _, pm_g0_len h1⟩
  · split at h
    · split at h
      · cases h; exact ⟨pm_lt.rf _, rfl⟩
      · cases h
    · split at h
      · cases h; exact ⟨pm_lt.rf _, rfl⟩
      · cases h
    · split at h
      · obtain ⟨r, h1, rfl⟩ := Option.map_eq_some_iff.mp h
        exact ⟨pm_lt.rf _, rfl⟩
      · cases h
  · split at h
    · obtain ⟨r, h1, rfl⟩ := Option.map_eq_some_iff.mp h
      exact ⟨pm_lt.rf _, rfl⟩
    · cases h
  · obtain ⟨r, h1, rfl⟩ := Option.map_eq_some_iff.mp h
    exact ⟨(pm_g4_lt h1).1, rfl⟩
  · obtain ⟨r, h1, rfl⟩ := Option.map_eq_some_iff.mp h
    exact ⟨(pm_g5_lt h1).1, rfl⟩
  · obtain ⟨r, h1, rfl⟩ := Option.map_eq_some_iff.mp h
    exact ⟨pm_g6_lt h1, rfl⟩
  · obtain ⟨r, h1, rfl⟩ := Option.map_eq_some_iff.mp h
    exact ⟨pm_lt.rf _, rfl⟩
  · cases h
theorem pm_ret_lt {k x : Nat} {st : List pm_V} {A : pm_A} {σ : pm_S} {r : pm_R} (h : pm_ret k x st A σ = some r) : pm_lt A r.2.1 := by
  unfold pm_ret at h
  repeat' split at h
  all_goals (cases h <;> first | exact pm_lt.rf _ | exact ⟨by dsimp only; omega, by dsimp only; omega, Nat.le_refl _, rfl⟩)
theorem pm_one_lt {P : pm_P} {f : pm_G} (ih : ∀ d C is ls st A σ r, f d C is ls st A σ = some r → pm_lt A r.2.1) {d : Nat} {C : List pm_I} {i : pm_I} {r : List pm_I} {ls st : List pm_V} {A : pm_A} {σ : pm_S} {v : pm_R} (h : pm_one P f d C i r ls st A σ = some v) : pm_lt A v.2.1 := by
  unfold pm_one at h
  by_cases h3 : i.1 = 3
  · rw [if_pos h3] at h
    obtain ⟨⟨t, st'⟩, e1, e2⟩ := Option.bind_eq_some_iff.mp h
    cases t with
    | none => exact ih _ _ _ _ _ _ _ _ e2
    | some t => exact ih _ _ _ _ _ _ _ _ e2
  · rw [if_neg h3] at h
    by_cases h8 : i.1 = 8
    · rw [if_pos h8] at h
      split at h
      · obtain ⟨q, e1, e2⟩ := Option.bind_eq_some_iff.mp h
        have h1 : pm_lt A q.2.1 := by
          unfold pm_cal at e1
          split at e1
          · cases e1
          · split at e1
            · split at e1
              · exact ih _ _ _ _ _ _ _ _ e1
              · cases e1
            · cases e1
        refine h1.tr ?_
        unfold pm_aft at e2
        split at e2
        · exact ih _ _ _ _ _ _ _ _ e2
        · split at e2
          · split at e2
            · cases e2; exact pm_lt.rf _
            · split at e2
              · exact ih _ _ _ _ _ _ _ _ e2
              · cases e2
          · cases e2
      · cases h
    · rw [if_neg h8] at h
      by_cases h9 : i.1 = 9
      · rw [if_pos h9] at h
        exact pm_ret_lt h
      · rw [if_neg h9] at h
        split at h
        · cases h
        · obtain ⟨q, e1, e2⟩ := Option.bind_eq_some_iff.mp h
          exact (pm_stp_lt e1).1.tr (ih _ _ _ _ _ _ _ _ e2)
theorem pm_grow (P : pm_P) : ∀ (n d : Nat) (C is : List pm_I) (ls st : List pm_V) (A : pm_A) (σ : pm_S) (r : pm_R), pm_x P n d C is ls st A σ = some r → pm_lt A r.2.1
  | 0, _, _, _, _, _, _, _, _, h => by cases h
  | n + 1, _, _, [], _, _, _, _, _, h => by cases h
  | n + 1, _, _, _ :: _, _, _, _, _, _, h => pm_one_lt (pm_grow P n) h
/-- a method's first locals -/
def pm_fl (as : List pm_V) : List pm_V := as.flatMap fun v => if pm_nl v then [v] else [v, vO]
theorem sS_in {n : Nat} {ad K : Nat → Nat} : ∀ {as : List pm_V} {av : List Value}, sS n ad K as av → (lg_sl av).length = (pm_fl as).length ∧ ∀ (i : Nat) (v : pm_V), (pm_fl as)[i]? = some v → v ≠ vO → ∃ w : Value, sV n ad K v w ∧ (lg_sl av)[i]? = some (Slot.val w)
  | [], [], _ => ⟨rfl, fun i v h => by simp [pm_fl] at h⟩
  | v :: as, w :: av, h => by
    obtain ⟨h1, h2⟩ := sS_in (as := as) (av := av) h.2
    by_cases hn : pm_nl v = true
    · have hc := sV_cat h.1 hn
      have e1 : lg_sl (w :: av) = Slot.val w :: lg_sl av := by
        unfold lg_sl
        rw [List.flatMap_cons, if_neg (by rw [hc]; decide)]
        rfl
      have e2 : pm_fl (v :: as) = v :: pm_fl as := by
        unfold pm_fl
        rw [List.flatMap_cons, if_pos hn]
        rfl
      rw [e1, e2]
      refine ⟨by simp [h1], fun i u hi hu => ?_⟩
      cases i with
      | zero => cases hi; exact ⟨w, h.1, rfl⟩
      | succ i => exact h2 i u hi hu
    · obtain ⟨x, rfl⟩ : ∃ x, v = vL x := by
        rcases v with x | x | k
        · exact absurd rfl hn
        · exact ⟨x, rfl⟩
        · exact absurd rfl hn
      obtain ⟨z, rfl, hz⟩ := h.1
      have e1 : lg_sl (Value.long z :: av) = Slot.val (.long z) :: Slot.second :: lg_sl av := rfl
      have e2 : pm_fl (vL x :: as) = vL x :: vO :: pm_fl as := rfl
      rw [e1, e2]
      refine ⟨by simp [h1], fun i u hi hu => ?_⟩
      cases i with
      | zero => cases hi; exact ⟨.long z, ⟨z, rfl, hz⟩, rfl⟩
      | succ i =>
        cases i with
        | zero => cases hi; exact absurd rfl hu
        | succ i => exact h2 i u hi hu
  | [], _ :: _, h => h.elim
  | _ :: _, [], h => h.elim
theorem sL_in {n : Nat} {ad K : Nat → Nat} {as : List pm_V} {av : List Value} {c2 : Nat} (h : sS n ad K as av) (hl : (pm_in c2 as).length = c2) : sL n ad K (pm_in c2 as) ((lg_sl av ++ List.replicate (c2 - (lg_sl av).length) Slot.unset).toArray) := by
  obtain ⟨h1, h2⟩ := sS_in h
  have e : pm_in c2 as = pm_fl as ++ List.replicate (c2 - (pm_fl as).length) vO := rfl
  have hle : (lg_sl av).length ≤ c2 := by
    rw [h1]
    rw [e, List.length_append, List.length_replicate] at hl
    omega
  have hw := lv_entry av hle
  refine ⟨by rw [hl]; exact hw.1, hw.2.1, fun i v hi hv => ?_⟩
  rw [e] at hi
  by_cases hc : i < (pm_fl as).length
  · rw [List.getElem?_append_left hc] at hi
    obtain ⟨w, w1, w2⟩ := h2 i v hi hv
    refine ⟨w, w1, ?_⟩
    rw [List.getElem?_toArray, List.getElem?_append_left (by rw [h1]; exact hc)]
    exact w2
  · rw [List.getElem?_append_right (by omega)] at hi
    exact absurd (List.eq_of_mem_replicate (List.mem_of_getElem? hi)) hv
