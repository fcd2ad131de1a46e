/-! SOUNDNESS, 11: fields -/
theorem uws_ok : vwT.all (fun q => (u_ws q.1 q.2.1 q.2.2).all (fun w => decide (w ∈ lw_tbl) && goodWord w)) = true := by decide +kernel
theorem vw_get {x : Nat} (h : x < 13) : vwT[x]? = some (vwG x) := by
  rcases (show x = 0 ∨ x = 1 ∨ x = 2 ∨ x = 3 ∨ x = 4 ∨ x = 5 ∨ x = 6 ∨ x = 7 ∨ x = 8 ∨ x = 9 ∨ x = 10 ∨ x = 11 ∨ x = 12 by omega) with rfl | rfl | rfl | rfl | rfl | rfl | rfl | rfl | rfl | rfl | rfl | rfl | rfl <;> rfl
theorem uws_in {x : Nat} (h : x < 13) : ∀ w ∈ u_ws (vwG x).1 (vwG x).2.1 (vwG x).2.2, w ∈ sGd := by
  intro w hw
  have h1 := List.all_eq_true.mp uws_ok _ (List.mem_of_getElem? (vw_get h))
  have h2 := List.all_eq_true.mp h1 w hw
  simp only [Bool.and_eq_true, decide_eq_true_eq] at h2
  exact sGd_mem h2
def tyG (x : Nat) : Nat → FieldType := match x with
  | 0 => tyX0
  | 1 => tyX1
  | 2 => tyX2
  | 3 => tyX3
  | 4 => tyX4
  | 5 => tyX5
  | 6 => tyX6
  | 7 => tyX7
  | 8 => tyX8
  | 9 => tyX9
  | 10 => tyX10
  | 11 => tyX11
  | _ => tyX12
theorem tyG_ok {x : Nat} (h : x < 13) : ∀ k, k < (vwG x).2.2 → parseFieldDescriptor ((vwG x).2.1 k).2.2.1 = some (tyG x k) := by
  rcases (show x = 0 ∨ x = 1 ∨ x = 2 ∨ x = 3 ∨ x = 4 ∨ x = 5 ∨ x = 6 ∨ x = 7 ∨ x = 8 ∨ x = 9 ∨ x = 10 ∨ x = 11 ∨ x = 12 by omega) with rfl | rfl | rfl | rfl | rfl | rfl | rfl | rfl | rfl | rfl | rfl | rfl | rfl
  · exact tyX0_ok
  · exact tyX1_ok
  · exact tyX2_ok
  · exact tyX3_ok
  · exact tyX4_ok
  · exact tyX5_ok
  · exact tyX6_ok
  · exact tyX7_ok
  · exact tyX8_ok
  · exact tyX9_ok
  · exact tyX10_ok
  · exact tyX11_ok
  · exact tyX12_ok
theorem nmG_ok {x : Nat} (h : x < 13) : ∀ a, a < (vwG x).2.2 → ∀ b, b < (vwG x).2.2 → a ≠ b → ((vwG x).2.1 a).2.1 ≠ ((vwG x).2.1 b).2.1 := by
  rcases (show x = 0 ∨ x = 1 ∨ x = 2 ∨ x = 3 ∨ x = 4 ∨ x = 5 ∨ x = 6 ∨ x = 7 ∨ x = 8 ∨ x = 9 ∨ x = 10 ∨ x = 11 ∨ x = 12 by omega) with rfl | rfl | rfl | rfl | rfl | rfl | rfl | rfl | rfl | rfl | rfl | rfl | rfl
  · exact nmX0
  · exact nmX1
  · exact nmX2
  · exact nmX3
  · exact nmX4
  · exact nmX5
  · exact nmX6
  · exact nmX7
  · exact nmX8
  · exact nmX9
  · exact nmX10
  · exact nmX11
  · exact nmX12
/-- a reference field's type is a class or an array -/
theorem rty_ok : (List.range 13).all (fun x => (List.range (vwG x).2.2).all (fun k => !(rfI x k) || (match tyG x k with | .object _ => true | .array _ => true | _ => false))) = true := by decide +kernel
theorem rty_in {x k : Nat} (hx : x < 13) (hk : k < (vwG x).2.2) (hr : rfI x k = true) : (∃ C, tyG x k = .object C) ∨ ∃ t, tyG x k = .array t := by
  have h1 := List.all_eq_true.mp (List.all_eq_true.mp rty_ok x (List.mem_range.mpr hx)) k (List.mem_range.mpr hk)
  rw [hr] at h1
  cases ht : tyG x k with
  | object C => exact Or.inl ⟨C, rfl⟩
  | array t => exact Or.inr ⟨t, rfl⟩
  | _ => rw [ht] at h1; cases h1
section
variable {D : va_G} {B0 : Nat} {A A' : pm_A} {σ σ' : pm_S} {g : sG} {s : State} {H H1 : Heap}
theorem sW_put {o : Nat} {E' : va_E} (hW : sW D B0 A σ g s H) (ho : o < A.2.2.1.length) (hlen : A'.2.2.1.length = A.2.2.1.length) (hoth : ∀ k, k ≠ o → A'.2.2.1[k]? = A.2.2.1[k]?)
    (hσ : ∀ k, k ≠ o → σ' k = σ k) (hC : ∀ c', A'.2.2.1[o]? = some c' → sC A.2.2.1.length g.1 g.2.1 c' (σ' o) E')
    (hP : va_P D vwT ((wsOf A.2.2.1.length g.1 g.2.2).set o (g.1 o, E')) H1) (hD : va_D (fun q => B0 ≤ q) ((wsOf A.2.2.1.length g.1 g.2.2).set o (g.1 o, E'))) :
    sW D B0 A' σ' (g.1, g.2.1, va_up g.2.2 o E') s H1 := by
  rw [wsOf_set ho] at hP hD
  refine ⟨?_, ?_, hW.2.2.1, fun k c hk => ?_⟩
  · rw [hlen]; exact hP
  · rw [hlen]; exact hD
  · rw [hlen]
    by_cases e : k = o
    · subst e
      show sC _ _ _ c (σ' k) (va_up g.2.2 k E' k)
      rw [show va_up g.2.2 k E' k = E' by simp [va_up]]
      exact hC c hk
    · show sC _ _ _ c (σ' k) (va_up g.2.2 o E' k)
      rw [show va_up g.2.2 o E' k = g.2.2 k by simp [va_up, e], hσ k e]
      exact hW.2.2.2 k c (by rw [← hoth k e]; exact hk)
end
section
variable {n : Nat} {ad : Nat → Nat} {tys : List (ClassId × FieldType)} {c : pm_C} {f : Nat → Int} {E : va_E}
theorem sC_obj (h : sC n ad tys c f E) (hx : c.1 < 13) : c.2.1 = (vwG c.1).2.2 ∧ c.2.2.length = c.2.1 ∧ ∃ fs, E = .inr (c.1, fs) ∧ fs.length = c.2.1 ∧ ∀ j, j < c.2.1 → sF c.1 c.2.2 f n ad fs j := by
  rcases h with ⟨h1, h2⟩ | ⟨h1, h2⟩ | ⟨h1, h2⟩ | ⟨h1, h2⟩ | ⟨h1, h2⟩ | ⟨h1, h2⟩
  · exact h2
  all_goals omega
theorem sC_100 (h : sC n ad tys c f E) (hx : c.1 = 100) : ∃ cA g, E = .inl (cA, c.2.1, .inl g) ∧ (cA, FieldType.int) ∈ tys ∧ ∀ j, j < c.2.1 → (g j).toInt = f j := by
  rcases h with ⟨h1, h2⟩ | ⟨h1, h2⟩ | ⟨h1, h2⟩ | ⟨h1, h2⟩ | ⟨h1, h2⟩ | ⟨h1, h2⟩
  · omega
  · exact h2
  all_goals omega
theorem sC_101 (h : sC n ad tys c f E) (hx : c.1 = 101) : ∃ cA g, E = .inl (cA, c.2.1, .inl g) ∧ (cA, FieldType.boolean) ∈ tys ∧ ∀ j, j < c.2.1 → (g j).toInt = f j := by
  rcases h with ⟨h1, h2⟩ | ⟨h1, h2⟩ | ⟨h1, h2⟩ | ⟨h1, h2⟩ | ⟨h1, h2⟩ | ⟨h1, h2⟩
  · omega
  · omega
  · exact h2
  all_goals omega
theorem sC_102 (h : sC n ad tys c f E) (hx : c.1 = 102) : ∃ cA g, E = .inl (cA, c.2.1, .inr (.inl g)) ∧ (cA, FieldType.long) ∈ tys ∧ ∀ j, j < c.2.1 → (g j).toInt = f j := by
  rcases h with ⟨h1, h2⟩ | ⟨h1, h2⟩ | ⟨h1, h2⟩ | ⟨h1, h2⟩ | ⟨h1, h2⟩ | ⟨h1, h2⟩
  · omega
  · omega
  · omega
  · exact h2
  all_goals omega
theorem sC_103 (h : sC n ad tys c f E) (hx : c.1 = 103) : ∃ cA g, E = .inl (cA, c.2.1, .inr (.inr (.inr (.inr g)))) ∧ (cA, FieldType.array .int) ∈ tys ∧ sRf n ad c.2.2 c.2.1 g := by
  rcases h with ⟨h1, h2⟩ | ⟨h1, h2⟩ | ⟨h1, h2⟩ | ⟨h1, h2⟩ | ⟨h1, h2⟩ | ⟨h1, h2⟩
  · omega
  · omega
  · omega
  · omega
  · exact h2
  · omega
theorem sC_104 (h : sC n ad tys c f E) (hx : c.1 = 104) : ∃ cA g, E = .inl (cA, c.2.1, .inr (.inr (.inr (.inr g)))) ∧ (cA, FieldType.object RX1) ∈ tys ∧ sRf n ad c.2.2 c.2.1 g := by
  rcases h with ⟨h1, h2⟩ | ⟨h1, h2⟩ | ⟨h1, h2⟩ | ⟨h1, h2⟩ | ⟨h1, h2⟩ | ⟨h1, h2⟩
  · omega
  · omega
  · omega
  · omega
  · omega
  · exact h2
end
section
variable {p : Program} {l : Launch} {e : Env} {R : Room} {s : State} {m : MethodId} {args : Array Value} {below : List Frame} {meth : Method} {c : Code} {H : Heap} {locs : List Loc} {cells slots : Nat} {Q : State → Prop}
variable {B0 : Nat} {K adV : Nat → Nat} {Ls : Nat} {xs : Nat → Int32} {M j : Nat} {pf : Nat → Nat} {D : va_G} {A A' : pm_A} {σ σ' : pm_S} {g : sG}
theorem stv_ne {σ : pm_S} {o k i : Nat} {v : Int} (h : k ≠ o) : stv σ o i v k = σ k := by
  funext z
  unfold stv
  rw [if_neg (fun q => h q.1)]
theorem stv_at {σ : pm_S} {o i z : Nat} {v : Int} : stv σ o i v o z = if z = i then v else σ o z := by
  unfold stv
  by_cases h : z = i
  · rw [if_pos ⟨rfl, h⟩, if_pos h]
  · rw [if_neg (fun q => h q.2), if_neg h]
theorem snd_g4 {k : Nat} {a : Int} {x y : Nat} {st st' : List pm_V} {L : Array Slot} {sM : List Value} (hX : sX B0 K adV Ls xs p s m args meth c M)
    (hok : okI (sMdG M) pf j (4, k, a, x, y)) (h : pm_g4 k x y st A σ = some (st', A', σ')) (hW : sW D B0 A σ g s H) (hV : va_S (fun q => B0 ≤ q) s.heap H locs) (hS : sS A.2.2.1.length g.1 K st sM)
    (kk : ∀ H' locs' sM' g', g'.1 = g.1 → sW D B0 A' σ' g' s H' → va_S (fun q => B0 ≤ q) s.heap H' locs' → sS A.2.2.1.length g.1 K st' sM' → W p l e R s m args below meth c H' locs' cells slots Q (F0 m (pf (j + 1)) L sM')) : W p l e R s m args below meth c H locs cells slots Q (F0 m (pf j) L sM) := by
  obtain ⟨hx, hb, hml, hr, hown, hts, -, -, hnm, hxt⟩ := hX
  obtain ⟨v, idx, hd, hf, hw, hc⟩ := hok
  have hf := hf rfl
  have hw : ∀ w ∈ wdI (sMdG M).1.cls (4, k, a, x, y) v idx, w.before args s = true := fun w h => hts w (sGd_mem (hw w h))
  simp only [cdI, Bool.and_eq_true, decide_eq_true_eq] at hc
  obtain ⟨⟨hy, hx13⟩, hc⟩ := hc
  have hx13 : x < 13 := hx13
  have hy : y < (vwG x).2.2 := hy
  have hl := hw _ List.mem_cons_self
  rcases (show k = 0 ∨ k = 1 ∨ k = 2 ∨ k = 3 ∨ k = 4 ∨ 5 ≤ k by omega) with rfl | rfl | rfl | rfl | rfl | hk
  · have hf3 : pf (j + 1) = pf j + 3 := hf
    rw [hf3] at kk
    simp only [Bool.and_eq_true, decide_eq_true_eq, Bool.not_eq_true', ne_eq] at hc
    simp only [pm_g4] at h
    split at h
    next o st2 =>
      split at h
      next c0 hc0 =>
        split at h
        next hcc =>
          cases h
          obtain ⟨w1, sM1, rfl, ⟨ho, rfl⟩, hS1⟩ := sS_cons hS
          obtain ⟨h1, h2⟩ := hcc
          obtain ⟨g1, g2, fs, g3, g4, g5⟩ := sC_obj (hW.2.2.2 o c0 hc0) (by rw [h1]; exact hx13)
          have g6 := g5 y h2
          unfold sF at g6
          have hrf : ¬ rfI c0.1 y = true := by
            rw [h1]
            unfold rfI
            have hc : (xFd (4, 0, a, x, y)).2.2.1 = "I" ∨ (xFd (4, 0, a, x, y)).2.2.1 = "Z" := hc
            rw [decide_eq_true_eq]
            rintro ⟨q1, q2⟩
            rcases hc with q | q
            · exact q1 q
            · exact q2 q
          rw [if_neg hrf] at g6
          obtain ⟨z, g7, g8⟩ := g6
          rw [h1] at g3
          exact va_get (D := D) (C := (vwG x).1) (T := (vwG x).2.1) (N := (vwG x).2.2) hx hb hts (uws_in hx13) hown hW.2.2.1 hW.1 o (by rw [wsOf_get ho, g3]) (vw_get hx13) y hy hl (fun _ q => q) g7 hd (kk _ _ _ g rfl hW hV ⟨⟨z, rfl, g8⟩, hS1⟩)
        next => cases h
      next => cases h
    next => cases h
  · have hf3 : pf (j + 1) = pf j + 3 := hf
    rw [hf3] at kk
    simp only [Bool.and_eq_true, decide_eq_true_eq, Bool.not_eq_true', ne_eq] at hc
    simp only [pm_g4] at h
    split at h
    next o st2 =>
      split at h
      next c0 hc0 =>
        split at h
        next hcc =>
          split at h
          next r hr9 =>
            cases h
            obtain ⟨w1, sM1, rfl, ⟨ho, rfl⟩, hS1⟩ := sS_cons hS
            obtain ⟨h1, h2⟩ := hcc
            obtain ⟨g1, g2, fs, g3, g4, g5⟩ := sC_obj (hW.2.2.2 o c0 hc0) (by rw [h1]; exact hx13)
            have g6 := g5 y h2
            unfold sF at g6
            have hrf : rfI c0.1 y = true := by
              rw [h1]
              exact decide_eq_true hc
            rw [if_pos hrf] at g6
            obtain ⟨r2, g7, g8, g9⟩ := g6
            rw [hr9] at g7
            cases g7
            rw [h1] at g3
            exact va_get (D := D) (C := (vwG x).1) (T := (vwG x).2.1) (N := (vwG x).2.2) hx hb hts (uws_in hx13) hown hW.2.2.1 hW.1 o (by rw [wsOf_get ho, g3]) (vw_get hx13) y hy hl (fun _ q => q) g8 hd (kk _ _ _ g rfl hW hV ⟨⟨g9 r rfl, rfl⟩, hS1⟩)
          next => cases h
        next => cases h
      next => cases h
    next => cases h
  · have hf3 : pf (j + 1) = pf j + 3 := hf
    rw [hf3] at kk
    simp only [Bool.and_eq_true, decide_eq_true_eq, Bool.not_eq_true', ne_eq] at hc
    simp only [pm_g4] at h
    split at h
    next v0 o st2 =>
      split at h
      next c0 hc0 =>
        split at h
        next hcc =>
          cases h
          obtain ⟨w0, sM0, rfl, ⟨z, rfl, rfl⟩, hS0⟩ := sS_cons hS
          obtain ⟨w1, sM1, rfl, ⟨ho, rfl⟩, hS1⟩ := sS_cons hS0
          obtain ⟨h1, h2⟩ := hcc
          obtain ⟨g1, g2, fs, g3, g4, g5⟩ := sC_obj (hW.2.2.2 o c0 hc0) (by rw [h1]; exact hx13)
          obtain ⟨hI, hfin⟩ : (xFd (4, 2, a, x, y)).2.2.1 = "I" ∧ (xFd (4, 2, a, x, y)).2.2.2 = false := by
            exact hc
          have hrf : ¬ rfI c0.1 y = true := by
            rw [h1]
            unfold rfI
            rw [decide_eq_true_eq]
            rintro ⟨q1, -⟩
            exact q1 hI
          rw [h1] at g3
          refine va_put (D := D) (C := (vwG x).1) (T := (vwG x).2.1) (N := (vwG x).2.2) hx hb hts (uws_in hx13) (tyG x) (tyG_ok hx13) (nmG_ok hx13) hown hW.2.2.1 hW.1 hW.2.1 hV o (by rw [wsOf_get ho, g3]) (vw_get hx13) y hy hl (fun _ q => q) hfin (ty := .int) (by rw [show ((vwG x).2.1 y).2.2.1 = "I" from hI]; decide +kernel) rfl rfl (by rw [g4]; exact h2) hd (fun H1 locs1 hP hD hV1 => ?_)
          refine kk _ _ _ (g.1, g.2.1, va_up g.2.2 o (.inr (x, fs.set y (.int z)))) rfl (sW_put hW ho rfl (fun _ _ => rfl) (fun k hk => stv_ne hk) (fun c' hc' => ?_) hP hD) hV1 hS1
          rw [hc0] at hc'
          cases hc'
          refine Or.inl ⟨by rw [h1]; exact hx13, g1, g2, fs.set y (.int z), by rw [h1], by rw [List.length_set]; exact g4, fun j9 hj9 => ?_⟩
          by_cases e9 : j9 = y
          · subst e9
            unfold sF
            rw [if_neg hrf]
            exact ⟨z, List.getElem?_set_self (by rw [g4]; exact h2), by rw [stv_at, if_pos rfl]⟩
          · have g6 := g5 j9 hj9
            unfold sF at g6 ⊢
            rw [List.getElem?_set_ne (Ne.symm e9), stv_at, if_neg e9]
            exact g6
        next => cases h
      next => cases h
    next => cases h
  · have hf3 : pf (j + 1) = pf j + 3 := hf
    rw [hf3] at kk
    simp only [Bool.and_eq_true, decide_eq_true_eq, Bool.not_eq_true', ne_eq] at hc
    simp only [pm_g4] at h
    split at h
    next v0 o st2 =>
      split at h
      next c0 hc0 =>
        split at h
        next hcc =>
          cases h
          obtain ⟨w0, sM0, rfl, ⟨z, rfl, rfl⟩, hS0⟩ := sS_cons hS
          obtain ⟨w1, sM1, rfl, ⟨ho, rfl⟩, hS1⟩ := sS_cons hS0
          obtain ⟨h1, h2, h3⟩ := hcc
          have hz : z = 0 ∨ z = 1 := by
            rcases h3 with q | q
            · exact Or.inl (i32_eq.mpr q)
            · exact Or.inr (i32_eq.mpr q)
          obtain ⟨g1, g2, fs, g3, g4, g5⟩ := sC_obj (hW.2.2.2 o c0 hc0) (by rw [h1]; exact hx13)
          obtain ⟨hI, hfin⟩ : (xFd (4, 3, a, x, y)).2.2.1 = "Z" ∧ (xFd (4, 3, a, x, y)).2.2.2 = false := by
            exact hc
          have hrf : ¬ rfI c0.1 y = true := by
            rw [h1]
            unfold rfI
            rw [decide_eq_true_eq]
            rintro ⟨-, q1⟩
            exact q1 hI
          rw [h1] at g3
          refine va_put (D := D) (C := (vwG x).1) (T := (vwG x).2.1) (N := (vwG x).2.2) hx hb hts (uws_in hx13) (tyG x) (tyG_ok hx13) (nmG_ok hx13) hown hW.2.2.1 hW.1 hW.2.1 hV o (by rw [wsOf_get ho, g3]) (vw_get hx13) y hy hl (fun _ q => q) hfin (ty := .boolean) (by rw [show ((vwG x).2.1 y).2.2.1 = "Z" from hI]; decide +kernel) (by rcases hz with rfl | rfl <;> rfl) (by rcases hz with rfl | rfl <;> rfl) (by rw [g4]; exact h2) hd (fun H1 locs1 hP hD hV1 => ?_)
          refine kk _ _ _ (g.1, g.2.1, va_up g.2.2 o (.inr (x, fs.set y (.int z)))) rfl (sW_put hW ho rfl (fun _ _ => rfl) (fun k hk => stv_ne hk) (fun c' hc' => ?_) hP hD) hV1 hS1
          rw [hc0] at hc'
          cases hc'
          refine Or.inl ⟨by rw [h1]; exact hx13, g1, g2, fs.set y (.int z), by rw [h1], by rw [List.length_set]; exact g4, fun j9 hj9 => ?_⟩
          by_cases e9 : j9 = y
          · subst e9
            unfold sF
            rw [if_neg hrf]
            exact ⟨z, List.getElem?_set_self (by rw [g4]; exact h2), by rw [stv_at, if_pos rfl]⟩
          · have g6 := g5 j9 hj9
            unfold sF at g6 ⊢
            rw [List.getElem?_set_ne (Ne.symm e9), stv_at, if_neg e9]
            exact g6
        next => cases h
      next => cases h
    next => cases h
  · have hf3 : pf (j + 1) = pf j + 3 := hf
    rw [hf3] at kk
    simp only [Bool.and_eq_true, decide_eq_true_eq, Bool.not_eq_true', ne_eq] at hc
    simp only [pm_g4] at h
    split at h
    next r o st2 =>
      split at h
      next c0 hc0 =>
        split at h
        next hcc =>
          cases h
          obtain ⟨w0, sM0, rfl, ⟨hr0, rfl⟩, hS0⟩ := sS_cons hS
          obtain ⟨w1, sM1, rfl, ⟨ho, rfl⟩, hS1⟩ := sS_cons hS0
          obtain ⟨h1, h2, h3⟩ := hcc
          obtain ⟨g1, g2, fs, g3, g4, g5⟩ := sC_obj (hW.2.2.2 o c0 hc0) (by rw [h1]; exact hx13)
          obtain ⟨⟨⟨hI, hfin⟩, hin⟩, hdc⟩ := hc
          have hrf0 : rfI x y = true := decide_eq_true hI
          have hrf : rfI c0.1 y = true := by rw [h1]; exact hrf0
          rw [h1] at g3
          have hty := tyG_ok hx13 y hy
          refine va_putF (D := D) (C := (vwG x).1) (T := (vwG x).2.1) (N := (vwG x).2.2) (v := .ref (g.1 r)) (ty := tyG x y) hx hb hts (uws_in hx13) (tyG x) (tyG_ok hx13) (nmG_ok hx13) hown hW.2.2.1 hW.1 hW.2.1 hV o (by rw [wsOf_get ho, g3]) (vw_get hx13) y hy hl (fun _ q => q) hfin (by rw [hnm]; exact hin) hdc hty
            (by rcases rty_in hx13 hy hrf0 with ⟨C, q⟩ | ⟨t, q⟩ <;> rw [q] <;> rfl) (by rcases rty_in hx13 hy hrf0 with ⟨C, q⟩ | ⟨t, q⟩ <;> rw [q] <;> rfl) (by rw [g4]; exact h2) hd (fun H1 locs1 hP hD hV1 => ?_)
          refine kk _ _ _ (g.1, g.2.1, va_up g.2.2 o (.inr (x, fs.set y (.ref (g.1 r))))) rfl (sW_put hW ho (by simp) (fun k hk => by simp [List.getElem?_set_ne (Ne.symm hk)]) (fun k hk => rfl) (fun c' hc' => ?_) hP hD) hV1 hS1
          have hc'' : (A.2.2.1.set o (c0.1, c0.2.1, c0.2.2.set y (some r)))[o]? = some c' := hc'
          rw [List.getElem?_set_self ho] at hc''
          cases hc''
          refine Or.inl ⟨by show c0.1 < 13; rw [h1]; exact hx13, g1, by show (c0.2.2.set y (some r)).length = c0.2.1; rw [List.length_set]; exact g2, fs.set y (.ref (g.1 r)), by show _ = Sum.inr (c0.1, _); rw [h1], by rw [List.length_set]; exact g4, fun j9 hj9 => ?_⟩
          have hj9 : j9 < c0.2.1 := hj9
          show sF c0.1 (c0.2.2.set y (some r)) (σ o) A.2.2.1.length g.1 (fs.set y (.ref (g.1 r))) j9
          by_cases e9 : j9 = y
          · subst e9
            unfold sF
            rw [if_pos hrf]
            exact ⟨some r, List.getElem?_set_self (by rw [g2]; exact h2), List.getElem?_set_self (by rw [g4]; exact h2), fun q hq => by cases hq; exact hr0⟩
          · have g6 := g5 j9 hj9
            unfold sF at g6 ⊢
            rw [List.getElem?_set_ne (Ne.symm e9), List.getElem?_set_ne (Ne.symm e9)]
            exact g6
        next => cases h
      next => cases h
    next => cases h
  · exfalso
    unfold pm_g4 at h
    split at h <;> first | omega | cases h
end
