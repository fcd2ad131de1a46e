/-! SOUNDNESS, 12: arrays -/
section
variable {p : Program} {l : Launch} {e : Env} {R : Room} {s : State} {m : MethodId} {args : Array Value} {below : List Frame} {meth : Method} {c : Code} {H : Heap} {locs : List Loc} {cells slots : Nat} {Q : State → Prop}
variable {B0 : Nat} {K adV : Nat → Nat} {Ls : Nat} {xs : Nat → Int32} {M j : Nat} {pf : Nat → Nat} {D : va_G} {A A' : pm_A} {σ σ' : pm_S} {g : sG}
theorem sW_same (hW : sW D B0 A σ g s H) {o : Nat} {E' : va_E} {H1 : Heap} {c0 : pm_C} (hc0 : A.2.2.1[o]? = some c0) (hσ : ∀ k, k ≠ o → σ' k = σ k) (hC : sC A.2.2.1.length g.1 g.2.1 c0 (σ' o) E')
    (hP : va_P D vwT ((wsOf A.2.2.1.length g.1 g.2.2).set o (g.1 o, E')) H1) (hD : va_D (fun q => B0 ≤ q) ((wsOf A.2.2.1.length g.1 g.2.2).set o (g.1 o, E'))) : sW D B0 A σ' (g.1, g.2.1, va_up g.2.2 o E') s H1 :=
  sW_put hW (List.getElem?_eq_some_iff.mp hc0).1 rfl (fun _ _ => rfl) hσ (fun c' hc' => by rw [hc0] at hc'; cases hc'; exact hC) hP hD
def sWa : List Cond := [.native arraycopyName, .static arraycopyName, .initialized "java/lang/System"]
theorem sWa_in : ∀ w ∈ sWa, w ∈ lw_tbl ∧ goodWord w = true := by decide +kernel
theorem cpy_ne {σ : pm_S} {s9 sp d dp n k : Nat} (h : k ≠ d) : cpy σ s9 sp d dp n k = σ k := by
  funext z
  unfold cpy
  rw [if_neg (fun q => h q.1)]
theorem snd_g5 {k : Nat} {a : Int} {x y : Nat} {st st' : List pm_V} {L : Array Slot} {sM : List Value} (hX : sX B0 K adV Ls xs p s m args meth c M) (hR : 1 ≤ R.frames ∧ 200 ≤ R.locals) (hsz : L.size = c.maxLocals)
    (hA4 : A.2.2.2 = (Ls, fun i => (xs i).toInt)) (hcat : k = 9 → (sM.map fun v => v.category).sum ≤ 100)
    (hok : okI (sMdG M) pf j (5, k, a, x, y)) (h : pm_g5 k st A σ = some (st', A', σ')) (hW : sW D B0 A σ g s H) (hV : va_S (fun q => B0 ≤ q) s.heap H locs) (hS : sS A.2.2.1.length g.1 K st sM)
    (kk : ∀ H' locs' sM' g', g'.1 = g.1 → sW D B0 A' σ' g' s H' → va_S (fun q => B0 ≤ q) s.heap H' locs' → sS A.2.2.1.length g.1 K st' sM' → W p l e R s m args below meth c H' locs' cells slots Q (F0 m (pf (j + 1)) L sM')) : W p l e R s m args below meth c H locs cells slots Q (F0 m (pf j) L sM) := by
  obtain ⟨hx, hb, hml, hr, hown, hts, -, -, hnm, hxt⟩ := hX
  obtain ⟨v, idx, hd, hf, hw, hc⟩ := hok
  have hf := hf rfl
  have hw : ∀ w ∈ wdI (sMdG M).1.cls (5, k, a, x, y) v idx, w.before args s = true := fun w h => hts w (sGd_mem (hw w h))
  have hK := hW.2.2.1
  rcases (show k = 0 ∨ k = 1 ∨ k = 2 ∨ k = 3 ∨ k = 4 ∨ k = 5 ∨ k = 6 ∨ k = 7 ∨ k = 8 ∨ k = 9 ∨ 10 ≤ k by omega) with rfl | rfl | rfl | rfl | rfl | rfl | rfl | rfl | rfl | rfl | hk
  · have hf3 : pf (j + 1) = pf j + 1 := hf
    rw [hf3] at kk
    simp only [pm_g5] at h
    split at h
    next i o st2 =>
      split at h
      next c0 hc0 =>
        split at h
        next hcc =>
          cases h
          obtain ⟨w0, sM0, rfl, ⟨z, rfl, rfl⟩, hS0⟩ := sS_cons hS
          obtain ⟨w1, sM1, rfl, ⟨ho, rfl⟩, hS1⟩ := sS_cons hS0
          obtain ⟨h1, h2, h3⟩ := hcc
          obtain ⟨cA, f, g3, g4, g5⟩ := sC_100 (hW.2.2.2 o c0 hc0) h1
          obtain ⟨t0, ht0⟩ := List.getElem?_of_mem g4
          obtain ⟨i1, i2⟩ := ix_in h2 h3
          refine va_iald hx hb hK hW.1 o t0 (by rw [wsOf_get ho, g3]) ht0 i1 hd (kk _ _ _ g rfl hW hV ⟨⟨_, rfl, ?_⟩, hS1⟩)
          rw [i2]
          exact g5 _ (by omega)
        next => cases h
      next => cases h
    next i z9 st2 =>
      split at h
      next hcc =>
        cases h
        obtain ⟨w0, sM0, rfl, ⟨z, rfl, rfl⟩, hS0⟩ := sS_cons hS
        obtain ⟨w1, sM1, rfl, hw1, hS1⟩ := sS_cons hS0
        obtain ⟨h1, h2, h3⟩ := hcc
        have h1 : z9 = 99 := h1
        subst h1
        have hw1 : w1 = .ref (K 99) := hw1
        subst hw1
        rw [hA4] at h3
        obtain ⟨i1, i2⟩ := ix_in h2 h3
        obtain ⟨x1, x2, x3⟩ := hxt.2.2.2.2
        refine va_sld hx hb x1 (by omega) (show ¬ (B0 ≤ K 99) by omega) hV i1 hd (kk _ _ _ g rfl hW hV ⟨⟨_, rfl, ?_⟩, hS1⟩)
        rw [i2, hA4]
      next => cases h
    next => cases h
  · have hf3 : pf (j + 1) = pf j + 1 := hf
    rw [hf3] at kk
    simp only [pm_g5] at h
    split at h
    next v0 i o st2 =>
      split at h
      next c0 hc0 =>
        split at h
        next hcc =>
          cases h
          obtain ⟨wv, sMv, rfl, ⟨zv, rfl, rfl⟩, hSv⟩ := sS_cons hS
          obtain ⟨w0, sM0, rfl, ⟨z, rfl, rfl⟩, hS0⟩ := sS_cons hSv
          obtain ⟨w1, sM1, rfl, ⟨ho, rfl⟩, hS1⟩ := sS_cons hS0
          obtain ⟨h1, h2, h3⟩ := hcc
          obtain ⟨cA, f, g3, g4, g5⟩ := sC_100 (hW.2.2.2 o c0 hc0) h1
          obtain ⟨t0, ht0⟩ := List.getElem?_of_mem g4
          obtain ⟨i1, i2⟩ := ix_in h2 h3
          refine va_iast hx hb hK hW.1 hW.2.1 hV o t0 (by rw [wsOf_get ho, g3]) ht0 i1 hd (fun H1 locs1 hP hD hV1 => ?_)
          refine kk _ _ _ (g.1, g.2.1, va_up g.2.2 o _) rfl (sW_same (σ' := stv σ o z.toInt.toNat zv.toInt) hW hc0 (fun k hk => stv_ne hk) (Or.inr (Or.inl ⟨h1, cA, _, rfl, g4, fun j9 hj9 => ?_⟩)) hP hD) hV1 hS1
          rw [i2, stv_at]
          by_cases e9 : j9 = z.toInt.toNat
          · rw [if_pos e9, e9, pk_us]
          · rw [if_neg e9, pk_un e9]; exact g5 j9 hj9
        next => cases h
      next => cases h
    next => cases h
  · have hf3 : pf (j + 1) = pf j + 1 := hf
    rw [hf3] at kk
    simp only [pm_g5] at h
    split at h
    next i o st2 =>
      split at h
      next c0 hc0 =>
        split at h
        next hcc =>
          cases h
          obtain ⟨w0, sM0, rfl, ⟨z, rfl, rfl⟩, hS0⟩ := sS_cons hS
          obtain ⟨w1, sM1, rfl, ⟨ho, rfl⟩, hS1⟩ := sS_cons hS0
          obtain ⟨h1, h2, h3⟩ := hcc
          obtain ⟨cA, f, g3, g4, g5⟩ := sC_101 (hW.2.2.2 o c0 hc0) h1
          obtain ⟨t0, ht0⟩ := List.getElem?_of_mem g4
          obtain ⟨i1, i2⟩ := ix_in h2 h3
          refine va_zald hx hb hK hW.1 o t0 (by rw [wsOf_get ho, g3]) ht0 i1 hd (kk _ _ _ g rfl hW hV ⟨⟨_, rfl, ?_⟩, hS1⟩)
          rw [i2]
          exact g5 _ (by omega)
        next => cases h
      next => cases h
    next => cases h
  · have hf3 : pf (j + 1) = pf j + 1 := hf
    rw [hf3] at kk
    simp only [pm_g5] at h
    split at h
    next v0 i o st2 =>
      split at h
      next c0 hc0 =>
        split at h
        next hcc =>
          cases h
          obtain ⟨wv, sMv, rfl, ⟨zv, rfl, rfl⟩, hSv⟩ := sS_cons hS
          obtain ⟨w0, sM0, rfl, ⟨z, rfl, rfl⟩, hS0⟩ := sS_cons hSv
          obtain ⟨w1, sM1, rfl, ⟨ho, rfl⟩, hS1⟩ := sS_cons hS0
          obtain ⟨h1, h2, h3, h4⟩ := hcc
          have hz : zv = 0 ∨ zv = 1 := by
            rcases h4 with q | q
            · exact Or.inl (i32_eq.mpr q)
            · exact Or.inr (i32_eq.mpr q)
          have hnar : vp_nar .boolean zv = zv := by rcases hz with rfl | rfl <;> rfl
          obtain ⟨cA, f, g3, g4, g5⟩ := sC_101 (hW.2.2.2 o c0 hc0) h1
          obtain ⟨t0, ht0⟩ := List.getElem?_of_mem g4
          obtain ⟨i1, i2⟩ := ix_in h2 h3
          refine va_zast hx hb hK hW.1 hW.2.1 hV o t0 (by rw [wsOf_get ho, g3]) ht0 i1 hd (fun H1 locs1 hP hD hV1 => ?_)
          rw [hnar] at hP hD
          refine kk _ _ _ (g.1, g.2.1, va_up g.2.2 o _) rfl (sW_same (σ' := stv σ o z.toInt.toNat zv.toInt) hW hc0 (fun k hk => stv_ne hk) (Or.inr (Or.inr (Or.inl ⟨h1, cA, _, rfl, g4, fun j9 hj9 => ?_⟩))) hP hD) hV1 hS1
          rw [i2, stv_at]
          by_cases e9 : j9 = z.toInt.toNat
          · rw [if_pos e9, e9, pk_us]
          · rw [if_neg e9, pk_un e9]; exact g5 j9 hj9
        next => cases h
      next => cases h
    next => cases h
  · have hf3 : pf (j + 1) = pf j + 1 := hf
    rw [hf3] at kk
    simp only [pm_g5] at h
    split at h
    next i o st2 =>
      split at h
      next c0 hc0 =>
        split at h
        next hcc =>
          cases h
          obtain ⟨w0, sM0, rfl, ⟨z, rfl, rfl⟩, hS0⟩ := sS_cons hS
          obtain ⟨w1, sM1, rfl, ⟨ho, rfl⟩, hS1⟩ := sS_cons hS0
          obtain ⟨h1, h2, h3⟩ := hcc
          obtain ⟨cA, f, g3, g4, g5⟩ := sC_102 (hW.2.2.2 o c0 hc0) h1
          obtain ⟨t0, ht0⟩ := List.getElem?_of_mem g4
          obtain ⟨i1, i2⟩ := ix_in h2 h3
          refine va_lald hx hb hK hW.1 o t0 (by rw [wsOf_get ho, g3]) ht0 i1 hd (kk _ _ _ g rfl hW hV ⟨⟨_, rfl, ?_⟩, hS1⟩)
          rw [i2]
          exact g5 _ (by omega)
        next => cases h
      next => cases h
    next => cases h
  · have hf3 : pf (j + 1) = pf j + 1 := hf
    rw [hf3] at kk
    simp only [pm_g5] at h
    split at h
    next v0 i o st2 =>
      split at h
      next c0 hc0 =>
        split at h
        next hcc =>
          cases h
          obtain ⟨wv, sMv, rfl, ⟨zv, rfl, rfl⟩, hSv⟩ := sS_cons hS
          obtain ⟨w0, sM0, rfl, ⟨z, rfl, rfl⟩, hS0⟩ := sS_cons hSv
          obtain ⟨w1, sM1, rfl, ⟨ho, rfl⟩, hS1⟩ := sS_cons hS0
          obtain ⟨h1, h2, h3⟩ := hcc
          obtain ⟨cA, f, g3, g4, g5⟩ := sC_102 (hW.2.2.2 o c0 hc0) h1
          obtain ⟨t0, ht0⟩ := List.getElem?_of_mem g4
          obtain ⟨i1, i2⟩ := ix_in h2 h3
          refine va_last hx hb hK hW.1 hW.2.1 hV o t0 (by rw [wsOf_get ho, g3]) ht0 i1 hd (fun H1 locs1 hP hD hV1 => ?_)
          refine kk _ _ _ (g.1, g.2.1, va_up g.2.2 o _) rfl (sW_same (σ' := stv σ o z.toInt.toNat zv.toInt) hW hc0 (fun k hk => stv_ne hk) (Or.inr (Or.inr (Or.inr (Or.inl ⟨h1, cA, _, rfl, g4, fun j9 hj9 => ?_⟩)))) hP hD) hV1 hS1
          rw [i2, stv_at]
          by_cases e9 : j9 = z.toInt.toNat
          · rw [if_pos e9, e9, pk_uLs]
          · rw [if_neg e9, pk_uLn e9]; exact g5 j9 hj9
        next => cases h
      next => cases h
    next => cases h
  · have hf3 : pf (j + 1) = pf j + 1 := hf
    rw [hf3] at kk
    simp only [pm_g5] at h
    split at h
    next i o st2 =>
      split at h
      next c0 hc0 =>
        split at h
        next hcc =>
          split at h
          next r hr9 =>
            cases h
            obtain ⟨w0, sM0, rfl, ⟨z, rfl, rfl⟩, hS0⟩ := sS_cons hS
            obtain ⟨w1, sM1, rfl, ⟨ho, rfl⟩, hS1⟩ := sS_cons hS0
            obtain ⟨h1, h2, h3⟩ := hcc
            obtain ⟨i1, i2⟩ := ix_in h2 h3
            have hlt : z.toNatClampNeg < c0.2.1 := by rw [i2]; omega
            rcases h1 with h1 | h1
            · obtain ⟨cA, f, g3, g4, g5⟩ := sC_103 (hW.2.2.2 o c0 hc0) h1
              obtain ⟨t0, ht0⟩ := List.getElem?_of_mem g4
              obtain ⟨q1, q2⟩ := g5.2 _ _ hr9
              have hPo := hW.1 o _ (by rw [wsOf_get ho, g3])
              refine W.aald (v := .ref (g.1 r)) (ty := .array .int) hx hb hPo ((hK.2 t0 _ ht0).1 c0.2.1 (fun j => va_rf (f j))) rfl (fun q => by cases q) (by show ¬ (z < 0 ∨ (arrV _ _ _).slots.size ≤ _); rw [arrV_size]; exact i1) (by show (arrV _ _ _).slots[_]? = _; rw [arrV_read _ _ hlt, i2, q1]; rfl) rfl rfl hd (kk _ _ _ g rfl hW hV ⟨⟨q2 r rfl, rfl⟩, hS1⟩)
            · obtain ⟨cA, f, g3, g4, g5⟩ := sC_104 (hW.2.2.2 o c0 hc0) h1
              obtain ⟨t0, ht0⟩ := List.getElem?_of_mem g4
              obtain ⟨q1, q2⟩ := g5.2 _ _ hr9
              refine va_aldq hx hb hK hW.1 o t0 (by rw [wsOf_get ho, g3]) ht0 i1 hd ?_
              rw [i2, q1]
              exact kk _ _ _ g rfl hW hV ⟨⟨q2 r rfl, rfl⟩, hS1⟩
          next => cases h
        next => cases h
      next => cases h
    next => cases h
  · have hf3 : pf (j + 1) = pf j + 1 := hf
    rw [hf3] at kk
    simp only [pm_g5] at h
    split at h
    next r i o st2 =>
      split at h
      next c0 e0 hc0 he0 =>
        split at h
        next hcc =>
          cases h
          obtain ⟨wv, sMv, rfl, ⟨hr0, rfl⟩, hSv⟩ := sS_cons hS
          obtain ⟨w0, sM0, rfl, ⟨z, rfl, rfl⟩, hS0⟩ := sS_cons hSv
          obtain ⟨w1, sM1, rfl, ⟨ho, rfl⟩, hS1⟩ := sS_cons hS0
          obtain ⟨h1, h4, h2, h3⟩ := hcc
          obtain ⟨cA, f, g3, g4, g5⟩ := sC_104 (hW.2.2.2 o c0 hc0) h1
          obtain ⟨t0, ht0⟩ := List.getElem?_of_mem g4
          obtain ⟨i1, i2⟩ := ix_in h2 h3
          obtain ⟨-, -, fs, f3, -, -⟩ := sC_obj (hW.2.2.2 r e0 he0) (by rw [h4]; decide)
          rw [h4] at f3
          refine va_astq (r := vwG 1) hx hb hK hW.1 hW.2.1 hV o t0 r 1 (by rw [wsOf_get ho, g3]) ht0 (by rw [wsOf_get hr0, f3]) (vw_get (by decide)) i1 hd (fun H1 locs1 hP hD hV1 => ?_)
          refine kk _ _ _ (g.1, g.2.1, va_up g.2.2 o _) rfl (sW_put hW ho (by simp) (fun k hk => by simp [List.getElem?_set_ne (Ne.symm hk)]) (fun k hk => rfl) (fun c' hc' => ?_) hP hD) hV1 hS1
          have hc'' : (A.2.2.1.set o (c0.1, c0.2.1, c0.2.2.set z.toInt.toNat (some r)))[o]? = some c' := hc'
          rw [List.getElem?_set_self ho] at hc''
          cases hc''
          refine Or.inr (Or.inr (Or.inr (Or.inr (Or.inr ⟨h1, cA, _, rfl, g4, ?_⟩))))
          refine ⟨by show (c0.2.2.set _ _).length = c0.2.1; rw [List.length_set]; exact g5.1, fun j9 r9 hr9 => ?_⟩
          have hr9 : (c0.2.2.set z.toInt.toNat (some r))[j9]? = some r9 := hr9
          rw [i2]
          by_cases e9 : j9 = z.toInt.toNat
          · subst e9
            rw [List.getElem?_set_self (by rw [g5.1]; omega)] at hr9
            cases hr9
            exact ⟨by simp [va_up], fun q hq => by cases hq; exact hr0⟩
          · rw [List.getElem?_set_ne (Ne.symm e9)] at hr9
            obtain ⟨q1, q2⟩ := g5.2 j9 r9 hr9
            exact ⟨by simp only [va_up, if_neg e9]; exact q1, q2⟩
        next => cases h
      next => cases h
    next => cases h
  · have hf3 : pf (j + 1) = pf j + 1 := hf
    rw [hf3] at kk
    simp only [pm_g5] at h
    split at h
    next o st2 =>
      split at h
      next c0 hc0 =>
        split at h
        next hcc =>
          cases h
          obtain ⟨w1, sM1, rfl, ⟨ho, rfl⟩, hS1⟩ := sS_cons hS
          have hv : ∀ nn : Nat, nn < 2147483648 → (Int32.ofNat nn).toInt = (nn : Int) := fun nn h => nI_toInt (by omega)
          rcases hW.2.2.2 o c0 hc0 with ⟨h1, h2⟩ | ⟨h1, cA, f, g3, g4, g5⟩ | ⟨h1, cA, f, g3, g4, g5⟩ | ⟨h1, cA, f, g3, g4, g5⟩ | ⟨h1, cA, f, g3, g4, g5⟩ | ⟨h1, cA, f, g3, g4, g5⟩
          · omega
          all_goals
            obtain ⟨t0, ht0⟩ := List.getElem?_of_mem g4
            exact va_alen hx hb hK hW.1 o t0 (by rw [wsOf_get ho, g3]) ht0 rfl hd (kk _ _ _ g rfl hW hV ⟨⟨_, rfl, hv _ hcc.2⟩, hS1⟩)
        next => cases h
      next => cases h
    next z9 st2 =>
      split at h
      next hcc =>
        cases h
        obtain ⟨w1, sM1, rfl, hw1, hS1⟩ := sS_cons hS
        have h1 : z9 = 99 := hcc.1
        subst h1
        have hw1 : w1 = .ref (K 99) := hw1
        subst hw1
        obtain ⟨x1, x2, x3⟩ := hxt.2.2.2.2
        have hLs : Ls < 2147483648 := by have := hcc.2; rw [hA4] at this; exact this
        refine va_slen hx hb x1 (by omega) (show ¬ (B0 ≤ K 99) by omega) hV hd (kk _ _ _ g rfl hW hV ⟨⟨_, rfl, ?_⟩, hS1⟩)
        rw [hA4]
        exact nI_toInt (by omega)
      next => cases h
    next => cases h
  · have hf3 : pf (j + 1) = pf j + 3 := hf
    rw [hf3] at kk
    simp only [pm_g5] at h
    split at h
    next nn dp d sp s9 st2 =>
      split at h
      next c0 e0 hc0 he0 =>
        split at h
        next hcc =>
          cases h
          have hq := hcat rfl
          obtain ⟨w1, sM1, rfl, ⟨zn, rfl, rfl⟩, hS1⟩ := sS_cons hS
          obtain ⟨w2, sM2, rfl, ⟨zd, rfl, rfl⟩, hS2⟩ := sS_cons hS1
          obtain ⟨w3, sM3, rfl, ⟨hd0, rfl⟩, hS3⟩ := sS_cons hS2
          obtain ⟨w4, sM4, rfl, ⟨zs, rfl, rfl⟩, hS4⟩ := sS_cons hS3
          obtain ⟨w5, sM5, rfl, ⟨hs0, rfl⟩, hS5⟩ := sS_cons hS4
          obtain ⟨h1, h2, h3, h4, h5, h6, h7, h8⟩ := hcc
          obtain ⟨cA, f, f3, f4, f5⟩ := sC_100 (hW.2.2.2 s9 c0 hc0) h1
          obtain ⟨cB, f', g3, g4, g5⟩ := sC_100 (hW.2.2.2 d e0 he0) h2
          obtain ⟨t0, ht0⟩ := List.getElem?_of_mem f4
          obtain ⟨t1, ht1⟩ := List.getElem?_of_mem g4
          have hwa : ∀ w ∈ sWa, w.before args s = true := fun w h => hts w (sGd_mem (sWa_in w h))
          obtain ⟨n1, n2⟩ := ix_nn h4
          obtain ⟨d1, d2⟩ := ix_nn h5
          obtain ⟨s1, s2⟩ := ix_nn h6
          simp only [List.map_cons, List.sum_cons, show ∀ z : Int32, (Value.int z).category = 1 from fun _ => rfl, show ∀ z : Nat, (Value.ref z).category = 1 from fun _ => rfl] at hq
          refine va_copyi hx hb hsz.symm hown (hw _ List.mem_cons_self) (hwa _ (by simp [sWa])) (hwa _ (by simp [sWa])) (hwa _ (by simp [sWa])) hK hW.1 hW.2.1 hV s9 d t0 t1 (by rw [wsOf_get hs0, f3]) (by rw [wsOf_get hd0, g3]) ht0 ht1 rfl s1 d1 n1 (by rw [s2, n2]; omega) (by rw [d2, n2]; omega) (fun _ _ => rfl) hR.1 (by
            have hz : nativeFrameWords "java/lang/System" "arraycopy" 5 ≤ 60 := by decide +kernel
            omega) hd (fun H1 locs1 hP hD hV1 => ?_)
          refine kk _ _ _ (g.1, g.2.1, va_up g.2.2 d _) rfl (sW_same (σ' := cpy σ s9 zs.toInt.toNat d zd.toInt.toNat zn.toInt.toNat) hW he0 (fun k hk => cpy_ne hk) (Or.inr (Or.inl ⟨h2, cB, _, rfl, g4, fun j9 hj9 => ?_⟩)) hP hD) hV1 hS5
          rw [s2, d2, n2]
          unfold cpy va_cpy
          by_cases e9 : zd.toInt.toNat ≤ j9 ∧ j9 < zd.toInt.toNat + zn.toInt.toNat
          · rw [if_pos e9, if_pos ⟨rfl, e9⟩]
            exact f5 _ (by omega)
          · rw [if_neg e9, if_neg (fun q => e9 q.2)]
            exact g5 j9 hj9
        next => cases h
      next => cases h
    next => cases h
  · exfalso
    unfold pm_g5 at h
    split at h <;> first | omega | cases h
end
