/-! SOUNDNESS, 13: new cells -/
section
variable {D : va_G} {B0 : Nat} {A A' : pm_A} {σ σ' : pm_S} {g : sG} {s : State} {H H1 : Heap}
theorem sW_push {q : Nat} {E : va_E} {tys' : List (ClassId × FieldType)} {c0 : pm_C} (hW : sW D B0 A σ g s H) (hK : va_K D vwT tys' s) (ht : ∀ x, x ∈ g.2.1 → x ∈ tys')
    (hP : va_P D vwT (wsOf A.2.2.1.length g.1 g.2.2 ++ [(q, E)]) H1) (hD : va_D (fun q => B0 ≤ q) (wsOf A.2.2.1.length g.1 g.2.2 ++ [(q, E)])) (hA' : A'.2.2.1 = A.2.2.1 ++ [c0]) (hσ : ∀ k, k < A.2.2.1.length → σ' k = σ k)
    (hC : sC (A.2.2.1.length + 1) (va_up g.1 A.2.2.1.length q) tys' c0 (σ' A.2.2.1.length) E) : sW D B0 A' σ' (va_up g.1 A.2.2.1.length q, tys', va_up g.2.2 A.2.2.1.length E) s H1 := by
  rw [wsOf_push] at hP hD
  have hlen : A'.2.2.1.length = A.2.2.1.length + 1 := by rw [hA', List.length_append]; rfl
  refine ⟨by rw [hlen]; exact hP, by rw [hlen]; exact hD, hK, fun k c hk => ?_⟩
  rw [hlen]
  rw [hA'] at hk
  by_cases e : k < A.2.2.1.length
  · rw [List.getElem?_append_left e] at hk
    show sC _ _ _ c (σ' k) (va_up g.2.2 A.2.2.1.length E k)
    rw [show va_up g.2.2 A.2.2.1.length E k = g.2.2 k by simp [va_up, Nat.ne_of_lt e], hσ k e]
    exact sC_ext (hW.2.2.2 k c hk) (Nat.le_succ _) (fun z hz => by simp [va_up, Nat.ne_of_lt hz]) ht (fun _ => rfl)
  · rw [List.getElem?_append_right (by omega)] at hk
    have hz : k - A.2.2.1.length < 1 := (List.getElem?_eq_some_iff.mp hk).1
    have e2 : k = A.2.2.1.length := by omega
    subst e2
    rw [Nat.sub_self] at hk
    cases hk
    show sC _ _ _ c0 (σ' _) (va_up g.2.2 A.2.2.1.length E A.2.2.1.length)
    rw [show va_up g.2.2 A.2.2.1.length E A.2.2.1.length = E by simp [va_up]]
    exact hC
theorem wsOf_pushes {n N : Nat} {ad : Nat → Nat} {e : Nat → va_E} {r : Nat → Nat} {E : va_E} : wsOf n ad e ++ (List.range N).map (fun i => (r i, E)) = wsOf (n + N) (fun k => if k < n then ad k else r (k - n)) (fun k => if k < n then e k else E) := by
  unfold wsOf
  rw [List.range_add, List.map_append, List.map_map]
  congr 1
  · apply List.map_congr_left
    intro k hk
    have := List.mem_range.mp hk
    simp [this]
  · apply List.map_congr_left
    intro k hk
    simp only [Function.comp]
    rw [if_neg (by omega), if_neg (by omega), show n + k - n = k by omega]
end
theorem zer_lo {σ : pm_S} {lo hi k : Nat} (h : k < lo) : zer σ lo hi k = σ k := by
  funext z
  unfold zer
  rw [if_neg (by omega)]
theorem zer_in {σ : pm_S} {lo hi k z : Nat} (h1 : lo ≤ k) (h2 : k < hi) : zer σ lo hi k z = 0 := by
  unfold zer
  rw [if_pos ⟨h1, h2⟩]
/-- a field that holds a number is of type int or boolean; the words for 'new' -/
theorem ity_ok : (List.range 13).all (fun x => (List.range (vwG x).2.2).all (fun k => rfI x k || (match tyG x k with | .int => true | .boolean => true | _ => false)) && decide (pm_nf[x]? = some (vwG x).2.2) && decide (Cond.instantiable (vwG x).1 (vwG x).2.2 ∈ lw_tbl) && goodWord (Cond.instantiable (vwG x).1 (vwG x).2.2) && decide (Cond.initialized (vwG x).1 ∈ lw_tbl) && goodWord (Cond.initialized (vwG x).1)) = true := by decide +kernel
def sWn : List Cond := [.arrayClass .int, .arrayClass .boolean, .arrayClass .long, .instanceMethod objectInit, .code objectInit ⟨#[0xb1]⟩ 1 none]
theorem sWn_in : ∀ w ∈ sWn, w ∈ lw_tbl ∧ goodWord w = true := by decide +kernel
section
variable {p : Program} {l : Launch} {e : Env} {R : Room} {s : State} {m : MethodId} {args : Array Value} {below : List Frame} {meth : Method} {c : Code} {H : Heap} {locs : List Loc} {cells slots : Nat} {Q : State → Prop}
variable {B0 : Nat} {K adV : Nat → Nat} {Ls : Nat} {xs : Nat → Int32} {M j : Nat} {pf : Nat → Nat} {D : va_G} {A A' : pm_A} {σ σ' : pm_S} {g : sG}
theorem snd_g6 {k : Nat} {a : Int} {x y : Nat} {st st' : List pm_V} {L : Array Slot} {sM : List Value} (hX : sX B0 K adV Ls xs p s m args meth c M)
    (hok : okI (sMdG M) pf j (6, k, a, x, y)) (h : pm_g6 k x st A σ = some (st', A', σ')) (hcr : cells + (A'.1 - A.1) ≤ R.cells ∧ slots + (A'.2.1 - A.2.1) ≤ R.slots) (hW : sW D B0 A σ g s H) (hV : va_S (fun q => B0 ≤ q) s.heap H locs) (hS : sS A.2.2.1.length g.1 K st sM)
    (kk : ∀ H' sM' g', (∀ k, k < A.2.2.1.length → g'.1 k = g.1 k) → A.2.2.1.length ≤ A'.2.2.1.length → sW D B0 A' σ' g' s H' → va_S (fun q => B0 ≤ q) s.heap H' locs → sS A'.2.2.1.length g'.1 K st' sM' → W p l e R s m args below meth c H' locs (cells + (A'.1 - A.1)) (slots + (A'.2.1 - A.2.1)) Q (F0 m (pf (j + 1)) L sM')) : W p l e R s m args below meth c H locs cells slots Q (F0 m (pf j) L sM) := by
  obtain ⟨hx, hb, hml, hr, hown, hts, -, -, hnm, hxt⟩ := hX
  obtain ⟨v, idx, hd, hf, hw, hc⟩ := hok
  have hf := hf rfl
  have hw : ∀ w ∈ wdI (sMdG M).1.cls (6, k, a, x, y) v idx, w.before args s = true := fun w h => hts w (sGd_mem (hw w h))
  have hwn : ∀ w ∈ sWn, w.before args s = true := fun w h => hts w (sGd_mem (sWn_in w h))
  have hK := hW.2.2.1
  have hB : ∀ q, s.heap.size ≤ q → B0 ≤ q := fun q hq => Nat.le_trans hxt.2.2.2.2.2.2 hq
  have hup : ∀ (q z : Nat), z < A.2.2.1.length → va_up g.1 A.2.2.1.length q z = g.1 z := fun q z hz => by simp [va_up, Nat.ne_of_lt hz]
  have hself : ∀ q : Nat, va_up g.1 A.2.2.1.length q A.2.2.1.length = q := fun q => by simp [va_up]
  rcases (show k = 0 ∨ k = 1 ∨ k = 2 ∨ k = 3 ∨ 4 ≤ k by omega) with rfl | rfl | rfl | rfl | hk
  · have hf3 : pf (j + 1) = pf j + 2 := hf
    rw [hf3] at kk
    simp only [pm_g6] at h
    split at h
    next n0 st2 =>
      split at h
      next hcc =>
        cases h
        obtain ⟨w0, sM0, rfl, ⟨z, rfl, rfl⟩, hS0⟩ := sS_cons hS
        obtain ⟨n1, n2⟩ := ix_nn hcc.1
        have ec : A.1 + 1 - A.1 = 1 := by omega
        have es : A.2.1 + z.toInt.toNat - A.2.1 = z.toInt.toNat := by omega
        have hlen : (A.2.2.1 ++ [(x, z.toInt.toNat, ([] : List (Option Nat)))]).length = A.2.2.1.length + 1 := by simp
        dsimp only at hcr kk
        rw [ec, es] at hcr kk
        rw [hlen] at kk
        have hc : x = 100 ∨ x = 101 ∨ x = 102 := of_decide_eq_true hc
        rcases hc with rfl | rfl | rfl
        · refine va_newa (atype := .int) (ty := .int) (a0 := (z.toInt.toNat, .inl (fun _ => 0))) hx hb (hwn (.arrayClass .int) (by simp [sWn])) rfl hK hW.1 hW.2.1 hV hB (fun cA => rfl) n1 n2 (by show _ * 4 ≤ _; omega) hcr.1 hcr.2 hd (fun q cA H1 hK1 hP1 hD1 hV1 => ?_)
          exact kk _ _ _ (hup q) (Nat.le_succ _) (sW_push hW hK1 (fun _ => List.mem_append_left _) hP1 hD1 rfl (fun k hk => zer_lo hk) (Or.inr (Or.inl ⟨rfl, cA, _, rfl, List.mem_append_right _ List.mem_cons_self, fun j9 _ => (zer_in (Nat.le_refl _) (Nat.lt_succ_self _)).symm⟩))) hV1 ⟨⟨Nat.lt_succ_self _, congrArg Value.ref (hself q).symm⟩, sS_ext (Nat.le_succ _) (hup q) hS0⟩
        · refine va_newa (atype := .boolean) (ty := .boolean) (a0 := (z.toInt.toNat, .inl (fun _ => 0))) hx hb (hwn (.arrayClass .boolean) (by simp [sWn])) rfl hK hW.1 hW.2.1 hV hB (fun cA => rfl) n1 n2 (by show _ * 1 ≤ _; omega) hcr.1 hcr.2 hd (fun q cA H1 hK1 hP1 hD1 hV1 => ?_)
          exact kk _ _ _ (hup q) (Nat.le_succ _) (sW_push hW hK1 (fun _ => List.mem_append_left _) hP1 hD1 rfl (fun k hk => zer_lo hk) (Or.inr (Or.inr (Or.inl ⟨rfl, cA, _, rfl, List.mem_append_right _ List.mem_cons_self, fun j9 _ => (zer_in (Nat.le_refl _) (Nat.lt_succ_self _)).symm⟩)))) hV1 ⟨⟨Nat.lt_succ_self _, congrArg Value.ref (hself q).symm⟩, sS_ext (Nat.le_succ _) (hup q) hS0⟩
        · refine va_newa (atype := .long) (ty := .long) (a0 := (z.toInt.toNat, .inr (.inl (fun _ => 0)))) hx hb (hwn (.arrayClass .long) (by simp [sWn])) rfl hK hW.1 hW.2.1 hV hB (fun cA => rfl) n1 n2 (by show _ * 8 ≤ _; omega) hcr.1 hcr.2 hd (fun q cA H1 hK1 hP1 hD1 hV1 => ?_)
          exact kk _ _ _ (hup q) (Nat.le_succ _) (sW_push hW hK1 (fun _ => List.mem_append_left _) hP1 hD1 rfl (fun k hk => zer_lo hk) (Or.inr (Or.inr (Or.inr (Or.inl ⟨rfl, cA, _, rfl, List.mem_append_right _ List.mem_cons_self, fun j9 _ => (zer_in (Nat.le_refl _) (Nat.lt_succ_self _)).symm⟩))))) hV1 ⟨⟨Nat.lt_succ_self _, congrArg Value.ref (hself q).symm⟩, sS_ext (Nat.le_succ _) (hup q) hS0⟩
      next => cases h
    next => cases h
  · have hf3 : pf (j + 1) = pf j + 3 := hf
    rw [hf3] at kk
    simp only [pm_g6] at h
    split at h
    next n0 st2 =>
      split at h
      next hcc =>
        cases h
        obtain ⟨w0, sM0, rfl, ⟨z, rfl, rfl⟩, hS0⟩ := sS_cons hS
        obtain ⟨n1, n2⟩ := ix_nn hcc.1
        have ec : A.1 + 1 - A.1 = 1 := by omega
        have es : A.2.1 + z.toInt.toNat - A.2.1 = z.toInt.toNat := by omega
        have hlen : (A.2.2.1 ++ [(104, z.toInt.toNat, List.replicate z.toInt.toNat (none : Option Nat))]).length = A.2.2.1.length + 1 := by simp
        dsimp only at hcr kk
        rw [ec, es] at hcr kk
        rw [hlen] at kk
        refine va_newq hx hb hown (hw _ List.mem_cons_self) hxt.2.2.1.2.2 hK hW.1 hW.2.1 hV hB n1 n2 (by omega) hcr.1 hcr.2 hd (fun q cA H1 hK1 hP1 hD1 hV1 => ?_)
        refine kk _ _ _ (hup q) (Nat.le_succ _) (sW_push hW hK1 (fun _ => List.mem_append_left _) hP1 hD1 rfl (fun k hk => rfl) (Or.inr (Or.inr (Or.inr (Or.inr (Or.inr ⟨rfl, cA, _, rfl, List.mem_append_right _ List.mem_cons_self, ?_⟩)))))) hV1 ⟨⟨Nat.lt_succ_self _, congrArg Value.ref (hself q).symm⟩, sS_ext (Nat.le_succ _) (hup q) hS0⟩
        refine ⟨List.length_replicate, fun j9 r hr9 => ?_⟩
        have hr0 : r = none := List.eq_of_mem_replicate (List.mem_of_getElem? hr9)
        subst hr0
        exact ⟨rfl, fun q hq => by cases hq⟩
      next => cases h
    next => cases h
  · have hf3 : pf (j + 1) = pf j + 4 := hf
    rw [hf3] at kk
    simp only [pm_g6] at h
    split at h
    next m0 n0 st2 =>
      split at h
      next hcc =>
        cases h
        obtain ⟨w0, sM0, rfl, ⟨zm, rfl, rfl⟩, hS0⟩ := sS_cons hS
        obtain ⟨w1, sM1, rfl, ⟨z, rfl, rfl⟩, hS1⟩ := sS_cons hS0
        obtain ⟨n1, n2⟩ := ix_nn hcc.1
        obtain ⟨m1, m2⟩ := ix_nn hcc.2.2.1
        obtain ⟨cy, kA, comp, y1, y2, y3⟩ := Cond.arrayClass_spec (hwn (.arrayClass .int) (by simp [sWn]))
        have hK0 : va_K D vwT (g.2.1 ++ [(cy, .int)]) s := by
          refine va_K.app hK ⟨hK.1, fun k x hx => ?_⟩
          have hz : k < 1 := (List.getElem?_eq_some_iff.mp hx).1
          rw [show k = 0 by omega] at hx
          cases hx
          exact ⟨fun n z => ⟨fun k h => (by cases h), kA, y2, comp, y3⟩, y1⟩
        generalize hN : z.toInt.toNat = N at *
        generalize hM0 : zm.toInt.toNat = M0 at *
        have ec : A.1 + 1 + N - A.1 = 1 + N := by omega
        have es : A.2.1 + N + N * M0 - A.2.1 = N + N * M0 := by omega
        have hlen : ((A.2.2.1 ++ [(103, N, (List.range N).map (fun i => some (A.2.2.1.length + 1 + i)))]) ++ List.replicate N (100, M0, ([] : List (Option Nat)))).length = A.2.2.1.length + 1 + N := by simp; omega
        dsimp only at hcr kk
        rw [ec, es] at hcr kk
        rw [hlen] at kk
        refine va_mna (X := wsOf A.2.2.1.length g.1 g.2.2) (L := []) (f := fun _ => .inl (0, 0, .inl fun _ => 0)) (ty := .int) (z := (M0, .inl (fun _ => 0))) hx hb hown (hw _ List.mem_cons_self) hxt.2.2.1.2.1 (hwn (.arrayClass .int) (by simp [sWn])) y1 hK0 (by rw [show va_pl [] (fun _ => Sum.inl (0, 0, Sum.inl fun _ => 0)) = ([] : va_W) from rfl, List.append_nil]; exact hW.1) (by rw [show va_pl [] (fun _ => Sum.inl (0, 0, Sum.inl fun _ => 0)) = ([] : va_W) from rfl, List.append_nil]; exact hW.2.1) hV hB n1 m1 n2 m2 (by omega) (by show _ * 4 ≤ _; omega) (by omega) rfl rfl hcr.1 hcr.2 (fun c => arrV_new c M0 (defaultValue .int)) hd (fun q r cA H1 hr1 hr2 hK1 hP1 hD1 hV1 => ?_)
        have hpl : va_pl ([] ++ (List.range N).map r) (vr_up (fun _ => Sum.inl (0, 0, Sum.inl fun _ => 0)) ((List.range N).map r) (.inl (cy, (M0, .inl (fun _ => 0))))) = (List.range N).map (fun i => (r i, (.inl (cy, (M0, .inl (fun _ => 0))) : va_E))) := by
          rw [List.nil_append]
          unfold va_pl
          rw [List.map_map]
          apply List.map_congr_left
          intro i hi
          simp only [Function.comp]
          rw [vr_up_in (List.mem_map.mpr ⟨i, hi, rfl⟩)]
        rw [hpl, wsOf_push, wsOf_pushes] at hP1 hD1
        rw [show cells + (1 + N) = cells + 1 + N by omega, show slots + (N + N * M0) = slots + N + N * M0 by omega] at kk
        have had : ∀ k, k < A.2.2.1.length → (fun k => if k < A.2.2.1.length + 1 then va_up g.1 A.2.2.1.length q k else r (k - (A.2.2.1.length + 1))) k = g.1 k := fun k hk => by
          show (if k < A.2.2.1.length + 1 then va_up g.1 A.2.2.1.length q k else _) = _
          rw [if_pos (by omega), hup q k hk]
        refine kk _ _ (_, (g.2.1 ++ [(cy, .int)]) ++ [(cA, .array .int)], _) had (by omega) ⟨by rw [hlen]; exact hP1, by rw [hlen]; exact hD1, hK1, fun k c9 hk9 => ?_⟩ hV1 ⟨⟨by omega, ?_⟩, sS_ext (by omega) had hS1⟩
        · rw [hlen]
          by_cases e1 : k < A.2.2.1.length
          · rw [List.getElem?_append_left (by simp; omega), List.getElem?_append_left e1] at hk9
            show sC _ _ _ c9 (zer σ _ _ k) (if k < A.2.2.1.length + 1 then va_up g.2.2 A.2.2.1.length _ k else _)
            rw [if_pos (by omega), zer_lo (by omega)]
            rw [show ∀ E, va_up g.2.2 A.2.2.1.length E k = g.2.2 k from fun E => by simp [va_up, Nat.ne_of_lt e1]]
            exact sC_ext (hW.2.2.2 k c9 hk9) (by omega) had (fun x hx => List.mem_append_left _ (List.mem_append_left _ hx)) (fun _ => rfl)
          · by_cases e2 : k = A.2.2.1.length
            · subst e2
              rw [List.getElem?_append_left (by simp), List.getElem?_append_right (Nat.le_refl _), Nat.sub_self] at hk9
              cases hk9
              show sC _ _ _ _ _ (if A.2.2.1.length < A.2.2.1.length + 1 then va_up g.2.2 A.2.2.1.length _ A.2.2.1.length else _)
              rw [if_pos (by omega)]
              rw [show ∀ E, va_up g.2.2 A.2.2.1.length E A.2.2.1.length = E from fun E => by simp [va_up]]
              refine Or.inr (Or.inr (Or.inr (Or.inr (Or.inl ⟨rfl, cA, _, rfl, List.mem_append_right _ List.mem_cons_self, by simp, fun j9 r9 hr9 => ?_⟩))))
              have hj9 : j9 < N := by
                have := (List.getElem?_eq_some_iff.mp hr9).1
                simpa using this
              have hr9 : r9 = some (A.2.2.1.length + 1 + j9) := by
                simp [hj9] at hr9
                exact hr9.symm
              subst hr9
              refine ⟨?_, fun q9 hq9 => by cases hq9; omega⟩
              show (if j9 < N then some (r j9) else none) = some (if A.2.2.1.length + 1 + j9 < A.2.2.1.length + 1 then _ else r (A.2.2.1.length + 1 + j9 - (A.2.2.1.length + 1)))
              rw [if_pos hj9, if_neg (by omega), show A.2.2.1.length + 1 + j9 - (A.2.2.1.length + 1) = j9 by omega]
            · have hkl : k < A.2.2.1.length + 1 + N := by
                have := (List.getElem?_eq_some_iff.mp hk9).1
                rw [hlen] at this
                exact this
              rw [List.getElem?_append_right (by simp; omega)] at hk9
              have hc9 : c9 = (100, M0, []) := List.eq_of_mem_replicate (List.mem_of_getElem? hk9)
              subst hc9
              show sC _ _ _ _ _ (if k < A.2.2.1.length + 1 then va_up g.2.2 A.2.2.1.length _ k else _)
              rw [if_neg (by omega)]
              exact Or.inr (Or.inl ⟨rfl, cy, _, rfl, List.mem_append_left _ (List.mem_append_right _ List.mem_cons_self), fun j9 _ => (zer_in (by omega) (by omega)).symm⟩)
        · show Value.ref q = Value.ref (if A.2.2.1.length < A.2.2.1.length + 1 then va_up g.1 A.2.2.1.length q A.2.2.1.length else _)
          rw [if_pos (by omega), hself]
      next => cases h
    next => cases h
  · have hf3 : pf (j + 1) = pf j + 3 := hf
    rw [hf3] at kk
    have hx13 : x < 13 := of_decide_eq_true hc
    have ho := List.all_eq_true.mp ity_ok x (List.mem_range.mpr hx13)
    simp only [Bool.and_eq_true, decide_eq_true_eq] at ho
    obtain ⟨⟨⟨⟨⟨o1, o2⟩, o3⟩, o4⟩, o5⟩, o6⟩ := ho
    simp only [pm_g6, o2] at h
    cases h
    have ec : A.1 + 1 - A.1 = 1 := by omega
    have es : A.2.1 + (vwG x).2.2 - A.2.1 = (vwG x).2.2 := by omega
    have hlen : (A.2.2.1 ++ [(x, (vwG x).2.2, List.replicate (vwG x).2.2 (none : Option Nat))]).length = A.2.2.1.length + 1 := by simp
    dsimp only at hcr kk
    rw [ec, es] at hcr kk
    rw [hlen] at kk
    refine va_new (ci := x) (fs := (List.range (vwG x).2.2).map fun k => defaultValue (tyG x k)) (C := (vwG x).1) (T := (vwG x).2.1) (N := (vwG x).2.2) hx hb hts (uws_in hx13) (tyG x) (tyG_ok hx13) hown (hw _ List.mem_cons_self) (hts _ (sGd_mem ⟨o3, o4⟩)) (hts _ (sGd_mem ⟨o5, o6⟩)) hK hW.1 hW.2.1 hV hB (vw_get hx13) (fun j9 hj9 => by simp [vp_V, hj9]) hcr.1 hcr.2 hd (fun q H1 hP1 hD1 hV1 => ?_)
    refine kk _ _ _ (hup q) (Nat.le_succ _) (sW_push hW hK (fun _ h => h) hP1 hD1 rfl (fun k hk => zer_lo hk) (Or.inl ⟨hx13, rfl, List.length_replicate, _, rfl, by simp, fun j9 hj9 => ?_⟩)) hV1 ⟨⟨Nat.lt_succ_self _, congrArg Value.ref (hself q).symm⟩, sS_ext (Nat.le_succ _) (hup q) hS⟩
    have hj9 : j9 < (vwG x).2.2 := hj9
    unfold sF
    have hfs : ((List.range (vwG x).2.2).map fun k => defaultValue (tyG x k))[j9]? = some (defaultValue (tyG x j9)) := by simp [hj9]
    by_cases hrf : rfI x j9 = true
    · rw [if_pos hrf]
      refine ⟨none, by simp [hj9], ?_, fun q hq => by cases hq⟩
      rw [hfs]
      rcases rty_in hx13 hj9 hrf with ⟨C, q9⟩ | ⟨t, q9⟩ <;> rw [q9] <;> rfl
    · rw [if_neg hrf]
      have o7 := List.all_eq_true.mp o1 j9 (List.mem_range.mpr hj9)
      have hrf2 : rfI x j9 = false := by cases hz : rfI x j9 with
        | true => exact absurd hz hrf
        | false => rfl
      rw [hrf2, Bool.false_or] at o7
      refine ⟨0, ?_, (zer_in (Nat.le_refl _) (Nat.lt_succ_self _)).symm⟩
      rw [hfs]
      cases ht : tyG x j9 with
      | int => rfl
      | boolean => rfl
      | _ => rw [ht] at o7; cases o7
  · exfalso
    unfold pm_g6 at h
    split at h <;> first | omega | cases h
end
