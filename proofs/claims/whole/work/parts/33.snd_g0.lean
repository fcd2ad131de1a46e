/-! SOUNDNESS, 8: steps on locals and stack -/
/-- a frame of method M stands in the machine -/
def sX (B0 : Nat) (K adV : Nat → Nat) (Ls : Nat) (xs : Nat → Int32) (p : Program) (s : State) (m : MethodId) (args : Array Value) (meth : Method) (c : Code) (M : Nat) : Prop :=
  p.tables.exec = Jvm.exec ∧ c.code = (sMdG M).2.1 ∧ c.maxLocals = (sMdG M).2.2.1 ∧ meth.sig.returnType = (sMdG M).2.2.2.1 ∧ s.vm.findClass (sMdG M).1.cls = some m.cls ∧ (∀ w ∈ sGd, w.before args s = true) ∧ meth.locks = false ∧ c.exceptionTable.toList = tableOf (sMdG M).2.2.2.2 ∧ meth.name = (sMdG M).1.name ∧ xt B0 K adV Ls xs s
section
variable {p : Program} {l : Launch} {e : Env} {R : Room} {s : State} {m : MethodId} {args : Array Value} {below : List Frame} {meth : Method} {c : Code} {H : Heap} {locs : List Loc} {cells slots : Nat} {Q : State → Prop}
variable {B0 : Nat} {K adV : Nat → Nat} {Ls : Nat} {xs : Nat → Int32} {M j : Nat} {n : Nat} {ad : Nat → Nat} {pf : Nat → Nat}
theorem xF_val {x : Nat} (h : x < 4) : ((xF x : Fin 4) : Nat) = x := by
  show x % 4 = x
  omega
theorem snd_g0 {k : Nat} {a : Int} {x y : Nat} {ls st ls' st' : List pm_V} {L : Array Slot} {sM : List Value} (hX : sX B0 K adV Ls xs p s m args meth c M)
    (hok : okI (sMdG M) pf j (0, k, a, x, y)) (h : pm_g0 k a x ls st = some (ls', st')) (hL : sL n ad K ls L) (hS : sS n ad K st sM)
    (kk : ∀ L' sM', sL n ad K ls' L' → sS n ad K st' sM' → W p l e R s m args below meth c H locs cells slots Q (F0 m (pf (j + 1)) L' sM')) : W p l e R s m args below meth c H locs cells slots Q (F0 m (pf j) L sM) := by
  obtain ⟨hx, hb, hml, hr, hown, hts, -, -, -, hxt⟩ := hX
  obtain ⟨v, idx, hd, hf, hw, hc⟩ := hok
  have hf := hf rfl
  have hw : ∀ w ∈ wdI (sMdG M).1.cls (0, k, a, x, y) v idx, w.before args s = true := fun w h => hts w (sGd_mem (hw w h))
  rw [hf] at kk
  rcases (show k = 0 ∨ k = 1 ∨ k = 2 ∨ k = 3 ∨ k = 4 ∨ k = 5 ∨ k = 6 ∨ k = 7 ∨ k = 8 ∨ k = 9 ∨ k = 10 ∨ k = 11 ∨ k = 12 ∨ 13 ≤ k by omega) with rfl | rfl | rfl | rfl | rfl | rfl | rfl | rfl | rfl | rfl | rfl | rfl | rfl | hk
  · -- a constant
    cases h
    rcases v with _ | _ | _ | _ | v
    · exact lv_iconst hx hb hd rfl (kk _ _ hL ⟨⟨_, rfl, of_decide_eq_true hc⟩, hS⟩)
    · exact lv_bipush hx hb hd rfl (kk _ _ hL ⟨⟨_, rfl, of_decide_eq_true hc⟩, hS⟩)
    · exact lv_sipush hx hb hd rfl (kk _ _ hL ⟨⟨_, rfl, of_decide_eq_true hc⟩, hS⟩)
    · exact lv_ldc hx hb hown (hw _ List.mem_cons_self) hd (kk _ _ hL ⟨⟨_, rfl, of_decide_eq_true hc⟩, hS⟩)
    · exact lv_ldcw hx hb hown (hw (.constant (sMdG M).1.cls idx (Int32.ofInt a)) (by simp only [wdI]; rw [if_pos (by omega)]; exact List.mem_cons_self)) hd (kk _ _ hL ⟨⟨_, rfl, of_decide_eq_true hc⟩, hS⟩)
  · -- iload
    simp only [pm_g0] at h
    split at h
    next q hq =>
      cases h
      obtain ⟨w, ⟨z, rfl, hz⟩, hw2⟩ := hL.2.2 x _ hq (by intro h; cases h)
      rcases v with _ | v
      · exact lv_iload_n hx hb hd (xF_val (of_decide_eq_true hc)) hw2 (kk _ _ hL ⟨⟨_, rfl, hz⟩, hS⟩)
      · exact lv_iload hx hb hd hw2 (kk _ _ hL ⟨⟨_, rfl, hz⟩, hS⟩)
    next => cases h
  · -- istore
    simp only [pm_g0] at h
    split at h
    next q st2 =>
      split at h
      next hlt =>
        cases h
        obtain ⟨w, sM', rfl, ⟨z, rfl, hz⟩, hS'⟩ := sS_cons hS
        rcases v with _ | v
        · exact lv_istore_n hx hb hd (xF_val (of_decide_eq_true hc)) (sL_has hL) hlt rfl (fun L' h' => kk _ _ (sL_put1 hL hlt ⟨z, rfl, hz⟩ h') hS')
        · exact lv_istore hx hb hd (sL_has hL) hlt rfl (fun L' h' => kk _ _ (sL_put1 hL hlt ⟨z, rfl, hz⟩ h') hS')
      next => cases h
    next => cases h
  · -- aload
    simp only [pm_g0] at h
    split at h
    next o ho =>
      cases h
      obtain ⟨w, ⟨h1, rfl⟩, hw2⟩ := hL.2.2 x _ ho (by intro h; cases h)
      rcases v with _ | v
      · exact lv_aload_n hx hb hd (xF_val (of_decide_eq_true hc)) hw2 (kk _ _ hL ⟨⟨h1, rfl⟩, hS⟩)
      · exact lv_aload hx hb hd hw2 (kk _ _ hL ⟨⟨h1, rfl⟩, hS⟩)
    next i hi =>
      cases h
      obtain ⟨w, h1, hw2⟩ := hL.2.2 x _ hi (by intro h; cases h)
      have h1 : w = .ref (K i) := h1
      subst h1
      rcases v with _ | v
      · exact lv_aload_n hx hb hd (xF_val (of_decide_eq_true hc)) hw2 (kk _ _ hL ⟨rfl, hS⟩)
      · exact lv_aload hx hb hd hw2 (kk _ _ hL ⟨rfl, hS⟩)
    next => cases h
  · -- astore
    simp only [pm_g0] at h
    split at h
    next q st2 =>
      split at h
      next hlt =>
        cases h
        obtain ⟨w, sM', rfl, hv, hS'⟩ := sS_cons hS
        obtain ⟨a9, rfl⟩ : ∃ a9, w = .ref a9 := by
          rcases q with k9 | _ | i9
          · exact ⟨_, hv.2⟩
          · exact hv
          · exact ⟨_, hv⟩
        rcases v with _ | v
        · exact lv_astore_n hx hb hd (xF_val (of_decide_eq_true hc)) (sL_has hL) hlt rfl (fun L' h' => kk _ _ (sL_put1 hL hlt hv h') hS')
        · exact lv_astore hx hb hd (sL_has hL) hlt rfl (fun L' h' => kk _ _ (sL_put1 hL hlt hv h') hS')
      next => cases h
    next => cases h
  · -- lload
    simp only [pm_g0] at h
    split at h
    next q hq =>
      cases h
      obtain ⟨w, ⟨z, rfl, hz⟩, hw2⟩ := hL.2.2 x _ hq (by intro h; cases h)
      rcases v with _ | v
      · exact lv_lload_n hx hb hd (xF_val (of_decide_eq_true hc)) hw2 (kk _ _ hL ⟨⟨_, rfl, hz⟩, hS⟩)
      · exact lv_lload hx hb hd hw2 (kk _ _ hL ⟨⟨_, rfl, hz⟩, hS⟩)
    next => cases h
  · -- lstore
    simp only [pm_g0] at h
    split at h
    next q st2 =>
      split at h
      next hlt =>
        cases h
        obtain ⟨w, sM', rfl, ⟨z, rfl, hz⟩, hS'⟩ := sS_cons hS
        rcases v with _ | v
        · exact lv_lstore_n hx hb hd (xF_val (of_decide_eq_true hc)) (sL_has hL) hlt rfl (fun L' h' => kk _ _ (sL_put2 hL hlt ⟨z, rfl, hz⟩ h') hS')
        · exact lv_lstore hx hb hd (sL_has hL) hlt rfl (fun L' h' => kk _ _ (sL_put2 hL hlt ⟨z, rfl, hz⟩ h') hS')
      next => cases h
    next => cases h
  · -- iinc
    simp only [pm_g0] at h
    split at h
    next q hq =>
      cases h
      have hlt : x < ls.length := (List.getElem?_eq_some_iff.mp hq).1
      obtain ⟨w, ⟨z, rfl, hz⟩, hw2⟩ := hL.2.2 x _ hq (by intro h; cases h)
      obtain ⟨kx, hkx⟩ := List.getElem?_of_mem (sLv_mem.mpr hw2)
      refine lv_iinc hx hb hd (sL_has hL) hkx rfl hlt rfl (fun L' h' => kk _ _ ?_ hS)
      have hv : sV n ad K (vI (wr (q + a))) (.int (z + Int32.ofInt a)) := ⟨_, rfl, by rw [i32_add, hz, of_decide_eq_true hc]⟩
      have h2 := sL_put1 hL hlt hv h'
      have e : pm_set1 ls x (vI (wr (q + a))) = ls.set x (vI (wr (q + a))) := by
        cases x with
        | zero => rfl
        | succ z9 =>
          cases hz9 : ls[z9]? with
          | none => unfold pm_set1; dsimp only; rw [hz9]
          | some u =>
            rcases u with u | u | u
            · exact pm_set1_ok hz9 rfl
            · obtain ⟨w9, ⟨z8, rfl, -⟩, g2⟩ := hL.2.2 z9 _ hz9 (by intro h; cases h)
              have := hL.2.1.1 z9 _ g2 rfl
              rw [hw2] at this
              cases this
            · exact pm_set1_ok hz9 rfl
      rw [e] at h2
      exact h2
    next => cases h
  · -- dup
    simp only [pm_g0] at h
    split at h
    next q st2 =>
      split at h
      next hn =>
        cases h
        obtain ⟨w, sM', rfl, hv, hS'⟩ := sS_cons hS
        exact lv_dup hx hb hd (sV_cat hv hn) (kk _ _ hL ⟨hv, hv, hS'⟩)
      next => cases h
    next => cases h
  · -- dup2
    simp only [pm_g0] at h
    split at h
    next q1 q2 st2 =>
      split at h
      next hn =>
        cases h
        obtain ⟨w1, sM1, rfl, hv1, hS1⟩ := sS_cons hS
        obtain ⟨w2, sM2, rfl, hv2, hS2⟩ := sS_cons hS1
        have hn2 := (Bool.and_eq_true _ _).mp hn
        exact lv_dup2_11 hx hb hd (sV_cat hv1 hn2.1) (sV_cat hv2 hn2.2) (kk _ _ hL ⟨hv1, hv2, hv1, hv2, hS2⟩)
      next => cases h
    next => cases h
  · -- pop
    simp only [pm_g0] at h
    split at h
    next q st2 =>
      split at h
      next hn =>
        cases h
        obtain ⟨w, sM', rfl, hv, hS'⟩ := sS_cons hS
        exact lv_pop hx hb hd (sV_cat hv hn) (kk _ _ hL hS')
      next => cases h
    next => cases h
  · -- lconst
    cases h
    rcases v with _ | v
    · refine lv_lconst hx hb hd rfl (kk _ _ hL ⟨⟨_, rfl, ?_⟩, hS⟩)
      rcases of_decide_eq_true hc with h0 | h0
      · have h0 : a = 0 := h0
        subst h0; rfl
      · have h0 : a = 1 := h0
        subst h0; rfl
    · exact lv_ldc2 hx hb hown (hw (.constantLong (sMdG M).1.cls idx (Int64.ofInt a)) (by simp only [wdI]; rw [if_pos (by omega)]; exact List.mem_cons_self)) hd (kk _ _ hL ⟨⟨_, rfl, of_decide_eq_true hc⟩, hS⟩)
  · -- a text
    cases h
    have hc : ((pm_st[x]?).map fun q => (q.1, q.2.1)) = some ((sMdG M).1.cls, idx) := of_decide_eq_true hc
    obtain ⟨q, hq, he⟩ := Option.map_eq_some_iff.mp hc
    have hR := hxt.1.2 x q hq
    obtain ⟨e1, e2⟩ := Prod.mk.inj he
    rw [e1, e2] at hR
    exact va_ldcS hx hb hown hR hd (kk _ _ hL ⟨rfl, hS⟩)
  · exfalso
    unfold pm_g0 at h
    split at h <;> first | omega | cases h
end
