/-! SOUNDNESS, 19: the simulation -/
section
variable {p : Program} {l : Launch} {e : Env} {R : Room} {s : State} {m : MethodId} {args : Array Value} {below : List Frame} {meth : Method} {c : Code} {H : Heap} {locs : List Loc} {cells slots : Nat} {Q : State → Prop}
variable {B0 : Nat} {K adV : Nat → Nat} {Ls : Nat} {xs : Nat → Int32} {D : va_G} {M j : Nat} {A : pm_A} {σ : pm_S} {g : sG} {n : Nat}
theorem snd_ret (hlf : l.stackTraces = false) {k x y mc ms n0 : Nat} {a : Int} {st : List pm_V} {sM : List Value} {L : Array Slot} {r : pm_R} {ad0 : Nat → Nat} (hX : sX B0 K adV Ls xs p s m args meth c M) (hok : okI (sMdG M) (pfG M) j (9, k, a, x, y))
    (hRf : 6 ≤ R.frames) (hRl : 200 ≤ R.locals) (hsz : L.size = c.maxLocals) (h : pm_ret k x st A σ = some r) (h1 : cells + (r.2.1.1 - A.1) = mc) (h2 : slots + (r.2.1.2.1 - A.2.1) = ms) (h3 : mc ≤ R.cells) (h4 : ms ≤ R.slots) (hext : ∀ k, k < n0 → g.1 k = ad0 k)
    (hW : sW D B0 A σ g s H) (hV : va_S (fun q => B0 ≤ q) s.heap H locs) (hS : sS A.2.2.1.length g.1 K st sM) :
    W p l e R s m args below meth c H locs cells slots (vx_MQ below (sQc D B0 K n0 ad0 r) (sXc D B0 n0 ad0 r) args s mc ms (fun q => B0 ≤ q)) (F0 m (pfG M j) L sM) := by
  obtain ⟨hx, hb, hml, hr, hown, hts, hlocks, htab, hnm, hxt⟩ := hX
  obtain ⟨v, idx, hd, hf, hw, hc⟩ := hok
  have hw : ∀ w ∈ wdI (sMdG M).1.cls (9, k, a, x, y) v idx, w.before args s = true := fun w h => hts w (sGd_mem (hw w h))
  have sWt : ∀ t : State, t.heap = H → s.WarmedH t.vm → sW D B0 A σ g t t.heap := fun t ht hw9 => by rw [ht]; exact sW_moved hw9.alike hW
  rcases (show k = 0 ∨ k = 1 ∨ k = 2 ∨ k = 3 ∨ k = 4 ∨ 5 ≤ k by omega) with rfl | rfl | rfl | rfl | rfl | hk
  · simp only [pm_ret] at h
    split at h
    next q =>
      cases h
      obtain ⟨w0, sM0, rfl, ⟨z, rfl, rfl⟩, hS0⟩ := sS_cons hS
      cases sS_nil hS0
      have e1 : cells = mc := by dsimp only at h1; omega
      have e2 : slots = ms := by dsimp only at h2; omega
      subst e1
      subst e2
      rw [of_decide_eq_true hc] at hr
      exact vx_ret (W.iret hx hb hr (fun t ht hw9 => ⟨_, _, g, rfl, rfl, ⟨z, rfl, rfl⟩, hext, sWt t ht hw9, hV.F ht⟩) (fun q hq => hV.2.2 q hq) hd hlocks)
    next => cases h
  · simp only [pm_ret] at h
    split at h
    next q =>
      split at h
      next hz =>
        cases h
        obtain ⟨w0, sM0, rfl, ⟨z, rfl, rfl⟩, hS0⟩ := sS_cons hS
        cases sS_nil hS0
        have e1 : cells = mc := by dsimp only at h1; omega
        have e2 : slots = ms := by dsimp only at h2; omega
        subst e1
        subst e2
        rw [of_decide_eq_true hc] at hr
        have hz1 : z = 0 ∨ z = 1 := hz.imp (fun q => i32_eq.mpr q) (fun q => i32_eq.mpr q)
        exact vx_ret (W.zret hx hb hr (by rcases hz1 with rfl | rfl <;> rfl) (fun t ht hw9 => ⟨_, _, g, rfl, rfl, ⟨z, rfl, rfl⟩, hext, sWt t ht hw9, hV.F ht⟩) (fun q hq => hV.2.2 q hq) hd hlocks)
      next => cases h
    next => cases h
  · simp only [pm_ret] at h
    split at h
    next q =>
      cases h
      obtain ⟨w0, sM0, rfl, ⟨z, rfl, rfl⟩, hS0⟩ := sS_cons hS
      cases sS_nil hS0
      have e1 : cells = mc := by dsimp only at h1; omega
      have e2 : slots = ms := by dsimp only at h2; omega
      subst e1
      subst e2
      rw [of_decide_eq_true hc] at hr
      exact vx_ret (W.lret hx hb hr (fun t ht hw9 => ⟨_, _, g, rfl, rfl, ⟨z, rfl, rfl⟩, hext, sWt t ht hw9, hV.F ht⟩) (fun q hq => hV.2.2 q hq) hd hlocks)
    next => cases h
  · simp only [pm_ret] at h
    split at h
    next =>
      cases h
      cases sS_nil hS
      have e1 : cells = mc := by dsimp only at h1; omega
      have e2 : slots = ms := by dsimp only at h2; omega
      subst e1
      subst e2
      rw [of_decide_eq_true hc] at hr
      exact vx_ret (W.vret hx hb hr (fun t ht hw9 => ⟨none, none, g, rfl, rfl, trivial, hext, sWt t ht hw9, hV.F ht⟩) (fun q hq => hV.2.2 q hq) hd hlocks)
    next => cases h
  · simp only [pm_ret] at h
    split at h
    next hcat =>
      cases h
      simp only [cdI, Bool.and_eq_true, decide_eq_true_eq] at hc
      obtain ⟨⟨⟨⟨⟨⟨⟨⟨q1, q2⟩, q3⟩, q4⟩, q5⟩, q6⟩, q7⟩, q8⟩, q9⟩ := hc
      obtain ⟨z, hz, hz2⟩ := List.any_eq_true.mp q5
      obtain ⟨i, hi⟩ := List.getElem?_of_mem hz
      have hR := hxt.1.2 i z hi
      obtain ⟨z1, z2⟩ := of_decide_eq_true hz2
      rw [z1, z2] at hR
      rw [q1] at hown
      have hw1 := hw (.classLink (sMdG M).1.cls idx (xnE x)) List.mem_cons_self
      rw [q1] at hw1
      have hcast : ∀ e9, (e9 = 1 ∨ e9 = 2) → va_Nw (.castable (xnE e9) (xnE e9)) s := by
        rintro e9 (rfl | rfl)
        · exact hxt.2.2.2.1.2.2.1
        · exact hxt.2.2.2.1.2.2.2.1
      have hat : ∀ w ∈ (atX RX11 (v % 1000) x).filter vx_no, w.before args s = true ∧ vx_ot w = true := by
        intro w hw9
        have h9 := List.all_eq_true.mp q6 w hw9
        simp only [Bool.or_eq_true, Bool.and_eq_true, decide_eq_true_eq] at h9
        rcases h9 with (⟨g1, g2⟩ | ⟨g1, g2⟩) | ⟨g1, g2⟩
        · exact ⟨hts w (sGd_mem ⟨g2, g1⟩), by simp [vx_ot, g1]⟩
        · rw [g1]
          exact ⟨va_Nw.use rfl (hcast x q3), rfl⟩
        · exact ⟨va_Nw.use g2 (hxt.2.2.2.1.2.2.2.2 w g1), by simp [vx_ot, g2]⟩
      refine throwX (own := RX11) (e9 := x) (ik := idx) (is := v / 1000) (ic := v % 1000) (text := z.2.2) (sa := K i) hx hb hlf hown hw1 (hts _ (sGd_mem ⟨q7, q8⟩)) hR (fun w hw9 => (hat w hw9).1) (fun w hw9 => ?_) hxt.2.1.1 hxt.2.1.2.1 hV hsz hd q4 ?_ (fun z9 hz9 => ?_) hRf ?_ ?_ ?_ hlocks (fun t hal ht1 ht2 => ?_) (fun q hq => hV.2.2 q hq) ?_ ?_
      · rcases List.mem_cons.mp hw9 with rfl | hw9
        · rfl
        · rcases List.mem_cons.mp hw9 with rfl | hw9
          · simp [vx_ot, q8]
          · exact (hat w hw9).2
      · by_cases h256 : v / 1000 < 256
        · rw [if_pos h256] at q9
          simp only [Bool.and_eq_true, decide_eq_true_eq] at q9
          exact Or.inl ⟨q9.1.1, q9.1.2, q9.2⟩
        · rw [if_neg h256] at q9
          simp only [Bool.and_eq_true, decide_eq_true_eq] at q9
          exact Or.inr ⟨q9.1.1, q9.1.2, q9.2⟩
      · rw [htab, q2] at hz9
        cases hz9
      · rw [sS_cat hS]; omega
      · dsimp only at h1; omega
      · dsimp only at h2; omega
      · refine ⟨x, g, rfl, q3, rfl, hext, ?_, Nat.le_trans hV.1 ht1, fun q g1 g2 => (ht2 q (Nat.lt_of_lt_of_le g1 hV.1)).trans (hV.2.1 q g1 g2)⟩
        exact sW_moved hal (sW_kept hW ht2)
      · dsimp only at h1; omega
      · dsimp only at h2; omega
    next => cases h
  · exfalso
    unfold pm_ret at h
    split at h <;> first | omega | cases h
theorem snd_sim (hlf : l.stackTraces = false) (hall : ∀ M, M < 310 → okM M) (hmk : ∀ M, M < 310 → mCk M = true) : ∀ n, SIM l D B0 K adV Ls xs n
  | 0 => fun _ _ _ _ _ _ _ _ _ _ _ _ _ _ _ _ _ _ _ _ _ _ _ _ _ _ _ _ _ h => by cases h
  | n + 1 => by
    have IH := snd_sim hlf hall hmk n
    intro p e R s m args below meth c M d j ls st A σ r g H locs cells slots mc ms n0 ad0 L sM hM h hX hA4 hRf hRl hlen h1 h2 h3 h4 hn0 hext hW hV hL hS
    have hgr := pm_grow pP _ _ _ _ _ _ _ _ _ h
    have hsz : L.size = c.maxLocals := hL.1.trans (hlen.trans hX.2.2.1.symm)
    generalize hC : (pm_mt.getD M ([], 0)).1 = C at h
    cases hdj : C.drop j with
    | nil => rw [hdj] at h; cases h
    | cons i rr =>
      have hji : C[j]? = some i := by
        have : (C.drop j)[0]? = some i := by rw [hdj]; rfl
        rw [List.getElem?_drop] at this
        simpa using this
      have hrr : rr = C.drop (j + 1) := by
        rw [← List.tail_drop, hdj]; rfl
      rw [hdj, pm_x_cons] at h
      have hok := hall M hM j i (by rw [hC]; exact hji)
      obtain ⟨gg, k, a, x, y⟩ := i
      rcases hok with hdead | hok
      · exfalso
        have hd2 : gg = 9 ∧ k = 9 := by simpa [deadI] using hdead
        obtain ⟨rfl, rfl⟩ := hd2
        cases h
      unfold pm_one at h
      by_cases g3 : gg = 3
      · subst g3
        rw [if_pos rfl] at h
        obtain ⟨⟨t, st'⟩, e1, e2⟩ := Option.bind_eq_some_iff.mp h
        refine snd_g3 hX hok e1 hS (fun sM' hS' => ?_)
        cases t with
        | none =>
          dsimp only at e2
          rw [hrr] at e2
          subst hC
          exact IH p e R s m args below meth c M d (j + 1) ls st' A σ r g H locs cells slots mc ms n0 ad0 L sM' hM e2 hX hA4 hRf hRl hlen h1 h2 h3 h4 hn0 hext hW hV hL hS'
        | some t =>
          dsimp only at e2
          subst hC
          exact IH p e R s m args below meth c M d t ls st' A σ r g H locs cells slots mc ms n0 ad0 L sM' hM e2 hX hA4 hRf hRl hlen h1 h2 h3 h4 hn0 hext hW hV hL hS'
      rw [if_neg g3] at h
      by_cases g8 : gg = 8
      · subst g8
        rw [if_pos rfl] at h
        split at h
        next hcnd =>
          obtain ⟨q, e1, e2⟩ := Option.bind_eq_some_iff.mp h
          unfold pm_cal at e1
          cases d with
          | zero => cases e1
          | succ d =>
            dsimp only at e1
            split at e1
            next cx hcx =>
              split at e1
              next hlx =>
                have hx310 : x < 310 := by
                  have := (List.getElem?_eq_some_iff.mp hcx).1
                  rw [show pP.1.length = 310 from mt_len] at this
                  exact this
                have hcx2 : pm_mt.getD x ([], 0) = cx := by
                  rw [List.getD_eq_getElem?_getD, show pm_mt[x]? = some cx from hcx]; rfl
                have hg1 := pm_grow pP _ _ _ _ _ _ _ _ _ e1
                rw [← hcx2] at e1 hlx
                have hg2 : pm_lt q.2.1 r.2.1 := by
                  unfold pm_aft at e2
                  split at e2
                  · exact pm_grow pP _ _ _ _ _ _ _ _ _ e2
                  · split at e2
                    · split at e2
                      · cases e2; exact pm_lt.rf _
                      · split at e2
                        · exact pm_grow pP _ _ _ _ _ _ _ _ _ e2
                        · cases e2
                    · cases e2
                have hk0 : k ≠ 0 → ∃ ov, q.1 = .inl ov := fun hk => by
                  unfold pm_aft at e2
                  split at e2
                  next v9 hv9 => exact ⟨_, hv9⟩
                  next => rw [if_neg hk] at e2; cases e2
                have hpf : pfG M (j + 1) = pfG M j + 3 := by
                  obtain ⟨v, idx, -, hf, -, -⟩ := hok
                  have hf := hf rfl
                  rw [hf]
                  rcases (show k = 0 ∨ k = 1 ∨ k = 2 ∨ k = 3 ∨ k = 4 ∨ 5 ≤ k by omega) with rfl | rfl | rfl | rfl | rfl | hk5
                  · rfl
                  · rfl
                  · rfl
                  · rfl
                  · rfl
                  · obtain ⟨k, rfl⟩ : ∃ z, k = z + 5 := ⟨k - 5, by omega⟩
                    rfl
                have q1 := hg1.1
                have q2 := hg1.2.1
                have q3 := hg2.1
                have q4 := hg2.2.1
                refine sCall (sRun IH hmk hX hok hA4 hRf hRl hsz hcnd.1 hcnd.2.1 hcnd.2.2 e1 hlx hk0 hW hV hS ⟨by omega, by omega⟩) hV ?_ ?_
                · intro ov v g' H1 locs1 hq hov hext' hW' hV'
                  have e3 : pm_x pP n (d + 1) C (C.drop (j + 1)) ls (ov.toList ++ st.drop y) q.2.1 q.2.2 = some r := by
                    rw [← hrr]
                    unfold pm_aft at e2
                    rw [hq] at e2
                    exact e2
                  have hS' : sS q.2.1.2.2.1.length g'.1 K (ov.toList ++ st.drop y) (v.toList ++ sM.drop y) := by
                    refine sS_app ?_ (sS_ext hg1.2.2.1 hext' (sS_split y hS).2)
                    cases ov with
                    | none => cases v with
                      | none => exact trivial
                      | some w => exact hov.elim
                    | some u => cases v with
                      | none => exact hov.elim
                      | some w => exact ⟨hov, trivial⟩
                  subst hC
                  rw [← hpf]
                  exact IH p e R s m args below meth c M (d + 1) (j + 1) ls (ov.toList ++ st.drop y) q.2.1 q.2.2 r g' H1 locs1 (cells + (q.2.1.1 - A.1)) (slots + (q.2.1.2.1 - A.2.1)) mc ms n0 ad0 L (v.toList ++ sM.drop y) hM e3 hX (hg1.2.2.2.trans hA4) hRf hRl hlen (by omega) (by omega) h3 h4 (Nat.le_trans hn0 hg1.2.2.1) (fun z hz => (hext' z (Nat.lt_of_lt_of_le hz hn0)).trans (hext z hz)) hW' hV' (sL_ext hL hg1.2.2.1 hext') hS'
                · intro e9 g' H1 locs1 qq ce hq he9 hext' hW' hV' hce hcv hcl
                  have hk : k = 0 := by
                    by_cases hk : k = 0
                    · exact hk
                    · obtain ⟨ov, hov⟩ := hk0 hk
                      rw [hov] at hq
                      cases hq
                  subst hk
                  unfold pm_aft at e2
                  rw [hq] at e2
                  dsimp only at e2
                  rw [if_pos rfl] at e2
                  obtain ⟨hx, hb, hml, hr, hown, hts, hlocks, htab, hnm, hxt⟩ := id hX
                  obtain ⟨v, idx, hd, hf, hw, hc⟩ := hok
                  simp only [cdI, Bool.and_eq_true, decide_eq_true_eq] at hc
                  obtain ⟨-, -, hdk⟩ := hc
                  unfold hdOk at hdk
                  by_cases hz : a.toNat / 100 = 0
                  · rw [if_pos hz] at e2 hdk
                    cases e2
                    have hemp : (sMdG M).2.2.2.2 = [] := of_decide_eq_true hdk
                    refine vx_out (E := xnE e9) (fun z9 hz9 => ?_) hlocks hce hcv hcl (fun t ht hal => ?_) (fun q9 hq9 => hV'.2.2 q9 hq9) (by omega) (by omega)
                    · rw [htab, hemp] at hz9
                      cases hz9
                    · exact ⟨e9, g', hq, he9, rfl, fun z hz9 => (hext' z (Nat.lt_of_lt_of_le hz9 hn0)).trans (hext z hz9), by rw [ht]; exact sW_moved hal hW', hV'.F ht⟩
                  · rw [if_neg hz] at e2 hdk
                    split at e2
                    next t ht =>
                      simp only [Bool.and_eq_true, decide_eq_true_eq] at hdk
                      obtain ⟨pre, row, suf, r1, r2, r3⟩ := hd_split e9 t _ _ _ hdk.1 hdk.2 ht
                      simp only [Bool.and_eq_true, decide_eq_true_eq] at r2
                      obtain ⟨⟨⟨r21, r22, r23, r24, r25⟩, r26⟩, r27⟩ := r2
                      refine vx_catch (own := (sMdG M).1.cls) (name := xnE e9) (E := xnE e9) hown (tableOf pre) ⟨row.1, row.2.1, row.2.2.1, row.2.2.2⟩ (tableOf suf) (by rw [htab, r1]; simp [tableOf]) (fun z9 hz9 => ?_) ?_ r24 (hts _ (sGd_mem ⟨r26, r27⟩)) ?_ hce hcv hcl ?_
                      · unfold tableOf at hz9
                        obtain ⟨z8, hz8, rfl⟩ := List.mem_map.mp hz9
                        obtain ⟨c9, u9, c91, c92⟩ := r3 z8 hz8
                        simp only [Bool.and_eq_true, decide_eq_true_eq] at c92
                        obtain ⟨⟨⟨-, -, -, c93, c94⟩, c95⟩, c96⟩ := c92
                        refine Or.inr ⟨c93, xnE c9, hts _ (sGd_mem ⟨c95, c96⟩), ?_⟩
                        rcases he9 with rfl | rfl <;> rcases c94 with rfl | rfl
                        · exact absurd rfl c91
                        · exact hxt.2.2.2.1.2.1
                        · exact hxt.2.2.2.1.1
                        · exact absurd rfl c91
                      · simp [covers, r21, r22]
                      · rcases he9 with rfl | rfl
                        · exact va_Nw.use rfl hxt.2.2.2.1.2.2.1
                        · exact va_Nw.use rfl hxt.2.2.2.1.2.2.2.1
                      · show W p l e R s m args below meth c H1 locs1 _ _ _ (F0 m row.2.2.1 L [.ref qq])
                        rw [← r23]
                        subst hC
                        exact IH p e R s m args below meth c M (d + 1) t ls [vO] q.2.1 q.2.2 r g' H1 locs1 (cells + (q.2.1.1 - A.1)) (slots + (q.2.1.2.1 - A.2.1)) mc ms n0 ad0 L [.ref qq] hM e2 hX (hg1.2.2.2.trans hA4) hRf hRl hlen (by omega) (by omega) h3 h4 (Nat.le_trans hn0 hg1.2.2.1) (fun z hz9 => (hext' z (Nat.lt_of_lt_of_le hz9 hn0)).trans (hext z hz9)) hW' hV' (sL_ext hL hg1.2.2.1 hext') ⟨⟨qq, rfl⟩, trivial⟩
                    next => cases e2
              next => cases e1
            next => cases e1
        next => cases h
      rw [if_neg g8] at h
      by_cases g9 : gg = 9
      · subst g9
        rw [if_pos rfl] at h
        exact snd_ret hlf hX hok (by omega) (by omega) hsz h h1 h2 h3 h4 hext hW hV hS
      rw [if_neg g9] at h
      split at h
      next => cases h
      next hneed =>
        obtain ⟨q, e1, e2⟩ := Option.bind_eq_some_iff.mp h
        have hnd : pm_need (gg, k, a, x, y) = true → (sM.map fun v => v.category).sum ≤ 9 := fun hn => by
          rw [sS_cat hS]
          rw [hn, Bool.true_and, decide_eq_true_eq] at hneed
          omega
        obtain ⟨hs1, hs2⟩ := pm_stp_lt e1
        have hg2 := pm_grow pP _ _ _ _ _ _ _ _ _ e2
        have q1 := hs1.1
        have q2 := hs1.2.1
        have q3 := hg2.1
        have q4 := hg2.2.1
        obtain ⟨ls', st', A', σ'⟩ := q
        dsimp only at e2 hs1 hs2 hg2 q1 q2 q3 q4
        rw [hrr] at e2
        subst hC
        have go : ∀ (g' : sG) (H' : Heap) (locs' : List Loc) (L' : Array Slot) (sM' : List Value), (∀ k, k < A.2.2.1.length → g'.1 k = g.1 k) → sW D B0 A' σ' g' s H' → va_S (fun q => B0 ≤ q) s.heap H' locs' → sL A'.2.2.1.length g'.1 K ls' L' → sS A'.2.2.1.length g'.1 K st' sM' →
            W p l e R s m args below meth c H' locs' (cells + (A'.1 - A.1)) (slots + (A'.2.1 - A.2.1)) (vx_MQ below (sQc D B0 K n0 ad0 r) (sXc D B0 n0 ad0 r) args s mc ms (fun q => B0 ≤ q)) (F0 m (pfG M (j + 1)) L' sM') :=
          fun g' H' locs' L' sM' hx' hW' hV' hL' hS' => IH p e R s m args below meth c M d (j + 1) ls' st' A' σ' r g' H' locs' (cells + (A'.1 - A.1)) (slots + (A'.2.1 - A.2.1)) mc ms n0 ad0 L' sM' hM e2 hX (hs1.2.2.2.trans hA4) hRf hRl (hs2.trans hlen) (by omega) (by omega) h3 h4 (Nat.le_trans hn0 hs1.2.2.1) (fun z hz => (hx' z (Nat.lt_of_lt_of_le hz hn0)).trans (hext z hz)) hW' hV' hL' hS'
        have c0 : A' = A → cells + (A'.1 - A.1) = cells ∧ slots + (A'.2.1 - A.2.1) = slots := fun e9 => by subst e9; omega
        rcases (show gg = 0 ∨ gg = 1 ∨ gg = 2 ∨ gg = 4 ∨ gg = 5 ∨ gg = 6 ∨ gg = 7 ∨ 10 ≤ gg by omega) with rfl | rfl | rfl | rfl | rfl | rfl | rfl | hgg
        · obtain ⟨w, f1, f2⟩ := Option.map_eq_some_iff.mp (show (pm_g0 k a x ls st).map (fun r => (r.1, r.2, A, σ)) = some (ls', st', A', σ') from e1)
          cases f2
          obtain ⟨z1, z2⟩ := c0 rfl
          rw [z1, z2] at go
          exact snd_g0 hX hok f1 hL hS (fun L' sM' hL' hS' => go g H locs L' sM' (fun _ _ => rfl) hW hV hL' hS')
        · by_cases k5 : k = 5
          · subst k5
            simp only [pm_stp] at e1
            split at e1
            next =>
              cases e1
              obtain ⟨z1, z2⟩ := c0 rfl
              rw [z1, z2] at go
              exact snd_g1u (ls := ls) hX hok (Or.inl ⟨rfl, rfl⟩) hS (fun sM' hS' => go g H locs L sM' (fun _ _ => rfl) hW hV hL hS')
            next => cases e1
          · by_cases k12 : k = 12
            · subst k12
              simp only [pm_stp] at e1
              split at e1
              next =>
                cases e1
                obtain ⟨z1, z2⟩ := c0 rfl
                rw [z1, z2] at go
                exact snd_g1u (ls := ls) hX hok (Or.inr ⟨rfl, rfl⟩) hS (fun sM' hS' => go g H locs L sM' (fun _ _ => rfl) hW hV hL hS')
              next => cases e1
            · simp only [pm_stp] at e1
              split at e1
              next =>
                obtain ⟨w, f1, f2⟩ := Option.map_eq_some_iff.mp e1
                cases f2
                obtain ⟨z1, z2⟩ := c0 rfl
                rw [z1, z2] at go
                refine snd_g1 (st' := []) hX ⟨by omega, by omega⟩ ⟨by omega, by omega⟩ hok f1 hsz hL hS (fun hk => ?_) (fun sM' hS' => go g H locs L sM' (fun _ _ => rfl) hW hV hL hS')
                have := hnd (by rcases hk with rfl | rfl <;> rfl)
                omega
              next => cases e1
        · simp only [pm_stp] at e1
          split at e1
          next =>
            obtain ⟨w, f1, f2⟩ := Option.map_eq_some_iff.mp e1
            cases f2
            obtain ⟨z1, z2⟩ := c0 rfl
            rw [z1, z2] at go
            refine snd_g2 (ls := ls) (st' := []) hX ⟨by omega, by omega⟩ ⟨by omega, by omega⟩ hok f1 hsz hS (fun hk => ?_) (fun sM' hS' => go g H locs L sM' (fun _ _ => rfl) hW hV hL hS')
            have := hnd (by subst hk; rfl)
            omega
          next => cases e1
        · obtain ⟨w, f1, f2⟩ := Option.map_eq_some_iff.mp (show (pm_g4 k x y st A σ).map (fun r => (ls, r)) = some (ls', st', A', σ') from e1)
          cases f2
          obtain ⟨⟨z3, z4, -, -⟩, z5⟩ := pm_g4_lt f1
          have zz : A'.1 = A.1 ∧ A'.2.1 = A.2.1 := pm_g4_al f1
          rw [zz.1, zz.2, Nat.sub_self, Nat.sub_self] at go
          refine snd_g4 hX hok f1 hW hV hS (fun H' locs' sM' g' hg' hW' hV' hS' => ?_)
          refine go g' H' locs' L sM' (fun k _ => by rw [hg']) hW' hV' ?_ ?_
          · rw [z5, hg']; exact hL
          · rw [z5, hg']; exact hS'
        · obtain ⟨w, f1, f2⟩ := Option.map_eq_some_iff.mp (show (pm_g5 k st A σ).map (fun r => (ls, r)) = some (ls', st', A', σ') from e1)
          cases f2
          obtain ⟨⟨z3, z4, -, -⟩, z5⟩ := pm_g5_lt f1
          have zz : A'.1 = A.1 ∧ A'.2.1 = A.2.1 := pm_g5_al f1
          rw [zz.1, zz.2, Nat.sub_self, Nat.sub_self] at go
          refine snd_g5 hX ⟨by omega, by omega⟩ hsz hA4 (fun hk => by have := hnd (by subst hk; rfl); omega) hok f1 hW hV hS (fun H' locs' sM' g' hg' hW' hV' hS' => ?_)
          refine go g' H' locs' L sM' (fun k _ => by rw [hg']) hW' hV' ?_ ?_
          · rw [z5, hg']; exact hL
          · rw [z5, hg']; exact hS'
        · obtain ⟨w, f1, f2⟩ := Option.map_eq_some_iff.mp (show (pm_g6 k x st A σ).map (fun r => (ls, r)) = some (ls', st', A', σ') from e1)
          cases f2
          refine snd_g6 hX hok f1 ⟨by omega, by omega⟩ hW hV hS (fun H' sM' g' hg' hle hW' hV' hS' => ?_)
          exact go g' H' locs L sM' hg' hW' hV' (sL_ext hL hle hg') hS'
        · obtain ⟨w, f1, f2⟩ := Option.map_eq_some_iff.mp (show (pm_g7 pm_tx k st).map (fun r => (ls, r, A, σ)) = some (ls', st', A', σ') from e1)
          cases f2
          obtain ⟨z1, z2⟩ := c0 rfl
          rw [z1, z2] at go
          exact snd_g7 hX ⟨by omega, by omega⟩ hsz ⟨by omega, by omega⟩ (hnd rfl) hok f1 hW hV hS (fun H' locs' sM' hW' hV' hS' => go g H' locs' L sM' (fun _ _ => rfl) hW' hV' hL hS')
        · exfalso
          simp only [pm_stp] at e1
          split at e1 <;> first | omega | cases e1
end
