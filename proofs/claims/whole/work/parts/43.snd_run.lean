/-! SOUNDNESS, 18: a call runs -/
section
variable {p : Program} {l : Launch} {e : Env} {R : Room} {s : State} {m : MethodId} {args : Array Value} {below : List Frame} {meth : Method} {c : Code} {H : Heap} {locs : List Loc} {cells slots : Nat} {Q : State → Prop}
variable {B0 : Nat} {K adV : Nat → Nat} {Ls : Nat} {xs : Nat → Int32} {D : va_G} {M j : Nat} {A : pm_A} {σ : pm_S} {g : sG} {n : Nat}
theorem sWm_good {x : Nat} (hck : mCk x = true) (h : ∃ w, w ∈ mWd x ∧ (sWm x).head? = some w) : GoodIn sGd (sWm x) := sGd_good (fun w hw => by
  obtain ⟨k1, -⟩ := mCk_use hck
  obtain ⟨w0, h0, h1⟩ := h
  unfold sWm at hw h1
  rcases List.mem_cons.mp hw with rfl | hw
  · cases h1
    exact k1 _ h0
  · exact hw) (fun _ h => h)
theorem mW0 {x : Nat} (h : pm_km.getD x 9 = 0) : mWd x = [.code (sMdG x).1 (sMdG x).2.1 (sMdG x).2.2.1 (sMdG x).2.2.2.1, .instanceMethod (sMdG x).1, .selects (sMdG x).1.cls (sMdG x).1 (sMdG x).1, .initialized (sMdG x).1.cls] := by unfold mWd; rw [h]; rfl
theorem mW1 {x : Nat} (h : pm_km.getD x 9 = 1) : mWd x = [.code (sMdG x).1 (sMdG x).2.1 (sMdG x).2.2.1 (sMdG x).2.2.2.1, .static (sMdG x).1, .initialized (sMdG x).1.cls] := by unfold mWd; rw [h]; rfl
theorem mW2 {x : Nat} (h : pm_km.getD x 9 = 2) : mWd x = [.code (sMdG x).1 (sMdG x).2.1 (sMdG x).2.2.1 (sMdG x).2.2.2.1, .instanceMethod (sMdG x).1, .initialized (sMdG x).1.cls] := by unfold mWd; rw [h]; rfl
theorem mW5 {x : Nat} (h : pm_km.getD x 9 = 5) : mWd x = [.codeWith (sMdG x).1 (sMdG x).2.1 (sMdG x).2.2.1 (sMdG x).2.2.2.1 (sMdG x).2.2.2.2, .static (sMdG x).1, .initialized (sMdG x).1.cls] := by unfold mWd; rw [h]; rfl
theorem pmD_map {y : MethodName} {k n : Nat} (h : (pmD y).map (· + 1) = some k) (hn : n + 1 = k) : pmD y = some n := by
  cases hp : pmD y with
  | none => rw [hp] at h; cases h
  | some z =>
    rw [hp] at h
    have : z + 1 = k := Option.some.inj h
    congr 1
    omega
theorem sRun (hSim : SIM l D B0 K adV Ls xs n) (hmk : ∀ M, M < 310 → mCk M = true) {k x y d : Nat} {a : Int} {st : List pm_V} {sM : List Value} {L : Array Slot} {r : pm_R} (hX : sX B0 K adV Ls xs p s m args meth c M) (hok : okI (sMdG M) (pfG M) j (8, k, a, x, y))
    (hA4 : A.2.2.2 = (Ls, fun i => (xs i).toInt)) (hRf : d + 1 + 6 ≤ R.frames) (hRl : 80 * (d + 1) + 200 ≤ R.locals) (hsz : L.size = c.maxLocals) (hy : y ≤ st.length) (hcat : pm_cat (st.drop y) ≤ 8) (hrcv : pm_rcv k a (st.take y).reverse A = true)
    (h : pm_x pP n d (pm_mt.getD x ([], 0)).1 (pm_mt.getD x ([], 0)).1 (pm_in (pm_mt.getD x ([], 0)).2 (st.take y).reverse) [] A σ = some r) (hl : (pm_in (pm_mt.getD x ([], 0)).2 (st.take y).reverse).length = (pm_mt.getD x ([], 0)).2) (hk0 : k ≠ 0 → ∃ ov, r.1 = .inl ov)
    (hW : sW D B0 A σ g s H) (hV : va_S (fun q => B0 ≤ q) s.heap H locs) (hS : sS A.2.2.1.length g.1 K st sM) (hcr : cells + (r.2.1.1 - A.1) ≤ R.cells ∧ slots + (r.2.1.2.1 - A.2.1) ≤ R.slots) :
    vx_Run p l e R s m args below meth c H locs cells slots (r.2.1.1 - A.1) (r.2.1.2.1 - A.2.1) (F0 m (pfG M j) L sM) (sM.drop y) (sQc D B0 K A.2.2.1.length g.1 r (sM.take y).reverse.toArray) (sXc D B0 A.2.2.1.length g.1 r) (fun q => B0 ≤ q) := by
  obtain ⟨hx, hb, hml, hr, hown, hts, -, -, hnm, hxt⟩ := hX
  obtain ⟨v, idx, hd, hf, hw, hc⟩ := hok
  have hw : ∀ w ∈ wdI (sMdG M).1.cls (8, k, a, x, y) v idx, w.before args s = true := fun w h => hts w (sGd_mem (hw w h))
  have hcc : kmOk k (pm_km.getD x 9) = true ∧ x < 310 := by
    have h9 := hc
    simp only [cdI, Bool.and_eq_true, decide_eq_true_eq, md_len] at h9
    exact ⟨h9.1.1, h9.1.2⟩
  obtain ⟨hkm, hx310⟩ := hcc
  have hck := hmk x hx310
  obtain ⟨c1, c2, c3, c4, c5, c6, c7⟩ := mCk_use hck
  obtain ⟨hS1, hS2⟩ := sS_split y hS
  have hSa := sS_rev hS1
  have hM := sMet hSim (av := (sM.take y).reverse) hx310 hck h hl hA4 hSa
  have hlen : sM.length = st.length := sS_len hS
  have hrest : 2 * (F0 m (pfG M j) L sM).monitorRoom + ((sM.drop y).map fun v => v.category).sum ≤ 8 := by
    rw [sS_cat hS2]
    show 2 * 0 + _ ≤ 8
    omega
  have hstk : sM = (sM.take y).reverse.reverse ++ sM.drop y := by rw [List.reverse_reverse, List.take_append_drop]
  have hlen2 : (sM.take y).reverse.length = y := by rw [List.length_reverse, List.length_take]; omega
  have hRR : (rmD d (r.2.1.1 - A.1) (r.2.1.2.1 - A.2.1)).frames + 1 ≤ R.frames ∧ 8 + ((sMdG x).2.2.1 + 11) + (rmD d (r.2.1.1 - A.1) (r.2.1.2.1 - A.2.1)).locals ≤ R.locals := by
    dsimp only [rmD]
    omega
  have hFix : CallFix p m c (sMdG M).2.1 (sMdG M).2.2.1 s args sGd (sMdG M).1.cls := ⟨hx, hb, hml, hown, hts⟩
  have hszL : (F0 m (pfG M j) L sM).locals.size = (sMdG M).2.2.1 := hsz.trans hml
  have hXf : k ≠ 0 → ∀ E st t, ¬ sXc D B0 A.2.2.1.length g.1 r E st t := fun hk E st9 t9 ⟨z, g9, hz, _⟩ => by
    obtain ⟨ov, hov⟩ := hk0 hk
    rw [hov] at hz
    cases hz
  rcases (show k = 0 ∨ k = 1 ∨ k = 2 ∨ k = 3 ∨ k = 4 ∨ 5 ≤ k by omega) with rfl | rfl | rfl | rfl | rfl | hk5
  · -- virtual
    have hkm : pm_km.getD x 9 = 0 := by simpa [kmOk] using hkm
    have hm := mW0 hkm
    have hwm : sWm x = Cond.code (sMdG x).1 (sMdG x).2.1 (sMdG x).2.2.1 (sMdG x).2.2.2.1 :: sGd := by unfold sWm; rw [if_neg (by rw [hkm]; decide)]
    have hG : GoodIn sGd (sWm x) := sWm_good hck ⟨_, by rw [hm]; exact List.mem_cons_self, by rw [hwm]; rfl⟩
    simp only [cdI, Bool.and_eq_true, decide_eq_true_eq] at hc
    obtain ⟨-, ⟨⟨hcls, hlt⟩, hpd⟩, -⟩ := hc
    cases hta : (st.take y).reverse with
    | nil => rw [hta] at hrcv; cases hrcv
    | cons v0 as' =>
      rw [hta] at hrcv hSa
      obtain ⟨w0, As, hav, hv0, hS'⟩ := sS_cons hSa
      rw [hav] at hM hstk hlen2 ⊢
      obtain ⟨o, rfl⟩ : ∃ o, v0 = vR o := by
        rcases v0 with z | z | o | z
        · cases hrcv
        · cases hrcv
        · exact ⟨o, rfl⟩
        · cases hrcv
      obtain ⟨ho, rfl⟩ := hv0
      have hkd : pm_kd A o = a.toNat % 100 := by simpa [pm_rcv] using hrcv
      have hpd' : pmD (sMdG x).1 = some As.length := pmD_map hpd (by simpa using hlen2)
      obtain ⟨c0, hc0⟩ : ∃ c0, A.2.2.1[o]? = some c0 := ⟨_, List.getElem?_eq_getElem ho⟩
      have hk0' : c0.1 = a.toNat % 100 := by
        unfold pm_kd at hkd
        rw [hc0] at hkd
        exact hkd
      have hc13 : c0.1 < 13 := by rw [hk0']; exact hlt
      obtain ⟨-, -, fs, f3, -⟩ := sC_obj (hW.2.2.2 o c0 hc0) hc13
      have hrecv := va_recv hW.2.2.1 hW.1 (vw_get hc13) (q0 := o) (a := g.1 o) (fs := fs) (by rw [wsOf_get ho, f3])
      rw [hk0', hcls] at hrecv
      refine vx_runV hFix hM ⟨callB_of As.length hts hG hwm rfl rfl (hts _ (c1 _ (by rw [hm]; simp))) (hw _ List.mem_cons_self) ⟨c3.1, c3.2, hpd'⟩ hRR, hts _ (c1 _ (by rw [hm]; simp)), hts _ (c1 _ (by rw [hm]; simp))⟩ ⟨sPc_blind, hrecv, sPc_pre hW hxt hV⟩ rfl rfl hszL ?_ hrest hd hcr
      show sM = _
      rw [List.reverse_cons, List.append_assoc] at hstk
      exact hstk
  · -- static
    have hkm : pm_km.getD x 9 = 1 := by simpa [kmOk] using hkm
    have hm := mW1 hkm
    have hwm : sWm x = Cond.code (sMdG x).1 (sMdG x).2.1 (sMdG x).2.2.1 (sMdG x).2.2.2.1 :: sGd := by unfold sWm; rw [if_neg (by rw [hkm]; decide)]
    have hG : GoodIn sGd (sWm x) := sWm_good hck ⟨_, by rw [hm]; exact List.mem_cons_self, by rw [hwm]; rfl⟩
    simp only [cdI, Bool.and_eq_true, decide_eq_true_eq] at hc
    exact run_vx (va_runS hFix (met_of_vx hM (hXf (by decide))) ⟨callB_of y hts hG hwm rfl rfl (hts _ (c1 _ (by rw [hm]; simp))) (hw _ List.mem_cons_self) ⟨c3.1, c3.2, hc.2⟩ hRR, hts _ (c1 _ (by rw [hm]; simp))⟩ ⟨sPc_blind, sPc_pre hW hxt hV⟩ rfl hlen2 hszL hstk hrest hd hcr)
  · -- init
    have hkm : pm_km.getD x 9 = 2 := by simpa [kmOk] using hkm
    have hm := mW2 hkm
    have hwm : sWm x = Cond.code (sMdG x).1 (sMdG x).2.1 (sMdG x).2.2.1 (sMdG x).2.2.2.1 :: sGd := by unfold sWm; rw [if_neg (by rw [hkm]; decide)]
    have hG : GoodIn sGd (sWm x) := sWm_good hck ⟨_, by rw [hm]; exact List.mem_cons_self, by rw [hwm]; rfl⟩
    obtain ⟨n1, n2⟩ := c6 hkm
    simp only [cdI, Bool.and_eq_true, decide_eq_true_eq] at hc
    cases hta : (st.take y).reverse with
    | nil => rw [hta] at hrcv; cases hrcv
    | cons v0 as' =>
      rw [hta] at hrcv hSa
      obtain ⟨w0, As, hav, hv0, hS'⟩ := sS_cons hSa
      rw [hav] at hM hstk hlen2 ⊢
      obtain ⟨o, rfl⟩ : ∃ o, v0 = vR o := by
        rcases v0 with z | z | o | z
        · cases hrcv
        · cases hrcv
        · exact ⟨o, rfl⟩
        · cases hrcv
      obtain ⟨ho, rfl⟩ := hv0
      have hpd' : pmD (sMdG x).1 = some As.length := pmD_map hc.2 (by simpa using hlen2)
      rw [n2] at hwm
      refine run_vx (va_runI hFix (met_of_vx hM (hXf (by decide))) ⟨callB_of As.length hts hG hwm rfl rfl (hts _ (c1 _ (by rw [hm]; simp))) (hw _ List.mem_cons_self) ⟨c3.1, c3.2, hpd'⟩ hRR, n1, hts _ (c1 _ (by rw [hm]; simp))⟩ ⟨sPc_blind, sPc_pre hW hxt hV⟩ rfl rfl hszL ?_ hrest hd hcr)
      show sM = _
      rw [List.reverse_cons, List.append_assoc] at hstk
      exact hstk
  · -- virtual, nest
    have hkm : pm_km.getD x 9 = 0 := by simpa [kmOk] using hkm
    have hm := mW0 hkm
    have hwm : sWm x = Cond.code (sMdG x).1 (sMdG x).2.1 (sMdG x).2.2.1 (sMdG x).2.2.2.1 :: sGd := by unfold sWm; rw [if_neg (by rw [hkm]; decide)]
    have hG : GoodIn sGd (sWm x) := sWm_good hck ⟨_, by rw [hm]; exact List.mem_cons_self, by rw [hwm]; rfl⟩
    simp only [cdI, Bool.and_eq_true, decide_eq_true_eq] at hc
    obtain ⟨-, ⟨⟨hcls, hlt⟩, hnw⟩, hpd⟩ := hc
    cases hta : (st.take y).reverse with
    | nil => rw [hta] at hrcv; cases hrcv
    | cons v0 as' =>
      rw [hta] at hrcv hSa
      obtain ⟨w0, As, hav, hv0, hS'⟩ := sS_cons hSa
      rw [hav] at hM hstk hlen2 ⊢
      obtain ⟨o, rfl⟩ : ∃ o, v0 = vR o := by
        rcases v0 with z | z | o | z
        · cases hrcv
        · cases hrcv
        · exact ⟨o, rfl⟩
        · cases hrcv
      obtain ⟨ho, rfl⟩ := hv0
      have hkd : pm_kd A o = a.toNat % 100 := by simpa [pm_rcv] using hrcv
      have hpd' : pmD (sMdG x).1 = some As.length := pmD_map hpd (by simpa using hlen2)
      obtain ⟨c0, hc0⟩ : ∃ c0, A.2.2.1[o]? = some c0 := ⟨_, List.getElem?_eq_getElem ho⟩
      have hk0' : c0.1 = a.toNat % 100 := by
        unfold pm_kd at hkd
        rw [hc0] at hkd
        exact hkd
      have hc13 : c0.1 < 13 := by rw [hk0']; exact hlt
      obtain ⟨-, -, fs, f3, -⟩ := sC_obj (hW.2.2.2 o c0 hc0) hc13
      have hrecv := va_recv hW.2.2.1 hW.1 (vw_get hc13) (q0 := o) (a := g.1 o) (fs := fs) (by rw [wsOf_get ho, f3])
      rw [hk0', hcls] at hrecv
      refine run_vx (va_runVN hFix (met_of_vx hM (hXf (by decide))) ⟨va_cnB As.length hts hG hwm rfl rfl (hxt.2.2.1.1 _ hnw) (hts _ (c1 _ (by rw [hm]; simp))) ⟨c3.1, c3.2, hpd'⟩ hRR, hts _ (c1 _ (by rw [hm]; simp)), hts _ (c1 _ (by rw [hm]; simp))⟩ ⟨sPc_blind, hrecv, sPc_pre hW hxt hV⟩ rfl rfl hszL ?_ hrest hd hcr)
      show sM = _
      rw [List.reverse_cons, List.append_assoc] at hstk
      exact hstk
  · -- init, nest
    have hkm : pm_km.getD x 9 = 2 := by simpa [kmOk] using hkm
    have hm := mW2 hkm
    have hwm : sWm x = Cond.code (sMdG x).1 (sMdG x).2.1 (sMdG x).2.2.1 (sMdG x).2.2.2.1 :: sGd := by unfold sWm; rw [if_neg (by rw [hkm]; decide)]
    have hG : GoodIn sGd (sWm x) := sWm_good hck ⟨_, by rw [hm]; exact List.mem_cons_self, by rw [hwm]; rfl⟩
    obtain ⟨n1, n2⟩ := c6 hkm
    simp only [cdI, Bool.and_eq_true, decide_eq_true_eq] at hc
    cases hta : (st.take y).reverse with
    | nil => rw [hta] at hrcv; cases hrcv
    | cons v0 as' =>
      rw [hta] at hrcv hSa
      obtain ⟨w0, As, hav, hv0, hS'⟩ := sS_cons hSa
      rw [hav] at hM hstk hlen2 ⊢
      obtain ⟨o, rfl⟩ : ∃ o, v0 = vR o := by
        rcases v0 with z | z | o | z
        · cases hrcv
        · cases hrcv
        · exact ⟨o, rfl⟩
        · cases hrcv
      obtain ⟨ho, rfl⟩ := hv0
      have hpd' : pmD (sMdG x).1 = some As.length := pmD_map hc.2.2 (by simpa using hlen2)
      rw [n2] at hwm
      refine run_vx (va_runIN hFix (met_of_vx hM (hXf (by decide))) ⟨va_cnB As.length hts hG hwm rfl rfl (hxt.2.2.1.1 _ hc.2.1) (hts _ (c1 _ (by rw [hm]; simp))) ⟨c3.1, c3.2, hpd'⟩ hRR, n1, hts _ (c1 _ (by rw [hm]; simp))⟩ ⟨sPc_blind, sPc_pre hW hxt hV⟩ rfl rfl hszL ?_ hrest hd hcr)
      show sM = _
      rw [List.reverse_cons, List.append_assoc] at hstk
      exact hstk
  · -- static, with handlers
    obtain ⟨k, rfl⟩ : ∃ z, k = z + 5 := ⟨k - 5, by omega⟩
    have hkm : pm_km.getD x 9 = 5 := by simpa [kmOk] using hkm
    have hm := mW5 hkm
    have hwm : sWm x = Cond.codeWith (sMdG x).1 (sMdG x).2.1 (sMdG x).2.2.1 (sMdG x).2.2.2.1 (sMdG x).2.2.2.2 :: sGd := by unfold sWm; rw [if_pos hkm]
    have hG : GoodIn sGd (sWm x) := sWm_good hck ⟨_, by rw [hm]; exact List.mem_cons_self, by rw [hwm]; rfl⟩
    simp only [cdI, Bool.and_eq_true, decide_eq_true_eq] at hc
    have hcode : Cond.codeWith (sMdG x).1 (sMdG x).2.1 (sMdG x).2.2.1 (sMdG x).2.2.2.1 (sMdG x).2.2.2.2 ∈ sWm x := by rw [hwm]; exact List.mem_cons_self
    refine run_vx (vx_runSW hFix (met_of_vx hM (hXf (by omega))) ⟨⟨rfl, rfl, hRR.1, hRR.2, pay_in hts hG, hcode⟩, hts _ (hG _ hcode).1, hts _ (c1 _ (by rw [hm]; simp)), c3, fun sig h9 => ?_, hw _ List.mem_cons_self, hts _ (c1 _ (by rw [hm]; simp))⟩ ⟨sPc_blind, sPc_pre hW hxt hV⟩ rfl hlen2 hszL hstk hrest hd hcr)
    have h2 : pmD (sMdG x).1 = some y := hc.2
    unfold pmD at h2
    rw [h9] at h2
    exact (Option.some.inj h2).symm
end
