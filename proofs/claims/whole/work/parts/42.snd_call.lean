/-! SOUNDNESS, 17: what a method leaves; its contract out of its walk; calls -/
def sOV (n : Nat) (ad K : Nat → Nat) : Option pm_V → Option Value → Prop
  | none, none => True
  | some v, some w => sV n ad K v w
  | _, _ => False
def sQc (D : va_G) (B0 : Nat) (K : Nat → Nat) (n0 : Nat) (ad0 : Nat → Nat) (r : pm_R) : Array Value → State → Outcome → State → Prop := fun _ st oc t =>
  ∃ (ov : Option pm_V) (v : Option Value) (g' : sG), r.1 = .inl ov ∧ oc = .returned v ∧ sOV r.2.1.2.2.1.length g'.1 K ov v ∧ (∀ k, k < n0 → g'.1 k = ad0 k) ∧ sW D B0 r.2.1 r.2.2 g' t t.heap ∧ va_F (fun q => B0 ≤ q) st t
def sXc (D : va_G) (B0 : Nat) (n0 : Nat) (ad0 : Nat → Nat) (r : pm_R) : String → State → State → Prop := fun E st t =>
  ∃ (x : Nat) (g' : sG), r.1 = .inr x ∧ (x = 1 ∨ x = 2) ∧ E = xnE x ∧ (∀ k, k < n0 → g'.1 k = ad0 k) ∧ sW D B0 r.2.1 r.2.2 g' t t.heap ∧ va_F (fun q => B0 ≤ q) st t
theorem sW_moved {D : va_G} {B0 : Nat} {A : pm_A} {σ : pm_S} {g : sG} {s u : State} {H : Heap} (hv : s.vm.Alike u.vm) (h : sW D B0 A σ g s H) : sW D B0 A σ g u H := ⟨h.1, h.2.1, h.2.2.1.moved hv, h.2.2.2⟩
def SIM (l : Launch) (D : va_G) (B0 : Nat) (K adV : Nat → Nat) (Ls : Nat) (xs : Nat → Int32) (n : Nat) : Prop :=
  ∀ (p : Program) (e : Env) (R : Room) (s : State) (m : MethodId) (args : Array Value) (below : List Frame) (meth : Method) (c : Code) (M d j : Nat) (ls st : List pm_V) (A : pm_A) (σ : pm_S) (r : pm_R) (g : sG) (H : Heap) (locs : List Loc) (cells slots mc ms n0 : Nat) (ad0 : Nat → Nat) (L : Array Slot) (sM : List Value),
    M < 310 → pm_x pP n d (pm_mt.getD M ([], 0)).1 ((pm_mt.getD M ([], 0)).1.drop j) ls st A σ = some r → sX B0 K adV Ls xs p s m args meth c M → A.2.2.2 = (Ls, fun i => (xs i).toInt) → d + 6 ≤ R.frames → 80 * d + 200 ≤ R.locals → ls.length = (sMdG M).2.2.1 →
    cells + (r.2.1.1 - A.1) = mc → slots + (r.2.1.2.1 - A.2.1) = ms → mc ≤ R.cells → ms ≤ R.slots → n0 ≤ A.2.2.1.length → (∀ k, k < n0 → g.1 k = ad0 k) →
    sW D B0 A σ g s H → va_S (fun q => B0 ≤ q) s.heap H locs → sL A.2.2.1.length g.1 K ls L → sS A.2.2.1.length g.1 K st sM →
    W p l e R s m args below meth c H locs cells slots (vx_MQ below (sQc D B0 K n0 ad0 r) (sXc D B0 n0 ad0 r) args s mc ms (fun q => B0 ≤ q)) (F0 m (pfG M j) L sM)
def sWm (x : Nat) : List Cond := (if pm_km.getD x 9 = 5 then Cond.codeWith (sMdG x).1 (sMdG x).2.1 (sMdG x).2.2.1 (sMdG x).2.2.2.1 (sMdG x).2.2.2.2 else Cond.code (sMdG x).1 (sMdG x).2.1 (sMdG x).2.2.1 (sMdG x).2.2.2.1) :: sGd
def rmD (d mc ms : Nat) : Room := { frames := d + 6, locals := 80 * d + 200, cells := mc, slots := ms }
theorem pf0_all : (List.range 310).all (fun M => decide (pfG M 0 = 0)) = true := by decide +kernel
theorem pf0 {M : Nat} (h : M < 310) : pfG M 0 = 0 := of_decide_eq_true (List.all_eq_true.mp pf0_all M (List.mem_range.mpr h))
theorem md_len : pm_md.length = 310 := by decide +kernel
theorem mt_len : pm_mt.length = 310 := by decide +kernel
theorem mCk_use {M : Nat} (h : mCk M = true) : (∀ w ∈ mWd M, w ∈ sGd) ∧ plainName (sMdG M).1.cls = true ∧ ((sMdG M).1.cls ≠ "java/lang/invoke/MethodHandle" ∧ (sMdG M).1.cls ≠ "java/lang/invoke/VarHandle") ∧ (pm_mt.getD M ([], 0)).2 = (sMdG M).2.2.1 ∧ (pm_km.getD M 9 ≠ 5 → (sMdG M).2.2.2.2 = []) ∧ (pm_km.getD M 9 = 2 → (sMdG M).1.name = "<init>" ∧ (sMdG M).2.2.2.1 = none) ∧ (sMdG M).2.2.1 ≤ 40 := by
  unfold mCk at h
  simp only [Bool.and_eq_true, decide_eq_true_eq] at h
  obtain ⟨⟨⟨⟨⟨⟨h1, h2⟩, h3⟩, h4⟩, h5⟩, h6⟩, h7⟩ := h
  refine ⟨fun w hw => ?_, h2, h3, h4, fun hk => ?_, fun hk => ?_, h7⟩
  · have h8 := List.all_eq_true.mp h1 w hw
    simp only [Bool.and_eq_true, decide_eq_true_eq] at h8
    exact sGd_mem h8
  · rw [if_neg hk] at h5
    exact of_decide_eq_true h5
  · rw [if_pos hk] at h6
    exact of_decide_eq_true h6
section
variable {l : Launch} {D : va_G} {B0 : Nat} {K adV : Nat → Nat} {Ls : Nat} {xs : Nat → Int32} {n : Nat}
def sPc (D : va_G) (B0 : Nat) (K adV : Nat → Nat) (Ls : Nat) (xs : Nat → Int32) (av : List Value) (A : pm_A) (σ : pm_S) (g : sG) : Array Value → State → Prop := va_Pc av (fun U => sW D B0 A σ g U U.heap ∧ xt B0 K adV Ls xs U)
theorem sPc_blind {av : List Value} {A : pm_A} {σ : pm_S} {g : sG} : FrameBlind (sPc D B0 K adV Ls xs av A σ g) := fun a U g9 mk h => ⟨h.1, sW_moved (s := U) (Vm.Alike.refl U.vm) h.2.1, xt_same (s := U) rfl rfl h.2.2⟩
theorem sPc_pre {s : State} {H : Heap} {locs : List Loc} {av : List Value} {A : pm_A} {σ : pm_S} {g : sG} (hW : sW D B0 A σ g s H) (h : xt B0 K adV Ls xs s) (hV : va_S (fun q => B0 ≤ q) s.heap H locs) : ∀ U : State, U.heap = H → s.WarmedH U.vm → sPc D B0 K adV Ls xs av A σ g av.toArray U := fun U hU hw => ⟨rfl, by rw [hU]; exact sW_moved hw.alike hW, xt_warm hw (by rw [hU]; exact hV) h⟩
theorem sMet (hSim : SIM l D B0 K adV Ls xs n) {x d : Nat} {as : List pm_V} {av : List Value} {A : pm_A} {σ : pm_S} {g : sG} {r : pm_R} (hx : x < 310) (hck : mCk x = true)
    (h : pm_x pP n d (pm_mt.getD x ([], 0)).1 (pm_mt.getD x ([], 0)).1 (pm_in (pm_mt.getD x ([], 0)).2 as) [] A σ = some r) (hl : (pm_in (pm_mt.getD x ([], 0)).2 as).length = (pm_mt.getD x ([], 0)).2)
    (hA4 : A.2.2.2 = (Ls, fun i => (xs i).toInt)) (hS : sS A.2.2.1.length g.1 K as av) :
    vx_Met l (sMdG x).1 (sWm x) (rmD d (r.2.1.1 - A.1) (r.2.1.2.1 - A.2.1)) (sPc D B0 K adV Ls xs av A σ g) (sQc D B0 K A.2.2.1.length g.1 r) (sXc D B0 A.2.2.1.length g.1 r) (r.2.1.1 - A.1) (r.2.1.2.1 - A.2.1) (fun q => B0 ≤ q) := by
  obtain ⟨k1, k2, k3, k4, k5, k6, k7⟩ := mCk_use hck
  have go : ∀ (p : Program) (e : Env) (s : State) (m : MethodId) (args : Array Value) (below : List Frame) (meth : Method) (c : Code) (s₁ : State), BodyLoose p l (sMdG x).1 (headSpec (sWm x) (rmD d (r.2.1.1 - A.1) (r.2.1.2.1 - A.2.1))) (sMdG x).2.1 (sMdG x).2.2.1 (sMdG x).2.2.2.1 e s m args below meth c s₁ → c.maxLocals = (sMdG x).2.2.1 → c.exceptionTable.toList = tableOf (sMdG x).2.2.2.2 → sPc D B0 K adV Ls xs av A σ g args s →
      W p l e (headSpec (sWm x) (rmD d (r.2.1.1 - A.1) (r.2.1.2.1 - A.2.1))).room s m args below meth c s.heap [] 0 0 (vx_MQ below (sQc D B0 K A.2.2.1.length g.1 r) (sXc D B0 A.2.2.1.length g.1 r) args s (r.2.1.1 - A.1) (r.2.1.2.1 - A.2.1) (fun q => B0 ≤ q)) (entryFrame m args (sMdG x).2.2.1) := by
    intro p e s m args below meth c s₁ B hml htab hv
    obtain ⟨rfl, hW, hxt⟩ := hv
    have hts : ∀ w ∈ sGd, w.before av.toArray s = true := fun w hw => atoms_spec (ws := sWm x) B.pre w (List.mem_cons_of_mem _ hw)
    have hX : sX B0 K adV Ls xs p s m av.toArray meth c x := ⟨B.exec, B.bytes, hml, B.returns, findClass_of_methodNamed B.named, hts, B.notSynchronized, htab, (name_of_methodNamed B.named B.method).1, hxt⟩
    rw [lg_entry_eq]
    have hLin := sL_in hS hl
    rw [k4] at hLin hl h
    have := hSim p e (headSpec (sWm x) (rmD d (r.2.1.1 - A.1) (r.2.1.2.1 - A.2.1))).room s m av.toArray below meth c x d 0 (pm_in (sMdG x).2.2.1 as) [] A σ r g s.heap [] 0 0 (r.2.1.1 - A.1) (r.2.1.2.1 - A.2.1) A.2.2.1.length g.1 _ [] hx h hX hA4 (Nat.le_refl _) (Nat.le_refl _) hl (Nat.zero_add _) (Nat.zero_add _) (Nat.le_refl _) (Nat.le_refl _) (Nat.le_refl _) (fun _ _ => rfl) hW va_S.rf hLin trivial
    rw [pf0 hx] at this
    exact this
  by_cases hk : pm_km.getD x 9 = 5
  · have hw : sWm x = Cond.codeWith (sMdG x).1 (sMdG x).2.1 (sMdG x).2.2.1 (sMdG x).2.2.2.1 (sMdG x).2.2.2.2 :: sGd := by unfold sWm; rw [if_pos hk]
    refine vx_ofWH k2 hw (fun p e s m args below meth c s₁ B hml hv => ?_)
    exact go p e s m args below meth c s₁ B hml (vx_table (x := (sMdG x).1) B (atoms_spec (ws := sWm x) B.pre _ (by rw [hw]; exact List.mem_cons_self))) hv
  · have hw : sWm x = Cond.code (sMdG x).1 (sMdG x).2.1 (sMdG x).2.2.1 (sMdG x).2.2.2.1 :: sGd := by unfold sWm; rw [if_neg hk]
    refine vx_ofW k2 hw (fun p e s m args below meth c s₁ B hml ht hv => ?_)
    refine go p e s m args below meth c s₁ B hml ?_ hv
    rw [k5 hk]
    exact List.eq_nil_iff_forall_not_mem.mpr (fun z hz => ht z hz)
theorem met_of_vx {y : MethodName} {ws : List Cond} {rm : Room} {Pc : Array Value → State → Prop} {Qc : Array Value → State → Outcome → State → Prop} {XC : String → State → State → Prop} {mc ms : Nat} {free : Addr → Prop} (h : vx_Met l y ws rm Pc Qc XC mc ms free) (hx : ∀ E st t, ¬ XC E st t) : Met l y ws rm Pc Qc mc ms free := by
  intro p e ha hc hk s m args below hf happ hp hK
  obtain ⟨n, o, h1, h2, h3, h4⟩ := h p e ha hc hk s m args below hf happ hp hK
  refine ⟨n, o, h1, h2, h3, ?_⟩
  rcases h4 with h4 | ⟨q, -, E, ce, L, h5, -⟩
  · exact h4
  · exact (hx _ _ _ h5).elim
end
section
variable {p : Program} {l : Launch} {e : Env} {R : Room} {s : State} {m : MethodId} {args : Array Value} {below : List Frame} {meth : Method} {c : Code} {H : Heap} {locs : List Loc} {cells slots : Nat} {Q : State → Prop}
variable {B0 : Nat} {K adV : Nat → Nat} {Ls : Nat} {xs : Nat → Int32} {D : va_G}
theorem run_vx {mc ms : Nat} {g : JFrame} {rest : List Value} {Qa : State → Outcome → State → Prop} {XC : String → State → State → Prop} {free : Addr → Prop} (h : va_Run p l e R s m args below meth c H locs cells slots mc ms g rest Qa free) : vx_Run p l e R s m args below meth c H locs cells slots mc ms g rest Qa XC free := fun T hT X => Or.inl (h T hT X)
theorem sCall {mc ms pc n0 : Nat} {ad0 : Nat → Nat} {r : pm_R} {ls : Array Slot} {st0 rest : List Value} {a : Array Value} (hr : vx_Run p l e R s m args below meth c H locs cells slots mc ms (F0 m pc ls st0) rest (sQc D B0 K n0 ad0 r a) (sXc D B0 n0 ad0 r) (fun q => B0 ≤ q)) (hV : va_S (fun q => B0 ≤ q) s.heap H locs)
    (kk : ∀ (ov : Option pm_V) (v : Option Value) (g' : sG) (H1 : Heap) (locs1 : List Loc), r.1 = .inl ov → sOV r.2.1.2.2.1.length g'.1 K ov v → (∀ k, k < n0 → g'.1 k = ad0 k) → sW D B0 r.2.1 r.2.2 g' s H1 → va_S (fun q => B0 ≤ q) s.heap H1 locs1 → W p l e R s m args below meth c H1 locs1 (cells + mc) (slots + ms) Q (F0 m (pc + 3) ls (v.toList ++ rest)))
    (kx : ∀ (x : Nat) (g' : sG) (H1 : Heap) (locs1 : List Loc) (q : Addr) (ce : Cell), r.1 = .inr x → (x = 1 ∨ x = 2) → (∀ k, k < n0 → g'.1 k = ad0 k) → sW D B0 r.2.1 r.2.2 g' s H1 → va_S (fun q => B0 ≤ q) s.heap H1 locs1 → H1[q]? = some ce → ce.vm = .none → s.vm.findClass (xnE x) = some ce.cls → vx_W p l e R s m args below meth c H1 locs1 (cells + mc) (slots + ms) Q (F0 m pc ls rest) q) :
    W p l e R s m args below meth c H locs cells slots Q (F0 m pc ls st0) := by
  intro T hT X
  rcases hr T hT X with ⟨v, st₀, t, T', L, h0, X', hL, e1, e2, ⟨ov, v9, g', hq, hv, h1, h2, h3, hF⟩, st⟩ | ⟨q, st₀, t, T', L, E, ce, h0, X', hL, e1, e2, ⟨x, g', hq, hx, rfl, h2, h3, hF⟩, hce, hcv, hcl, st⟩
  · cases hv
    obtain ⟨k1, k2, k3⟩ := vx_keep h0 e1 hV (fun _ _ h => h) (fun _ h => h) hL hF
    have al : t.vm.Alike s.vm := (by rw [← e2]; exact X'.warmed.alike : s.vm.Alike t.vm).symm
    obtain ⟨t2, a1, b1⟩ := kk ov v g' T'.heap (locs ++ L) hq h1 h2 (by rw [e1]; exact sW_moved al h3) k3 T' rfl X'
    exact ⟨t2, st t2 a1, b1⟩
  · obtain ⟨k1, k2, k3⟩ := vx_keep h0 e1 hV (fun _ _ h => h) (fun _ h => h) hL hF
    have al : t.vm.Alike s.vm := (by rw [← e2]; exact X'.warmed.alike : s.vm.Alike t.vm).symm
    obtain ⟨t2, a1, b1⟩ := kx x g' T'.heap (locs ++ L) q ce hq hx h2 (by rw [e1]; exact sW_moved al h3) k3 (by rw [e1]; exact hce) hcv hcl T' rfl X'
    exact ⟨t2, st.trans a1, b1⟩
theorem hd_split (e9 t9 : Nat) (P : (Nat × Nat) × (Nat × Nat × Nat × Nat) → Bool) : ∀ (hs : List (Nat × Nat)) (rows : List (Nat × Nat × Nat × Nat)), hs.length = rows.length → (hs.zip rows).all P = true → pm_hd hs e9 = some t9 → ∃ pre row suf, rows = pre ++ row :: suf ∧ P ((e9, t9), row) = true ∧ ∀ z ∈ pre, ∃ c9 u9, c9 ≠ e9 ∧ P ((c9, u9), z) = true
  | [], _, _, _, h => by cases h
  | _ :: _, [], hl, _, _ => by cases hl
  | (c1, t1) :: hs, row :: rows, hl, ha, h => by
    simp only [List.zip_cons_cons, List.all_cons, Bool.and_eq_true] at ha
    by_cases e : e9 = c1
    · have h1 : t1 = t9 := by
        unfold pm_hd at h
        rw [if_pos e] at h
        exact Option.some.inj h
      subst e
      subst h1
      exact ⟨[], row, rows, rfl, ha.1, fun z hz => by cases hz⟩
    · have h1 : pm_hd hs e9 = some t9 := by
        rw [pm_hd, if_neg e] at h
        exact h
      obtain ⟨pre, row', suf, g1, g2, g3⟩ := hd_split e9 t9 P hs rows (by simpa using hl) ha.2 h1
      refine ⟨row :: pre, row', suf, by rw [g1]; rfl, g2, fun z hz => ?_⟩
      rcases List.mem_cons.mp hz with rfl | hz
      · exact ⟨c1, t1, fun q => e q.symm, ha.1⟩
      · exact g3 z hz
end
