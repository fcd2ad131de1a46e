/-! THE CLAIM OUT OF ONE WALK OF THE LAW'S BODY. Your part is whole_start (and what it stands on); all else here is the same for every law, but numbers. -/
def R_law : String := "TunedHousesLaw"
def lw_P (b : Addr) (xs : List Int32) (args : Array Value) (s : State) : Prop := args = #[.ref b] ∧ s.IntsAt b xs ∧ xs.length ≤ 4608 ∧ (Jvm.Cond.and given_1 narrow_1).before args s = true
def lw_Q (_ : Array Value) (s : State) (o : Outcome) (t : State) : Prop := o = .returned (some (.int 1)) ∧ Framed s o t [] 601024 7293034
def lw_Z (below : List Frame) (a : Array Value) (s : State) : State → Prop := fun t => ∃ o, t.status = .running ∧ Ended t below o ∧ lw_Q a s o t
/-- what holds at the law's entry: the machine, the code, the tables' words (any of lw_tbl by 'hts w (by decide +kernel)'), the script of L ints xs at the cell b, what the Statement gives of the start (any of its parts by flat_of_before) -/
def lw_At (p : Program) (s : State) (m : MethodId) (meth : Method) (c : Code) (b L : Nat) (xs : Nat → Int32) : Prop :=
  p.tables.exec = Jvm.exec ∧ c.code = code ∧ meth.sig.returnType = ret ∧ c.maxLocals = 8 ∧ s.vm.findClass R_law = some m.cls ∧ (∀ w ∈ lw_tbl, w.before #[Value.ref b] s = true) ∧ va_X b L xs s s.heap ∧ b < s.heap.size ∧ meth.locks = false ∧ (Jvm.Cond.and given_1 narrow_1).before #[Value.ref b] s = true ∧ (∀ x ∈ c.exceptionTable.toList, False) ∧ meth.name = "law"

/-- what is to be shown of the pure machine: the law answers 1, within the room -/
def LawOK : Prop := ∀ (Ls : Nat) (xs : Nat → Int), Ls ≤ 4608 → (∀ i, -2147483648 ≤ xs i ∧ xs i < 2147483648) → ∃ r, ex 1000 C_L_law_ C_L_law_ (pm_in 8 [vS 99]) [] (0, 0, [], (Ls, xs)) (fun _ _ => 0) = some r ∧ r.1 = .inl (some (vI 1)) ∧ r.2.1.1 ≤ 601024 ∧ r.2.1.2.1 ≤ 7293034
theorem law_C : (pm_mt.getD 307 ([], 0)).1 = C_L_law_ := rfl
theorem law_md : sMdG 307 = (x, code, 8, ret, []) := rfl
theorem whole_start {p : Program} {e : Env} {s : State} {m : MethodId} {below : List Frame} {meth : Method} {c : Code} (hall : ∀ M, M < 310 → okM M) (hmk : ∀ M, M < 310 → mCk M = true) (hlaw : LawOK) (l : Launch) (hlf : l.stackTraces = false) {b L : Nat} {xs : Nat → Int32} (hL : L ≤ 4608) (C0 : lw_At p s m meth c b L xs) : W p l e room_1 s m #[Value.ref b] below meth c s.heap [] 0 0 (lw_Z below #[Value.ref b] s) (entryFrame m ([Value.ref b] : List Value).toArray 8) := by
  obtain ⟨c1, c2, c3, c4, c5, c6, c7, c8, c9, c10, c11, c12⟩ := C0
  obtain ⟨K, adV, hK99, hxt⟩ := xt0 c6 c10 c7 c8
  obtain ⟨D, hD⟩ := kn0 c6
  obtain ⟨r, hr, hr1, hr2, hr3⟩ := hlaw L (fun i => (xs i).toInt) hL (fun i => ⟨i32_lo _, i32_hi _⟩)
  obtain ⟨n, hn⟩ := pm_E_iff.mp hr
  have hX : sX s.heap.size K adV L xs p s m #[Value.ref b] meth c 307 := by
    unfold sX
    rw [law_md]
    exact ⟨c1, c2, c4, c3, c5, fun w hw => c6 w (List.mem_filter.mp hw).1, c9, List.eq_nil_iff_forall_not_mem.mpr (fun z hz => c11 z hz), c12, hxt⟩
  rw [lg_entry_eq]
  have hLin : sL 0 (fun _ => 0) K (pm_in 8 [vS 99]) ((lg_sl [Value.ref b] ++ List.replicate (8 - (lg_sl [Value.ref b]).length) Slot.unset).toArray) := sL_in ⟨by show Value.ref b = Value.ref (K 99); rw [hK99], trivial⟩ rfl
  have hW0 : sW D s.heap.size (0, 0, [], (L, fun i => (xs i).toInt)) (fun _ _ => 0) (fun _ => 0, [], fun _ => .inl (0, 0, .inl fun _ => 0)) s s.heap := ⟨fun k q hq => (by cases hq), ⟨fun i j p q hp => (by cases hp), fun k q hq => (by cases hq)⟩, hD, fun k c hk => (by cases hk)⟩
  have hs := snd_sim (D := D) (B0 := s.heap.size) (K := K) (adV := adV) (Ls := L) (xs := xs) hlf hall hmk n p e room_1 s m #[Value.ref b] below meth c 307 1000 0 (pm_in 8 [vS 99]) [] (0, 0, [], (L, fun i => (xs i).toInt)) (fun _ _ => 0) r _ s.heap [] 0 0 r.2.1.1 r.2.1.2.1 0 (fun _ => 0) _ [] (by decide) (by rw [law_C]; exact hn) hX rfl (by decide) (by decide) (by rw [law_md]; rfl) (by show 0 + (r.2.1.1 - 0) = _; omega) (by show 0 + (r.2.1.2.1 - 0) = _; omega) hr2 hr3 (Nat.le_refl _) (fun _ _ => rfl) hW0 va_S.rf hLin trivial
  rw [pf0 (by decide)] at hs
  intro T hT X
  obtain ⟨t, a1, o, b1, b2, b3⟩ := hs T hT X
  refine ⟨t, a1, o, b1, b2, ?_⟩
  rcases b3 with ⟨⟨ov, v, g', h1, h2, h3, -, -, -⟩, Lc, h5, h6⟩ | ⟨q, -, E, ce, Lc, ⟨x9, g', h1, -⟩, -⟩
  · rw [hr1] at h1
    cases h1
    cases v with
    | none => exact h3.elim
    | some w =>
      obtain ⟨z, rfl, hz⟩ := h3
      have hz1 : z = 1 := i32_eq.mpr hz
      subst hz1
      refine ⟨h2, ?_⟩
      obtain ⟨k1, k2, k3⟩ := h5
      exact ⟨k1, k2, k3.weaken (fun y hy hlt => absurd hlt (Nat.not_lt.mpr (h6 y hy))) hr2 hr3⟩
  · rw [hr1] at h1
    cases h1
set_option maxHeartbeats 4000000 in
theorem lw_walk (hall : ∀ M, M < 310 → okM M) (hmk : ∀ M, M < 310 → mCk M = true) (hlaw : LawOK) (l : Launch) (hlf : l.stackTraces = false) (b : Addr) (xs : List Int32) : MetFree l x (headSpec (Jvm.Cond.code x code maxLocals ret :: tables_1) room_1) (lw_P b xs) (fun _ _ _ _ _ => True) lw_Q := by
  refine MetFree.of_bodyS (code := code) (maxLocals := maxLocals) (ret := ret) (by decide) ?_ ?_
  · intro args s m h hn
    obtain ⟨meth, c, h1, h2, h3, h4, h5, h6, -, -⟩ := Cond.code_spec hn (atoms_spec (ws := Jvm.Cond.code x code maxLocals ret :: tables_1) h _ List.mem_cons_self)
    exact ⟨meth, c, h1, h2, h3, h4, h5, h6⟩
  · intro p e s m args below meth c s₁ B hml0 hP _
    obtain ⟨rfl, hx, hbd, hgv⟩ := hP
    obtain ⟨scr, harrAt, hlist, hof, hsmall⟩ := hx
    obtain ⟨hcb, hkn, -, -⟩ := State.arrayAt?_spec harrAt
    have hown : s.vm.findClass R_law = some m.cls := findClass_of_methodNamed B.named
    have hts0 : ∀ c ∈ (Jvm.Cond.code x code maxLocals ret :: tables_1), c.before #[Value.ref b] s = true := atoms_spec (ws := Jvm.Cond.code x code maxLocals ret :: tables_1) B.pre
    have hts : ∀ w ∈ lw_tbl, w.before #[Value.ref b] s = true := k2_hts_sels lw_privs (fun w hw => hts0 w (List.mem_cons_of_mem _ hw)) lw_privs_ok
    have hml : c.maxLocals = 8 := B.maxLocals_eq (hts0 _ List.mem_cons_self)
    have htb : ∀ x ∈ c.exceptionTable.toList, False := by
      obtain ⟨meth9, c9, h1, h2, -, -, -, -, h7, -⟩ := Cond.code_spec B.named (hts0 _ List.mem_cons_self)
      cases Option.some.inj (h1.symm.trans B.method)
      cases Option.some.inj (h2.symm.trans (Stand.of_body B).code)
      intro x hx
      rw [Array.isEmpty_iff.mp h7] at hx
      cases hx
    have X₀ : Stand p l e room_1 s m #[Value.ref b] below meth c s₁ [] 0 0 := Stand.of_body B
    have hh0 : s₁.heap = s.heap := by rw [B.state]; rfl
    have hsz : scr.slots.size = xs.length := by rw [← Array.length_toList, hlist, List.length_map]
    have hval : ∀ j : Nat, j < xs.length → scr.slots[j]? = some (.int (xs.getD j 0)) := fun j hj => by
      rw [← Array.getElem?_toList, hlist]
      simp [hj]
    have hbl : b < s.heap.size := (Array.getElem?_eq_some_iff.mp hcb).1
    have hX : va_X b xs.length (fun j => xs.getD j 0) s s.heap := ⟨scr, hcb, hof, hkn, hsz, hval⟩
    have K : W p l e room_1 s m #[Value.ref b] below meth c s₁.heap [] 0 0 (lw_Z below #[Value.ref b] s) (entryFrame m ([Value.ref b] : List Value).toArray 8) := by
      rw [hh0]
      exact whole_start hall hmk hlaw l hlf hbd ⟨B.exec, B.bytes, B.returns, hml, hown, hts, hX, hbl, B.notSynchronized, hgv, htb, (name_of_methodNamed B.named B.method).1⟩
    obtain ⟨t, a1, o, b1, b2, b3⟩ := K s₁ rfl X₀
    exact ⟨t, o, a1, b1, b2, b3⟩
theorem lw_pre_spec {args : Array Value} {s : State} (h : (Jvm.Cond.and given_1 narrow_1).before args s = true) (hr : rest_1_c.before args s = true) : ∃ (b : Addr) (xs : List Int32), lw_P b xs args s := by
  have hs := flat_of_before _ h
  have hq := flat_of_before _ hr
  have hc : (Cond.count 1).before args s = true := hs _ (by decide +kernel)
  have harr : (Cond.arrayOf (.arg 0) .int).before args s = true := hs _ (by decide +kernel)
  have hle : (Cond.le (.length (.arg 0)) (.int 4608)).before args s = true := hs _ (by decide +kernel)
  have hlen : (Cond.isInt (.length (.arg 0))).before args s = true := hq _ (by decide +kernel)
  have hall : (Cond.all (.arg 0) (.isInt (.elem (.arg 0) (.index 0)))).before args s = true := hq _ (by decide +kernel)
  obtain ⟨b, xs, hb, hx⟩ := State.ints_of_pre rfl harr hlen hall
  have hsm : xs.length < 2 ^ 31 := hx.choose_spec.2.2.2
  have hev : (Term.length (.arg 0)).eval args s none [] s = some (.int xs.length.toInt32) := hx.length_eval hb
  have hv := Cond.le_ints hev (show (Term.int 4608).eval args s none [] s = some (.int 4608) from rfl)
  have hd : xs.length.toInt32 ≤ 4608 := by
    simpa [Cond.before, Cond.holds, hv] using hle
  have hN : xs.length ≤ 4608 := (Int32.ofNat_le_ofNat hsm (by decide)).mp (show Int32.ofNat xs.length ≤ Int32.ofNat 4608 from hd)
  exact ⟨b, xs, Cond.one_arg hc (show args[0]? = some (.ref b) from hb), hx, hN, h⟩
theorem lw_comes (hall : ∀ M, M < 310 → okM M) (hmk : ∀ M, M < 310 → mCk M = true) (hlaw : LawOK) (l : Launch) (hlf : l.stackTraces = false) : Comes l x (Jvm.Cond.code x code maxLocals ret :: tables_1) room_1 (fun tb e args s => Calls_1 tb e args s ∧ rest_1 tb e args s ∧ Pre_1 tb e args s)
    (fun _ _ args s o t => lw_Q args s o t) := by
  intro p e ha hc hk s m args below hf hfit hheap happ hpre
  obtain ⟨b, xs, hP⟩ := lw_pre_spec hpre.2.2 hpre.2.1
  obtain ⟨k, o, h1, h2, h3, hQ⟩ := lw_walk hall hmk hlaw l hlf b xs p e ha hc hk s m args below hf ((Spec.applies_iff_loose hf).mp happ).1 hP trivial
  exact ⟨k, o, h1, h2, h3, hQ⟩
theorem lw_frame {s t : State} {o : Outcome} {args : Array Value} (h : Framed s o t [] 601024 7293034) :
    Framed s o t (fieldLocs frame_1_writes args s ++ arrayLocs frame_1_arrays args s ++ staticLocs frame_1_statics s) 601024 7293034 := h
theorem lw_limb (hall : ∀ M, M < 310 → okM M) (hmk : ∀ M, M < 310 → mCk M = true) (hlaw : LawOK) (L : Cond) (hL : ∀ (args : Array Value) (s t : State), L.after args s (.returned (some (.int 1))) t = true) :
    ArmFor flags0 classFile x code maxLocals ret World_1 tables_1 room_1 Calls_1 rest_1 Pre_1
      (fun tb e a s o t => postC L tb e a s o t ∧ Framed s o t (fieldLocs frame_1_writes a s ++ arrayLocs frame_1_arrays a s ++ staticLocs frame_1_statics s) 601024 7293034) := by
  intro l hfl _ _ p e ha hc hk s m args below hf hfit hheap happ hpre
  have hlf : l.stackTraces = false := by
    unfold Launch.stackTraces
    rw [hfl]
    decide +kernel
  obtain ⟨k, o, h1, h2, h3, rfl, hF⟩ := lw_comes hall hmk hlaw l hlf p e ha hc hk s m args below hf hfit hheap happ hpre
  exact ⟨k, _, h1, h2, h3, hL args s _, lw_frame hF⟩
theorem i_vc_of (hall : ∀ M, M < 310 → okM M) (hmk : ∀ M, M < 310 → mCk M = true) (hlaw : LawOK) : Claimed_1_1 ∧ Claimed_1_2 := ⟨lw_limb hall hmk hlaw limb_1_1 (fun args s t => by simp [limb_1_1, Cond.after, Cond.holds, Cond.value]), lw_limb hall hmk hlaw limb_1_2 (fun args s t => Cond.after_iff.mpr (by
  first | (rw [show limb_1_2 = Cond.eq .result (.int 1) from rfl, Cond.eq_ints (x := 1) (y := 1) rfl rfl]; simp; done) | (simp [limb_1_2, Cond.value, Term.eval]; done)))⟩
