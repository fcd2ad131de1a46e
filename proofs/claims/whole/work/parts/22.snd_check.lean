/-! SOUNDNESS, 3: the check of the code tables -/
def lw_chunk (c : Nat) : List Cond := match c with
  | 1 => tables_1_1
  | 2 => tables_1_2
  | 3 => tables_1_3
  | 4 => tables_1_4
  | 5 => tables_1_5
  | 6 => tables_1_6
  | 7 => tables_1_7
  | 8 => tables_1_8
  | 9 => tables_1_9
  | _ => []
theorem lw_chunk_in {c k : Nat} {w : Cond} (h : (lw_chunk c)[k]? = some w) : w ∈ lw_tbl := by
  have hm := List.mem_of_getElem? h
  have h2 : w ∈ tables_1 := by
    unfold tables_1
    unfold lw_chunk at hm
    simp only [List.mem_append]
    split at hm <;> first | (simp only [hm, true_or, or_true]; done) | exact absurd hm List.not_mem_nil
  exact List.mem_append_right _ h2
def sMdG (x : Nat) : sMd := pm_md.getD x (objectInit, ⟨#[]⟩, 0, none, [])
def wdI (own : String) (i : pm_I) (v idx : Nat) : List Cond := match i.1 with
  | 0 => match i.2.1 with
    | 0 => if 3 ≤ v then [.constant own idx (Int32.ofInt i.2.2.1)] else []
    | 11 => if 1 ≤ v then [.constantLong own idx (Int64.ofInt i.2.2.1)] else []
    | _ => []
  | 1 => match i.2.1 with
    | 13 => [.methodLink own idx Lib.Math.min.name]
    | 14 => [.methodLink own idx Lib.Math.max.name]
    | _ => []
  | 2 => match i.2.1 with
    | 5 => [.methodLink own idx yJ9_max_f86c9]
    | _ => []
  | 4 => [.fieldLink own idx ((vwG i.2.2.2.1).2.1 i.2.2.2.2).1 ((vwG i.2.2.2.1).2.1 i.2.2.2.2).2.1 ((vwG i.2.2.2.1).2.1 i.2.2.2.2).2.2.1]
  | 5 => match i.2.1 with
    | 9 => [.methodLink own idx arraycopyName]
    | _ => []
  | 6 => match i.2.1 with
    | 0 => []
    | 1 => [.classLink own idx "TunedHouses$Image"]
    | 2 => [.classLink own idx "[[I"]
    | _ => [.classLink own idx (vwG i.2.2.2.1).1]
  | 7 => match i.2.1 with
    | 0 => [.methodLink own idx yJ0_length_8abf5]
    | 1 => [.methodLink own idx yJ0_charAt_5068e]
    | _ => [.methodLink own idx objectInit]
  | 8 => match i.2.1 with
    | 3 => []
    | 4 => []
    | _ => [.methodLink own idx (sMdG i.2.2.2.1).1]
  | 9 => match i.2.1 with
    | 4 => [.classLink own idx (xnE i.2.2.2.1)]
    | _ => []
  | _ => []
def xFd (i : pm_I) : String × String × String × Bool := (vwG i.2.2.2.1).2.1 i.2.2.2.2
/-- the words of a throw of class e ('NoSuchElementException' names its super's constructor by 13, not by 7) -/
def xIx (e : Nat) : Nat := if e = 1 then 13 else 7
def xBy (e : Nat) : ByteArray := if e = 1 then ⟨#[0x2a, 0x2b, 0xb7, 0x00, 0x0d, 0xb1]⟩ else ⟨#[0x2a, 0x2b, 0xb7, 0x00, 0x07, 0xb1]⟩
def atX (own : String) (ic e : Nat) : List Cond := Bundle.throwableAtoms ++ Bundle.throwableSAtoms ++ (Bundle.passSAtoms (xnE e) "java/lang/RuntimeException" (xIx e) (xBy e) ++ Bundle.chainSAtoms "java/lang/RuntimeException" ["java/lang/Exception"]) ++
  [.methodLink own ic (Bundle.initS (xnE e)), .instantiable (xnE e) 6, .castable (xnE e) (xnE e), .selects (xnE e) Bundle.tFill0 Bundle.tFill0, .selects (xnE e) Bundle.tFill Bundle.tFill,
   .lays (xnE e) Bundle.tN "cause" "Ljava/lang/Throwable;", .lays (xnE e) Bundle.tN "stackTrace" Bundle.steD, .lays (xnE e) Bundle.tN "suppressedExceptions" Bundle.listD, .lays (xnE e) Bundle.tN "detailMessage" "Ljava/lang/String;",
   .isRef (.static Bundle.tN "UNASSIGNED_STACK" Bundle.steD), .isRef (.static Bundle.tN "SUPPRESSED_SENTINEL" Bundle.listD),
   .fieldLink Bundle.tN 198 Bundle.tN "backtrace" "Ljava/lang/Object;", .lays Bundle.tN Bundle.tN "backtrace" "Ljava/lang/Object;", .lays (xnE e) Bundle.tN "backtrace" "Ljava/lang/Object;"]
/-- words of a throw that no list carries -/
def sDw : List Cond := [.declares (Bundle.initS "java/lang/RuntimeException"), .declares (Bundle.initS "java/lang/Exception"), .declares (Bundle.initS Bundle.tN)]
/-- a call of kind k calls a method of kind t -/
def kmOk (k t : Nat) : Bool := match k with
  | 0 => t == 0
  | 1 => t == 1
  | 2 => t == 2
  | 3 => t == 0
  | 4 => t == 2
  | _ => t == 5
/-- the handlers of a call, held against the method's own table -/
def hdOk (md : sMd) (pf : Nat → Nat) (pc : Nat) (a : Int) : Bool :=
  if a.toNat / 100 = 0 then decide (md.2.2.2.2 = [])
  else decide ((pm_hs.getD (a.toNat / 100) []).length = md.2.2.2.2.length) && ((pm_hs.getD (a.toNat / 100) []).zip md.2.2.2.2).all (fun q => decide (q.2.1 ≤ pc ∧ pc < q.2.2.1 ∧ pf q.1.2 = q.2.2.2.1 ∧ q.2.2.2.2 ≠ 0 ∧ (q.1.1 = 1 ∨ q.1.1 = 2)) && decide (Cond.classLink md.1.cls q.2.2.2.2 (xnE q.1.1) ∈ lw_tbl) && goodWord (Cond.classLink md.1.cls q.2.2.2.2 (xnE q.1.1)))
def pmD (y : MethodName) : Option Nat := (parseMethodDescriptor y.desc).map (fun d => d.parameters.length)
/-- the further conditions of an instruction of method md -/
def cdI (md : sMd) (pf : Nat → Nat) (pc : Nat) (i : pm_I) (v idx : Nat) : Bool := match i.1 with
  | 0 => match i.2.1 with
    | 0 => match v with
      | 1 => decide ((Int8.ofInt i.2.2.1).toInt32.toInt = i.2.2.1)
      | 2 => decide ((Int16.ofInt i.2.2.1).toInt32.toInt = i.2.2.1)
      | _ => decide ((Int32.ofInt i.2.2.1).toInt = i.2.2.1)
    | 7 => decide ((Int32.ofInt i.2.2.1).toInt = i.2.2.1)
    | 8 => true
    | 9 => true
    | 10 => true
    | 11 => match v with
      | 0 => decide (i.2.2.1 = 0 ∨ i.2.2.1 = 1)
      | _ => decide ((Int64.ofInt i.2.2.1).toInt = i.2.2.1)
    | 12 => decide (((pm_st[i.2.2.2.1]?).map fun q => (q.1, q.2.1)) = some (md.1.cls, idx))
    | _ => match v with
      | 0 => decide (i.2.2.2.1 < 4)
      | _ => true
  | 3 => match i.2.1 with
    | 3 => match pm_ws[i.2.2.2.1]? with
      | none => false
      | some w => match i.2.2.2.2 with
        | 0 => decide (w.1.map (·.1) = (List.range w.1.length).map (fun z : Nat => (w.1.map (·.1)).headD 0 + (z : Int))) && decide (w.1 ≠ [])
        | _ => ((w.1.map (·.1)).zip ((w.1.map (·.1)).drop 1)).all (fun q => decide (q.1 < q.2))
    | _ => true
  | 4 => decide (i.2.2.2.2 < (vwG i.2.2.2.1).2.2) && decide (i.2.2.2.1 < 13) && (match i.2.1 with
    | 0 => decide ((xFd i).2.2.1 = "I" ∨ (xFd i).2.2.1 = "Z")
    | 1 => decide ((xFd i).2.2.1 ≠ "I" ∧ (xFd i).2.2.1 ≠ "Z")
    | 2 => decide ((xFd i).2.2.1 = "I") && !(xFd i).2.2.2
    | 3 => decide ((xFd i).2.2.1 = "Z") && !(xFd i).2.2.2
    | _ => decide ((xFd i).2.2.1 ≠ "I" ∧ (xFd i).2.2.1 ≠ "Z") && (xFd i).2.2.2 && decide (md.1.name = "<init>") && decide ((xFd i).1 = md.1.cls))
  | 6 => match i.2.1 with
    | 0 => decide (i.2.2.2.1 = 100 ∨ i.2.2.2.1 = 101 ∨ i.2.2.2.1 = 102)
    | 3 => decide (i.2.2.2.1 < 13)
    | _ => true
  | 8 => kmOk i.2.1 (pm_km.getD i.2.2.2.1 9) && decide (i.2.2.2.1 < pm_md.length) && (match i.2.1 with
    | 0 => decide ((vwG (i.2.2.1.toNat % 100)).1 = (sMdG i.2.2.2.1).1.cls ∧ i.2.2.1.toNat % 100 < 13) && decide ((pmD (sMdG i.2.2.2.1).1).map (· + 1) = some i.2.2.2.2) && hdOk md pf pc i.2.2.1
    | 1 => decide (pmD (sMdG i.2.2.2.1).1 = some i.2.2.2.2)
    | 2 => decide ((pmD (sMdG i.2.2.2.1).1).map (· + 1) = some i.2.2.2.2)
    | 3 => decide ((vwG (i.2.2.1.toNat % 100)).1 = (sMdG i.2.2.2.1).1.cls ∧ i.2.2.1.toNat % 100 < 13) && decide (Cond.methodLinkNest md.1.cls idx (sMdG i.2.2.2.1).1 "TunedHouses" ∈ pm_nw) && decide ((pmD (sMdG i.2.2.2.1).1).map (· + 1) = some i.2.2.2.2)
    | 4 => decide (Cond.methodLinkNest md.1.cls idx (sMdG i.2.2.2.1).1 "TunedHouses" ∈ pm_nw) && decide ((pmD (sMdG i.2.2.2.1).1).map (· + 1) = some i.2.2.2.2)
    | _ => decide (pmD (sMdG i.2.2.2.1).1 = some i.2.2.2.2))
  | 9 => match i.2.1 with
    | 0 => decide (md.2.2.2.1 = some .int)
    | 1 => decide (md.2.2.2.1 = some .boolean)
    | 2 => decide (md.2.2.2.1 = some .long)
    | 3 => decide (md.2.2.2.1 = none)
    | _ => decide (md.1.cls = RX11) && decide (md.2.2.2.2 = []) && decide (i.2.2.2.1 = 1 ∨ i.2.2.2.1 = 2) && decide (decode md.2.1 (pc + 3) = .ok (.dup, 1)) && (pm_st.any fun q => decide (q.1 = RX11 ∧ q.2.1 = v / 1000)) && ((atX RX11 (v % 1000) i.2.2.2.1).filter vx_no).all (fun w => (goodWord w && decide (w ∈ lw_tbl)) || (decide (w = Cond.castable (xnE i.2.2.2.1) (xnE i.2.2.2.1)) && w.onTables) || (decide (w ∈ sDw) && w.onTables)) && decide (Cond.initialized (xnE i.2.2.2.1) ∈ lw_tbl) && goodWord (Cond.initialized (xnE i.2.2.2.1)) &&
      (if v / 1000 < 256 then decide (decode md.2.1 (pc + 4) = .ok (.ldc (v / 1000), 2)) && decide (decode md.2.1 (pc + 6) = .ok (.invokespecial (v % 1000), 3)) && decide (decode md.2.1 (pc + 9) = .ok (.athrow, 1))
       else decide (decode md.2.1 (pc + 4) = .ok (.ldc_w (v / 1000), 3)) && decide (decode md.2.1 (pc + 7) = .ok (.invokespecial (v % 1000), 3)) && decide (decode md.2.1 (pc + 10) = .ok (.athrow, 1)))
  | _ => true
def fallI (i : pm_I) : Bool := !(i.1 == 9) && !(i.1 == 3 && (i.2.1 == 0 || i.2.1 == 3))
def okI (md : sMd) (pf : Nat → Nat) (j : Nat) (i : pm_I) : Prop :=
  ∃ v idx, decode md.2.1 (pf j) = .ok (xi pf (pf j) i v idx) ∧ (fallI i = true → pf (j + 1) = pf j + (xi pf (pf j) i v idx).2) ∧ (∀ w ∈ wdI md.1.cls i v idx, w ∈ lw_tbl ∧ goodWord w = true) ∧ cdI md pf (pf j) i v idx = true
def ckI (md : sMd) (pf : Nat → Nat) (j : Nat) (i : pm_I) (a : Nat × Nat × List (Nat × Nat)) : Bool :=
  decide (decode md.2.1 (pf j) = .ok (xi pf (pf j) i a.1 a.2.1)) && (!(fallI i) || decide (pf (j + 1) = pf j + (xi pf (pf j) i a.1 a.2.1).2)) && cdI md pf (pf j) i a.1 a.2.1 && decide ((wdI md.1.cls i a.1 a.2.1) = a.2.2.filterMap (fun l => (lw_chunk l.1)[l.2]?)) && (wdI md.1.cls i a.1 a.2.1).all goodWord
theorem ckI_ok {md : sMd} {pf : Nat → Nat} {j : Nat} {i : pm_I} {a : Nat × Nat × List (Nat × Nat)} (h : ckI md pf j i a = true) : okI md pf j i := by
  unfold ckI at h
  simp only [Bool.and_eq_true, decide_eq_true_eq, Bool.or_eq_true, Bool.not_eq_true'] at h
  obtain ⟨⟨⟨⟨h1, h2⟩, h3⟩, h4⟩, h5⟩ := h
  refine ⟨a.1, a.2.1, h1, fun hf => ?_, fun w hw => ⟨?_, List.all_eq_true.mp h5 w hw⟩, h3⟩
  · rcases h2 with h2 | h2
    · rw [hf] at h2; cases h2
    · exact h2
  · rw [h4] at hw
    obtain ⟨l, -, hl⟩ := List.mem_filterMap.mp hw
    exact lw_chunk_in hl
/-- instructions that are never reached: behind 'new' of a thrown one -/
def deadI (i : pm_I) : Bool := i.1 == 9 && i.2.1 == 9
def ckL (md : sMd) (pf : Nat → Nat) : Nat → List pm_I → List (Nat × Nat × List (Nat × Nat)) → Bool
  | _, [], _ => true
  | j, i :: r, a :: s => (deadI i || ckI md pf j i a) && ckL md pf (j + 1) r s
  | _, _ :: _, [] => false
theorem ckL_ok {md : sMd} {pf : Nat → Nat} : ∀ (r : List pm_I) (s : List (Nat × Nat × List (Nat × Nat))) (j : Nat), ckL md pf j r s = true → ∀ (k : Nat) (i : pm_I), r[k]? = some i → deadI i = true ∨ okI md pf (j + k) i
  | [], _, _, _, k, i, h => by simp at h
  | _ :: _, [], _, h, _, _, _ => by cases h
  | i0 :: r, a :: s, j, h, k, i, hk => by
    simp only [ckL, Bool.and_eq_true, Bool.or_eq_true] at h
    cases k with
    | zero =>
      cases hk
      rcases h.1 with h1 | h1
      · exact Or.inl h1
      · exact Or.inr (ckI_ok h1)
    | succ k =>
      have h2 := ckL_ok r s (j + 1) h.2 k i (by simpa using hk)
      rw [show j + (k + 1) = j + 1 + k by omega]
      exact h2
theorem ckL_app {md : sMd} {pf : Nat → Nat} : ∀ (n : Nat) (r : List pm_I) (s : List (Nat × Nat × List (Nat × Nat))) (j : Nat), r.length = s.length → ckL md pf j (r.take n) (s.take n) = true → ckL md pf (j + n) (r.drop n) (s.drop n) = true → ckL md pf j r s = true
  | 0, r, s, j, _, _, h => h
  | n + 1, [], s, j, hl, _, _ => by cases s with
    | nil => rfl
    | cons a s => cases hl
  | n + 1, i :: r, [], j, hl, _, _ => by cases hl
  | n + 1, i :: r, a :: s, j, hl, h1, h2 => by
    simp only [ckL, List.take_succ_cons, Bool.and_eq_true] at h1
    simp only [ckL, Bool.and_eq_true]
    refine ⟨h1.1, ckL_app n r s (j + 1) (by simpa using hl) h1.2 ?_⟩
    rw [show j + 1 + n = j + (n + 1) by omega]
    exact h2
def pfG (M : Nat) (j : Nat) : Nat := (pm_px.getD M []).getD j 0
def okM (M : Nat) : Prop := ∀ (k : Nat) (i : pm_I), ((pm_mt.getD M ([], 0)).1)[k]? = some i → deadI i = true ∨ okI (sMdG M) (pfG M) k i
/-- what a method of its kind has in the tables -/
def mWd (M : Nat) : List Cond := match pm_km.getD M 9 with
  | 0 => [.code (sMdG M).1 (sMdG M).2.1 (sMdG M).2.2.1 (sMdG M).2.2.2.1, .instanceMethod (sMdG M).1, .selects (sMdG M).1.cls (sMdG M).1 (sMdG M).1, .initialized (sMdG M).1.cls]
  | 1 => [.code (sMdG M).1 (sMdG M).2.1 (sMdG M).2.2.1 (sMdG M).2.2.2.1, .static (sMdG M).1, .initialized (sMdG M).1.cls]
  | 2 => [.code (sMdG M).1 (sMdG M).2.1 (sMdG M).2.2.1 (sMdG M).2.2.2.1, .instanceMethod (sMdG M).1, .initialized (sMdG M).1.cls]
  | 5 => [.codeWith (sMdG M).1 (sMdG M).2.1 (sMdG M).2.2.1 (sMdG M).2.2.2.1 (sMdG M).2.2.2.2, .static (sMdG M).1, .initialized (sMdG M).1.cls]
  | _ => []
def mCk (M : Nat) : Bool := (mWd M).all (fun w => decide (w ∈ lw_tbl) && goodWord w) && plainName (sMdG M).1.cls && decide ((sMdG M).1.cls ≠ "java/lang/invoke/MethodHandle" ∧ (sMdG M).1.cls ≠ "java/lang/invoke/VarHandle") && decide ((pm_mt.getD M ([], 0)).2 = (sMdG M).2.2.1) && (if pm_km.getD M 9 = 5 then decide ((sMdG M).2.2.2.2 ≠ []) else decide ((sMdG M).2.2.2.2 = [])) && (if pm_km.getD M 9 = 2 then decide ((sMdG M).1.name = "<init>" ∧ (sMdG M).2.2.2.1 = none) else true) && decide ((sMdG M).2.2.1 ≤ 40)
