/-! SOUNDNESS, 3: the check of the code tables -/
def lw_chunk (c : Nat) : List Cond := match c with
  | 1 => tables_1_1
  | 2 => tables_1_2
  | 3 => tables_1_3
  | 4 => tables_1_4
  | 5 => tables_1_5
  | 6 => tables_1_6
  | 7 => tables_1_7
  | 8 => tables_1_8
  | 9 => tables_1_9
  | _ => []
theorem lw_chunk_in {c k : Nat} {w : Cond} (h : (lw_chunk c)[k]? = some w) : w ∈ lw_tbl := by
  have hm := List.mem_of_getElem? h
  have h2 : w ∈ tables_1 := by
    unfold tables_1
    unfold lw_chunk at hm
    simp only [List.mem_append]
    split at hm <;> first | (simp only [hm, true_or, or_true]; done) | exact absurd hm List.not_mem_nil
  exact List.mem_append_right _ h2
def sMdG (x : Nat) : sMd := pm_md.getD x (objectInit, ⟨#[]⟩, 0, none, [])
def wdI (own : String) (i : pm_I) (v idx : Nat) : List Cond := match i.1 with
  | 0 => match i.2.1 with
    | 0 => if 3 ≤ v then [.constant own idx (Int32.ofInt i.2.2.1)] else []
    | 11 => if 1 ≤ v then [.constantLong own idx (Int64.ofInt i.2.2.1)] else []
    | _ => []
  | 1 => match i.2.1 with
    | 13 => [.methodLink own idx Lib.Math.min.name]
    | 14 => [.methodLink own idx Lib.Math.max.name]
    | _ => []
  | 2 => match i.2.1 with
    | 5 => [.methodLink own idx yJ9_max_f86c9]
    | _ => []
  | 4 => [.fieldLink own idx ((vwG i.2.2.2.1).2.1 i.2.2.2.2).1 ((vwG i.2.2.2.1).2.1 i.2.2.2.2).2.1 ((vwG i.2.2.2.1).2.1 i.2.2.2.2).2.2.1]
  | 5 => match i.2.1 with
    | 9 => [.methodLink own idx arraycopyName]
    | _ => []
  | 6 => match i.2.1 with
    | 0 => []
    | 1 => [.classLink own idx "TunedHouses$Image"]
    | 2 => [.classLink own idx "[[I"]
    | _ => [.classLink own idx (vwG i.2.2.2.1).1]
  | 7 => match i.2.1 with
    | 0 => [.methodLink own idx yJ0_length_8abf5]
    | 1 => [.methodLink own idx yJ0_charAt_5068e]
    | _ => [.methodLink own idx objectInit]
  | 8 => match i.2.1 with
    | 3 => []
    | 4 => []
    | _ => [.methodLink own idx (sMdG i.2.2.2.1).1]
  | 9 => match i.2.1 with
    | 4 => [.classLink own idx (xnE i.2.2.2.1)]
    | _ => []
  | _ => []
def xFd (i : pm_I) : String × String × String × Bool := (vwG i.2.2.2.1).2.1 i.2.2.2.2
/-- the further conditions of an instruction; y: the method's name, ret: its answer -/
def cdI (y : MethodName) (cc : ByteArray) (ret : Option FieldType) (pc : Nat) (i : pm_I) (v idx : Nat) : Bool := match i.1 with
  | 0 => match i.2.1 with
    | 0 => match v with
      | 1 => decide ((Int8.ofInt i.2.2.1).toInt32.toInt = i.2.2.1)
      | 2 => decide ((Int16.ofInt i.2.2.1).toInt32.toInt = i.2.2.1)
      | _ => decide ((Int32.ofInt i.2.2.1).toInt = i.2.2.1)
    | 7 => decide ((Int32.ofInt i.2.2.1).toInt = i.2.2.1)
    | 8 => true
    | 9 => true
    | 10 => true
    | 11 => match v with
      | 0 => decide (i.2.2.1 = 0 ∨ i.2.2.1 = 1)
      | _ => decide ((Int64.ofInt i.2.2.1).toInt = i.2.2.1)
    | 12 => decide (((pm_st[i.2.2.2.1]?).map fun q => (q.1, q.2.1)) = some (y.cls, idx))
    | _ => match v with
      | 0 => decide (i.2.2.2.1 < 4)
      | _ => true
  | 3 => match i.2.1 with
    | 3 => match pm_ws[i.2.2.2.1]? with
      | none => false
      | some w => match i.2.2.2.2 with
        | 0 => decide (w.1.map (·.1) = (List.range w.1.length).map (fun z : Nat => (w.1.map (·.1)).headD 0 + (z : Int))) && decide (w.1 ≠ [])
        | _ => ((w.1.map (·.1)).zip ((w.1.map (·.1)).drop 1)).all (fun q => decide (q.1 < q.2))
    | _ => true
  | 4 => decide (i.2.2.2.2 < (vwG i.2.2.2.1).2.2) && decide (i.2.2.2.1 < 13) && (match i.2.1 with
    | 0 => decide ((xFd i).2.2.1 = "I" ∨ (xFd i).2.2.1 = "Z")
    | 1 => decide ((xFd i).2.2.1 ≠ "I" ∧ (xFd i).2.2.1 ≠ "Z")
    | 2 => decide ((xFd i).2.2.1 = "I") && !(xFd i).2.2.2
    | 3 => decide ((xFd i).2.2.1 = "Z") && !(xFd i).2.2.2
    | _ => decide ((xFd i).2.2.1 ≠ "I" ∧ (xFd i).2.2.1 ≠ "Z") && (xFd i).2.2.2 && decide (y.name = "<init>"))
  | 6 => match i.2.1 with
    | 0 => decide (i.2.2.2.1 = 100 ∨ i.2.2.2.1 = 101 ∨ i.2.2.2.1 = 102)
    | 3 => decide (i.2.2.2.1 < 13)
    | _ => true
  | 8 => (match i.2.1 with
    | 0 => decide ((vwG (i.2.2.1.toNat % 100)).1 = (sMdG i.2.2.2.1).1.cls ∧ i.2.2.1.toNat % 100 < 13) && decide ((sMdG i.2.2.2.1).2.2.2.2 = []) && decide ((parseMethodDescriptor (sMdG i.2.2.2.1).1.desc).map (fun d => d.parameters.length + 1) = some i.2.2.2.2)
    | 1 => decide ((sMdG i.2.2.2.1).2.2.2.2 = []) && decide ((parseMethodDescriptor (sMdG i.2.2.2.1).1.desc).map (fun d => d.parameters.length) = some i.2.2.2.2)
    | 2 => decide ((sMdG i.2.2.2.1).2.2.2.2 = []) && decide ((sMdG i.2.2.2.1).1.name = "<init>") && decide ((parseMethodDescriptor (sMdG i.2.2.2.1).1.desc).map (fun d => d.parameters.length + 1) = some i.2.2.2.2)
    | 3 => decide ((vwG (i.2.2.1.toNat % 100)).1 = (sMdG i.2.2.2.1).1.cls ∧ i.2.2.1.toNat % 100 < 13) && decide ((sMdG i.2.2.2.1).2.2.2.2 = []) && decide (Cond.methodLinkNest y.cls idx (sMdG i.2.2.2.1).1 "TunedHouses" ∈ pm_nw) && decide ((parseMethodDescriptor (sMdG i.2.2.2.1).1.desc).map (fun d => d.parameters.length + 1) = some i.2.2.2.2)
    | 4 => decide ((sMdG i.2.2.2.1).2.2.2.2 = []) && decide ((sMdG i.2.2.2.1).1.name = "<init>") && decide (Cond.methodLinkNest y.cls idx (sMdG i.2.2.2.1).1 "TunedHouses" ∈ pm_nw) && decide ((parseMethodDescriptor (sMdG i.2.2.2.1).1.desc).map (fun d => d.parameters.length + 1) = some i.2.2.2.2)
    | _ => decide ((sMdG i.2.2.2.1).2.2.2.2 ≠ []) && decide ((parseMethodDescriptor (sMdG i.2.2.2.1).1.desc).map (fun d => d.parameters.length) = some i.2.2.2.2))
  | 9 => match i.2.1 with
    | 0 => decide (ret = some .int)
    | 1 => decide (ret = some .boolean)
    | 2 => decide (ret = some .long)
    | 3 => decide (ret = none)
    | _ => true
  | _ => true
def fallI (i : pm_I) : Bool := !(i.1 == 9) && !(i.1 == 3 && (i.2.1 == 0 || i.2.1 == 3))
def okI (y : MethodName) (cc : ByteArray) (ret : Option FieldType) (pf : Nat → Nat) (j : Nat) (i : pm_I) : Prop :=
  ∃ v idx, decode cc (pf j) = .ok (xi pf (pf j) i v idx) ∧ (fallI i = true → pf (j + 1) = pf j + (xi pf (pf j) i v idx).2) ∧ (∀ w ∈ wdI y.cls i v idx, w ∈ lw_tbl ∧ goodWord w = true) ∧ cdI y cc ret (pf j) i v idx = true
def ckI (y : MethodName) (cc : ByteArray) (ret : Option FieldType) (pf : Nat → Nat) (j : Nat) (i : pm_I) (a : Nat × Nat × List (Nat × Nat)) : Bool :=
  decide (decode cc (pf j) = .ok (xi pf (pf j) i a.1 a.2.1)) && (!(fallI i) || decide (pf (j + 1) = pf j + (xi pf (pf j) i a.1 a.2.1).2)) && cdI y cc ret (pf j) i a.1 a.2.1 && decide ((wdI y.cls i a.1 a.2.1) = a.2.2.filterMap (fun l => (lw_chunk l.1)[l.2]?)) && (wdI y.cls i a.1 a.2.1).all goodWord
theorem ckI_ok {y : MethodName} {cc : ByteArray} {ret : Option FieldType} {pf : Nat → Nat} {j : Nat} {i : pm_I} {a : Nat × Nat × List (Nat × Nat)} (h : ckI y cc ret pf j i a = true) : okI y cc ret pf j i := by
  unfold ckI at h
  simp only [Bool.and_eq_true, decide_eq_true_eq, Bool.or_eq_true, Bool.not_eq_true'] at h
  obtain ⟨⟨⟨⟨h1, h2⟩, h3⟩, h4⟩, h5⟩ := h
  refine ⟨a.1, a.2.1, h1, fun hf => ?_, fun w hw => ⟨?_, List.all_eq_true.mp h5 w hw⟩, h3⟩
  · rcases h2 with h2 | h2
    · rw [hf] at h2; cases h2
    · exact h2
  · rw [h4] at hw
    obtain ⟨l, -, hl⟩ := List.mem_filterMap.mp hw
    exact lw_chunk_in hl
/-- instructions that are never reached: behind 'new' of a thrown one -/
def deadI (i : pm_I) : Bool := i.1 == 9 && i.2.1 == 9
def ckL (y : MethodName) (cc : ByteArray) (ret : Option FieldType) (pf : Nat → Nat) : Nat → List pm_I → List (Nat × Nat × List (Nat × Nat)) → Bool
  | _, [], _ => true
  | j, i :: r, a :: s => (deadI i || ckI y cc ret pf j i a) && ckL y cc ret pf (j + 1) r s
  | _, _ :: _, [] => false
theorem ckL_ok {y : MethodName} {cc : ByteArray} {ret : Option FieldType} {pf : Nat → Nat} : ∀ (r : List pm_I) (s : List (Nat × Nat × List (Nat × Nat))) (j : Nat), ckL y cc ret pf j r s = true → ∀ (k : Nat) (i : pm_I), r[k]? = some i → deadI i = true ∨ okI y cc ret pf (j + k) i
  | [], _, _, _, k, i, h => by simp at h
  | _ :: _, [], _, h, _, _, _ => by cases h
  | i0 :: r, a :: s, j, h, k, i, hk => by
    simp only [ckL, Bool.and_eq_true, Bool.or_eq_true] at h
    cases k with
    | zero =>
      cases hk
      rcases h.1 with h1 | h1
      · exact Or.inl h1
      · exact Or.inr (ckI_ok h1)
    | succ k =>
      have h2 := ckL_ok r s (j + 1) h.2 k i (by simpa using hk)
      rw [show j + (k + 1) = j + 1 + k by omega]
      exact h2
theorem ckL_app {y : MethodName} {cc : ByteArray} {ret : Option FieldType} {pf : Nat → Nat} : ∀ (n : Nat) (r : List pm_I) (s : List (Nat × Nat × List (Nat × Nat))) (j : Nat), r.length = s.length → ckL y cc ret pf j (r.take n) (s.take n) = true → ckL y cc ret pf (j + n) (r.drop n) (s.drop n) = true → ckL y cc ret pf j r s = true
  | 0, r, s, j, _, _, h => h
  | n + 1, [], s, j, hl, _, _ => by cases s with
    | nil => rfl
    | cons a s => cases hl
  | n + 1, i :: r, [], j, hl, _, _ => by cases hl
  | n + 1, i :: r, a :: s, j, hl, h1, h2 => by
    simp only [ckL, List.take_succ_cons, Bool.and_eq_true] at h1
    simp only [ckL, Bool.and_eq_true]
    refine ⟨h1.1, ckL_app n r s (j + 1) (by simpa using hl) h1.2 ?_⟩
    rw [show j + 1 + n = j + (n + 1) by omega]
    exact h2
def pfG (M : Nat) (j : Nat) : Nat := (pm_px.getD M []).getD j 0
def okM (M : Nat) : Prop := ∀ (k : Nat) (i : pm_I), ((pm_mt.getD M ([], 0)).1)[k]? = some i → deadI i = true ∨ okI (sMdG M).1 (sMdG M).2.1 (sMdG M).2.2.2.1 (pfG M) k i
