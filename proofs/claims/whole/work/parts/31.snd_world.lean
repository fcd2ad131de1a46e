/-! SOUNDNESS, 6: worlds -/
abbrev sG : Type := (Nat → Nat) × List (ClassId × FieldType) × (Nat → va_E)
def wsOf (n : Nat) (ad : Nat → Nat) (e : Nat → va_E) : va_W := (List.range n).map fun k => (ad k, e k)
theorem wsOf_get {n : Nat} {ad : Nat → Nat} {e : Nat → va_E} {k : Nat} (h : k < n) : (wsOf n ad e)[k]? = some (ad k, e k) := by
  simp [wsOf, h]
theorem wsOf_len {n : Nat} {ad : Nat → Nat} {e : Nat → va_E} : (wsOf n ad e).length = n := by simp [wsOf]
theorem wsOf_set {n : Nat} {ad : Nat → Nat} {e : Nat → va_E} {k : Nat} {E : va_E} (h : k < n) : (wsOf n ad e).set k (ad k, E) = wsOf n ad (va_up e k E) := by
  apply List.ext_getElem?
  intro i
  by_cases hi : i < n
  · rw [wsOf_get hi]
    by_cases hk : i = k
    · subst hk
      rw [List.getElem?_set_self (by rw [wsOf_len]; exact h)]
      simp [va_up]
    · rw [List.getElem?_set_ne (Ne.symm hk), wsOf_get hi]
      simp [va_up, hk]
  · rw [List.getElem?_eq_none (by rw [List.length_set, wsOf_len]; omega), List.getElem?_eq_none (by rw [wsOf_len]; omega)]
theorem wsOf_push {n : Nat} {ad : Nat → Nat} {e : Nat → va_E} {q : Nat} {E : va_E} : wsOf n ad e ++ [(q, E)] = wsOf (n + 1) (va_up ad n q) (va_up e n E) := by
  unfold wsOf
  rw [List.range_succ, List.map_append]
  congr 1
  · apply List.map_congr_left
    intro k hk
    have := List.mem_range.mp hk
    simp [va_up, Nat.ne_of_lt this]
  · simp [va_up]
/-- a field that holds a reference -/
def rfI (x y : Nat) : Bool := decide (((vwG x).2.1 y).2.2.1 ≠ "I" ∧ ((vwG x).2.1 y).2.2.1 ≠ "Z")
def sF (x : Nat) (refs : List (Option Nat)) (f : Nat → Int) (n : Nat) (ad : Nat → Nat) (fs : List Value) (j : Nat) : Prop :=
  if rfI x j = true then ∃ r, refs[j]? = some r ∧ fs[j]? = some (va_rf (r.map ad)) ∧ ∀ q, r = some q → q < n
  else ∃ z : Int32, fs[j]? = some (.int z) ∧ z.toInt = f j
def sRf (n : Nat) (ad : Nat → Nat) (refs : List (Option Nat)) (len : Nat) (g : Nat → Option Nat) : Prop := refs.length = len ∧ ∀ j r, refs[j]? = some r → g j = r.map ad ∧ ∀ q, r = some q → q < n
def sC (n : Nat) (ad : Nat → Nat) (tys : List (ClassId × FieldType)) (c : pm_C) (f : Nat → Int) (E : va_E) : Prop :=
  (c.1 < 13 ∧ c.2.1 = (vwG c.1).2.2 ∧ c.2.2.length = c.2.1 ∧ ∃ fs, E = .inr (c.1, fs) ∧ fs.length = c.2.1 ∧ ∀ j, j < c.2.1 → sF c.1 c.2.2 f n ad fs j) ∨
  (c.1 = 100 ∧ ∃ cA g, E = .inl (cA, c.2.1, .inl g) ∧ (cA, FieldType.int) ∈ tys ∧ ∀ j, j < c.2.1 → (g j).toInt = f j) ∨
  (c.1 = 101 ∧ ∃ cA g, E = .inl (cA, c.2.1, .inl g) ∧ (cA, FieldType.boolean) ∈ tys ∧ ∀ j, j < c.2.1 → (g j).toInt = f j) ∨
  (c.1 = 102 ∧ ∃ cA g, E = .inl (cA, c.2.1, .inr (.inl g)) ∧ (cA, FieldType.long) ∈ tys ∧ ∀ j, j < c.2.1 → (g j).toInt = f j) ∨
  (c.1 = 103 ∧ ∃ cA g, E = .inl (cA, c.2.1, .inr (.inr (.inr (.inr g)))) ∧ (cA, FieldType.array .int) ∈ tys ∧ sRf n ad c.2.2 c.2.1 g) ∨
  (c.1 = 104 ∧ ∃ cA g, E = .inl (cA, c.2.1, .inr (.inr (.inr (.inr g)))) ∧ (cA, FieldType.object RX1) ∈ tys ∧ sRf n ad c.2.2 c.2.1 g)
theorem sF_ext {x : Nat} {refs : List (Option Nat)} {f f' : Nat → Int} {n n' : Nat} {ad ad' : Nat → Nat} {fs : List Value} {j : Nat} (h : sF x refs f n ad fs j) (hn : n ≤ n') (ha : ∀ k, k < n → ad' k = ad k) (hf : f' j = f j) : sF x refs f' n' ad' fs j := by
  unfold sF at h ⊢
  by_cases hr : rfI x j = true
  · rw [if_pos hr] at h ⊢
    obtain ⟨r, h1, h2, h3⟩ := h
    refine ⟨r, h1, ?_, fun q hq => Nat.lt_of_lt_of_le (h3 q hq) hn⟩
    cases r with
    | none => exact h2
    | some q => rw [show (some q).map ad' = (some q).map ad from congrArg some (ha q (h3 q rfl))]; exact h2
  · rw [if_neg hr] at h ⊢
    rw [hf]
    exact h
theorem sRf_ext {n n' : Nat} {ad ad' : Nat → Nat} {refs : List (Option Nat)} {len : Nat} {g : Nat → Option Nat} (h : sRf n ad refs len g) (hn : n ≤ n') (ha : ∀ k, k < n → ad' k = ad k) : sRf n' ad' refs len g := by
  refine ⟨h.1, fun j r hr => ?_⟩
  obtain ⟨h2, h3⟩ := h.2 j r hr
  refine ⟨?_, fun q hq => Nat.lt_of_lt_of_le (h3 q hq) hn⟩
  cases r with
  | none => exact h2
  | some q => rw [show (some q).map ad' = (some q).map ad from congrArg some (ha q (h3 q rfl))]; exact h2
theorem sC_ext {n n' : Nat} {ad ad' : Nat → Nat} {tys tys' : List (ClassId × FieldType)} {c : pm_C} {f f' : Nat → Int} {E : va_E} (h : sC n ad tys c f E) (hn : n ≤ n') (ha : ∀ k, k < n → ad' k = ad k) (ht : ∀ x, x ∈ tys → x ∈ tys') (hf : ∀ j, f' j = f j) : sC n' ad' tys' c f' E := by
  have hff : f' = f := funext hf
  subst hff
  rcases h with ⟨h1, h2, h3, fs, h4, h5, h6⟩ | ⟨h1, cA, g, h2, h3, h4⟩ | ⟨h1, cA, g, h2, h3, h4⟩ | ⟨h1, cA, g, h2, h3, h4⟩ | ⟨h1, cA, g, h2, h3, h4⟩ | ⟨h1, cA, g, h2, h3, h4⟩
  · exact Or.inl ⟨h1, h2, h3, fs, h4, h5, fun j hj => sF_ext (h6 j hj) hn ha rfl⟩
  · exact Or.inr (Or.inl ⟨h1, cA, g, h2, ht _ h3, h4⟩)
  · exact Or.inr (Or.inr (Or.inl ⟨h1, cA, g, h2, ht _ h3, h4⟩))
  · exact Or.inr (Or.inr (Or.inr (Or.inl ⟨h1, cA, g, h2, ht _ h3, h4⟩)))
  · exact Or.inr (Or.inr (Or.inr (Or.inr (Or.inl ⟨h1, cA, g, h2, ht _ h3, sRf_ext h4 hn ha⟩))))
  · exact Or.inr (Or.inr (Or.inr (Or.inr (Or.inr ⟨h1, cA, g, h2, ht _ h3, sRf_ext h4 hn ha⟩))))
/-- the world: every cell stands in the heap as the shape and the store say -/
def sW (D : va_G) (B0 : Nat) (A : pm_A) (σ : pm_S) (g : sG) (s : State) (H : Heap) : Prop :=
  va_P D vwT (wsOf A.2.2.1.length g.1 g.2.2) H ∧ va_D (fun q => B0 ≤ q) (wsOf A.2.2.1.length g.1 g.2.2) ∧ va_K D vwT g.2.1 s ∧ ∀ k c, A.2.2.1[k]? = some c → sC A.2.2.1.length g.1 g.2.1 c (σ k) (g.2.2 k)
/-- values -/
def sV (n : Nat) (ad K : Nat → Nat) (v : pm_V) (w : Value) : Prop := match v with
  | .inl x => ∃ z : Int32, w = .int z ∧ z.toInt = x
  | .inr (.inl x) => ∃ z : Int64, w = .long z ∧ z.toInt = x
  | .inr (.inr (.inl k)) => k < n ∧ w = .ref (ad k)
  | .inr (.inr (.inr (some i))) => w = .ref (K i)
  | .inr (.inr (.inr none)) => ∃ a, w = .ref a
def sS (n : Nat) (ad K : Nat → Nat) : List pm_V → List Value → Prop
  | [], [] => True
  | v :: st, w :: sM => sV n ad K v w ∧ sS n ad K st sM
  | _, _ => False
def sL (n : Nat) (ad K : Nat → Nat) (ls : List pm_V) (L : Array Slot) : Prop := L.size = ls.length ∧ lv_wf L ∧ ∀ (i : Nat) (v : pm_V), ls[i]? = some v → v ≠ vO → ∃ w : Value, sV n ad K v w ∧ L[i]? = some (Slot.val w)
theorem sV_ext {n n' : Nat} {ad ad' K : Nat → Nat} {v : pm_V} {w : Value} (h : sV n ad K v w) (hn : n ≤ n') (ha : ∀ k, k < n → ad' k = ad k) : sV n' ad' K v w := by
  rcases v with x | x | k | _ | i
  · exact h
  · exact h
  · exact ⟨Nat.lt_of_lt_of_le h.1 hn, by rw [ha k h.1]; exact h.2⟩
  · exact h
  · exact h
theorem sS_ext {n n' : Nat} {ad ad' K : Nat → Nat} (hn : n ≤ n') (ha : ∀ k, k < n → ad' k = ad k) : ∀ {st : List pm_V} {sM : List Value}, sS n ad K st sM → sS n' ad' K st sM
  | [], [], _ => trivial
  | _ :: _, _ :: _, h => ⟨sV_ext h.1 hn ha, sS_ext hn ha h.2⟩
  | [], _ :: _, h => h.elim
  | _ :: _, [], h => h.elim
theorem sL_ext {n n' : Nat} {ad ad' K : Nat → Nat} {ls : List pm_V} {L : Array Slot} (h : sL n ad K ls L) (hn : n ≤ n') (ha : ∀ k, k < n → ad' k = ad k) : sL n' ad' K ls L :=
  ⟨h.1, h.2.1, fun i v hi hv => by obtain ⟨w, h1, h2⟩ := h.2.2 i v hi hv; exact ⟨w, sV_ext h1 hn ha, h2⟩⟩
theorem sS_cons {n : Nat} {ad K : Nat → Nat} {v : pm_V} {st : List pm_V} {sM : List Value} (h : sS n ad K (v :: st) sM) : ∃ w sM', sM = w :: sM' ∧ sV n ad K v w ∧ sS n ad K st sM' := by
  cases sM with
  | nil => exact h.elim
  | cons w sM' => exact ⟨w, sM', rfl, h.1, h.2⟩
theorem sS_nil {n : Nat} {ad K : Nat → Nat} {sM : List Value} (h : sS n ad K [] sM) : sM = [] := by
  cases sM with
  | nil => rfl
  | cons w sM' => exact h.elim
theorem sS_app {n : Nat} {ad K : Nat → Nat} : ∀ {s1 s2 : List pm_V} {m1 m2 : List Value}, sS n ad K s1 m1 → sS n ad K s2 m2 → sS n ad K (s1 ++ s2) (m1 ++ m2)
  | [], _, [], _, _, h => h
  | _ :: _, _, _ :: _, _, h1, h2 => ⟨h1.1, sS_app h1.2 h2⟩
  | [], _, _ :: _, _, h, _ => h.elim
  | _ :: _, _, [], _, h, _ => h.elim
theorem sS_len {n : Nat} {ad K : Nat → Nat} : ∀ {st : List pm_V} {sM : List Value}, sS n ad K st sM → sM.length = st.length
  | [], [], _ => rfl
  | _ :: _, _ :: _, h => by rw [List.length_cons, List.length_cons, sS_len h.2]
  | [], _ :: _, h => h.elim
  | _ :: _, [], h => h.elim
theorem sS_rev {n : Nat} {ad K : Nat → Nat} : ∀ {st : List pm_V} {sM : List Value}, sS n ad K st sM → sS n ad K st.reverse sM.reverse
  | [], [], _ => trivial
  | _ :: _, _ :: _, h => by rw [List.reverse_cons, List.reverse_cons]; exact sS_app (sS_rev h.2) ⟨h.1, trivial⟩
  | [], _ :: _, h => h.elim
  | _ :: _, [], h => h.elim
theorem sS_split {n : Nat} {ad K : Nat → Nat} : ∀ (k : Nat) {st : List pm_V} {sM : List Value}, sS n ad K st sM → sS n ad K (st.take k) (sM.take k) ∧ sS n ad K (st.drop k) (sM.drop k)
  | 0, _, _, h => ⟨by rw [List.take_zero, List.take_zero]; exact trivial, h⟩
  | k + 1, [], [], _ => ⟨trivial, trivial⟩
  | k + 1, _ :: _, _ :: _, h => ⟨⟨h.1, (sS_split k h.2).1⟩, (sS_split k h.2).2⟩
  | _ + 1, [], _ :: _, h => h.elim
  | _ + 1, _ :: _, [], h => h.elim
theorem sV_cat {n : Nat} {ad K : Nat → Nat} {v : pm_V} {w : Value} (h : sV n ad K v w) (hn : pm_nl v = true) : w.category = 1 := by
  rcases v with x | x | k | _ | i
  · obtain ⟨z, rfl, -⟩ := h; rfl
  · cases hn
  · rw [h.2]; rfl
  · obtain ⟨a, rfl⟩ := h; rfl
  · rw [show w = .ref (K i) from h]; rfl
theorem sS_cat {n : Nat} {ad K : Nat → Nat} : ∀ {st : List pm_V} {sM : List Value}, sS n ad K st sM → (sM.map fun v => v.category).sum = pm_cat st
  | [], [], _ => rfl
  | v :: st, w :: sM, h => by
    rw [List.map_cons, List.sum_cons, sS_cat h.2]
    rcases v with x | x | k | _ | i
    · rw [sV_cat h.1 rfl]; rfl
    · obtain ⟨z, rfl, -⟩ := h.1; rfl
    · rw [sV_cat h.1 rfl]; rfl
    · rw [sV_cat h.1 rfl]; rfl
    · rw [sV_cat h.1 rfl]; rfl
  | [], _ :: _, h => h.elim
  | _ :: _, [], h => h.elim
/-- the locals that are set, as a list -/
def sLv (L : Array Slot) : List (Nat × Value) := (List.range L.size).filterMap fun (i : Nat) => match L[i]? with
  | some (Slot.val w) => some (i, w)
  | _ => none
theorem sLv_mem {L : Array Slot} {i : Nat} {w : Value} : (i, w) ∈ sLv L ↔ L[i]? = some (Slot.val w) := by
  unfold sLv
  rw [List.mem_filterMap]
  constructor
  · rintro ⟨k, -, hk⟩
    cases hL : L[k]? with
    | none => rw [hL] at hk; cases hk
    | some x =>
      rw [hL] at hk
      cases x with
      | val u => cases hk; exact hL
      | unset => cases hk
      | second => cases hk
  · intro h
    refine ⟨i, List.mem_range.mpr (Array.getElem?_eq_some_iff.mp h).1, ?_⟩
    rw [h]
theorem sL_has {n : Nat} {ad K : Nat → Nat} {ls : List pm_V} {L : Array Slot} (h : sL n ad K ls L) : lv_has L ls.length (sLv L) := ⟨h.1, h.2.1, fun q hq => sLv_mem.mp hq⟩
theorem sL_put1 {n : Nat} {ad K : Nat → Nat} {ls : List pm_V} {L L' : Array Slot} {x : Nat} {v : pm_V} {w : Value} (h : sL n ad K ls L) (hx : x < ls.length) (hv : sV n ad K v w) (h' : lv_has L' ls.length ((x, w) :: (sLv L).filter (fun q => !(q.1 == x) && !(q.1 + 1 == x && q.2.category == 2)))) : sL n ad K (pm_set1 ls x v) L' := by
  have hlen : (pm_set1 ls x v).length = ls.length := by
    unfold pm_set1
    cases x with
    | zero => simp
    | succ z =>
      dsimp only
      split <;> simp
  have hget : ∀ i u, (pm_set1 ls x v)[i]? = some u → u ≠ vO → (i = x ∧ u = v) ∨ (i ≠ x ∧ ls[i]? = some u ∧ ¬ (i + 1 = x ∧ pm_nl u = false)) := by
    intro i u hi hu
    unfold pm_set1 at hi
    cases x with
    | zero =>
      dsimp only at hi
      by_cases e : i = 0
      · subst e
        rw [List.getElem?_set_self hx] at hi
        cases hi
        exact Or.inl ⟨rfl, rfl⟩
      · rw [List.getElem?_set_ne (Ne.symm e)] at hi
        exact Or.inr ⟨e, hi, fun q => by omega⟩
    | succ z =>
      dsimp only at hi
      split at hi
      next q hq =>
        by_cases e : i = z + 1
        · subst e
          rw [List.getElem?_set_self (by rw [List.length_set]; exact hx)] at hi
          cases hi
          exact Or.inl ⟨rfl, rfl⟩
        · rw [List.getElem?_set_ne (Ne.symm e)] at hi
          by_cases e2 : i = z
          · subst e2
            rw [List.getElem?_set_self (by omega)] at hi
            cases hi
            exact absurd rfl hu
          · rw [List.getElem?_set_ne (Ne.symm e2)] at hi
            exact Or.inr ⟨e, hi, fun q => by omega⟩
      next hq =>
        by_cases e : i = z + 1
        · subst e
          rw [List.getElem?_set_self hx] at hi
          cases hi
          exact Or.inl ⟨rfl, rfl⟩
        · rw [List.getElem?_set_ne (Ne.symm e)] at hi
          refine Or.inr ⟨e, hi, fun q => ?_⟩
          have e3 : i = z := by omega
          subst e3
          rcases u with a | a | a
          · exact Bool.noConfusion q.2
          · exact hq a hi
          · exact Bool.noConfusion q.2
  refine ⟨h'.1.trans hlen.symm, h'.2.1, fun i u hi hu => ?_⟩
  rcases hget i u hi hu with ⟨rfl, rfl⟩ | ⟨h1, h2, h3⟩
  · exact ⟨w, hv, h'.2.2 (i, w) List.mem_cons_self⟩
  · obtain ⟨w2, g1, g2⟩ := h.2.2 i u h2 hu
    refine ⟨w2, g1, h'.2.2 (i, w2) (List.mem_cons_of_mem _ (List.mem_filter.mpr ⟨sLv_mem.mpr g2, ?_⟩))⟩
    have c1 : (i == x) = false := beq_eq_false_iff_ne.mpr h1
    rw [c1]
    by_cases e : i + 1 = x
    · have hc : pm_nl u = true := by
        cases hz : pm_nl u with
        | true => rfl
        | false => exact absurd ⟨e, hz⟩ h3
      have := sV_cat g1 hc
      simp [this]
    · simp [e]
theorem sL_put2 {n : Nat} {ad K : Nat → Nat} {ls : List pm_V} {L L' : Array Slot} {x : Nat} {v : Int} {w : Value} (h : sL n ad K ls L) (hx : x + 1 < ls.length) (hv : sV n ad K (vL v) w) (h' : lv_has L' ls.length ((x, w) :: (sLv L).filter (fun q => !(q.1 == x) && (!(q.1 == x + 1) && !(q.1 + 1 == x && q.2.category == 2))))) : sL n ad K ((pm_set1 ls x (vL v)).set (x + 1) vO) L' := by
  have hlen0 : (pm_set1 ls x (vL v)).length = ls.length := by
    unfold pm_set1
    cases x with
    | zero => simp
    | succ z =>
      dsimp only
      split <;> simp
  refine ⟨h'.1.trans (by rw [List.length_set, hlen0]), h'.2.1, fun i u hi hu => ?_⟩
  by_cases e1 : i = x + 1
  · subst e1
    rw [List.getElem?_set_self (by rw [hlen0]; exact hx)] at hi
    cases hi
    exact absurd rfl hu
  · rw [List.getElem?_set_ne (Ne.symm e1)] at hi
    by_cases e0 : i = x
    · subst e0
      have hz : (pm_set1 ls i (vL v))[i]? = some (vL v) := by
        unfold pm_set1
        cases i with
        | zero => exact List.getElem?_set_self (by omega)
        | succ z =>
          dsimp only
          split
          · exact List.getElem?_set_self (by rw [List.length_set]; omega)
          · exact List.getElem?_set_self (by omega)
      rw [hz] at hi
      cases hi
      exact ⟨w, hv, h'.2.2 (i, w) List.mem_cons_self⟩
    · have hz : ls[i]? = some u ∧ ¬ (i + 1 = x ∧ pm_nl u = false) := by
        unfold pm_set1 at hi
        cases x with
        | zero =>
          dsimp only at hi
          rw [List.getElem?_set_ne (Ne.symm e0)] at hi
          exact ⟨hi, fun q => by omega⟩
        | succ z =>
          dsimp only at hi
          split at hi
          next q hq =>
            rw [List.getElem?_set_ne (Ne.symm e0)] at hi
            by_cases e2 : i = z
            · subst e2
              rw [List.getElem?_set_self (by omega)] at hi
              cases hi
              exact absurd rfl hu
            · rw [List.getElem?_set_ne (Ne.symm e2)] at hi
              exact ⟨hi, fun q => by omega⟩
          next hq =>
            rw [List.getElem?_set_ne (Ne.symm e0)] at hi
            refine ⟨hi, fun q => ?_⟩
            have e3 : i = z := by omega
            subst e3
            rcases u with a | a | a
            · exact Bool.noConfusion q.2
            · exact hq a hi
            · exact Bool.noConfusion q.2
      obtain ⟨w2, g1, g2⟩ := h.2.2 i u hz.1 hu
      refine ⟨w2, g1, h'.2.2 (i, w2) (List.mem_cons_of_mem _ (List.mem_filter.mpr ⟨sLv_mem.mpr g2, ?_⟩))⟩
      have c1 : (i == x) = false := beq_eq_false_iff_ne.mpr e0
      have c2 : (i == x + 1) = false := beq_eq_false_iff_ne.mpr e1
      rw [c1, c2]
      by_cases e : i + 1 = x
      · have hc : pm_nl u = true := by
          cases hz2 : pm_nl u with
          | true => rfl
          | false => exact absurd ⟨e, hz2⟩ hz.2
        have := sV_cat g1 hc
        simp [this]
      · simp [e]
