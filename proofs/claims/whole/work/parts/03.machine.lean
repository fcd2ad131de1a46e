/-! THE PURE MACHINE: the bytecode of the class, of the reference and of the law, run over whole numbers (Int) and a store 'cell, place ↦ number'. Instructions are numbers (group, kind, a, x, y). -/
abbrev pm_V : Type := Int ⊕ (Int ⊕ (Nat ⊕ Option Nat))
abbrev vI (x : Int) : pm_V := Sum.inl x
abbrev vL (x : Int) : pm_V := Sum.inr (Sum.inl x)
abbrev vR (k : Nat) : pm_V := Sum.inr (Sum.inr (Sum.inl k))
abbrev vS (i : Nat) : pm_V := Sum.inr (Sum.inr (Sum.inr (some i)))
abbrev vO : pm_V := Sum.inr (Sum.inr (Sum.inr none))
abbrev pm_I : Type := Nat × Nat × Int × Nat × Nat
/-- a cell's shape: its kind (class number; 100 int[], 101 boolean[], 102 long[], 103 int[][], 104 Image[]), its length, its references -/
abbrev pm_C : Type := Nat × Nat × List (Option Nat)
/-- cells made, slots made, the shapes, the script -/
abbrev pm_A : Type := Nat × Nat × List pm_C × (Nat × (Nat → Int))
abbrev pm_S : Type := Nat → Nat → Int
/-- what a method gives: a value or none, or the number of the class thrown -/
abbrev pm_O : Type := Option pm_V ⊕ Nat
abbrev pm_R : Type := pm_O × pm_A × pm_S
abbrev pm_F : Type := List pm_V × List pm_V × pm_A × pm_S
def wr (x : Int) : Int := (x + 2147483648) % 4294967296 - 2147483648
def wl (x : Int) : Int := (x + 9223372036854775808) % 18446744073709551616 - 9223372036854775808
def i_shl (p q : Int) : Int := (Int32.ofInt p <<< (Int32.ofInt q &&& 31)).toInt
def i_shr (p q : Int) : Int := (Int32.ofInt p >>> (Int32.ofInt q &&& 31)).toInt
def i_ushr (p q : Int) : Int := ((Int32.ofInt p).toUInt32 >>> ((Int32.ofInt q).toUInt32 &&& Int32.toUInt32 31)).toInt32.toInt
def i_and (p q : Int) : Int := (Int32.ofInt p &&& Int32.ofInt q).toInt
def i_or (p q : Int) : Int := (Int32.ofInt p ||| Int32.ofInt q).toInt
def i_xor (p q : Int) : Int := (Int32.ofInt p ^^^ Int32.ofInt q).toInt
def stv (σ : pm_S) (o k : Nat) (v : Int) : pm_S := fun o' k' => if o' = o ∧ k' = k then v else σ o' k'
/-- the contents of cell d, from dp on n places, become those of cell s from sp on -/
def cpy (σ : pm_S) (s sp d dp n : Nat) : pm_S := fun o k => if o = d ∧ dp ≤ k ∧ k < dp + n then σ s (sp + (k - dp)) else σ o k
/-- fresh cells hold 0 -/
def zer (σ : pm_S) (lo hi : Nat) : pm_S := fun o k => if lo ≤ o ∧ o < hi then 0 else σ o k
def pm_kd (A : pm_A) (o : Nat) : Nat := match A.2.2.1[o]? with
  | some c => c.1
  | none => 999
def pm_nl : pm_V → Bool
  | .inr (.inl _) => false
  | _ => true
def pm_set1 (ls : List pm_V) (x : Nat) (v : pm_V) : List pm_V :=
  match x with
  | 0 => ls.set 0 v
  | z + 1 => match ls[z]? with
    | some (.inr (.inl _)) => (ls.set z vO).set (z + 1) v
    | _ => ls.set (z + 1) v
def pm_cat : List pm_V → Nat
  | [] => 0
  | .inr (.inl _) :: l => 2 + pm_cat l
  | _ :: l => 1 + pm_cat l
def pm_g0 (k : Nat) (a : Int) (x : Nat) (ls st : List pm_V) : Option (List pm_V × List pm_V) :=
  match k with
  | 0 => some (ls, vI a :: st)
  | 1 => match ls[x]? with
    | some (.inl v) => some (ls, .inl v :: st)
    | _ => none
  | 2 => match st with
    | .inl v :: st' => if x < ls.length then some (pm_set1 ls x (.inl v), st') else none
    | _ => none
  | 3 => match ls[x]? with
    | some (.inr (.inr (.inl o))) => some (ls, vR o :: st)
    | some (.inr (.inr (.inr (some i)))) => some (ls, vS i :: st)
    | _ => none
  | 4 => match st with
    | .inr (.inr v) :: st' => if x < ls.length then some (pm_set1 ls x (.inr (.inr v)), st') else none
    | _ => none
  | 5 => match ls[x]? with
    | some (.inr (.inl v)) => some (ls, vL v :: st)
    | _ => none
  | 6 => match st with
    | .inr (.inl v) :: st' => if x + 1 < ls.length then some ((pm_set1 ls x (vL v)).set (x + 1) vO, st') else none
    | _ => none
  | 7 => match ls[x]? with
    | some (.inl v) => some (ls.set x (vI (wr (v + a))), st)
    | _ => none
  | 8 => match st with
    | v :: st' => if pm_nl v then some (ls, v :: v :: st') else none
    | _ => none
  | 9 => match st with
    | v :: w :: st' => if pm_nl v && pm_nl w then some (ls, v :: w :: v :: w :: st') else none
    | _ => none
  | 10 => match st with
    | v :: st' => if pm_nl v then some (ls, st') else none
    | _ => none
  | 11 => some (ls, vL a :: st)
  | 12 => some (ls, vS x :: st)
  | _ => none
def pm_g1 (k : Nat) (p q : Int) : Option Int :=
  match k with
  | 0 => some (wr (p + q))
  | 1 => some (wr (p - q))
  | 2 => some (wr (p * q))
  | 3 => if q = 0 then none else some (wr (p.tdiv q))
  | 4 => if q = 0 then none else some (p.tmod q)
  | 6 => some (i_shl p q)
  | 7 => some (i_shr p q)
  | 8 => some (i_ushr p q)
  | 9 => some (i_and p q)
  | 10 => some (i_or p q)
  | 11 => some (i_xor p q)
  | 13 => some (min p q)
  | 14 => some (max p q)
  | _ => none
def pm_g2 (k : Nat) (p q : Int) : Option pm_V :=
  match k with
  | 0 => some (vL (wl (p + q)))
  | 1 => some (vL (wl (p * q)))
  | 2 => if q = 0 then none else some (vL (wl (p.tdiv q)))
  | 3 => if q = 0 then none else some (vL (p.tmod q))
  | 4 => some (vI (if p < q then -1 else if p = q then 0 else 1))
  | 5 => some (vL (max p q))
  | _ => none
def pm_ix (i : Int) (n : Nat) : Prop := 0 ≤ i ∧ i < (n : Int)
def pm_g4 (k : Nat) (x y : Nat) (st : List pm_V) (A : pm_A) (σ : pm_S) : Option (List pm_V × pm_A × pm_S) :=
  match k with
  | 0 => match st with
    | .inr (.inr (.inl o)) :: st' => match A.2.2.1[o]? with
      | some c => if c.1 = x ∧ y < c.2.1 then some (vI (σ o y) :: st', A, σ) else none
      | _ => none
    | _ => none
  | 1 => match st with
    | .inr (.inr (.inl o)) :: st' => match A.2.2.1[o]? with
      | some c => if c.1 = x ∧ y < c.2.1 then (match c.2.2[y]? with
        | some (some r) => some (vR r :: st', A, σ)
        | _ => none) else none
      | _ => none
    | _ => none
  | 2 => match st with
    | .inl v :: .inr (.inr (.inl o)) :: st' => match A.2.2.1[o]? with
      | some c => if c.1 = x ∧ y < c.2.1 then some (st', A, stv σ o y v) else none
      | _ => none
    | _ => none
  | 3 => match st with
    | .inl v :: .inr (.inr (.inl o)) :: st' => match A.2.2.1[o]? with
      | some c => if c.1 = x ∧ y < c.2.1 ∧ (v = 0 ∨ v = 1) then some (st', A, stv σ o y v) else none
      | _ => none
    | _ => none
  | 4 => match st with
    | .inr (.inr (.inl r)) :: .inr (.inr (.inl o)) :: st' => match A.2.2.1[o]? with
      | some c => if c.1 = x ∧ y < c.2.1 ∧ r < A.2.2.1.length then some (st', (A.1, A.2.1, A.2.2.1.set o (c.1, c.2.1, c.2.2.set y (some r)), A.2.2.2), σ) else none
      | _ => none
    | _ => none
  | _ => none
def pm_g5 (k : Nat) (st : List pm_V) (A : pm_A) (σ : pm_S) : Option (List pm_V × pm_A × pm_S) :=
  match k with
  | 0 => match st with
    | .inl i :: .inr (.inr (.inl o)) :: st' => match A.2.2.1[o]? with
      | some c => if c.1 = 100 ∧ 0 ≤ i ∧ i < (c.2.1 : Int) then some (vI (σ o i.toNat) :: st', A, σ) else none
      | _ => none
    | .inl i :: .inr (.inr (.inr (some z))) :: st' => if z = 99 ∧ 0 ≤ i ∧ i < (A.2.2.2.1 : Int) then some (vI (A.2.2.2.2 i.toNat) :: st', A, σ) else none
    | _ => none
  | 1 => match st with
    | .inl v :: .inl i :: .inr (.inr (.inl o)) :: st' => match A.2.2.1[o]? with
      | some c => if c.1 = 100 ∧ 0 ≤ i ∧ i < (c.2.1 : Int) then some (st', A, stv σ o i.toNat v) else none
      | _ => none
    | _ => none
  | 2 => match st with
    | .inl i :: .inr (.inr (.inl o)) :: st' => match A.2.2.1[o]? with
      | some c => if c.1 = 101 ∧ 0 ≤ i ∧ i < (c.2.1 : Int) then some (vI (σ o i.toNat) :: st', A, σ) else none
      | _ => none
    | _ => none
  | 3 => match st with
    | .inl v :: .inl i :: .inr (.inr (.inl o)) :: st' => match A.2.2.1[o]? with
      | some c => if c.1 = 101 ∧ 0 ≤ i ∧ i < (c.2.1 : Int) ∧ (v = 0 ∨ v = 1) then some (st', A, stv σ o i.toNat v) else none
      | _ => none
    | _ => none
  | 4 => match st with
    | .inl i :: .inr (.inr (.inl o)) :: st' => match A.2.2.1[o]? with
      | some c => if c.1 = 102 ∧ 0 ≤ i ∧ i < (c.2.1 : Int) then some (vL (σ o i.toNat) :: st', A, σ) else none
      | _ => none
    | _ => none
  | 5 => match st with
    | .inr (.inl v) :: .inl i :: .inr (.inr (.inl o)) :: st' => match A.2.2.1[o]? with
      | some c => if c.1 = 102 ∧ 0 ≤ i ∧ i < (c.2.1 : Int) then some (st', A, stv σ o i.toNat v) else none
      | _ => none
    | _ => none
  | 6 => match st with
    | .inl i :: .inr (.inr (.inl o)) :: st' => match A.2.2.1[o]? with
      | some c => if (c.1 = 103 ∨ c.1 = 104) ∧ 0 ≤ i ∧ i < (c.2.1 : Int) then (match c.2.2[i.toNat]? with
        | some (some r) => some (vR r :: st', A, σ)
        | _ => none) else none
      | _ => none
    | _ => none
  | 7 => match st with
    | .inr (.inr (.inl r)) :: .inl i :: .inr (.inr (.inl o)) :: st' => match A.2.2.1[o]?, A.2.2.1[r]? with
      | some c, some e => if c.1 = 104 ∧ e.1 = 1 ∧ 0 ≤ i ∧ i < (c.2.1 : Int) then some (st', (A.1, A.2.1, A.2.2.1.set o (c.1, c.2.1, c.2.2.set i.toNat (some r)), A.2.2.2), σ) else none
      | _, _ => none
    | _ => none
  | 8 => match st with
    | .inr (.inr (.inl o)) :: st' => match A.2.2.1[o]? with
      | some c => if 100 ≤ c.1 ∧ c.2.1 < 2147483648 then some (vI (c.2.1 : Int) :: st', A, σ) else none
      | _ => none
    | .inr (.inr (.inr (some z))) :: st' => if z = 99 ∧ A.2.2.2.1 < 2147483648 then some (vI (A.2.2.2.1 : Int) :: st', A, σ) else none
    | _ => none
  | 9 => match st with
    | .inl n :: .inl dp :: .inr (.inr (.inl d)) :: .inl sp :: .inr (.inr (.inl s)) :: st' => match A.2.2.1[s]?, A.2.2.1[d]? with
      | some c, some e => if c.1 = 100 ∧ e.1 = 100 ∧ s ≠ d ∧ 0 ≤ n ∧ 0 ≤ dp ∧ 0 ≤ sp ∧ sp + n ≤ (c.2.1 : Int) ∧ dp + n ≤ (e.2.1 : Int) then some (st', A, cpy σ s sp.toNat d dp.toNat n.toNat) else none
      | _, _ => none
    | _ => none
  | _ => none
/-- how many fields the classes have, and which of them are references -/
def pm_nf : List Nat := [3, 2, 3, 11, 2, 5, 5, 8, 11, 9, 3, 20, 50]
def pm_g6 (k : Nat) (x : Nat) (st : List pm_V) (A : pm_A) (σ : pm_S) : Option (List pm_V × pm_A × pm_S) :=
  match k with
  | 0 => match st with
    | .inl n :: st' => if 0 ≤ n ∧ n ≤ 65536 then some (vR A.2.2.1.length :: st', (A.1 + 1, A.2.1 + n.toNat, A.2.2.1 ++ [(x, n.toNat, [])], A.2.2.2), zer σ A.2.2.1.length (A.2.2.1.length + 1)) else none
    | _ => none
  | 1 => match st with
    | .inl n :: st' => if 0 ≤ n ∧ n ≤ 65536 then some (vR A.2.2.1.length :: st', (A.1 + 1, A.2.1 + n.toNat, A.2.2.1 ++ [(104, n.toNat, List.replicate n.toNat none)], A.2.2.2), σ) else none
    | _ => none
  | 2 => match st with
    | .inl m :: .inl n :: st' => if 0 ≤ n ∧ n ≤ 65536 ∧ 0 ≤ m ∧ m ≤ 65536 then
        some (vR A.2.2.1.length :: st', (A.1 + 1 + n.toNat, A.2.1 + n.toNat + n.toNat * m.toNat, (A.2.2.1 ++ [(103, n.toNat, (List.range n.toNat).map (fun i => some (A.2.2.1.length + 1 + i)))]) ++ List.replicate n.toNat (100, m.toNat, []), A.2.2.2), zer σ (A.2.2.1.length + 1) (A.2.2.1.length + 1 + n.toNat)) else none
    | _ => none
  | 3 => match pm_nf[x]? with
    | some f => some (vR A.2.2.1.length :: st, (A.1 + 1, A.2.1 + f, A.2.2.1 ++ [(x, f, List.replicate f none)], A.2.2.2), zer σ A.2.2.1.length (A.2.2.1.length + 1))
    | none => none
  | _ => none
def pm_g7 (T : List (List Nat)) (k : Nat) (st : List pm_V) : Option (List pm_V) :=
  match k with
  | 0 => match st with
    | .inr (.inr (.inr (some i))) :: st' => match T[i]? with
      | some t => some (vI (t.length : Int) :: st')
      | none => none
    | _ => none
  | 1 => match st with
    | .inl j :: .inr (.inr (.inr (some i))) :: st' => match T[i]? with
      | some t => if 0 ≤ j ∧ j < (t.length : Int) then some (vI ((t.getD j.toNat 0 : Nat) : Int) :: st') else none
      | none => none
    | _ => none
  | 2 => match st with
    | .inr (.inr (.inl _)) :: st' => some st'
    | _ => none
  | _ => none
/-- a straight step -/
def pm_stp (T : List (List Nat)) (g k : Nat) (a : Int) (x y : Nat) (ls st : List pm_V) (A : pm_A) (σ : pm_S) : Option pm_F :=
  match g with
  | 0 => (pm_g0 k a x ls st).map fun r => (r.1, r.2, A, σ)
  | 1 => match k with
    | 5 => match st with
      | .inl p :: st' => some (ls, vI (wr (-p)) :: st', A, σ)
      | _ => none
    | 12 => match st with
      | .inl p :: st' => some (ls, vL p :: st', A, σ)
      | _ => none
    | _ => match st with
      | .inl q :: .inl p :: st' => (pm_g1 k p q).map fun r => (ls, vI r :: st', A, σ)
      | _ => none
  | 2 => match st with
    | .inr (.inl q) :: .inr (.inl p) :: st' => (pm_g2 k p q).map fun r => (ls, r :: st', A, σ)
    | _ => none
  | 4 => (pm_g4 k x y st A σ).map fun r => (ls, r)
  | 5 => (pm_g5 k st A σ).map fun r => (ls, r)
  | 6 => (pm_g6 k x st A σ).map fun r => (ls, r)
  | 7 => (pm_g7 T k st).map fun r => (ls, r, A, σ)
  | _ => none
def pm_cnd (k : Nat) (p q : Int) : Bool :=
  match k with
  | 0 => decide (p = q)
  | 1 => decide (p ≠ q)
  | 2 => decide (p < q)
  | 3 => decide (q ≤ p)
  | 4 => decide (q < p)
  | _ => decide (p ≤ q)
def pm_sw : List (Int × Nat) → Nat → Int → Nat
  | [], d, _ => d
  | (k, t) :: l, d, v => if v = k then t else pm_sw l d v
def pm_hd : List (Nat × Nat) → Nat → Option Nat
  | [], _ => none
  | (c, t) :: l, e => if e = c then some t else pm_hd l e
/-- a jump: none of them: it goes on -/
def pm_jmp (W : List (List (Int × Nat) × Nat)) (k : Nat) (x y : Nat) (st : List pm_V) : Option (Option Nat × List pm_V) :=
  match k with
  | 0 => some (some x, st)
  | 1 => match st with
    | .inl p :: st' => some (if pm_cnd y p 0 then some x else none, st')
    | _ => none
  | 2 => match st with
    | .inl q :: .inl p :: st' => some (if pm_cnd y p q then some x else none, st')
    | _ => none
  | 3 => match st, W[x]? with
    | .inl p :: st', some w => some (some (pm_sw w.1 w.2 p), st')
    | _, _ => none
  | _ => none
/-- the locals at a method's entry -/
def pm_in (n : Nat) (as : List pm_V) : List pm_V :=
  let l := as.flatMap fun v => if pm_nl v then [v] else [v, vO]
  l ++ List.replicate (n - l.length) vO
/-- the program: code and number of locals of each method, texts, switches, handlers -/
abbrev pm_P : Type := List (List pm_I × Nat) × List (List Nat) × List (List (Int × Nat) × Nat) × List (List (Nat × Nat))
def pm_ret (k x : Nat) (st : List pm_V) (A : pm_A) (σ : pm_S) : Option pm_R :=
  match k with
  | 0 => match st with
    | [.inl v] => some (.inl (some (vI v)), A, σ)
    | _ => none
  | 1 => match st with
    | [.inl v] => if v = 0 ∨ v = 1 then some (.inl (some (vI v)), A, σ) else none
    | _ => none
  | 2 => match st with
    | [.inr (.inl v)] => some (.inl (some (vL v)), A, σ)
    | _ => none
  | 3 => match st with
    | [] => some (.inl none, A, σ)
    | _ => none
  | 4 => if pm_cat st ≤ 8 then some (.inr x, (A.1 + 1, A.2.1 + 6, A.2.2), σ) else none
  | _ => none
abbrev pm_G : Type := Nat → List pm_I → List pm_I → List pm_V → List pm_V → pm_A → pm_S → Option pm_R
/-- a virtual call's receiver is of the class that the call names -/
def pm_rcv (k : Nat) (a : Int) (as : List pm_V) (A : pm_A) : Bool :=
  if k = 0 ∨ k = 3 then (match as with
    | .inr (.inr (.inl o)) :: _ => decide (pm_kd A o = a.toNat % 100)
    | _ => false) else if k = 2 ∨ k = 4 then (match as with
    | .inr (.inr (.inl _)) :: _ => true
    | _ => false) else true
/-- a call's own run, one frame deeper -/
def pm_cal (P : pm_P) (f : pm_G) (d x : Nat) (as : List pm_V) (A : pm_A) (σ : pm_S) : Option pm_R :=
  match d with
  | 0 => none
  | e + 1 => match P.1[x]? with
    | some c => if (pm_in c.2 as).length = c.2 then f e c.1 c.1 (pm_in c.2 as) [] A σ else none
    | none => none
/-- behind a call -/
def pm_aft (P : pm_P) (f : pm_G) (d : Nat) (C r : List pm_I) (k : Nat) (a : Int) (ls st : List pm_V) (q : pm_R) : Option pm_R :=
  match q.1 with
  | .inl v => f d C r ls (v.toList ++ st) q.2.1 q.2.2
  | .inr e => if k = 0 then (if a.toNat / 100 = 0 then some q else match pm_hd (P.2.2.2.getD (a.toNat / 100) []) e with
    | some t => f d C (C.drop t) ls [vO] q.2.1 q.2.2
    | none => none) else none
/-- steps that are calls of the machine's own methods: they want room -/
def pm_need (i : pm_I) : Bool := (i.1 == 1 && (i.2.1 == 13 || i.2.1 == 14)) || (i.1 == 2 && i.2.1 == 5) || (i.1 == 5 && i.2.1 == 9) || i.1 == 7
def pm_one (P : pm_P) (f : pm_G) (d : Nat) (C : List pm_I) (i : pm_I) (r : List pm_I) (ls st : List pm_V) (A : pm_A) (σ : pm_S) : Option pm_R :=
  if i.1 = 3 then
    (pm_jmp P.2.2.1 i.2.1 i.2.2.2.1 i.2.2.2.2 st).bind fun q => match q.1 with
      | some t => f d C (C.drop t) ls q.2 A σ
      | none => f d C r ls q.2 A σ
  else if i.1 = 8 then
    if i.2.2.2.2 ≤ st.length ∧ pm_cat (st.drop i.2.2.2.2) ≤ 8 ∧ pm_rcv i.2.1 i.2.2.1 (st.take i.2.2.2.2).reverse A = true then
      (pm_cal P f d i.2.2.2.1 (st.take i.2.2.2.2).reverse A σ).bind fun q => pm_aft P f d C r i.2.1 i.2.2.1 ls (st.drop i.2.2.2.2) q
    else none
  else if i.1 = 9 then pm_ret i.2.1 i.2.2.2.1 st A σ
  else if (pm_need i && decide (9 < pm_cat st)) = true then none
  else (pm_stp P.2.1 i.1 i.2.1 i.2.2.1 i.2.2.2.1 i.2.2.2.2 ls st A σ).bind fun q => f d C r q.1 q.2.1 q.2.2.1 q.2.2.2
def pm_x (P : pm_P) : Nat → pm_G
  | 0 => fun _ _ _ _ _ _ _ => none
  | n + 1 => fun d C is ls st A σ => match is with
    | [] => none
    | i :: r => pm_one P (pm_x P n) d C i r ls st A σ
theorem pm_x_cons (P : pm_P) (n d : Nat) (C : List pm_I) (i : pm_I) (r : List pm_I) (ls st : List pm_V) (A : pm_A) (σ : pm_S) : pm_x P (n + 1) d C (i :: r) ls st A σ = pm_one P (pm_x P n) d C i r ls st A σ := rfl
def pm_le (f g : pm_G) : Prop := ∀ d C is ls st A σ r, f d C is ls st A σ = some r → g d C is ls st A σ = some r
theorem pm_cal_le {P : pm_P} {f g : pm_G} (h : pm_le f g) {d x as A σ r} (e : pm_cal P f d x as A σ = some r) : pm_cal P g d x as A σ = some r := by
  unfold pm_cal at e ⊢
  cases d with
  | zero => cases e
  | succ d =>
    dsimp only at e ⊢
    cases hm : P.1[x]? with
    | none => rw [hm] at e; cases e
    | some c =>
      rw [hm] at e
      dsimp only at e ⊢
      by_cases hz : (pm_in c.2 as).length = c.2
      · rw [if_pos hz] at e ⊢; exact h _ _ _ _ _ _ _ _ e
      · rw [if_neg hz] at e; cases e
theorem pm_aft_le {P : pm_P} {f g : pm_G} (h : pm_le f g) {d C r k a ls st q v} (e : pm_aft P f d C r k a ls st q = some v) : pm_aft P g d C r k a ls st q = some v := by
  unfold pm_aft at e ⊢
  obtain ⟨o, A, σ⟩ := q
  cases o with
  | inl w => exact h _ _ _ _ _ _ _ _ e
  | inr w =>
    dsimp only at e ⊢
    by_cases hk : k = 0
    · rw [if_pos hk] at e ⊢
      by_cases hz : a.toNat / 100 = 0
      · rw [if_pos hz] at e ⊢; exact e
      · rw [if_neg hz] at e ⊢
        cases hh : pm_hd (P.2.2.2.getD (a.toNat / 100) []) w with
        | none => rw [hh] at e; cases e
        | some t => rw [hh] at e; exact h _ _ _ _ _ _ _ _ e
    · rw [if_neg hk] at e; cases e
theorem pm_one_le {P : pm_P} {f g : pm_G} (h : pm_le f g) {d C i r ls st A σ v} (e : pm_one P f d C i r ls st A σ = some v) : pm_one P g d C i r ls st A σ = some v := by
  unfold pm_one at e ⊢
  by_cases h3 : i.1 = 3
  · rw [if_pos h3] at e ⊢
    obtain ⟨⟨t, st'⟩, e1, e2⟩ := Option.bind_eq_some_iff.mp e
    refine Option.bind_eq_some_iff.mpr ⟨_, e1, ?_⟩
    cases t with
    | none => exact h _ _ _ _ _ _ _ _ e2
    | some t => exact h _ _ _ _ _ _ _ _ e2
  · rw [if_neg h3] at e ⊢
    by_cases h8 : i.1 = 8
    · rw [if_pos h8] at e ⊢
      by_cases hc : i.2.2.2.2 ≤ st.length ∧ pm_cat (st.drop i.2.2.2.2) ≤ 8 ∧ pm_rcv i.2.1 i.2.2.1 (st.take i.2.2.2.2).reverse A = true
      · rw [if_pos hc] at e ⊢
        obtain ⟨q, e1, e2⟩ := Option.bind_eq_some_iff.mp e
        exact Option.bind_eq_some_iff.mpr ⟨q, pm_cal_le h e1, pm_aft_le h e2⟩
      · rw [if_neg hc] at e; cases e
    · rw [if_neg h8] at e ⊢
      by_cases h9 : i.1 = 9
      · rw [if_pos h9] at e ⊢; exact e
      · rw [if_neg h9] at e ⊢
        by_cases hd : (pm_need i && decide (9 < pm_cat st)) = true
        · rw [if_pos hd] at e; cases e
        · rw [if_neg hd] at e ⊢
          obtain ⟨q, e1, e2⟩ := Option.bind_eq_some_iff.mp e
          exact Option.bind_eq_some_iff.mpr ⟨q, e1, h _ _ _ _ _ _ _ _ e2⟩
theorem pm_mono (P : pm_P) : ∀ n, pm_le (pm_x P n) (pm_x P (n + 1))
  | 0 => fun _ _ _ _ _ _ _ _ h => by cases h
  | n + 1 => fun d C is ls st A σ r h => by
    cases is with
    | nil => cases h
    | cons i is => exact pm_one_le (pm_mono P n) h
theorem pm_mono_le (P : pm_P) {n m : Nat} (hn : n ≤ m) : pm_le (pm_x P n) (pm_x P m) := by
  induction hn with
  | refl => exact fun _ _ _ _ _ _ _ _ h => h
  | step _ ih => exact fun _ _ _ _ _ _ _ _ h => pm_mono P _ _ _ _ _ _ _ _ _ (ih _ _ _ _ _ _ _ _ h)
/-- what all the runs come to -/
noncomputable def pm_E (P : pm_P) : pm_G := fun d C is ls st A σ => Classical.epsilon fun o => (∃ n, o = pm_x P n d C is ls st A σ ∧ o ≠ none) ∨ (o = none ∧ ∀ n, pm_x P n d C is ls st A σ = none)
theorem pm_E_iff {P : pm_P} {d C is ls st A σ r} : pm_E P d C is ls st A σ = some r ↔ ∃ n, pm_x P n d C is ls st A σ = some r := by
  have hex : ∃ o : Option pm_R, (∃ n, o = pm_x P n d C is ls st A σ ∧ o ≠ none) ∨ (o = none ∧ ∀ n, pm_x P n d C is ls st A σ = none) := by
    by_cases h : ∃ n, pm_x P n d C is ls st A σ ≠ none
    · obtain ⟨n, hn⟩ := h
      exact ⟨_, Or.inl ⟨n, rfl, hn⟩⟩
    · exact ⟨none, Or.inr ⟨rfl, fun n => Classical.byContradiction fun q => h ⟨n, q⟩⟩⟩
  have sp := Classical.epsilon_spec hex
  change (∃ n, pm_E P d C is ls st A σ = pm_x P n d C is ls st A σ ∧ pm_E P d C is ls st A σ ≠ none) ∨ (pm_E P d C is ls st A σ = none ∧ ∀ n, pm_x P n d C is ls st A σ = none) at sp
  constructor
  · intro h
    rcases sp with ⟨n, e, -⟩ | ⟨e, -⟩
    · exact ⟨n, e.symm.trans h⟩
    · rw [e] at h; cases h
  · rintro ⟨n, h⟩
    rcases sp with ⟨m, e, hne⟩ | ⟨-, e⟩
    · cases hm : pm_x P m d C is ls st A σ with
      | none => rw [hm] at e; exact absurd e hne
      | some r' =>
        have h1 := pm_mono_le P (Nat.le_max_left n m) _ _ _ _ _ _ _ _ h
        have h2 := pm_mono_le P (Nat.le_max_right n m) _ _ _ _ _ _ _ _ hm
        rw [h1] at h2
        rw [e, hm, h2]
    · rw [e n] at h; cases h
theorem pm_opt {α : Type} {x y : Option α} (h : ∀ r, x = some r ↔ y = some r) : x = y := by
  cases x with
  | none => cases y with
    | none => rfl
    | some b => exact absurd ((h b).mpr rfl) (by simp)
  | some a => exact ((h a).mp rfl).symm
theorem pm_one_E {P : pm_P} {d C i r ls st A σ v} : pm_one P (pm_E P) d C i r ls st A σ = some v ↔ ∃ n, pm_one P (pm_x P n) d C i r ls st A σ = some v := by
  have le : ∀ n, pm_le (pm_x P n) (pm_E P) := fun n _ _ _ _ _ _ _ _ h => pm_E_iff.mpr ⟨n, h⟩
  refine ⟨fun e => ?_, fun ⟨n, h⟩ => pm_one_le (le n) h⟩
  unfold pm_one at e
  by_cases h3 : i.1 = 3
  · rw [if_pos h3] at e
    obtain ⟨⟨t, st'⟩, e1, e2⟩ := Option.bind_eq_some_iff.mp e
    cases t with
    | none =>
      obtain ⟨n, hn⟩ := pm_E_iff.mp e2
      exact ⟨n, by unfold pm_one; rw [if_pos h3]; exact Option.bind_eq_some_iff.mpr ⟨_, e1, hn⟩⟩
    | some t =>
      obtain ⟨n, hn⟩ := pm_E_iff.mp e2
      exact ⟨n, by unfold pm_one; rw [if_pos h3]; exact Option.bind_eq_some_iff.mpr ⟨_, e1, hn⟩⟩
  · rw [if_neg h3] at e
    by_cases h8 : i.1 = 8
    · rw [if_pos h8] at e
      by_cases hc : i.2.2.2.2 ≤ st.length ∧ pm_cat (st.drop i.2.2.2.2) ≤ 8 ∧ pm_rcv i.2.1 i.2.2.1 (st.take i.2.2.2.2).reverse A = true
      · rw [if_pos hc] at e
        obtain ⟨q, e1, e2⟩ := Option.bind_eq_some_iff.mp e
        have c1 : ∃ n, pm_cal P (pm_x P n) d i.2.2.2.1 (st.take i.2.2.2.2).reverse A σ = some q := by
          unfold pm_cal at e1 ⊢
          cases d with
          | zero => cases e1
          | succ d =>
            dsimp only at e1 ⊢
            cases hm : P.1[i.2.2.2.1]? with
            | none => rw [hm] at e1; cases e1
            | some c =>
              rw [hm] at e1
              dsimp only at e1 ⊢
              by_cases hz : (pm_in c.2 (st.take i.2.2.2.2).reverse).length = c.2
              · rw [if_pos hz] at e1
                obtain ⟨n, hn⟩ := pm_E_iff.mp e1
                exact ⟨n, by rw [if_pos hz]; exact hn⟩
              · rw [if_neg hz] at e1; cases e1
        have c2 : ∃ n, pm_aft P (pm_x P n) d C r i.2.1 i.2.2.1 ls (st.drop i.2.2.2.2) q = some v := by
          unfold pm_aft at e2 ⊢
          obtain ⟨o, A', σ'⟩ := q
          cases o with
          | inl w => exact pm_E_iff.mp e2
          | inr w =>
            dsimp only at e2 ⊢
            by_cases hk : i.2.1 = 0
            · simp only [if_pos hk] at e2 ⊢
              by_cases hz : i.2.2.1.toNat / 100 = 0
              · rw [if_pos hz] at e2
                exact ⟨0, by rw [if_pos hz]; exact e2⟩
              · rw [if_neg hz] at e2
                cases hh : pm_hd (P.2.2.2.getD (i.2.2.1.toNat / 100) []) w with
                | none => rw [hh] at e2; cases e2
                | some t =>
                  rw [hh] at e2
                  obtain ⟨n, hn⟩ := pm_E_iff.mp e2
                  exact ⟨n, by rw [if_neg hz]; exact hn⟩
            · rw [if_neg hk] at e2; cases e2
        obtain ⟨n, hn⟩ := c1
        obtain ⟨m, hm⟩ := c2
        refine ⟨max n m, ?_⟩
        unfold pm_one
        rw [if_neg h3, if_pos h8, if_pos hc]
        exact Option.bind_eq_some_iff.mpr ⟨q, pm_cal_le (pm_mono_le P (Nat.le_max_left n m)) hn, pm_aft_le (pm_mono_le P (Nat.le_max_right n m)) hm⟩
      · rw [if_neg hc] at e; cases e
    · rw [if_neg h8] at e
      by_cases h9 : i.1 = 9
      · rw [if_pos h9] at e
        exact ⟨0, by unfold pm_one; rw [if_neg h3, if_neg h8, if_pos h9]; exact e⟩
      · rw [if_neg h9] at e
        by_cases hd : (pm_need i && decide (9 < pm_cat st)) = true
        · rw [if_pos hd] at e; cases e
        · rw [if_neg hd] at e
          obtain ⟨q, e1, e2⟩ := Option.bind_eq_some_iff.mp e
          obtain ⟨n, hn⟩ := pm_E_iff.mp e2
          exact ⟨n, by unfold pm_one; rw [if_neg h3, if_neg h8, if_neg h9, if_neg hd]; exact Option.bind_eq_some_iff.mpr ⟨q, e1, hn⟩⟩
/-- the equation -/
theorem pm_E_cons (P : pm_P) (d : Nat) (C : List pm_I) (i : pm_I) (r : List pm_I) (ls st : List pm_V) (A : pm_A) (σ : pm_S) : pm_E P d C (i :: r) ls st A σ = pm_one P (pm_E P) d C i r ls st A σ := by
  refine pm_opt fun v => ?_
  rw [pm_E_iff, pm_one_E]
  constructor
  · rintro ⟨n, h⟩
    cases n with
    | zero => cases h
    | succ n => exact ⟨n, h⟩
  · rintro ⟨n, h⟩
    exact ⟨n + 1, h⟩
