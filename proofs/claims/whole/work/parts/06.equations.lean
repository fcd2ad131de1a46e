/-! the machine's equations, one an instruction -/
theorem ex_cons (d : Nat) (C : List pm_I) (i : pm_I) (r : List pm_I) (ls st : List pm_V) (A : pm_A) (σ : pm_S) : ex d C (i :: r) ls st A σ = pm_one pP ex d C i r ls st A σ := pm_E_cons pP d C i r ls st A σ
theorem ex_g0 {d : Nat} {C r : List pm_I} {k : Nat} {a : Int} {x y : Nat} {ls st ls' st' : List pm_V} {A : pm_A} {σ : pm_S} (h : pm_g0 k a x ls st = some (ls', st')) : ex d C ((0,k,a,x,y) :: r) ls st A σ = ex d C r ls' st' A σ := by
  rw [ex_cons]
  show ((pm_g0 k a x ls st).map fun r => (r.1, r.2, A, σ)).bind _ = _
  rw [h]
  rfl
theorem ex_stp {d : Nat} {C r : List pm_I} {i : pm_I} {ls st ls' st' : List pm_V} {A A' : pm_A} {σ σ' : pm_S} (h3 : i.1 ≠ 3) (h8 : i.1 ≠ 8) (h9 : i.1 ≠ 9) (hn : (pm_need i && decide (9 < pm_cat st)) = false) (h : pm_stp pm_tx i.1 i.2.1 i.2.2.1 i.2.2.2.1 i.2.2.2.2 ls st A σ = some (ls', st', A', σ')) : ex d C (i :: r) ls st A σ = ex d C r ls' st' A' σ' := by
  rw [ex_cons]
  unfold pm_one
  rw [if_neg h3, if_neg h8, if_neg h9, if_neg (by rw [hn]; decide)]
  show (pm_stp pm_tx i.1 i.2.1 i.2.2.1 i.2.2.2.1 i.2.2.2.2 ls st A σ).bind _ = _
  rw [h]
  rfl
theorem pm_nd {b : Bool} {st : List pm_V} (h : pm_cat st ≤ 9) : (b && decide (9 < pm_cat st)) = false := by
  rw [decide_eq_false (by omega), Bool.and_false]
theorem ex_jT {d : Nat} {C r : List pm_I} {k : Nat} {a : Int} {x y t : Nat} {ls st st' : List pm_V} {A : pm_A} {σ : pm_S} (h : pm_jmp pm_ws k x y st = some (some t, st')) : ex d C ((3,k,a,x,y) :: r) ls st A σ = ex d C (C.drop t) ls st' A σ := by
  rw [ex_cons]
  unfold pm_one
  rw [if_pos rfl]
  show (pm_jmp pm_ws k x y st).bind _ = _
  rw [h]
  rfl
theorem ex_jF {d : Nat} {C r : List pm_I} {k : Nat} {a : Int} {x y : Nat} {ls st st' : List pm_V} {A : pm_A} {σ : pm_S} (h : pm_jmp pm_ws k x y st = some (none, st')) : ex d C ((3,k,a,x,y) :: r) ls st A σ = ex d C r ls st' A σ := by
  rw [ex_cons]
  unfold pm_one
  rw [if_pos rfl]
  show (pm_jmp pm_ws k x y st).bind _ = _
  rw [h]
  rfl
theorem pm_cd_T {b : Bool} {t : Nat} (h : b = true) : (if b = true then some t else none) = some t := if_pos h
theorem pm_cd_F {b : Bool} {t : Nat} (h : b = false) : (if b = true then some t else none) = none := if_neg (by rw [h]; decide)
def pm_ln (A : pm_A) (o : Nat) : Nat := match A.2.2.1[o]? with
  | some c => c.2.1
  | none => 0
def pm_rb (A : pm_A) (o k : Nat) : Bool := match A.2.2.1[o]? with
  | some c => match c.2.2[k]? with
    | some (some _) => true
    | _ => false
  | none => false
def pm_rf (A : pm_A) (o k : Nat) : Nat := match A.2.2.1[o]? with
  | some c => match c.2.2[k]? with
    | some (some r) => r
    | _ => 0
  | none => 0
noncomputable def pm_then (q : Option pm_R) (d : Nat) (C r : List pm_I) (k : Nat) (h : Int) (ls st : List pm_V) : Option pm_R := q.bind fun q => pm_aft pP ex d C r k h ls st q
theorem pm_kd_some {A : pm_A} {o x : Nat} (hx : x ≠ 999) (h : pm_kd A o = x) : ∃ c, A.2.2.1[o]? = some c ∧ c.1 = x := by
  unfold pm_kd at h
  cases hc : A.2.2.1[o]? with
  | none => rw [hc] at h; exact absurd h.symm hx
  | some c => rw [hc] at h; exact ⟨c, rfl, h⟩
theorem pm_ln_some {A : pm_A} {o n : Nat} {c : pm_C} (hc : A.2.2.1[o]? = some c) (h : pm_ln A o = n) : c.2.1 = n := by
  unfold pm_ln at h
  rw [hc] at h
  exact h
theorem pm_nl_I (x : Int) : pm_nl (vI x) = true := rfl
theorem pm_nl_R (x : Nat) : pm_nl (vR x) = true := rfl
theorem pm_nl_S (x : Nat) : pm_nl (vS x) = true := rfl
theorem pm_nl_O : pm_nl vO = true := rfl
theorem pm_cat_nil : pm_cat [] = 0 := rfl
theorem pm_cat_I (x : Int) (l : List pm_V) : pm_cat (vI x :: l) = 1 + pm_cat l := rfl
theorem pm_cat_R (x : Nat) (l : List pm_V) : pm_cat (vR x :: l) = 1 + pm_cat l := rfl
theorem pm_cat_S (x : Nat) (l : List pm_V) : pm_cat (vS x :: l) = 1 + pm_cat l := rfl
theorem pm_cat_L (x : Int) (l : List pm_V) : pm_cat (vL x :: l) = 2 + pm_cat l := rfl
theorem pm_then_v (v : pm_V) (A : pm_A) (σ : pm_S) (d : Nat) (C r : List pm_I) (k : Nat) (h : Int) (ls st : List pm_V) : pm_then (some (.inl (some v), A, σ)) d C r k h ls st = ex d C r ls (v :: st) A σ := rfl
theorem pm_then_n (A : pm_A) (σ : pm_S) (d : Nat) (C r : List pm_I) (k : Nat) (h : Int) (ls st : List pm_V) : pm_then (some (.inl none, A, σ)) d C r k h ls st = ex d C r ls st A σ := rfl
theorem pm_then_x (e : Nat) (A : pm_A) (σ : pm_S) (d : Nat) (C r : List pm_I) (h : Int) (hh : h.toNat / 100 = 0) (ls st : List pm_V) : pm_then (some (.inr e, A, σ)) d C r 0 h ls st = some (.inr e, A, σ) := by show (if (0 : Nat) = 0 then (if h.toNat / 100 = 0 then _ else _) else none : Option pm_R) = _; rw [if_pos rfl, if_pos hh]
theorem pm_rcv_v {a : Int} {o : Nat} {l : List pm_V} {A : pm_A} (h : pm_kd A o = a.toNat % 100) : pm_rcv 0 a (vR o :: l) A = true := decide_eq_true h
theorem pm_rcv_n {a : Int} {o : Nat} {l : List pm_V} {A : pm_A} (h : pm_kd A o = a.toNat % 100) : pm_rcv 3 a (vR o :: l) A = true := decide_eq_true h
theorem pm_rcv_1 {a : Int} {l : List pm_V} {A : pm_A} : pm_rcv 1 a l A = true := rfl
theorem pm_rcv_2 {a : Int} {o : Nat} {l : List pm_V} {A : pm_A} : pm_rcv 2 a (vR o :: l) A = true := rfl
theorem pm_rcv_4 {a : Int} {o : Nat} {l : List pm_V} {A : pm_A} : pm_rcv 4 a (vR o :: l) A = true := rfl
theorem pm_rcv_5 {a : Int} {l : List pm_V} {A : pm_A} : pm_rcv 5 a l A = true := rfl
theorem pm_set1_ok {ls : List pm_V} {z : Nat} {v w : pm_V} (h : ls[z]? = some w) (hn : pm_nl w = true) : pm_set1 ls (z + 1) v = ls.set (z + 1) v := by
  unfold pm_set1
  dsimp only
  rw [h]
  match w, hn with
  | .inl _, _ => rfl
  | .inr (.inr _), _ => rfl
theorem e_const {d : Nat} {C r : List pm_I} {a : Int} {x y : Nat} {ls st : List pm_V} {A : pm_A} {σ : pm_S} : ex d C ((0,0,a,x,y) :: r) ls st A σ = ex d C r ls (vI a :: st) A σ := by rw [ex_cons]; rfl
theorem e_lconst {d : Nat} {C r : List pm_I} {a : Int} {x y : Nat} {ls st : List pm_V} {A : pm_A} {σ : pm_S} : ex d C ((0,11,a,x,y) :: r) ls st A σ = ex d C r ls (vL a :: st) A σ := by rw [ex_cons]; rfl
theorem e_ldcs {d : Nat} {C r : List pm_I} {a : Int} {x y : Nat} {ls st : List pm_V} {A : pm_A} {σ : pm_S} : ex d C ((0,12,a,x,y) :: r) ls st A σ = ex d C r ls (vS x :: st) A σ := by rw [ex_cons]; rfl
theorem e_iload_0 {d : Nat} {C r : List pm_I} {a : Int} {y : Nat} {ls st : List pm_V} {A : pm_A} {σ : pm_S} {v : Int} : ex d C ((0,1,a,0,y) :: r) (vI v :: ls) st A σ = ex d C r (vI v :: ls) (vI v :: st) A σ := by rw [ex_cons]; rfl
theorem e_lload_0 {d : Nat} {C r : List pm_I} {a : Int} {y : Nat} {ls st : List pm_V} {A : pm_A} {σ : pm_S} {v : Int} : ex d C ((0,5,a,0,y) :: r) (vL v :: ls) st A σ = ex d C r (vL v :: ls) (vL v :: st) A σ := by rw [ex_cons]; rfl
theorem e_aload_0 {d : Nat} {C r : List pm_I} {a : Int} {y : Nat} {ls st : List pm_V} {A : pm_A} {σ : pm_S} {v : Nat} : ex d C ((0,3,a,0,y) :: r) (vR v :: ls) st A σ = ex d C r (vR v :: ls) (vR v :: st) A σ := by rw [ex_cons]; rfl
theorem e_sload_0 {d : Nat} {C r : List pm_I} {a : Int} {y : Nat} {ls st : List pm_V} {A : pm_A} {σ : pm_S} {v : Nat} : ex d C ((0,3,a,0,y) :: r) (vS v :: ls) st A σ = ex d C r (vS v :: ls) (vS v :: st) A σ := by rw [ex_cons]; rfl
theorem e_iinc_0 {d : Nat} {C r : List pm_I} {a : Int} {y : Nat} {ls st : List pm_V} {A : pm_A} {σ : pm_S} {v : Int} : ex d C ((0,7,a,0,y) :: r) (vI v :: ls) st A σ = ex d C r (vI (wr (v + a)) :: ls) st A σ := by rw [ex_cons]; rfl
theorem e_istore_0 {d : Nat} {C r : List pm_I} {a : Int} {y : Nat} {ls st : List pm_V} {A : pm_A} {σ : pm_S} {v : Int} {w : pm_V} : ex d C ((0,2,a,0,y) :: r) (w :: ls) (vI v :: st) A σ = ex d C r (vI v :: ls) st A σ := by
  refine ex_g0 ?_
  simp only [pm_g0]
  rw [if_pos (by simp only [List.length_cons]; omega)]
  rfl
theorem e_astore_0 {d : Nat} {C r : List pm_I} {a : Int} {y : Nat} {ls st : List pm_V} {A : pm_A} {σ : pm_S} {v : Nat ⊕ Option Nat} {w : pm_V} : ex d C ((0,4,a,0,y) :: r) (w :: ls) (Sum.inr (Sum.inr v) :: st) A σ = ex d C r (Sum.inr (Sum.inr v) :: ls) st A σ := by
  refine ex_g0 ?_
  simp only [pm_g0]
  rw [if_pos (by simp only [List.length_cons]; omega)]
  rfl
theorem e_lstore_0 {d : Nat} {C r : List pm_I} {a : Int} {y : Nat} {ls st : List pm_V} {A : pm_A} {σ : pm_S} {v : Int} {w w2 : pm_V} : ex d C ((0,6,a,0,y) :: r) (w :: w2 :: ls) (vL v :: st) A σ = ex d C r (vL v :: vO :: ls) st A σ := by
  refine ex_g0 ?_
  simp only [pm_g0]
  rw [if_pos (by simp only [List.length_cons]; omega)]
  rfl
theorem e_iload_1 {d : Nat} {C r : List pm_I} {a : Int} {y : Nat} {ls st : List pm_V} {A : pm_A} {σ : pm_S} {l0 : pm_V} {v : Int} : ex d C ((0,1,a,1,y) :: r) (l0 :: vI v :: ls) st A σ = ex d C r (l0 :: vI v :: ls) (vI v :: st) A σ := by rw [ex_cons]; rfl
theorem e_lload_1 {d : Nat} {C r : List pm_I} {a : Int} {y : Nat} {ls st : List pm_V} {A : pm_A} {σ : pm_S} {l0 : pm_V} {v : Int} : ex d C ((0,5,a,1,y) :: r) (l0 :: vL v :: ls) st A σ = ex d C r (l0 :: vL v :: ls) (vL v :: st) A σ := by rw [ex_cons]; rfl
theorem e_aload_1 {d : Nat} {C r : List pm_I} {a : Int} {y : Nat} {ls st : List pm_V} {A : pm_A} {σ : pm_S} {l0 : pm_V} {v : Nat} : ex d C ((0,3,a,1,y) :: r) (l0 :: vR v :: ls) st A σ = ex d C r (l0 :: vR v :: ls) (vR v :: st) A σ := by rw [ex_cons]; rfl
theorem e_sload_1 {d : Nat} {C r : List pm_I} {a : Int} {y : Nat} {ls st : List pm_V} {A : pm_A} {σ : pm_S} {l0 : pm_V} {v : Nat} : ex d C ((0,3,a,1,y) :: r) (l0 :: vS v :: ls) st A σ = ex d C r (l0 :: vS v :: ls) (vS v :: st) A σ := by rw [ex_cons]; rfl
theorem e_iinc_1 {d : Nat} {C r : List pm_I} {a : Int} {y : Nat} {ls st : List pm_V} {A : pm_A} {σ : pm_S} {l0 : pm_V} {v : Int} : ex d C ((0,7,a,1,y) :: r) (l0 :: vI v :: ls) st A σ = ex d C r (l0 :: vI (wr (v + a)) :: ls) st A σ := by rw [ex_cons]; rfl
theorem e_istore_1 {d : Nat} {C r : List pm_I} {a : Int} {y : Nat} {ls st : List pm_V} {A : pm_A} {σ : pm_S} {l0 : pm_V} {v : Int} {w : pm_V} (hn : pm_nl l0 = true) : ex d C ((0,2,a,1,y) :: r) (l0 :: w :: ls) (vI v :: st) A σ = ex d C r (l0 :: vI v :: ls) st A σ := by
  refine ex_g0 ?_
  have h := pm_set1_ok (ls := l0 :: w :: ls) (z := 0) (v := vI v) (w := l0) rfl hn
  simp only [pm_g0]
  rw [if_pos (by simp only [List.length_cons]; omega), h]
  rfl
theorem e_astore_1 {d : Nat} {C r : List pm_I} {a : Int} {y : Nat} {ls st : List pm_V} {A : pm_A} {σ : pm_S} {l0 : pm_V} {v : Nat ⊕ Option Nat} {w : pm_V} (hn : pm_nl l0 = true) : ex d C ((0,4,a,1,y) :: r) (l0 :: w :: ls) (Sum.inr (Sum.inr v) :: st) A σ = ex d C r (l0 :: Sum.inr (Sum.inr v) :: ls) st A σ := by
  refine ex_g0 ?_
  have h := pm_set1_ok (ls := l0 :: w :: ls) (z := 0) (v := Sum.inr (Sum.inr v)) (w := l0) rfl hn
  simp only [pm_g0]
  rw [if_pos (by simp only [List.length_cons]; omega), h]
  rfl
theorem e_lstore_1 {d : Nat} {C r : List pm_I} {a : Int} {y : Nat} {ls st : List pm_V} {A : pm_A} {σ : pm_S} {l0 : pm_V} {v : Int} {w w2 : pm_V} (hn : pm_nl l0 = true) : ex d C ((0,6,a,1,y) :: r) (l0 :: w :: w2 :: ls) (vL v :: st) A σ = ex d C r (l0 :: vL v :: vO :: ls) st A σ := by
  refine ex_g0 ?_
  have h := pm_set1_ok (ls := l0 :: w :: w2 :: ls) (z := 0) (v := vL v) (w := l0) rfl hn
  simp only [pm_g0]
  rw [if_pos (by simp only [List.length_cons]; omega), h]
  rfl
theorem e_iload_2 {d : Nat} {C r : List pm_I} {a : Int} {y : Nat} {ls st : List pm_V} {A : pm_A} {σ : pm_S} {l0 l1 : pm_V} {v : Int} : ex d C ((0,1,a,2,y) :: r) (l0 :: l1 :: vI v :: ls) st A σ = ex d C r (l0 :: l1 :: vI v :: ls) (vI v :: st) A σ := by rw [ex_cons]; rfl
theorem e_lload_2 {d : Nat} {C r : List pm_I} {a : Int} {y : Nat} {ls st : List pm_V} {A : pm_A} {σ : pm_S} {l0 l1 : pm_V} {v : Int} : ex d C ((0,5,a,2,y) :: r) (l0 :: l1 :: vL v :: ls) st A σ = ex d C r (l0 :: l1 :: vL v :: ls) (vL v :: st) A σ := by rw [ex_cons]; rfl
theorem e_aload_2 {d : Nat} {C r : List pm_I} {a : Int} {y : Nat} {ls st : List pm_V} {A : pm_A} {σ : pm_S} {l0 l1 : pm_V} {v : Nat} : ex d C ((0,3,a,2,y) :: r) (l0 :: l1 :: vR v :: ls) st A σ = ex d C r (l0 :: l1 :: vR v :: ls) (vR v :: st) A σ := by rw [ex_cons]; rfl
theorem e_sload_2 {d : Nat} {C r : List pm_I} {a : Int} {y : Nat} {ls st : List pm_V} {A : pm_A} {σ : pm_S} {l0 l1 : pm_V} {v : Nat} : ex d C ((0,3,a,2,y) :: r) (l0 :: l1 :: vS v :: ls) st A σ = ex d C r (l0 :: l1 :: vS v :: ls) (vS v :: st) A σ := by rw [ex_cons]; rfl
theorem e_iinc_2 {d : Nat} {C r : List pm_I} {a : Int} {y : Nat} {ls st : List pm_V} {A : pm_A} {σ : pm_S} {l0 l1 : pm_V} {v : Int} : ex d C ((0,7,a,2,y) :: r) (l0 :: l1 :: vI v :: ls) st A σ = ex d C r (l0 :: l1 :: vI (wr (v + a)) :: ls) st A σ := by rw [ex_cons]; rfl
theorem e_istore_2 {d : Nat} {C r : List pm_I} {a : Int} {y : Nat} {ls st : List pm_V} {A : pm_A} {σ : pm_S} {l0 l1 : pm_V} {v : Int} {w : pm_V} (hn : pm_nl l1 = true) : ex d C ((0,2,a,2,y) :: r) (l0 :: l1 :: w :: ls) (vI v :: st) A σ = ex d C r (l0 :: l1 :: vI v :: ls) st A σ := by
  refine ex_g0 ?_
  have h := pm_set1_ok (ls := l0 :: l1 :: w :: ls) (z := 1) (v := vI v) (w := l1) rfl hn
  simp only [pm_g0]
  rw [if_pos (by simp only [List.length_cons]; omega), h]
  rfl
theorem e_astore_2 {d : Nat} {C r : List pm_I} {a : Int} {y : Nat} {ls st : List pm_V} {A : pm_A} {σ : pm_S} {l0 l1 : pm_V} {v : Nat ⊕ Option Nat} {w : pm_V} (hn : pm_nl l1 = true) : ex d C ((0,4,a,2,y) :: r) (l0 :: l1 :: w :: ls) (Sum.inr (Sum.inr v) :: st) A σ = ex d C r (l0 :: l1 :: Sum.inr (Sum.inr v) :: ls) st A σ := by
  refine ex_g0 ?_
  have h := pm_set1_ok (ls := l0 :: l1 :: w :: ls) (z := 1) (v := Sum.inr (Sum.inr v)) (w := l1) rfl hn
  simp only [pm_g0]
  rw [if_pos (by simp only [List.length_cons]; omega), h]
  rfl
theorem e_lstore_2 {d : Nat} {C r : List pm_I} {a : Int} {y : Nat} {ls st : List pm_V} {A : pm_A} {σ : pm_S} {l0 l1 : pm_V} {v : Int} {w w2 : pm_V} (hn : pm_nl l1 = true) : ex d C ((0,6,a,2,y) :: r) (l0 :: l1 :: w :: w2 :: ls) (vL v :: st) A σ = ex d C r (l0 :: l1 :: vL v :: vO :: ls) st A σ := by
  refine ex_g0 ?_
  have h := pm_set1_ok (ls := l0 :: l1 :: w :: w2 :: ls) (z := 1) (v := vL v) (w := l1) rfl hn
  simp only [pm_g0]
  rw [if_pos (by simp only [List.length_cons]; omega), h]
  rfl
theorem e_iload_3 {d : Nat} {C r : List pm_I} {a : Int} {y : Nat} {ls st : List pm_V} {A : pm_A} {σ : pm_S} {l0 l1 l2 : pm_V} {v : Int} : ex d C ((0,1,a,3,y) :: r) (l0 :: l1 :: l2 :: vI v :: ls) st A σ = ex d C r (l0 :: l1 :: l2 :: vI v :: ls) (vI v :: st) A σ := by rw [ex_cons]; rfl
theorem e_lload_3 {d : Nat} {C r : List pm_I} {a : Int} {y : Nat} {ls st : List pm_V} {A : pm_A} {σ : pm_S} {l0 l1 l2 : pm_V} {v : Int} : ex d C ((0,5,a,3,y) :: r) (l0 :: l1 :: l2 :: vL v :: ls) st A σ = ex d C r (l0 :: l1 :: l2 :: vL v :: ls) (vL v :: st) A σ := by rw [ex_cons]; rfl
theorem e_aload_3 {d : Nat} {C r : List pm_I} {a : Int} {y : Nat} {ls st : List pm_V} {A : pm_A} {σ : pm_S} {l0 l1 l2 : pm_V} {v : Nat} : ex d C ((0,3,a,3,y) :: r) (l0 :: l1 :: l2 :: vR v :: ls) st A σ = ex d C r (l0 :: l1 :: l2 :: vR v :: ls) (vR v :: st) A σ := by rw [ex_cons]; rfl
theorem e_sload_3 {d : Nat} {C r : List pm_I} {a : Int} {y : Nat} {ls st : List pm_V} {A : pm_A} {σ : pm_S} {l0 l1 l2 : pm_V} {v : Nat} : ex d C ((0,3,a,3,y) :: r) (l0 :: l1 :: l2 :: vS v :: ls) st A σ = ex d C r (l0 :: l1 :: l2 :: vS v :: ls) (vS v :: st) A σ := by rw [ex_cons]; rfl
theorem e_iinc_3 {d : Nat} {C r : List pm_I} {a : Int} {y : Nat} {ls st : List pm_V} {A : pm_A} {σ : pm_S} {l0 l1 l2 : pm_V} {v : Int} : ex d C ((0,7,a,3,y) :: r) (l0 :: l1 :: l2 :: vI v :: ls) st A σ = ex d C r (l0 :: l1 :: l2 :: vI (wr (v + a)) :: ls) st A σ := by rw [ex_cons]; rfl
theorem e_istore_3 {d : Nat} {C r : List pm_I} {a : Int} {y : Nat} {ls st : List pm_V} {A : pm_A} {σ : pm_S} {l0 l1 l2 : pm_V} {v : Int} {w : pm_V} (hn : pm_nl l2 = true) : ex d C ((0,2,a,3,y) :: r) (l0 :: l1 :: l2 :: w :: ls) (vI v :: st) A σ = ex d C r (l0 :: l1 :: l2 :: vI v :: ls) st A σ := by
  refine ex_g0 ?_
  have h := pm_set1_ok (ls := l0 :: l1 :: l2 :: w :: ls) (z := 2) (v := vI v) (w := l2) rfl hn
  simp only [pm_g0]
  rw [if_pos (by simp only [List.length_cons]; omega), h]
  rfl
theorem e_astore_3 {d : Nat} {C r : List pm_I} {a : Int} {y : Nat} {ls st : List pm_V} {A : pm_A} {σ : pm_S} {l0 l1 l2 : pm_V} {v : Nat ⊕ Option Nat} {w : pm_V} (hn : pm_nl l2 = true) : ex d C ((0,4,a,3,y) :: r) (l0 :: l1 :: l2 :: w :: ls) (Sum.inr (Sum.inr v) :: st) A σ = ex d C r (l0 :: l1 :: l2 :: Sum.inr (Sum.inr v) :: ls) st A σ := by
  refine ex_g0 ?_
  have h := pm_set1_ok (ls := l0 :: l1 :: l2 :: w :: ls) (z := 2) (v := Sum.inr (Sum.inr v)) (w := l2) rfl hn
  simp only [pm_g0]
  rw [if_pos (by simp only [List.length_cons]; omega), h]
  rfl
theorem e_lstore_3 {d : Nat} {C r : List pm_I} {a : Int} {y : Nat} {ls st : List pm_V} {A : pm_A} {σ : pm_S} {l0 l1 l2 : pm_V} {v : Int} {w w2 : pm_V} (hn : pm_nl l2 = true) : ex d C ((0,6,a,3,y) :: r) (l0 :: l1 :: l2 :: w :: w2 :: ls) (vL v :: st) A σ = ex d C r (l0 :: l1 :: l2 :: vL v :: vO :: ls) st A σ := by
  refine ex_g0 ?_
  have h := pm_set1_ok (ls := l0 :: l1 :: l2 :: w :: w2 :: ls) (z := 2) (v := vL v) (w := l2) rfl hn
  simp only [pm_g0]
  rw [if_pos (by simp only [List.length_cons]; omega), h]
  rfl
theorem e_iload_4 {d : Nat} {C r : List pm_I} {a : Int} {y : Nat} {ls st : List pm_V} {A : pm_A} {σ : pm_S} {l0 l1 l2 l3 : pm_V} {v : Int} : ex d C ((0,1,a,4,y) :: r) (l0 :: l1 :: l2 :: l3 :: vI v :: ls) st A σ = ex d C r (l0 :: l1 :: l2 :: l3 :: vI v :: ls) (vI v :: st) A σ := by rw [ex_cons]; rfl
theorem e_lload_4 {d : Nat} {C r : List pm_I} {a : Int} {y : Nat} {ls st : List pm_V} {A : pm_A} {σ : pm_S} {l0 l1 l2 l3 : pm_V} {v : Int} : ex d C ((0,5,a,4,y) :: r) (l0 :: l1 :: l2 :: l3 :: vL v :: ls) st A σ = ex d C r (l0 :: l1 :: l2 :: l3 :: vL v :: ls) (vL v :: st) A σ := by rw [ex_cons]; rfl
theorem e_aload_4 {d : Nat} {C r : List pm_I} {a : Int} {y : Nat} {ls st : List pm_V} {A : pm_A} {σ : pm_S} {l0 l1 l2 l3 : pm_V} {v : Nat} : ex d C ((0,3,a,4,y) :: r) (l0 :: l1 :: l2 :: l3 :: vR v :: ls) st A σ = ex d C r (l0 :: l1 :: l2 :: l3 :: vR v :: ls) (vR v :: st) A σ := by rw [ex_cons]; rfl
theorem e_sload_4 {d : Nat} {C r : List pm_I} {a : Int} {y : Nat} {ls st : List pm_V} {A : pm_A} {σ : pm_S} {l0 l1 l2 l3 : pm_V} {v : Nat} : ex d C ((0,3,a,4,y) :: r) (l0 :: l1 :: l2 :: l3 :: vS v :: ls) st A σ = ex d C r (l0 :: l1 :: l2 :: l3 :: vS v :: ls) (vS v :: st) A σ := by rw [ex_cons]; rfl
theorem e_iinc_4 {d : Nat} {C r : List pm_I} {a : Int} {y : Nat} {ls st : List pm_V} {A : pm_A} {σ : pm_S} {l0 l1 l2 l3 : pm_V} {v : Int} : ex d C ((0,7,a,4,y) :: r) (l0 :: l1 :: l2 :: l3 :: vI v :: ls) st A σ = ex d C r (l0 :: l1 :: l2 :: l3 :: vI (wr (v + a)) :: ls) st A σ := by rw [ex_cons]; rfl
theorem e_istore_4 {d : Nat} {C r : List pm_I} {a : Int} {y : Nat} {ls st : List pm_V} {A : pm_A} {σ : pm_S} {l0 l1 l2 l3 : pm_V} {v : Int} {w : pm_V} (hn : pm_nl l3 = true) : ex d C ((0,2,a,4,y) :: r) (l0 :: l1 :: l2 :: l3 :: w :: ls) (vI v :: st) A σ = ex d C r (l0 :: l1 :: l2 :: l3 :: vI v :: ls) st A σ := by
  refine ex_g0 ?_
  have h := pm_set1_ok (ls := l0 :: l1 :: l2 :: l3 :: w :: ls) (z := 3) (v := vI v) (w := l3) rfl hn
  simp only [pm_g0]
  rw [if_pos (by simp only [List.length_cons]; omega), h]
  rfl
theorem e_astore_4 {d : Nat} {C r : List pm_I} {a : Int} {y : Nat} {ls st : List pm_V} {A : pm_A} {σ : pm_S} {l0 l1 l2 l3 : pm_V} {v : Nat ⊕ Option Nat} {w : pm_V} (hn : pm_nl l3 = true) : ex d C ((0,4,a,4,y) :: r) (l0 :: l1 :: l2 :: l3 :: w :: ls) (Sum.inr (Sum.inr v) :: st) A σ = ex d C r (l0 :: l1 :: l2 :: l3 :: Sum.inr (Sum.inr v) :: ls) st A σ := by
  refine ex_g0 ?_
  have h := pm_set1_ok (ls := l0 :: l1 :: l2 :: l3 :: w :: ls) (z := 3) (v := Sum.inr (Sum.inr v)) (w := l3) rfl hn
  simp only [pm_g0]
  rw [if_pos (by simp only [List.length_cons]; omega), h]
  rfl
theorem e_lstore_4 {d : Nat} {C r : List pm_I} {a : Int} {y : Nat} {ls st : List pm_V} {A : pm_A} {σ : pm_S} {l0 l1 l2 l3 : pm_V} {v : Int} {w w2 : pm_V} (hn : pm_nl l3 = true) : ex d C ((0,6,a,4,y) :: r) (l0 :: l1 :: l2 :: l3 :: w :: w2 :: ls) (vL v :: st) A σ = ex d C r (l0 :: l1 :: l2 :: l3 :: vL v :: vO :: ls) st A σ := by
  refine ex_g0 ?_
  have h := pm_set1_ok (ls := l0 :: l1 :: l2 :: l3 :: w :: w2 :: ls) (z := 3) (v := vL v) (w := l3) rfl hn
  simp only [pm_g0]
  rw [if_pos (by simp only [List.length_cons]; omega), h]
  rfl
theorem e_iload_5 {d : Nat} {C r : List pm_I} {a : Int} {y : Nat} {ls st : List pm_V} {A : pm_A} {σ : pm_S} {l0 l1 l2 l3 l4 : pm_V} {v : Int} : ex d C ((0,1,a,5,y) :: r) (l0 :: l1 :: l2 :: l3 :: l4 :: vI v :: ls) st A σ = ex d C r (l0 :: l1 :: l2 :: l3 :: l4 :: vI v :: ls) (vI v :: st) A σ := by rw [ex_cons]; rfl
theorem e_lload_5 {d : Nat} {C r : List pm_I} {a : Int} {y : Nat} {ls st : List pm_V} {A : pm_A} {σ : pm_S} {l0 l1 l2 l3 l4 : pm_V} {v : Int} : ex d C ((0,5,a,5,y) :: r) (l0 :: l1 :: l2 :: l3 :: l4 :: vL v :: ls) st A σ = ex d C r (l0 :: l1 :: l2 :: l3 :: l4 :: vL v :: ls) (vL v :: st) A σ := by rw [ex_cons]; rfl
theorem e_aload_5 {d : Nat} {C r : List pm_I} {a : Int} {y : Nat} {ls st : List pm_V} {A : pm_A} {σ : pm_S} {l0 l1 l2 l3 l4 : pm_V} {v : Nat} : ex d C ((0,3,a,5,y) :: r) (l0 :: l1 :: l2 :: l3 :: l4 :: vR v :: ls) st A σ = ex d C r (l0 :: l1 :: l2 :: l3 :: l4 :: vR v :: ls) (vR v :: st) A σ := by rw [ex_cons]; rfl
theorem e_sload_5 {d : Nat} {C r : List pm_I} {a : Int} {y : Nat} {ls st : List pm_V} {A : pm_A} {σ : pm_S} {l0 l1 l2 l3 l4 : pm_V} {v : Nat} : ex d C ((0,3,a,5,y) :: r) (l0 :: l1 :: l2 :: l3 :: l4 :: vS v :: ls) st A σ = ex d C r (l0 :: l1 :: l2 :: l3 :: l4 :: vS v :: ls) (vS v :: st) A σ := by rw [ex_cons]; rfl
theorem e_iinc_5 {d : Nat} {C r : List pm_I} {a : Int} {y : Nat} {ls st : List pm_V} {A : pm_A} {σ : pm_S} {l0 l1 l2 l3 l4 : pm_V} {v : Int} : ex d C ((0,7,a,5,y) :: r) (l0 :: l1 :: l2 :: l3 :: l4 :: vI v :: ls) st A σ = ex d C r (l0 :: l1 :: l2 :: l3 :: l4 :: vI (wr (v + a)) :: ls) st A σ := by rw [ex_cons]; rfl
theorem e_istore_5 {d : Nat} {C r : List pm_I} {a : Int} {y : Nat} {ls st : List pm_V} {A : pm_A} {σ : pm_S} {l0 l1 l2 l3 l4 : pm_V} {v : Int} {w : pm_V} (hn : pm_nl l4 = true) : ex d C ((0,2,a,5,y) :: r) (l0 :: l1 :: l2 :: l3 :: l4 :: w :: ls) (vI v :: st) A σ = ex d C r (l0 :: l1 :: l2 :: l3 :: l4 :: vI v :: ls) st A σ := by
  refine ex_g0 ?_
  have h := pm_set1_ok (ls := l0 :: l1 :: l2 :: l3 :: l4 :: w :: ls) (z := 4) (v := vI v) (w := l4) rfl hn
  simp only [pm_g0]
  rw [if_pos (by simp only [List.length_cons]; omega), h]
  rfl
theorem e_astore_5 {d : Nat} {C r : List pm_I} {a : Int} {y : Nat} {ls st : List pm_V} {A : pm_A} {σ : pm_S} {l0 l1 l2 l3 l4 : pm_V} {v : Nat ⊕ Option Nat} {w : pm_V} (hn : pm_nl l4 = true) : ex d C ((0,4,a,5,y) :: r) (l0 :: l1 :: l2 :: l3 :: l4 :: w :: ls) (Sum.inr (Sum.inr v) :: st) A σ = ex d C r (l0 :: l1 :: l2 :: l3 :: l4 :: Sum.inr (Sum.inr v) :: ls) st A σ := by
  refine ex_g0 ?_
  have h := pm_set1_ok (ls := l0 :: l1 :: l2 :: l3 :: l4 :: w :: ls) (z := 4) (v := Sum.inr (Sum.inr v)) (w := l4) rfl hn
  simp only [pm_g0]
  rw [if_pos (by simp only [List.length_cons]; omega), h]
  rfl
theorem e_lstore_5 {d : Nat} {C r : List pm_I} {a : Int} {y : Nat} {ls st : List pm_V} {A : pm_A} {σ : pm_S} {l0 l1 l2 l3 l4 : pm_V} {v : Int} {w w2 : pm_V} (hn : pm_nl l4 = true) : ex d C ((0,6,a,5,y) :: r) (l0 :: l1 :: l2 :: l3 :: l4 :: w :: w2 :: ls) (vL v :: st) A σ = ex d C r (l0 :: l1 :: l2 :: l3 :: l4 :: vL v :: vO :: ls) st A σ := by
  refine ex_g0 ?_
  have h := pm_set1_ok (ls := l0 :: l1 :: l2 :: l3 :: l4 :: w :: w2 :: ls) (z := 4) (v := vL v) (w := l4) rfl hn
  simp only [pm_g0]
  rw [if_pos (by simp only [List.length_cons]; omega), h]
  rfl
theorem e_iload_6 {d : Nat} {C r : List pm_I} {a : Int} {y : Nat} {ls st : List pm_V} {A : pm_A} {σ : pm_S} {l0 l1 l2 l3 l4 l5 : pm_V} {v : Int} : ex d C ((0,1,a,6,y) :: r) (l0 :: l1 :: l2 :: l3 :: l4 :: l5 :: vI v :: ls) st A σ = ex d C r (l0 :: l1 :: l2 :: l3 :: l4 :: l5 :: vI v :: ls) (vI v :: st) A σ := by rw [ex_cons]; rfl
theorem e_lload_6 {d : Nat} {C r : List pm_I} {a : Int} {y : Nat} {ls st : List pm_V} {A : pm_A} {σ : pm_S} {l0 l1 l2 l3 l4 l5 : pm_V} {v : Int} : ex d C ((0,5,a,6,y) :: r) (l0 :: l1 :: l2 :: l3 :: l4 :: l5 :: vL v :: ls) st A σ = ex d C r (l0 :: l1 :: l2 :: l3 :: l4 :: l5 :: vL v :: ls) (vL v :: st) A σ := by rw [ex_cons]; rfl
theorem e_aload_6 {d : Nat} {C r : List pm_I} {a : Int} {y : Nat} {ls st : List pm_V} {A : pm_A} {σ : pm_S} {l0 l1 l2 l3 l4 l5 : pm_V} {v : Nat} : ex d C ((0,3,a,6,y) :: r) (l0 :: l1 :: l2 :: l3 :: l4 :: l5 :: vR v :: ls) st A σ = ex d C r (l0 :: l1 :: l2 :: l3 :: l4 :: l5 :: vR v :: ls) (vR v :: st) A σ := by rw [ex_cons]; rfl
theorem e_sload_6 {d : Nat} {C r : List pm_I} {a : Int} {y : Nat} {ls st : List pm_V} {A : pm_A} {σ : pm_S} {l0 l1 l2 l3 l4 l5 : pm_V} {v : Nat} : ex d C ((0,3,a,6,y) :: r) (l0 :: l1 :: l2 :: l3 :: l4 :: l5 :: vS v :: ls) st A σ = ex d C r (l0 :: l1 :: l2 :: l3 :: l4 :: l5 :: vS v :: ls) (vS v :: st) A σ := by rw [ex_cons]; rfl
theorem e_iinc_6 {d : Nat} {C r : List pm_I} {a : Int} {y : Nat} {ls st : List pm_V} {A : pm_A} {σ : pm_S} {l0 l1 l2 l3 l4 l5 : pm_V} {v : Int} : ex d C ((0,7,a,6,y) :: r) (l0 :: l1 :: l2 :: l3 :: l4 :: l5 :: vI v :: ls) st A σ = ex d C r (l0 :: l1 :: l2 :: l3 :: l4 :: l5 :: vI (wr (v + a)) :: ls) st A σ := by rw [ex_cons]; rfl
theorem e_istore_6 {d : Nat} {C r : List pm_I} {a : Int} {y : Nat} {ls st : List pm_V} {A : pm_A} {σ : pm_S} {l0 l1 l2 l3 l4 l5 : pm_V} {v : Int} {w : pm_V} (hn : pm_nl l5 = true) : ex d C ((0,2,a,6,y) :: r) (l0 :: l1 :: l2 :: l3 :: l4 :: l5 :: w :: ls) (vI v :: st) A σ = ex d C r (l0 :: l1 :: l2 :: l3 :: l4 :: l5 :: vI v :: ls) st A σ := by
  refine ex_g0 ?_
  have h := pm_set1_ok (ls := l0 :: l1 :: l2 :: l3 :: l4 :: l5 :: w :: ls) (z := 5) (v := vI v) (w := l5) rfl hn
  simp only [pm_g0]
  rw [if_pos (by simp only [List.length_cons]; omega), h]
  rfl
theorem e_astore_6 {d : Nat} {C r : List pm_I} {a : Int} {y : Nat} {ls st : List pm_V} {A : pm_A} {σ : pm_S} {l0 l1 l2 l3 l4 l5 : pm_V} {v : Nat ⊕ Option Nat} {w : pm_V} (hn : pm_nl l5 = true) : ex d C ((0,4,a,6,y) :: r) (l0 :: l1 :: l2 :: l3 :: l4 :: l5 :: w :: ls) (Sum.inr (Sum.inr v) :: st) A σ = ex d C r (l0 :: l1 :: l2 :: l3 :: l4 :: l5 :: Sum.inr (Sum.inr v) :: ls) st A σ := by
  refine ex_g0 ?_
  have h := pm_set1_ok (ls := l0 :: l1 :: l2 :: l3 :: l4 :: l5 :: w :: ls) (z := 5) (v := Sum.inr (Sum.inr v)) (w := l5) rfl hn
  simp only [pm_g0]
  rw [if_pos (by simp only [List.length_cons]; omega), h]
  rfl
theorem e_lstore_6 {d : Nat} {C r : List pm_I} {a : Int} {y : Nat} {ls st : List pm_V} {A : pm_A} {σ : pm_S} {l0 l1 l2 l3 l4 l5 : pm_V} {v : Int} {w w2 : pm_V} (hn : pm_nl l5 = true) : ex d C ((0,6,a,6,y) :: r) (l0 :: l1 :: l2 :: l3 :: l4 :: l5 :: w :: w2 :: ls) (vL v :: st) A σ = ex d C r (l0 :: l1 :: l2 :: l3 :: l4 :: l5 :: vL v :: vO :: ls) st A σ := by
  refine ex_g0 ?_
  have h := pm_set1_ok (ls := l0 :: l1 :: l2 :: l3 :: l4 :: l5 :: w :: w2 :: ls) (z := 5) (v := vL v) (w := l5) rfl hn
  simp only [pm_g0]
  rw [if_pos (by simp only [List.length_cons]; omega), h]
  rfl
theorem e_iload_7 {d : Nat} {C r : List pm_I} {a : Int} {y : Nat} {ls st : List pm_V} {A : pm_A} {σ : pm_S} {l0 l1 l2 l3 l4 l5 l6 : pm_V} {v : Int} : ex d C ((0,1,a,7,y) :: r) (l0 :: l1 :: l2 :: l3 :: l4 :: l5 :: l6 :: vI v :: ls) st A σ = ex d C r (l0 :: l1 :: l2 :: l3 :: l4 :: l5 :: l6 :: vI v :: ls) (vI v :: st) A σ := by rw [ex_cons]; rfl
theorem e_lload_7 {d : Nat} {C r : List pm_I} {a : Int} {y : Nat} {ls st : List pm_V} {A : pm_A} {σ : pm_S} {l0 l1 l2 l3 l4 l5 l6 : pm_V} {v : Int} : ex d C ((0,5,a,7,y) :: r) (l0 :: l1 :: l2 :: l3 :: l4 :: l5 :: l6 :: vL v :: ls) st A σ = ex d C r (l0 :: l1 :: l2 :: l3 :: l4 :: l5 :: l6 :: vL v :: ls) (vL v :: st) A σ := by rw [ex_cons]; rfl
theorem e_aload_7 {d : Nat} {C r : List pm_I} {a : Int} {y : Nat} {ls st : List pm_V} {A : pm_A} {σ : pm_S} {l0 l1 l2 l3 l4 l5 l6 : pm_V} {v : Nat} : ex d C ((0,3,a,7,y) :: r) (l0 :: l1 :: l2 :: l3 :: l4 :: l5 :: l6 :: vR v :: ls) st A σ = ex d C r (l0 :: l1 :: l2 :: l3 :: l4 :: l5 :: l6 :: vR v :: ls) (vR v :: st) A σ := by rw [ex_cons]; rfl
theorem e_sload_7 {d : Nat} {C r : List pm_I} {a : Int} {y : Nat} {ls st : List pm_V} {A : pm_A} {σ : pm_S} {l0 l1 l2 l3 l4 l5 l6 : pm_V} {v : Nat} : ex d C ((0,3,a,7,y) :: r) (l0 :: l1 :: l2 :: l3 :: l4 :: l5 :: l6 :: vS v :: ls) st A σ = ex d C r (l0 :: l1 :: l2 :: l3 :: l4 :: l5 :: l6 :: vS v :: ls) (vS v :: st) A σ := by rw [ex_cons]; rfl
theorem e_iinc_7 {d : Nat} {C r : List pm_I} {a : Int} {y : Nat} {ls st : List pm_V} {A : pm_A} {σ : pm_S} {l0 l1 l2 l3 l4 l5 l6 : pm_V} {v : Int} : ex d C ((0,7,a,7,y) :: r) (l0 :: l1 :: l2 :: l3 :: l4 :: l5 :: l6 :: vI v :: ls) st A σ = ex d C r (l0 :: l1 :: l2 :: l3 :: l4 :: l5 :: l6 :: vI (wr (v + a)) :: ls) st A σ := by rw [ex_cons]; rfl
theorem e_istore_7 {d : Nat} {C r : List pm_I} {a : Int} {y : Nat} {ls st : List pm_V} {A : pm_A} {σ : pm_S} {l0 l1 l2 l3 l4 l5 l6 : pm_V} {v : Int} {w : pm_V} (hn : pm_nl l6 = true) : ex d C ((0,2,a,7,y) :: r) (l0 :: l1 :: l2 :: l3 :: l4 :: l5 :: l6 :: w :: ls) (vI v :: st) A σ = ex d C r (l0 :: l1 :: l2 :: l3 :: l4 :: l5 :: l6 :: vI v :: ls) st A σ := by
  refine ex_g0 ?_
  have h := pm_set1_ok (ls := l0 :: l1 :: l2 :: l3 :: l4 :: l5 :: l6 :: w :: ls) (z := 6) (v := vI v) (w := l6) rfl hn
  simp only [pm_g0]
  rw [if_pos (by simp only [List.length_cons]; omega), h]
  rfl
theorem e_astore_7 {d : Nat} {C r : List pm_I} {a : Int} {y : Nat} {ls st : List pm_V} {A : pm_A} {σ : pm_S} {l0 l1 l2 l3 l4 l5 l6 : pm_V} {v : Nat ⊕ Option Nat} {w : pm_V} (hn : pm_nl l6 = true) : ex d C ((0,4,a,7,y) :: r) (l0 :: l1 :: l2 :: l3 :: l4 :: l5 :: l6 :: w :: ls) (Sum.inr (Sum.inr v) :: st) A σ = ex d C r (l0 :: l1 :: l2 :: l3 :: l4 :: l5 :: l6 :: Sum.inr (Sum.inr v) :: ls) st A σ := by
  refine ex_g0 ?_
  have h := pm_set1_ok (ls := l0 :: l1 :: l2 :: l3 :: l4 :: l5 :: l6 :: w :: ls) (z := 6) (v := Sum.inr (Sum.inr v)) (w := l6) rfl hn
  simp only [pm_g0]
  rw [if_pos (by simp only [List.length_cons]; omega), h]
  rfl
theorem e_lstore_7 {d : Nat} {C r : List pm_I} {a : Int} {y : Nat} {ls st : List pm_V} {A : pm_A} {σ : pm_S} {l0 l1 l2 l3 l4 l5 l6 : pm_V} {v : Int} {w w2 : pm_V} (hn : pm_nl l6 = true) : ex d C ((0,6,a,7,y) :: r) (l0 :: l1 :: l2 :: l3 :: l4 :: l5 :: l6 :: w :: w2 :: ls) (vL v :: st) A σ = ex d C r (l0 :: l1 :: l2 :: l3 :: l4 :: l5 :: l6 :: vL v :: vO :: ls) st A σ := by
  refine ex_g0 ?_
  have h := pm_set1_ok (ls := l0 :: l1 :: l2 :: l3 :: l4 :: l5 :: l6 :: w :: w2 :: ls) (z := 6) (v := vL v) (w := l6) rfl hn
  simp only [pm_g0]
  rw [if_pos (by simp only [List.length_cons]; omega), h]
  rfl
theorem e_iload_8 {d : Nat} {C r : List pm_I} {a : Int} {y : Nat} {ls st : List pm_V} {A : pm_A} {σ : pm_S} {l0 l1 l2 l3 l4 l5 l6 l7 : pm_V} {v : Int} : ex d C ((0,1,a,8,y) :: r) (l0 :: l1 :: l2 :: l3 :: l4 :: l5 :: l6 :: l7 :: vI v :: ls) st A σ = ex d C r (l0 :: l1 :: l2 :: l3 :: l4 :: l5 :: l6 :: l7 :: vI v :: ls) (vI v :: st) A σ := by rw [ex_cons]; rfl
theorem e_lload_8 {d : Nat} {C r : List pm_I} {a : Int} {y : Nat} {ls st : List pm_V} {A : pm_A} {σ : pm_S} {l0 l1 l2 l3 l4 l5 l6 l7 : pm_V} {v : Int} : ex d C ((0,5,a,8,y) :: r) (l0 :: l1 :: l2 :: l3 :: l4 :: l5 :: l6 :: l7 :: vL v :: ls) st A σ = ex d C r (l0 :: l1 :: l2 :: l3 :: l4 :: l5 :: l6 :: l7 :: vL v :: ls) (vL v :: st) A σ := by rw [ex_cons]; rfl
theorem e_aload_8 {d : Nat} {C r : List pm_I} {a : Int} {y : Nat} {ls st : List pm_V} {A : pm_A} {σ : pm_S} {l0 l1 l2 l3 l4 l5 l6 l7 : pm_V} {v : Nat} : ex d C ((0,3,a,8,y) :: r) (l0 :: l1 :: l2 :: l3 :: l4 :: l5 :: l6 :: l7 :: vR v :: ls) st A σ = ex d C r (l0 :: l1 :: l2 :: l3 :: l4 :: l5 :: l6 :: l7 :: vR v :: ls) (vR v :: st) A σ := by rw [ex_cons]; rfl
theorem e_sload_8 {d : Nat} {C r : List pm_I} {a : Int} {y : Nat} {ls st : List pm_V} {A : pm_A} {σ : pm_S} {l0 l1 l2 l3 l4 l5 l6 l7 : pm_V} {v : Nat} : ex d C ((0,3,a,8,y) :: r) (l0 :: l1 :: l2 :: l3 :: l4 :: l5 :: l6 :: l7 :: vS v :: ls) st A σ = ex d C r (l0 :: l1 :: l2 :: l3 :: l4 :: l5 :: l6 :: l7 :: vS v :: ls) (vS v :: st) A σ := by rw [ex_cons]; rfl
theorem e_iinc_8 {d : Nat} {C r : List pm_I} {a : Int} {y : Nat} {ls st : List pm_V} {A : pm_A} {σ : pm_S} {l0 l1 l2 l3 l4 l5 l6 l7 : pm_V} {v : Int} : ex d C ((0,7,a,8,y) :: r) (l0 :: l1 :: l2 :: l3 :: l4 :: l5 :: l6 :: l7 :: vI v :: ls) st A σ = ex d C r (l0 :: l1 :: l2 :: l3 :: l4 :: l5 :: l6 :: l7 :: vI (wr (v + a)) :: ls) st A σ := by rw [ex_cons]; rfl
theorem e_istore_8 {d : Nat} {C r : List pm_I} {a : Int} {y : Nat} {ls st : List pm_V} {A : pm_A} {σ : pm_S} {l0 l1 l2 l3 l4 l5 l6 l7 : pm_V} {v : Int} {w : pm_V} (hn : pm_nl l7 = true) : ex d C ((0,2,a,8,y) :: r) (l0 :: l1 :: l2 :: l3 :: l4 :: l5 :: l6 :: l7 :: w :: ls) (vI v :: st) A σ = ex d C r (l0 :: l1 :: l2 :: l3 :: l4 :: l5 :: l6 :: l7 :: vI v :: ls) st A σ := by
  refine ex_g0 ?_
  have h := pm_set1_ok (ls := l0 :: l1 :: l2 :: l3 :: l4 :: l5 :: l6 :: l7 :: w :: ls) (z := 7) (v := vI v) (w := l7) rfl hn
  simp only [pm_g0]
  rw [if_pos (by simp only [List.length_cons]; omega), h]
  rfl
theorem e_astore_8 {d : Nat} {C r : List pm_I} {a : Int} {y : Nat} {ls st : List pm_V} {A : pm_A} {σ : pm_S} {l0 l1 l2 l3 l4 l5 l6 l7 : pm_V} {v : Nat ⊕ Option Nat} {w : pm_V} (hn : pm_nl l7 = true) : ex d C ((0,4,a,8,y) :: r) (l0 :: l1 :: l2 :: l3 :: l4 :: l5 :: l6 :: l7 :: w :: ls) (Sum.inr (Sum.inr v) :: st) A σ = ex d C r (l0 :: l1 :: l2 :: l3 :: l4 :: l5 :: l6 :: l7 :: Sum.inr (Sum.inr v) :: ls) st A σ := by
  refine ex_g0 ?_
  have h := pm_set1_ok (ls := l0 :: l1 :: l2 :: l3 :: l4 :: l5 :: l6 :: l7 :: w :: ls) (z := 7) (v := Sum.inr (Sum.inr v)) (w := l7) rfl hn
  simp only [pm_g0]
  rw [if_pos (by simp only [List.length_cons]; omega), h]
  rfl
theorem e_lstore_8 {d : Nat} {C r : List pm_I} {a : Int} {y : Nat} {ls st : List pm_V} {A : pm_A} {σ : pm_S} {l0 l1 l2 l3 l4 l5 l6 l7 : pm_V} {v : Int} {w w2 : pm_V} (hn : pm_nl l7 = true) : ex d C ((0,6,a,8,y) :: r) (l0 :: l1 :: l2 :: l3 :: l4 :: l5 :: l6 :: l7 :: w :: w2 :: ls) (vL v :: st) A σ = ex d C r (l0 :: l1 :: l2 :: l3 :: l4 :: l5 :: l6 :: l7 :: vL v :: vO :: ls) st A σ := by
  refine ex_g0 ?_
  have h := pm_set1_ok (ls := l0 :: l1 :: l2 :: l3 :: l4 :: l5 :: l6 :: l7 :: w :: w2 :: ls) (z := 7) (v := vL v) (w := l7) rfl hn
  simp only [pm_g0]
  rw [if_pos (by simp only [List.length_cons]; omega), h]
  rfl
theorem e_iload_9 {d : Nat} {C r : List pm_I} {a : Int} {y : Nat} {ls st : List pm_V} {A : pm_A} {σ : pm_S} {l0 l1 l2 l3 l4 l5 l6 l7 l8 : pm_V} {v : Int} : ex d C ((0,1,a,9,y) :: r) (l0 :: l1 :: l2 :: l3 :: l4 :: l5 :: l6 :: l7 :: l8 :: vI v :: ls) st A σ = ex d C r (l0 :: l1 :: l2 :: l3 :: l4 :: l5 :: l6 :: l7 :: l8 :: vI v :: ls) (vI v :: st) A σ := by rw [ex_cons]; rfl
theorem e_lload_9 {d : Nat} {C r : List pm_I} {a : Int} {y : Nat} {ls st : List pm_V} {A : pm_A} {σ : pm_S} {l0 l1 l2 l3 l4 l5 l6 l7 l8 : pm_V} {v : Int} : ex d C ((0,5,a,9,y) :: r) (l0 :: l1 :: l2 :: l3 :: l4 :: l5 :: l6 :: l7 :: l8 :: vL v :: ls) st A σ = ex d C r (l0 :: l1 :: l2 :: l3 :: l4 :: l5 :: l6 :: l7 :: l8 :: vL v :: ls) (vL v :: st) A σ := by rw [ex_cons]; rfl
theorem e_aload_9 {d : Nat} {C r : List pm_I} {a : Int} {y : Nat} {ls st : List pm_V} {A : pm_A} {σ : pm_S} {l0 l1 l2 l3 l4 l5 l6 l7 l8 : pm_V} {v : Nat} : ex d C ((0,3,a,9,y) :: r) (l0 :: l1 :: l2 :: l3 :: l4 :: l5 :: l6 :: l7 :: l8 :: vR v :: ls) st A σ = ex d C r (l0 :: l1 :: l2 :: l3 :: l4 :: l5 :: l6 :: l7 :: l8 :: vR v :: ls) (vR v :: st) A σ := by rw [ex_cons]; rfl
theorem e_sload_9 {d : Nat} {C r : List pm_I} {a : Int} {y : Nat} {ls st : List pm_V} {A : pm_A} {σ : pm_S} {l0 l1 l2 l3 l4 l5 l6 l7 l8 : pm_V} {v : Nat} : ex d C ((0,3,a,9,y) :: r) (l0 :: l1 :: l2 :: l3 :: l4 :: l5 :: l6 :: l7 :: l8 :: vS v :: ls) st A σ = ex d C r (l0 :: l1 :: l2 :: l3 :: l4 :: l5 :: l6 :: l7 :: l8 :: vS v :: ls) (vS v :: st) A σ := by rw [ex_cons]; rfl
theorem e_iinc_9 {d : Nat} {C r : List pm_I} {a : Int} {y : Nat} {ls st : List pm_V} {A : pm_A} {σ : pm_S} {l0 l1 l2 l3 l4 l5 l6 l7 l8 : pm_V} {v : Int} : ex d C ((0,7,a,9,y) :: r) (l0 :: l1 :: l2 :: l3 :: l4 :: l5 :: l6 :: l7 :: l8 :: vI v :: ls) st A σ = ex d C r (l0 :: l1 :: l2 :: l3 :: l4 :: l5 :: l6 :: l7 :: l8 :: vI (wr (v + a)) :: ls) st A σ := by rw [ex_cons]; rfl
theorem e_istore_9 {d : Nat} {C r : List pm_I} {a : Int} {y : Nat} {ls st : List pm_V} {A : pm_A} {σ : pm_S} {l0 l1 l2 l3 l4 l5 l6 l7 l8 : pm_V} {v : Int} {w : pm_V} (hn : pm_nl l8 = true) : ex d C ((0,2,a,9,y) :: r) (l0 :: l1 :: l2 :: l3 :: l4 :: l5 :: l6 :: l7 :: l8 :: w :: ls) (vI v :: st) A σ = ex d C r (l0 :: l1 :: l2 :: l3 :: l4 :: l5 :: l6 :: l7 :: l8 :: vI v :: ls) st A σ := by
  refine ex_g0 ?_
  have h := pm_set1_ok (ls := l0 :: l1 :: l2 :: l3 :: l4 :: l5 :: l6 :: l7 :: l8 :: w :: ls) (z := 8) (v := vI v) (w := l8) rfl hn
  simp only [pm_g0]
  rw [if_pos (by simp only [List.length_cons]; omega), h]
  rfl
theorem e_astore_9 {d : Nat} {C r : List pm_I} {a : Int} {y : Nat} {ls st : List pm_V} {A : pm_A} {σ : pm_S} {l0 l1 l2 l3 l4 l5 l6 l7 l8 : pm_V} {v : Nat ⊕ Option Nat} {w : pm_V} (hn : pm_nl l8 = true) : ex d C ((0,4,a,9,y) :: r) (l0 :: l1 :: l2 :: l3 :: l4 :: l5 :: l6 :: l7 :: l8 :: w :: ls) (Sum.inr (Sum.inr v) :: st) A σ = ex d C r (l0 :: l1 :: l2 :: l3 :: l4 :: l5 :: l6 :: l7 :: l8 :: Sum.inr (Sum.inr v) :: ls) st A σ := by
  refine ex_g0 ?_
  have h := pm_set1_ok (ls := l0 :: l1 :: l2 :: l3 :: l4 :: l5 :: l6 :: l7 :: l8 :: w :: ls) (z := 8) (v := Sum.inr (Sum.inr v)) (w := l8) rfl hn
  simp only [pm_g0]
  rw [if_pos (by simp only [List.length_cons]; omega), h]
  rfl
theorem e_lstore_9 {d : Nat} {C r : List pm_I} {a : Int} {y : Nat} {ls st : List pm_V} {A : pm_A} {σ : pm_S} {l0 l1 l2 l3 l4 l5 l6 l7 l8 : pm_V} {v : Int} {w w2 : pm_V} (hn : pm_nl l8 = true) : ex d C ((0,6,a,9,y) :: r) (l0 :: l1 :: l2 :: l3 :: l4 :: l5 :: l6 :: l7 :: l8 :: w :: w2 :: ls) (vL v :: st) A σ = ex d C r (l0 :: l1 :: l2 :: l3 :: l4 :: l5 :: l6 :: l7 :: l8 :: vL v :: vO :: ls) st A σ := by
  refine ex_g0 ?_
  have h := pm_set1_ok (ls := l0 :: l1 :: l2 :: l3 :: l4 :: l5 :: l6 :: l7 :: l8 :: w :: w2 :: ls) (z := 8) (v := vL v) (w := l8) rfl hn
  simp only [pm_g0]
  rw [if_pos (by simp only [List.length_cons]; omega), h]
  rfl
theorem e_iload_10 {d : Nat} {C r : List pm_I} {a : Int} {y : Nat} {ls st : List pm_V} {A : pm_A} {σ : pm_S} {l0 l1 l2 l3 l4 l5 l6 l7 l8 l9 : pm_V} {v : Int} : ex d C ((0,1,a,10,y) :: r) (l0 :: l1 :: l2 :: l3 :: l4 :: l5 :: l6 :: l7 :: l8 :: l9 :: vI v :: ls) st A σ = ex d C r (l0 :: l1 :: l2 :: l3 :: l4 :: l5 :: l6 :: l7 :: l8 :: l9 :: vI v :: ls) (vI v :: st) A σ := by rw [ex_cons]; rfl
theorem e_lload_10 {d : Nat} {C r : List pm_I} {a : Int} {y : Nat} {ls st : List pm_V} {A : pm_A} {σ : pm_S} {l0 l1 l2 l3 l4 l5 l6 l7 l8 l9 : pm_V} {v : Int} : ex d C ((0,5,a,10,y) :: r) (l0 :: l1 :: l2 :: l3 :: l4 :: l5 :: l6 :: l7 :: l8 :: l9 :: vL v :: ls) st A σ = ex d C r (l0 :: l1 :: l2 :: l3 :: l4 :: l5 :: l6 :: l7 :: l8 :: l9 :: vL v :: ls) (vL v :: st) A σ := by rw [ex_cons]; rfl
theorem e_aload_10 {d : Nat} {C r : List pm_I} {a : Int} {y : Nat} {ls st : List pm_V} {A : pm_A} {σ : pm_S} {l0 l1 l2 l3 l4 l5 l6 l7 l8 l9 : pm_V} {v : Nat} : ex d C ((0,3,a,10,y) :: r) (l0 :: l1 :: l2 :: l3 :: l4 :: l5 :: l6 :: l7 :: l8 :: l9 :: vR v :: ls) st A σ = ex d C r (l0 :: l1 :: l2 :: l3 :: l4 :: l5 :: l6 :: l7 :: l8 :: l9 :: vR v :: ls) (vR v :: st) A σ := by rw [ex_cons]; rfl
theorem e_sload_10 {d : Nat} {C r : List pm_I} {a : Int} {y : Nat} {ls st : List pm_V} {A : pm_A} {σ : pm_S} {l0 l1 l2 l3 l4 l5 l6 l7 l8 l9 : pm_V} {v : Nat} : ex d C ((0,3,a,10,y) :: r) (l0 :: l1 :: l2 :: l3 :: l4 :: l5 :: l6 :: l7 :: l8 :: l9 :: vS v :: ls) st A σ = ex d C r (l0 :: l1 :: l2 :: l3 :: l4 :: l5 :: l6 :: l7 :: l8 :: l9 :: vS v :: ls) (vS v :: st) A σ := by rw [ex_cons]; rfl
theorem e_iinc_10 {d : Nat} {C r : List pm_I} {a : Int} {y : Nat} {ls st : List pm_V} {A : pm_A} {σ : pm_S} {l0 l1 l2 l3 l4 l5 l6 l7 l8 l9 : pm_V} {v : Int} : ex d C ((0,7,a,10,y) :: r) (l0 :: l1 :: l2 :: l3 :: l4 :: l5 :: l6 :: l7 :: l8 :: l9 :: vI v :: ls) st A σ = ex d C r (l0 :: l1 :: l2 :: l3 :: l4 :: l5 :: l6 :: l7 :: l8 :: l9 :: vI (wr (v + a)) :: ls) st A σ := by rw [ex_cons]; rfl
theorem e_istore_10 {d : Nat} {C r : List pm_I} {a : Int} {y : Nat} {ls st : List pm_V} {A : pm_A} {σ : pm_S} {l0 l1 l2 l3 l4 l5 l6 l7 l8 l9 : pm_V} {v : Int} {w : pm_V} (hn : pm_nl l9 = true) : ex d C ((0,2,a,10,y) :: r) (l0 :: l1 :: l2 :: l3 :: l4 :: l5 :: l6 :: l7 :: l8 :: l9 :: w :: ls) (vI v :: st) A σ = ex d C r (l0 :: l1 :: l2 :: l3 :: l4 :: l5 :: l6 :: l7 :: l8 :: l9 :: vI v :: ls) st A σ := by
  refine ex_g0 ?_
  have h := pm_set1_ok (ls := l0 :: l1 :: l2 :: l3 :: l4 :: l5 :: l6 :: l7 :: l8 :: l9 :: w :: ls) (z := 9) (v := vI v) (w := l9) rfl hn
  simp only [pm_g0]
  rw [if_pos (by simp only [List.length_cons]; omega), h]
  rfl
theorem e_astore_10 {d : Nat} {C r : List pm_I} {a : Int} {y : Nat} {ls st : List pm_V} {A : pm_A} {σ : pm_S} {l0 l1 l2 l3 l4 l5 l6 l7 l8 l9 : pm_V} {v : Nat ⊕ Option Nat} {w : pm_V} (hn : pm_nl l9 = true) : ex d C ((0,4,a,10,y) :: r) (l0 :: l1 :: l2 :: l3 :: l4 :: l5 :: l6 :: l7 :: l8 :: l9 :: w :: ls) (Sum.inr (Sum.inr v) :: st) A σ = ex d C r (l0 :: l1 :: l2 :: l3 :: l4 :: l5 :: l6 :: l7 :: l8 :: l9 :: Sum.inr (Sum.inr v) :: ls) st A σ := by
  refine ex_g0 ?_
  have h := pm_set1_ok (ls := l0 :: l1 :: l2 :: l3 :: l4 :: l5 :: l6 :: l7 :: l8 :: l9 :: w :: ls) (z := 9) (v := Sum.inr (Sum.inr v)) (w := l9) rfl hn
  simp only [pm_g0]
  rw [if_pos (by simp only [List.length_cons]; omega), h]
  rfl
theorem e_lstore_10 {d : Nat} {C r : List pm_I} {a : Int} {y : Nat} {ls st : List pm_V} {A : pm_A} {σ : pm_S} {l0 l1 l2 l3 l4 l5 l6 l7 l8 l9 : pm_V} {v : Int} {w w2 : pm_V} (hn : pm_nl l9 = true) : ex d C ((0,6,a,10,y) :: r) (l0 :: l1 :: l2 :: l3 :: l4 :: l5 :: l6 :: l7 :: l8 :: l9 :: w :: w2 :: ls) (vL v :: st) A σ = ex d C r (l0 :: l1 :: l2 :: l3 :: l4 :: l5 :: l6 :: l7 :: l8 :: l9 :: vL v :: vO :: ls) st A σ := by
  refine ex_g0 ?_
  have h := pm_set1_ok (ls := l0 :: l1 :: l2 :: l3 :: l4 :: l5 :: l6 :: l7 :: l8 :: l9 :: w :: w2 :: ls) (z := 9) (v := vL v) (w := l9) rfl hn
  simp only [pm_g0]
  rw [if_pos (by simp only [List.length_cons]; omega), h]
  rfl
theorem e_iload_11 {d : Nat} {C r : List pm_I} {a : Int} {y : Nat} {ls st : List pm_V} {A : pm_A} {σ : pm_S} {l0 l1 l2 l3 l4 l5 l6 l7 l8 l9 l10 : pm_V} {v : Int} : ex d C ((0,1,a,11,y) :: r) (l0 :: l1 :: l2 :: l3 :: l4 :: l5 :: l6 :: l7 :: l8 :: l9 :: l10 :: vI v :: ls) st A σ = ex d C r (l0 :: l1 :: l2 :: l3 :: l4 :: l5 :: l6 :: l7 :: l8 :: l9 :: l10 :: vI v :: ls) (vI v :: st) A σ := by rw [ex_cons]; rfl
theorem e_lload_11 {d : Nat} {C r : List pm_I} {a : Int} {y : Nat} {ls st : List pm_V} {A : pm_A} {σ : pm_S} {l0 l1 l2 l3 l4 l5 l6 l7 l8 l9 l10 : pm_V} {v : Int} : ex d C ((0,5,a,11,y) :: r) (l0 :: l1 :: l2 :: l3 :: l4 :: l5 :: l6 :: l7 :: l8 :: l9 :: l10 :: vL v :: ls) st A σ = ex d C r (l0 :: l1 :: l2 :: l3 :: l4 :: l5 :: l6 :: l7 :: l8 :: l9 :: l10 :: vL v :: ls) (vL v :: st) A σ := by rw [ex_cons]; rfl
theorem e_aload_11 {d : Nat} {C r : List pm_I} {a : Int} {y : Nat} {ls st : List pm_V} {A : pm_A} {σ : pm_S} {l0 l1 l2 l3 l4 l5 l6 l7 l8 l9 l10 : pm_V} {v : Nat} : ex d C ((0,3,a,11,y) :: r) (l0 :: l1 :: l2 :: l3 :: l4 :: l5 :: l6 :: l7 :: l8 :: l9 :: l10 :: vR v :: ls) st A σ = ex d C r (l0 :: l1 :: l2 :: l3 :: l4 :: l5 :: l6 :: l7 :: l8 :: l9 :: l10 :: vR v :: ls) (vR v :: st) A σ := by rw [ex_cons]; rfl
theorem e_sload_11 {d : Nat} {C r : List pm_I} {a : Int} {y : Nat} {ls st : List pm_V} {A : pm_A} {σ : pm_S} {l0 l1 l2 l3 l4 l5 l6 l7 l8 l9 l10 : pm_V} {v : Nat} : ex d C ((0,3,a,11,y) :: r) (l0 :: l1 :: l2 :: l3 :: l4 :: l5 :: l6 :: l7 :: l8 :: l9 :: l10 :: vS v :: ls) st A σ = ex d C r (l0 :: l1 :: l2 :: l3 :: l4 :: l5 :: l6 :: l7 :: l8 :: l9 :: l10 :: vS v :: ls) (vS v :: st) A σ := by rw [ex_cons]; rfl
theorem e_iinc_11 {d : Nat} {C r : List pm_I} {a : Int} {y : Nat} {ls st : List pm_V} {A : pm_A} {σ : pm_S} {l0 l1 l2 l3 l4 l5 l6 l7 l8 l9 l10 : pm_V} {v : Int} : ex d C ((0,7,a,11,y) :: r) (l0 :: l1 :: l2 :: l3 :: l4 :: l5 :: l6 :: l7 :: l8 :: l9 :: l10 :: vI v :: ls) st A σ = ex d C r (l0 :: l1 :: l2 :: l3 :: l4 :: l5 :: l6 :: l7 :: l8 :: l9 :: l10 :: vI (wr (v + a)) :: ls) st A σ := by rw [ex_cons]; rfl
theorem e_istore_11 {d : Nat} {C r : List pm_I} {a : Int} {y : Nat} {ls st : List pm_V} {A : pm_A} {σ : pm_S} {l0 l1 l2 l3 l4 l5 l6 l7 l8 l9 l10 : pm_V} {v : Int} {w : pm_V} (hn : pm_nl l10 = true) : ex d C ((0,2,a,11,y) :: r) (l0 :: l1 :: l2 :: l3 :: l4 :: l5 :: l6 :: l7 :: l8 :: l9 :: l10 :: w :: ls) (vI v :: st) A σ = ex d C r (l0 :: l1 :: l2 :: l3 :: l4 :: l5 :: l6 :: l7 :: l8 :: l9 :: l10 :: vI v :: ls) st A σ := by
  refine ex_g0 ?_
  have h := pm_set1_ok (ls := l0 :: l1 :: l2 :: l3 :: l4 :: l5 :: l6 :: l7 :: l8 :: l9 :: l10 :: w :: ls) (z := 10) (v := vI v) (w := l10) rfl hn
  simp only [pm_g0]
  rw [if_pos (by simp only [List.length_cons]; omega), h]
  rfl
theorem e_astore_11 {d : Nat} {C r : List pm_I} {a : Int} {y : Nat} {ls st : List pm_V} {A : pm_A} {σ : pm_S} {l0 l1 l2 l3 l4 l5 l6 l7 l8 l9 l10 : pm_V} {v : Nat ⊕ Option Nat} {w : pm_V} (hn : pm_nl l10 = true) : ex d C ((0,4,a,11,y) :: r) (l0 :: l1 :: l2 :: l3 :: l4 :: l5 :: l6 :: l7 :: l8 :: l9 :: l10 :: w :: ls) (Sum.inr (Sum.inr v) :: st) A σ = ex d C r (l0 :: l1 :: l2 :: l3 :: l4 :: l5 :: l6 :: l7 :: l8 :: l9 :: l10 :: Sum.inr (Sum.inr v) :: ls) st A σ := by
  refine ex_g0 ?_
  have h := pm_set1_ok (ls := l0 :: l1 :: l2 :: l3 :: l4 :: l5 :: l6 :: l7 :: l8 :: l9 :: l10 :: w :: ls) (z := 10) (v := Sum.inr (Sum.inr v)) (w := l10) rfl hn
  simp only [pm_g0]
  rw [if_pos (by simp only [List.length_cons]; omega), h]
  rfl
theorem e_lstore_11 {d : Nat} {C r : List pm_I} {a : Int} {y : Nat} {ls st : List pm_V} {A : pm_A} {σ : pm_S} {l0 l1 l2 l3 l4 l5 l6 l7 l8 l9 l10 : pm_V} {v : Int} {w w2 : pm_V} (hn : pm_nl l10 = true) : ex d C ((0,6,a,11,y) :: r) (l0 :: l1 :: l2 :: l3 :: l4 :: l5 :: l6 :: l7 :: l8 :: l9 :: l10 :: w :: w2 :: ls) (vL v :: st) A σ = ex d C r (l0 :: l1 :: l2 :: l3 :: l4 :: l5 :: l6 :: l7 :: l8 :: l9 :: l10 :: vL v :: vO :: ls) st A σ := by
  refine ex_g0 ?_
  have h := pm_set1_ok (ls := l0 :: l1 :: l2 :: l3 :: l4 :: l5 :: l6 :: l7 :: l8 :: l9 :: l10 :: w :: w2 :: ls) (z := 10) (v := vL v) (w := l10) rfl hn
  simp only [pm_g0]
  rw [if_pos (by simp only [List.length_cons]; omega), h]
  rfl
theorem e_iload_12 {d : Nat} {C r : List pm_I} {a : Int} {y : Nat} {ls st : List pm_V} {A : pm_A} {σ : pm_S} {l0 l1 l2 l3 l4 l5 l6 l7 l8 l9 l10 l11 : pm_V} {v : Int} : ex d C ((0,1,a,12,y) :: r) (l0 :: l1 :: l2 :: l3 :: l4 :: l5 :: l6 :: l7 :: l8 :: l9 :: l10 :: l11 :: vI v :: ls) st A σ = ex d C r (l0 :: l1 :: l2 :: l3 :: l4 :: l5 :: l6 :: l7 :: l8 :: l9 :: l10 :: l11 :: vI v :: ls) (vI v :: st) A σ := by rw [ex_cons]; rfl
theorem e_lload_12 {d : Nat} {C r : List pm_I} {a : Int} {y : Nat} {ls st : List pm_V} {A : pm_A} {σ : pm_S} {l0 l1 l2 l3 l4 l5 l6 l7 l8 l9 l10 l11 : pm_V} {v : Int} : ex d C ((0,5,a,12,y) :: r) (l0 :: l1 :: l2 :: l3 :: l4 :: l5 :: l6 :: l7 :: l8 :: l9 :: l10 :: l11 :: vL v :: ls) st A σ = ex d C r (l0 :: l1 :: l2 :: l3 :: l4 :: l5 :: l6 :: l7 :: l8 :: l9 :: l10 :: l11 :: vL v :: ls) (vL v :: st) A σ := by rw [ex_cons]; rfl
theorem e_aload_12 {d : Nat} {C r : List pm_I} {a : Int} {y : Nat} {ls st : List pm_V} {A : pm_A} {σ : pm_S} {l0 l1 l2 l3 l4 l5 l6 l7 l8 l9 l10 l11 : pm_V} {v : Nat} : ex d C ((0,3,a,12,y) :: r) (l0 :: l1 :: l2 :: l3 :: l4 :: l5 :: l6 :: l7 :: l8 :: l9 :: l10 :: l11 :: vR v :: ls) st A σ = ex d C r (l0 :: l1 :: l2 :: l3 :: l4 :: l5 :: l6 :: l7 :: l8 :: l9 :: l10 :: l11 :: vR v :: ls) (vR v :: st) A σ := by rw [ex_cons]; rfl
theorem e_sload_12 {d : Nat} {C r : List pm_I} {a : Int} {y : Nat} {ls st : List pm_V} {A : pm_A} {σ : pm_S} {l0 l1 l2 l3 l4 l5 l6 l7 l8 l9 l10 l11 : pm_V} {v : Nat} : ex d C ((0,3,a,12,y) :: r) (l0 :: l1 :: l2 :: l3 :: l4 :: l5 :: l6 :: l7 :: l8 :: l9 :: l10 :: l11 :: vS v :: ls) st A σ = ex d C r (l0 :: l1 :: l2 :: l3 :: l4 :: l5 :: l6 :: l7 :: l8 :: l9 :: l10 :: l11 :: vS v :: ls) (vS v :: st) A σ := by rw [ex_cons]; rfl
theorem e_iinc_12 {d : Nat} {C r : List pm_I} {a : Int} {y : Nat} {ls st : List pm_V} {A : pm_A} {σ : pm_S} {l0 l1 l2 l3 l4 l5 l6 l7 l8 l9 l10 l11 : pm_V} {v : Int} : ex d C ((0,7,a,12,y) :: r) (l0 :: l1 :: l2 :: l3 :: l4 :: l5 :: l6 :: l7 :: l8 :: l9 :: l10 :: l11 :: vI v :: ls) st A σ = ex d C r (l0 :: l1 :: l2 :: l3 :: l4 :: l5 :: l6 :: l7 :: l8 :: l9 :: l10 :: l11 :: vI (wr (v + a)) :: ls) st A σ := by rw [ex_cons]; rfl
theorem e_istore_12 {d : Nat} {C r : List pm_I} {a : Int} {y : Nat} {ls st : List pm_V} {A : pm_A} {σ : pm_S} {l0 l1 l2 l3 l4 l5 l6 l7 l8 l9 l10 l11 : pm_V} {v : Int} {w : pm_V} (hn : pm_nl l11 = true) : ex d C ((0,2,a,12,y) :: r) (l0 :: l1 :: l2 :: l3 :: l4 :: l5 :: l6 :: l7 :: l8 :: l9 :: l10 :: l11 :: w :: ls) (vI v :: st) A σ = ex d C r (l0 :: l1 :: l2 :: l3 :: l4 :: l5 :: l6 :: l7 :: l8 :: l9 :: l10 :: l11 :: vI v :: ls) st A σ := by
  refine ex_g0 ?_
  have h := pm_set1_ok (ls := l0 :: l1 :: l2 :: l3 :: l4 :: l5 :: l6 :: l7 :: l8 :: l9 :: l10 :: l11 :: w :: ls) (z := 11) (v := vI v) (w := l11) rfl hn
  simp only [pm_g0]
  rw [if_pos (by simp only [List.length_cons]; omega), h]
  rfl
theorem e_astore_12 {d : Nat} {C r : List pm_I} {a : Int} {y : Nat} {ls st : List pm_V} {A : pm_A} {σ : pm_S} {l0 l1 l2 l3 l4 l5 l6 l7 l8 l9 l10 l11 : pm_V} {v : Nat ⊕ Option Nat} {w : pm_V} (hn : pm_nl l11 = true) : ex d C ((0,4,a,12,y) :: r) (l0 :: l1 :: l2 :: l3 :: l4 :: l5 :: l6 :: l7 :: l8 :: l9 :: l10 :: l11 :: w :: ls) (Sum.inr (Sum.inr v) :: st) A σ = ex d C r (l0 :: l1 :: l2 :: l3 :: l4 :: l5 :: l6 :: l7 :: l8 :: l9 :: l10 :: l11 :: Sum.inr (Sum.inr v) :: ls) st A σ := by
  refine ex_g0 ?_
  have h := pm_set1_ok (ls := l0 :: l1 :: l2 :: l3 :: l4 :: l5 :: l6 :: l7 :: l8 :: l9 :: l10 :: l11 :: w :: ls) (z := 11) (v := Sum.inr (Sum.inr v)) (w := l11) rfl hn
  simp only [pm_g0]
  rw [if_pos (by simp only [List.length_cons]; omega), h]
  rfl
theorem e_lstore_12 {d : Nat} {C r : List pm_I} {a : Int} {y : Nat} {ls st : List pm_V} {A : pm_A} {σ : pm_S} {l0 l1 l2 l3 l4 l5 l6 l7 l8 l9 l10 l11 : pm_V} {v : Int} {w w2 : pm_V} (hn : pm_nl l11 = true) : ex d C ((0,6,a,12,y) :: r) (l0 :: l1 :: l2 :: l3 :: l4 :: l5 :: l6 :: l7 :: l8 :: l9 :: l10 :: l11 :: w :: w2 :: ls) (vL v :: st) A σ = ex d C r (l0 :: l1 :: l2 :: l3 :: l4 :: l5 :: l6 :: l7 :: l8 :: l9 :: l10 :: l11 :: vL v :: vO :: ls) st A σ := by
  refine ex_g0 ?_
  have h := pm_set1_ok (ls := l0 :: l1 :: l2 :: l3 :: l4 :: l5 :: l6 :: l7 :: l8 :: l9 :: l10 :: l11 :: w :: w2 :: ls) (z := 11) (v := vL v) (w := l11) rfl hn
  simp only [pm_g0]
  rw [if_pos (by simp only [List.length_cons]; omega), h]
  rfl
theorem e_iload_13 {d : Nat} {C r : List pm_I} {a : Int} {y : Nat} {ls st : List pm_V} {A : pm_A} {σ : pm_S} {l0 l1 l2 l3 l4 l5 l6 l7 l8 l9 l10 l11 l12 : pm_V} {v : Int} : ex d C ((0,1,a,13,y) :: r) (l0 :: l1 :: l2 :: l3 :: l4 :: l5 :: l6 :: l7 :: l8 :: l9 :: l10 :: l11 :: l12 :: vI v :: ls) st A σ = ex d C r (l0 :: l1 :: l2 :: l3 :: l4 :: l5 :: l6 :: l7 :: l8 :: l9 :: l10 :: l11 :: l12 :: vI v :: ls) (vI v :: st) A σ := by rw [ex_cons]; rfl
theorem e_lload_13 {d : Nat} {C r : List pm_I} {a : Int} {y : Nat} {ls st : List pm_V} {A : pm_A} {σ : pm_S} {l0 l1 l2 l3 l4 l5 l6 l7 l8 l9 l10 l11 l12 : pm_V} {v : Int} : ex d C ((0,5,a,13,y) :: r) (l0 :: l1 :: l2 :: l3 :: l4 :: l5 :: l6 :: l7 :: l8 :: l9 :: l10 :: l11 :: l12 :: vL v :: ls) st A σ = ex d C r (l0 :: l1 :: l2 :: l3 :: l4 :: l5 :: l6 :: l7 :: l8 :: l9 :: l10 :: l11 :: l12 :: vL v :: ls) (vL v :: st) A σ := by rw [ex_cons]; rfl
theorem e_aload_13 {d : Nat} {C r : List pm_I} {a : Int} {y : Nat} {ls st : List pm_V} {A : pm_A} {σ : pm_S} {l0 l1 l2 l3 l4 l5 l6 l7 l8 l9 l10 l11 l12 : pm_V} {v : Nat} : ex d C ((0,3,a,13,y) :: r) (l0 :: l1 :: l2 :: l3 :: l4 :: l5 :: l6 :: l7 :: l8 :: l9 :: l10 :: l11 :: l12 :: vR v :: ls) st A σ = ex d C r (l0 :: l1 :: l2 :: l3 :: l4 :: l5 :: l6 :: l7 :: l8 :: l9 :: l10 :: l11 :: l12 :: vR v :: ls) (vR v :: st) A σ := by rw [ex_cons]; rfl
theorem e_sload_13 {d : Nat} {C r : List pm_I} {a : Int} {y : Nat} {ls st : List pm_V} {A : pm_A} {σ : pm_S} {l0 l1 l2 l3 l4 l5 l6 l7 l8 l9 l10 l11 l12 : pm_V} {v : Nat} : ex d C ((0,3,a,13,y) :: r) (l0 :: l1 :: l2 :: l3 :: l4 :: l5 :: l6 :: l7 :: l8 :: l9 :: l10 :: l11 :: l12 :: vS v :: ls) st A σ = ex d C r (l0 :: l1 :: l2 :: l3 :: l4 :: l5 :: l6 :: l7 :: l8 :: l9 :: l10 :: l11 :: l12 :: vS v :: ls) (vS v :: st) A σ := by rw [ex_cons]; rfl
theorem e_iinc_13 {d : Nat} {C r : List pm_I} {a : Int} {y : Nat} {ls st : List pm_V} {A : pm_A} {σ : pm_S} {l0 l1 l2 l3 l4 l5 l6 l7 l8 l9 l10 l11 l12 : pm_V} {v : Int} : ex d C ((0,7,a,13,y) :: r) (l0 :: l1 :: l2 :: l3 :: l4 :: l5 :: l6 :: l7 :: l8 :: l9 :: l10 :: l11 :: l12 :: vI v :: ls) st A σ = ex d C r (l0 :: l1 :: l2 :: l3 :: l4 :: l5 :: l6 :: l7 :: l8 :: l9 :: l10 :: l11 :: l12 :: vI (wr (v + a)) :: ls) st A σ := by rw [ex_cons]; rfl
theorem e_istore_13 {d : Nat} {C r : List pm_I} {a : Int} {y : Nat} {ls st : List pm_V} {A : pm_A} {σ : pm_S} {l0 l1 l2 l3 l4 l5 l6 l7 l8 l9 l10 l11 l12 : pm_V} {v : Int} {w : pm_V} (hn : pm_nl l12 = true) : ex d C ((0,2,a,13,y) :: r) (l0 :: l1 :: l2 :: l3 :: l4 :: l5 :: l6 :: l7 :: l8 :: l9 :: l10 :: l11 :: l12 :: w :: ls) (vI v :: st) A σ = ex d C r (l0 :: l1 :: l2 :: l3 :: l4 :: l5 :: l6 :: l7 :: l8 :: l9 :: l10 :: l11 :: l12 :: vI v :: ls) st A σ := by
  refine ex_g0 ?_
  have h := pm_set1_ok (ls := l0 :: l1 :: l2 :: l3 :: l4 :: l5 :: l6 :: l7 :: l8 :: l9 :: l10 :: l11 :: l12 :: w :: ls) (z := 12) (v := vI v) (w := l12) rfl hn
  simp only [pm_g0]
  rw [if_pos (by simp only [List.length_cons]; omega), h]
  rfl
theorem e_astore_13 {d : Nat} {C r : List pm_I} {a : Int} {y : Nat} {ls st : List pm_V} {A : pm_A} {σ : pm_S} {l0 l1 l2 l3 l4 l5 l6 l7 l8 l9 l10 l11 l12 : pm_V} {v : Nat ⊕ Option Nat} {w : pm_V} (hn : pm_nl l12 = true) : ex d C ((0,4,a,13,y) :: r) (l0 :: l1 :: l2 :: l3 :: l4 :: l5 :: l6 :: l7 :: l8 :: l9 :: l10 :: l11 :: l12 :: w :: ls) (Sum.inr (Sum.inr v) :: st) A σ = ex d C r (l0 :: l1 :: l2 :: l3 :: l4 :: l5 :: l6 :: l7 :: l8 :: l9 :: l10 :: l11 :: l12 :: Sum.inr (Sum.inr v) :: ls) st A σ := by
  refine ex_g0 ?_
  have h := pm_set1_ok (ls := l0 :: l1 :: l2 :: l3 :: l4 :: l5 :: l6 :: l7 :: l8 :: l9 :: l10 :: l11 :: l12 :: w :: ls) (z := 12) (v := Sum.inr (Sum.inr v)) (w := l12) rfl hn
  simp only [pm_g0]
  rw [if_pos (by simp only [List.length_cons]; omega), h]
  rfl
theorem e_lstore_13 {d : Nat} {C r : List pm_I} {a : Int} {y : Nat} {ls st : List pm_V} {A : pm_A} {σ : pm_S} {l0 l1 l2 l3 l4 l5 l6 l7 l8 l9 l10 l11 l12 : pm_V} {v : Int} {w w2 : pm_V} (hn : pm_nl l12 = true) : ex d C ((0,6,a,13,y) :: r) (l0 :: l1 :: l2 :: l3 :: l4 :: l5 :: l6 :: l7 :: l8 :: l9 :: l10 :: l11 :: l12 :: w :: w2 :: ls) (vL v :: st) A σ = ex d C r (l0 :: l1 :: l2 :: l3 :: l4 :: l5 :: l6 :: l7 :: l8 :: l9 :: l10 :: l11 :: l12 :: vL v :: vO :: ls) st A σ := by
  refine ex_g0 ?_
  have h := pm_set1_ok (ls := l0 :: l1 :: l2 :: l3 :: l4 :: l5 :: l6 :: l7 :: l8 :: l9 :: l10 :: l11 :: l12 :: w :: w2 :: ls) (z := 12) (v := vL v) (w := l12) rfl hn
  simp only [pm_g0]
  rw [if_pos (by simp only [List.length_cons]; omega), h]
  rfl
theorem e_iload_14 {d : Nat} {C r : List pm_I} {a : Int} {y : Nat} {ls st : List pm_V} {A : pm_A} {σ : pm_S} {l0 l1 l2 l3 l4 l5 l6 l7 l8 l9 l10 l11 l12 l13 : pm_V} {v : Int} : ex d C ((0,1,a,14,y) :: r) (l0 :: l1 :: l2 :: l3 :: l4 :: l5 :: l6 :: l7 :: l8 :: l9 :: l10 :: l11 :: l12 :: l13 :: vI v :: ls) st A σ = ex d C r (l0 :: l1 :: l2 :: l3 :: l4 :: l5 :: l6 :: l7 :: l8 :: l9 :: l10 :: l11 :: l12 :: l13 :: vI v :: ls) (vI v :: st) A σ := by rw [ex_cons]; rfl
theorem e_lload_14 {d : Nat} {C r : List pm_I} {a : Int} {y : Nat} {ls st : List pm_V} {A : pm_A} {σ : pm_S} {l0 l1 l2 l3 l4 l5 l6 l7 l8 l9 l10 l11 l12 l13 : pm_V} {v : Int} : ex d C ((0,5,a,14,y) :: r) (l0 :: l1 :: l2 :: l3 :: l4 :: l5 :: l6 :: l7 :: l8 :: l9 :: l10 :: l11 :: l12 :: l13 :: vL v :: ls) st A σ = ex d C r (l0 :: l1 :: l2 :: l3 :: l4 :: l5 :: l6 :: l7 :: l8 :: l9 :: l10 :: l11 :: l12 :: l13 :: vL v :: ls) (vL v :: st) A σ := by rw [ex_cons]; rfl
theorem e_aload_14 {d : Nat} {C r : List pm_I} {a : Int} {y : Nat} {ls st : List pm_V} {A : pm_A} {σ : pm_S} {l0 l1 l2 l3 l4 l5 l6 l7 l8 l9 l10 l11 l12 l13 : pm_V} {v : Nat} : ex d C ((0,3,a,14,y) :: r) (l0 :: l1 :: l2 :: l3 :: l4 :: l5 :: l6 :: l7 :: l8 :: l9 :: l10 :: l11 :: l12 :: l13 :: vR v :: ls) st A σ = ex d C r (l0 :: l1 :: l2 :: l3 :: l4 :: l5 :: l6 :: l7 :: l8 :: l9 :: l10 :: l11 :: l12 :: l13 :: vR v :: ls) (vR v :: st) A σ := by rw [ex_cons]; rfl
theorem e_sload_14 {d : Nat} {C r : List pm_I} {a : Int} {y : Nat} {ls st : List pm_V} {A : pm_A} {σ : pm_S} {l0 l1 l2 l3 l4 l5 l6 l7 l8 l9 l10 l11 l12 l13 : pm_V} {v : Nat} : ex d C ((0,3,a,14,y) :: r) (l0 :: l1 :: l2 :: l3 :: l4 :: l5 :: l6 :: l7 :: l8 :: l9 :: l10 :: l11 :: l12 :: l13 :: vS v :: ls) st A σ = ex d C r (l0 :: l1 :: l2 :: l3 :: l4 :: l5 :: l6 :: l7 :: l8 :: l9 :: l10 :: l11 :: l12 :: l13 :: vS v :: ls) (vS v :: st) A σ := by rw [ex_cons]; rfl
theorem e_iinc_14 {d : Nat} {C r : List pm_I} {a : Int} {y : Nat} {ls st : List pm_V} {A : pm_A} {σ : pm_S} {l0 l1 l2 l3 l4 l5 l6 l7 l8 l9 l10 l11 l12 l13 : pm_V} {v : Int} : ex d C ((0,7,a,14,y) :: r) (l0 :: l1 :: l2 :: l3 :: l4 :: l5 :: l6 :: l7 :: l8 :: l9 :: l10 :: l11 :: l12 :: l13 :: vI v :: ls) st A σ = ex d C r (l0 :: l1 :: l2 :: l3 :: l4 :: l5 :: l6 :: l7 :: l8 :: l9 :: l10 :: l11 :: l12 :: l13 :: vI (wr (v + a)) :: ls) st A σ := by rw [ex_cons]; rfl
theorem e_istore_14 {d : Nat} {C r : List pm_I} {a : Int} {y : Nat} {ls st : List pm_V} {A : pm_A} {σ : pm_S} {l0 l1 l2 l3 l4 l5 l6 l7 l8 l9 l10 l11 l12 l13 : pm_V} {v : Int} {w : pm_V} (hn : pm_nl l13 = true) : ex d C ((0,2,a,14,y) :: r) (l0 :: l1 :: l2 :: l3 :: l4 :: l5 :: l6 :: l7 :: l8 :: l9 :: l10 :: l11 :: l12 :: l13 :: w :: ls) (vI v :: st) A σ = ex d C r (l0 :: l1 :: l2 :: l3 :: l4 :: l5 :: l6 :: l7 :: l8 :: l9 :: l10 :: l11 :: l12 :: l13 :: vI v :: ls) st A σ := by
  refine ex_g0 ?_
  have h := pm_set1_ok (ls := l0 :: l1 :: l2 :: l3 :: l4 :: l5 :: l6 :: l7 :: l8 :: l9 :: l10 :: l11 :: l12 :: l13 :: w :: ls) (z := 13) (v := vI v) (w := l13) rfl hn
  simp only [pm_g0]
  rw [if_pos (by simp only [List.length_cons]; omega), h]
  rfl
theorem e_astore_14 {d : Nat} {C r : List pm_I} {a : Int} {y : Nat} {ls st : List pm_V} {A : pm_A} {σ : pm_S} {l0 l1 l2 l3 l4 l5 l6 l7 l8 l9 l10 l11 l12 l13 : pm_V} {v : Nat ⊕ Option Nat} {w : pm_V} (hn : pm_nl l13 = true) : ex d C ((0,4,a,14,y) :: r) (l0 :: l1 :: l2 :: l3 :: l4 :: l5 :: l6 :: l7 :: l8 :: l9 :: l10 :: l11 :: l12 :: l13 :: w :: ls) (Sum.inr (Sum.inr v) :: st) A σ = ex d C r (l0 :: l1 :: l2 :: l3 :: l4 :: l5 :: l6 :: l7 :: l8 :: l9 :: l10 :: l11 :: l12 :: l13 :: Sum.inr (Sum.inr v) :: ls) st A σ := by
  refine ex_g0 ?_
  have h := pm_set1_ok (ls := l0 :: l1 :: l2 :: l3 :: l4 :: l5 :: l6 :: l7 :: l8 :: l9 :: l10 :: l11 :: l12 :: l13 :: w :: ls) (z := 13) (v := Sum.inr (Sum.inr v)) (w := l13) rfl hn
  simp only [pm_g0]
  rw [if_pos (by simp only [List.length_cons]; omega), h]
  rfl
theorem e_lstore_14 {d : Nat} {C r : List pm_I} {a : Int} {y : Nat} {ls st : List pm_V} {A : pm_A} {σ : pm_S} {l0 l1 l2 l3 l4 l5 l6 l7 l8 l9 l10 l11 l12 l13 : pm_V} {v : Int} {w w2 : pm_V} (hn : pm_nl l13 = true) : ex d C ((0,6,a,14,y) :: r) (l0 :: l1 :: l2 :: l3 :: l4 :: l5 :: l6 :: l7 :: l8 :: l9 :: l10 :: l11 :: l12 :: l13 :: w :: w2 :: ls) (vL v :: st) A σ = ex d C r (l0 :: l1 :: l2 :: l3 :: l4 :: l5 :: l6 :: l7 :: l8 :: l9 :: l10 :: l11 :: l12 :: l13 :: vL v :: vO :: ls) st A σ := by
  refine ex_g0 ?_
  have h := pm_set1_ok (ls := l0 :: l1 :: l2 :: l3 :: l4 :: l5 :: l6 :: l7 :: l8 :: l9 :: l10 :: l11 :: l12 :: l13 :: w :: w2 :: ls) (z := 13) (v := vL v) (w := l13) rfl hn
  simp only [pm_g0]
  rw [if_pos (by simp only [List.length_cons]; omega), h]
  rfl
theorem e_iload_15 {d : Nat} {C r : List pm_I} {a : Int} {y : Nat} {ls st : List pm_V} {A : pm_A} {σ : pm_S} {l0 l1 l2 l3 l4 l5 l6 l7 l8 l9 l10 l11 l12 l13 l14 : pm_V} {v : Int} : ex d C ((0,1,a,15,y) :: r) (l0 :: l1 :: l2 :: l3 :: l4 :: l5 :: l6 :: l7 :: l8 :: l9 :: l10 :: l11 :: l12 :: l13 :: l14 :: vI v :: ls) st A σ = ex d C r (l0 :: l1 :: l2 :: l3 :: l4 :: l5 :: l6 :: l7 :: l8 :: l9 :: l10 :: l11 :: l12 :: l13 :: l14 :: vI v :: ls) (vI v :: st) A σ := by rw [ex_cons]; rfl
theorem e_lload_15 {d : Nat} {C r : List pm_I} {a : Int} {y : Nat} {ls st : List pm_V} {A : pm_A} {σ : pm_S} {l0 l1 l2 l3 l4 l5 l6 l7 l8 l9 l10 l11 l12 l13 l14 : pm_V} {v : Int} : ex d C ((0,5,a,15,y) :: r) (l0 :: l1 :: l2 :: l3 :: l4 :: l5 :: l6 :: l7 :: l8 :: l9 :: l10 :: l11 :: l12 :: l13 :: l14 :: vL v :: ls) st A σ = ex d C r (l0 :: l1 :: l2 :: l3 :: l4 :: l5 :: l6 :: l7 :: l8 :: l9 :: l10 :: l11 :: l12 :: l13 :: l14 :: vL v :: ls) (vL v :: st) A σ := by rw [ex_cons]; rfl
theorem e_aload_15 {d : Nat} {C r : List pm_I} {a : Int} {y : Nat} {ls st : List pm_V} {A : pm_A} {σ : pm_S} {l0 l1 l2 l3 l4 l5 l6 l7 l8 l9 l10 l11 l12 l13 l14 : pm_V} {v : Nat} : ex d C ((0,3,a,15,y) :: r) (l0 :: l1 :: l2 :: l3 :: l4 :: l5 :: l6 :: l7 :: l8 :: l9 :: l10 :: l11 :: l12 :: l13 :: l14 :: vR v :: ls) st A σ = ex d C r (l0 :: l1 :: l2 :: l3 :: l4 :: l5 :: l6 :: l7 :: l8 :: l9 :: l10 :: l11 :: l12 :: l13 :: l14 :: vR v :: ls) (vR v :: st) A σ := by rw [ex_cons]; rfl
theorem e_sload_15 {d : Nat} {C r : List pm_I} {a : Int} {y : Nat} {ls st : List pm_V} {A : pm_A} {σ : pm_S} {l0 l1 l2 l3 l4 l5 l6 l7 l8 l9 l10 l11 l12 l13 l14 : pm_V} {v : Nat} : ex d C ((0,3,a,15,y) :: r) (l0 :: l1 :: l2 :: l3 :: l4 :: l5 :: l6 :: l7 :: l8 :: l9 :: l10 :: l11 :: l12 :: l13 :: l14 :: vS v :: ls) st A σ = ex d C r (l0 :: l1 :: l2 :: l3 :: l4 :: l5 :: l6 :: l7 :: l8 :: l9 :: l10 :: l11 :: l12 :: l13 :: l14 :: vS v :: ls) (vS v :: st) A σ := by rw [ex_cons]; rfl
theorem e_iinc_15 {d : Nat} {C r : List pm_I} {a : Int} {y : Nat} {ls st : List pm_V} {A : pm_A} {σ : pm_S} {l0 l1 l2 l3 l4 l5 l6 l7 l8 l9 l10 l11 l12 l13 l14 : pm_V} {v : Int} : ex d C ((0,7,a,15,y) :: r) (l0 :: l1 :: l2 :: l3 :: l4 :: l5 :: l6 :: l7 :: l8 :: l9 :: l10 :: l11 :: l12 :: l13 :: l14 :: vI v :: ls) st A σ = ex d C r (l0 :: l1 :: l2 :: l3 :: l4 :: l5 :: l6 :: l7 :: l8 :: l9 :: l10 :: l11 :: l12 :: l13 :: l14 :: vI (wr (v + a)) :: ls) st A σ := by rw [ex_cons]; rfl
theorem e_istore_15 {d : Nat} {C r : List pm_I} {a : Int} {y : Nat} {ls st : List pm_V} {A : pm_A} {σ : pm_S} {l0 l1 l2 l3 l4 l5 l6 l7 l8 l9 l10 l11 l12 l13 l14 : pm_V} {v : Int} {w : pm_V} (hn : pm_nl l14 = true) : ex d C ((0,2,a,15,y) :: r) (l0 :: l1 :: l2 :: l3 :: l4 :: l5 :: l6 :: l7 :: l8 :: l9 :: l10 :: l11 :: l12 :: l13 :: l14 :: w :: ls) (vI v :: st) A σ = ex d C r (l0 :: l1 :: l2 :: l3 :: l4 :: l5 :: l6 :: l7 :: l8 :: l9 :: l10 :: l11 :: l12 :: l13 :: l14 :: vI v :: ls) st A σ := by
  refine ex_g0 ?_
  have h := pm_set1_ok (ls := l0 :: l1 :: l2 :: l3 :: l4 :: l5 :: l6 :: l7 :: l8 :: l9 :: l10 :: l11 :: l12 :: l13 :: l14 :: w :: ls) (z := 14) (v := vI v) (w := l14) rfl hn
  simp only [pm_g0]
  rw [if_pos (by simp only [List.length_cons]; omega), h]
  rfl
theorem e_astore_15 {d : Nat} {C r : List pm_I} {a : Int} {y : Nat} {ls st : List pm_V} {A : pm_A} {σ : pm_S} {l0 l1 l2 l3 l4 l5 l6 l7 l8 l9 l10 l11 l12 l13 l14 : pm_V} {v : Nat ⊕ Option Nat} {w : pm_V} (hn : pm_nl l14 = true) : ex d C ((0,4,a,15,y) :: r) (l0 :: l1 :: l2 :: l3 :: l4 :: l5 :: l6 :: l7 :: l8 :: l9 :: l10 :: l11 :: l12 :: l13 :: l14 :: w :: ls) (Sum.inr (Sum.inr v) :: st) A σ = ex d C r (l0 :: l1 :: l2 :: l3 :: l4 :: l5 :: l6 :: l7 :: l8 :: l9 :: l10 :: l11 :: l12 :: l13 :: l14 :: Sum.inr (Sum.inr v) :: ls) st A σ := by
  refine ex_g0 ?_
  have h := pm_set1_ok (ls := l0 :: l1 :: l2 :: l3 :: l4 :: l5 :: l6 :: l7 :: l8 :: l9 :: l10 :: l11 :: l12 :: l13 :: l14 :: w :: ls) (z := 14) (v := Sum.inr (Sum.inr v)) (w := l14) rfl hn
  simp only [pm_g0]
  rw [if_pos (by simp only [List.length_cons]; omega), h]
  rfl
theorem e_lstore_15 {d : Nat} {C r : List pm_I} {a : Int} {y : Nat} {ls st : List pm_V} {A : pm_A} {σ : pm_S} {l0 l1 l2 l3 l4 l5 l6 l7 l8 l9 l10 l11 l12 l13 l14 : pm_V} {v : Int} {w w2 : pm_V} (hn : pm_nl l14 = true) : ex d C ((0,6,a,15,y) :: r) (l0 :: l1 :: l2 :: l3 :: l4 :: l5 :: l6 :: l7 :: l8 :: l9 :: l10 :: l11 :: l12 :: l13 :: l14 :: w :: w2 :: ls) (vL v :: st) A σ = ex d C r (l0 :: l1 :: l2 :: l3 :: l4 :: l5 :: l6 :: l7 :: l8 :: l9 :: l10 :: l11 :: l12 :: l13 :: l14 :: vL v :: vO :: ls) st A σ := by
  refine ex_g0 ?_
  have h := pm_set1_ok (ls := l0 :: l1 :: l2 :: l3 :: l4 :: l5 :: l6 :: l7 :: l8 :: l9 :: l10 :: l11 :: l12 :: l13 :: l14 :: w :: w2 :: ls) (z := 14) (v := vL v) (w := l14) rfl hn
  simp only [pm_g0]
  rw [if_pos (by simp only [List.length_cons]; omega), h]
  rfl
theorem e_dup {d : Nat} {C r : List pm_I} {a : Int} {x y : Nat} {ls st : List pm_V} {A : pm_A} {σ : pm_S} {v : pm_V} (hn : pm_nl v = true) : ex d C ((0,8,a,x,y) :: r) ls (v :: st) A σ = ex d C r ls (v :: v :: st) A σ := by refine ex_g0 ?_; simp only [pm_g0]; rw [if_pos hn]
theorem e_dup2 {d : Nat} {C r : List pm_I} {a : Int} {x y : Nat} {ls st : List pm_V} {A : pm_A} {σ : pm_S} {v w : pm_V} (hn : pm_nl v = true) (hw : pm_nl w = true) : ex d C ((0,9,a,x,y) :: r) ls (v :: w :: st) A σ = ex d C r ls (v :: w :: v :: w :: st) A σ := by refine ex_g0 ?_; simp only [pm_g0]; rw [if_pos (by rw [hn, hw]; rfl)]
theorem e_pop {d : Nat} {C r : List pm_I} {a : Int} {x y : Nat} {ls st : List pm_V} {A : pm_A} {σ : pm_S} {v : pm_V} (hn : pm_nl v = true) : ex d C ((0,10,a,x,y) :: r) ls (v :: st) A σ = ex d C r ls st A σ := by refine ex_g0 ?_; simp only [pm_g0]; rw [if_pos hn]
theorem e_iadd {d : Nat} {C r : List pm_I} {a : Int} {x y : Nat} {ls st : List pm_V} {A : pm_A} {σ : pm_S} {p q : Int} : ex d C ((1,0,a,x,y) :: r) ls (vI q :: vI p :: st) A σ = ex d C r ls (vI (wr (p + q)) :: st) A σ := by rw [ex_cons]; rfl
theorem e_isub {d : Nat} {C r : List pm_I} {a : Int} {x y : Nat} {ls st : List pm_V} {A : pm_A} {σ : pm_S} {p q : Int} : ex d C ((1,1,a,x,y) :: r) ls (vI q :: vI p :: st) A σ = ex d C r ls (vI (wr (p - q)) :: st) A σ := by rw [ex_cons]; rfl
theorem e_imul {d : Nat} {C r : List pm_I} {a : Int} {x y : Nat} {ls st : List pm_V} {A : pm_A} {σ : pm_S} {p q : Int} : ex d C ((1,2,a,x,y) :: r) ls (vI q :: vI p :: st) A σ = ex d C r ls (vI (wr (p * q)) :: st) A σ := by rw [ex_cons]; rfl
theorem e_ishl {d : Nat} {C r : List pm_I} {a : Int} {x y : Nat} {ls st : List pm_V} {A : pm_A} {σ : pm_S} {p q : Int} : ex d C ((1,6,a,x,y) :: r) ls (vI q :: vI p :: st) A σ = ex d C r ls (vI (i_shl p q) :: st) A σ := by rw [ex_cons]; rfl
theorem e_ishr {d : Nat} {C r : List pm_I} {a : Int} {x y : Nat} {ls st : List pm_V} {A : pm_A} {σ : pm_S} {p q : Int} : ex d C ((1,7,a,x,y) :: r) ls (vI q :: vI p :: st) A σ = ex d C r ls (vI (i_shr p q) :: st) A σ := by rw [ex_cons]; rfl
theorem e_iushr {d : Nat} {C r : List pm_I} {a : Int} {x y : Nat} {ls st : List pm_V} {A : pm_A} {σ : pm_S} {p q : Int} : ex d C ((1,8,a,x,y) :: r) ls (vI q :: vI p :: st) A σ = ex d C r ls (vI (i_ushr p q) :: st) A σ := by rw [ex_cons]; rfl
theorem e_iand {d : Nat} {C r : List pm_I} {a : Int} {x y : Nat} {ls st : List pm_V} {A : pm_A} {σ : pm_S} {p q : Int} : ex d C ((1,9,a,x,y) :: r) ls (vI q :: vI p :: st) A σ = ex d C r ls (vI (i_and p q) :: st) A σ := by rw [ex_cons]; rfl
theorem e_ior {d : Nat} {C r : List pm_I} {a : Int} {x y : Nat} {ls st : List pm_V} {A : pm_A} {σ : pm_S} {p q : Int} : ex d C ((1,10,a,x,y) :: r) ls (vI q :: vI p :: st) A σ = ex d C r ls (vI (i_or p q) :: st) A σ := by rw [ex_cons]; rfl
theorem e_ixor {d : Nat} {C r : List pm_I} {a : Int} {x y : Nat} {ls st : List pm_V} {A : pm_A} {σ : pm_S} {p q : Int} : ex d C ((1,11,a,x,y) :: r) ls (vI q :: vI p :: st) A σ = ex d C r ls (vI (i_xor p q) :: st) A σ := by rw [ex_cons]; rfl
theorem e_min {d : Nat} {C r : List pm_I} {a : Int} {x y : Nat} {ls st : List pm_V} {A : pm_A} {σ : pm_S} {p q : Int} (hc : pm_cat st ≤ 4) : ex d C ((1,13,a,x,y) :: r) ls (vI q :: vI p :: st) A σ = ex d C r ls (vI (min p q) :: st) A σ := ex_stp (by simp) (by simp) (by simp) (pm_nd (by simp only [pm_cat]; omega)) rfl
theorem e_max {d : Nat} {C r : List pm_I} {a : Int} {x y : Nat} {ls st : List pm_V} {A : pm_A} {σ : pm_S} {p q : Int} (hc : pm_cat st ≤ 4) : ex d C ((1,14,a,x,y) :: r) ls (vI q :: vI p :: st) A σ = ex d C r ls (vI (max p q) :: st) A σ := ex_stp (by simp) (by simp) (by simp) (pm_nd (by simp only [pm_cat]; omega)) rfl
theorem e_idiv {d : Nat} {C r : List pm_I} {a : Int} {x y : Nat} {ls st : List pm_V} {A : pm_A} {σ : pm_S} {p q : Int} (hq : q ≠ 0) : ex d C ((1,3,a,x,y) :: r) ls (vI q :: vI p :: st) A σ = ex d C r ls (vI (wr (p.tdiv q)) :: st) A σ := by rw [ex_cons]; show ((if q = 0 then none else some _ : Option Int).map _).bind _ = _; rw [if_neg hq]; rfl
theorem e_irem {d : Nat} {C r : List pm_I} {a : Int} {x y : Nat} {ls st : List pm_V} {A : pm_A} {σ : pm_S} {p q : Int} (hq : q ≠ 0) : ex d C ((1,4,a,x,y) :: r) ls (vI q :: vI p :: st) A σ = ex d C r ls (vI (p.tmod q) :: st) A σ := by rw [ex_cons]; show ((if q = 0 then none else some _ : Option Int).map _).bind _ = _; rw [if_neg hq]; rfl
theorem e_ineg {d : Nat} {C r : List pm_I} {a : Int} {x y : Nat} {ls st : List pm_V} {A : pm_A} {σ : pm_S} {p : Int} : ex d C ((1,5,a,x,y) :: r) ls (vI p :: st) A σ = ex d C r ls (vI (wr (-p)) :: st) A σ := by rw [ex_cons]; rfl
theorem e_i2l {d : Nat} {C r : List pm_I} {a : Int} {x y : Nat} {ls st : List pm_V} {A : pm_A} {σ : pm_S} {p : Int} : ex d C ((1,12,a,x,y) :: r) ls (vI p :: st) A σ = ex d C r ls (vL p :: st) A σ := by rw [ex_cons]; rfl
theorem e_ladd {d : Nat} {C r : List pm_I} {a : Int} {x y : Nat} {ls st : List pm_V} {A : pm_A} {σ : pm_S} {p q : Int} : ex d C ((2,0,a,x,y) :: r) ls (vL q :: vL p :: st) A σ = ex d C r ls (vL (wl (p + q)) :: st) A σ := by rw [ex_cons]; rfl
theorem e_lmul {d : Nat} {C r : List pm_I} {a : Int} {x y : Nat} {ls st : List pm_V} {A : pm_A} {σ : pm_S} {p q : Int} : ex d C ((2,1,a,x,y) :: r) ls (vL q :: vL p :: st) A σ = ex d C r ls (vL (wl (p * q)) :: st) A σ := by rw [ex_cons]; rfl
theorem e_lcmp {d : Nat} {C r : List pm_I} {a : Int} {x y : Nat} {ls st : List pm_V} {A : pm_A} {σ : pm_S} {p q : Int} : ex d C ((2,4,a,x,y) :: r) ls (vL q :: vL p :: st) A σ = ex d C r ls (vI (if p < q then -1 else if p = q then 0 else 1) :: st) A σ := by rw [ex_cons]; rfl
theorem e_lmax {d : Nat} {C r : List pm_I} {a : Int} {x y : Nat} {ls st : List pm_V} {A : pm_A} {σ : pm_S} {p q : Int} (hc : pm_cat st ≤ 4) : ex d C ((2,5,a,x,y) :: r) ls (vL q :: vL p :: st) A σ = ex d C r ls (vL (max p q) :: st) A σ := ex_stp (by simp) (by simp) (by simp) (pm_nd (by simp only [pm_cat]; omega)) rfl
theorem e_ldiv {d : Nat} {C r : List pm_I} {a : Int} {x y : Nat} {ls st : List pm_V} {A : pm_A} {σ : pm_S} {p q : Int} (hq : q ≠ 0) : ex d C ((2,2,a,x,y) :: r) ls (vL q :: vL p :: st) A σ = ex d C r ls (vL (wl (p.tdiv q)) :: st) A σ := by rw [ex_cons]; show ((if q = 0 then none else some _ : Option pm_V).map _).bind _ = _; rw [if_neg hq]; rfl
theorem e_lrem {d : Nat} {C r : List pm_I} {a : Int} {x y : Nat} {ls st : List pm_V} {A : pm_A} {σ : pm_S} {p q : Int} (hq : q ≠ 0) : ex d C ((2,3,a,x,y) :: r) ls (vL q :: vL p :: st) A σ = ex d C r ls (vL (p.tmod q) :: st) A σ := by rw [ex_cons]; show ((if q = 0 then none else some _ : Option pm_V).map _).bind _ = _; rw [if_neg hq]; rfl
theorem e_goto {d : Nat} {C r : List pm_I} {a : Int} {x y : Nat} {ls st : List pm_V} {A : pm_A} {σ : pm_S} : ex d C ((3,0,a,x,y) :: r) ls st A σ = ex d C (C.drop x) ls st A σ := by rw [ex_cons]; rfl
theorem e_if_eq {d : Nat} {C r : List pm_I} {a : Int} {x : Nat} {ls st : List pm_V} {A : pm_A} {σ : pm_S} {p : Int} : ex d C ((3,1,a,x,0) :: r) ls (vI p :: st) A σ = if p = 0 then ex d C (C.drop x) ls st A σ else ex d C r ls st A σ := by
  by_cases h : p = 0
  · rw [if_pos h]; exact ex_jT (by simp only [pm_jmp, pm_cnd]; rw [pm_cd_T (decide_eq_true h)])
  · rw [if_neg h]; exact ex_jF (by simp only [pm_jmp, pm_cnd]; rw [pm_cd_F (decide_eq_false h)])
theorem e_ic_eq {d : Nat} {C r : List pm_I} {a : Int} {x : Nat} {ls st : List pm_V} {A : pm_A} {σ : pm_S} {p q : Int} : ex d C ((3,2,a,x,0) :: r) ls (vI q :: vI p :: st) A σ = if p = q then ex d C (C.drop x) ls st A σ else ex d C r ls st A σ := by
  by_cases h : p = q
  · rw [if_pos h]; exact ex_jT (by simp only [pm_jmp, pm_cnd]; rw [pm_cd_T (decide_eq_true h)])
  · rw [if_neg h]; exact ex_jF (by simp only [pm_jmp, pm_cnd]; rw [pm_cd_F (decide_eq_false h)])
theorem e_if_ne {d : Nat} {C r : List pm_I} {a : Int} {x : Nat} {ls st : List pm_V} {A : pm_A} {σ : pm_S} {p : Int} : ex d C ((3,1,a,x,1) :: r) ls (vI p :: st) A σ = if p ≠ 0 then ex d C (C.drop x) ls st A σ else ex d C r ls st A σ := by
  by_cases h : p ≠ 0
  · rw [if_pos h]; exact ex_jT (by simp only [pm_jmp, pm_cnd]; rw [pm_cd_T (decide_eq_true h)])
  · rw [if_neg h]; exact ex_jF (by simp only [pm_jmp, pm_cnd]; rw [pm_cd_F (decide_eq_false h)])
theorem e_ic_ne {d : Nat} {C r : List pm_I} {a : Int} {x : Nat} {ls st : List pm_V} {A : pm_A} {σ : pm_S} {p q : Int} : ex d C ((3,2,a,x,1) :: r) ls (vI q :: vI p :: st) A σ = if p ≠ q then ex d C (C.drop x) ls st A σ else ex d C r ls st A σ := by
  by_cases h : p ≠ q
  · rw [if_pos h]; exact ex_jT (by simp only [pm_jmp, pm_cnd]; rw [pm_cd_T (decide_eq_true h)])
  · rw [if_neg h]; exact ex_jF (by simp only [pm_jmp, pm_cnd]; rw [pm_cd_F (decide_eq_false h)])
theorem e_if_lt {d : Nat} {C r : List pm_I} {a : Int} {x : Nat} {ls st : List pm_V} {A : pm_A} {σ : pm_S} {p : Int} : ex d C ((3,1,a,x,2) :: r) ls (vI p :: st) A σ = if p < 0 then ex d C (C.drop x) ls st A σ else ex d C r ls st A σ := by
  by_cases h : p < 0
  · rw [if_pos h]; exact ex_jT (by simp only [pm_jmp, pm_cnd]; rw [pm_cd_T (decide_eq_true h)])
  · rw [if_neg h]; exact ex_jF (by simp only [pm_jmp, pm_cnd]; rw [pm_cd_F (decide_eq_false h)])
theorem e_ic_lt {d : Nat} {C r : List pm_I} {a : Int} {x : Nat} {ls st : List pm_V} {A : pm_A} {σ : pm_S} {p q : Int} : ex d C ((3,2,a,x,2) :: r) ls (vI q :: vI p :: st) A σ = if p < q then ex d C (C.drop x) ls st A σ else ex d C r ls st A σ := by
  by_cases h : p < q
  · rw [if_pos h]; exact ex_jT (by simp only [pm_jmp, pm_cnd]; rw [pm_cd_T (decide_eq_true h)])
  · rw [if_neg h]; exact ex_jF (by simp only [pm_jmp, pm_cnd]; rw [pm_cd_F (decide_eq_false h)])
theorem e_if_ge {d : Nat} {C r : List pm_I} {a : Int} {x : Nat} {ls st : List pm_V} {A : pm_A} {σ : pm_S} {p : Int} : ex d C ((3,1,a,x,3) :: r) ls (vI p :: st) A σ = if 0 ≤ p then ex d C (C.drop x) ls st A σ else ex d C r ls st A σ := by
  by_cases h : 0 ≤ p
  · rw [if_pos h]; exact ex_jT (by simp only [pm_jmp, pm_cnd]; rw [pm_cd_T (decide_eq_true h)])
  · rw [if_neg h]; exact ex_jF (by simp only [pm_jmp, pm_cnd]; rw [pm_cd_F (decide_eq_false h)])
theorem e_ic_ge {d : Nat} {C r : List pm_I} {a : Int} {x : Nat} {ls st : List pm_V} {A : pm_A} {σ : pm_S} {p q : Int} : ex d C ((3,2,a,x,3) :: r) ls (vI q :: vI p :: st) A σ = if q ≤ p then ex d C (C.drop x) ls st A σ else ex d C r ls st A σ := by
  by_cases h : q ≤ p
  · rw [if_pos h]; exact ex_jT (by simp only [pm_jmp, pm_cnd]; rw [pm_cd_T (decide_eq_true h)])
  · rw [if_neg h]; exact ex_jF (by simp only [pm_jmp, pm_cnd]; rw [pm_cd_F (decide_eq_false h)])
theorem e_if_gt {d : Nat} {C r : List pm_I} {a : Int} {x : Nat} {ls st : List pm_V} {A : pm_A} {σ : pm_S} {p : Int} : ex d C ((3,1,a,x,4) :: r) ls (vI p :: st) A σ = if 0 < p then ex d C (C.drop x) ls st A σ else ex d C r ls st A σ := by
  by_cases h : 0 < p
  · rw [if_pos h]; exact ex_jT (by simp only [pm_jmp, pm_cnd]; rw [pm_cd_T (decide_eq_true h)])
  · rw [if_neg h]; exact ex_jF (by simp only [pm_jmp, pm_cnd]; rw [pm_cd_F (decide_eq_false h)])
theorem e_ic_gt {d : Nat} {C r : List pm_I} {a : Int} {x : Nat} {ls st : List pm_V} {A : pm_A} {σ : pm_S} {p q : Int} : ex d C ((3,2,a,x,4) :: r) ls (vI q :: vI p :: st) A σ = if q < p then ex d C (C.drop x) ls st A σ else ex d C r ls st A σ := by
  by_cases h : q < p
  · rw [if_pos h]; exact ex_jT (by simp only [pm_jmp, pm_cnd]; rw [pm_cd_T (decide_eq_true h)])
  · rw [if_neg h]; exact ex_jF (by simp only [pm_jmp, pm_cnd]; rw [pm_cd_F (decide_eq_false h)])
theorem e_if_le {d : Nat} {C r : List pm_I} {a : Int} {x : Nat} {ls st : List pm_V} {A : pm_A} {σ : pm_S} {p : Int} : ex d C ((3,1,a,x,5) :: r) ls (vI p :: st) A σ = if p ≤ 0 then ex d C (C.drop x) ls st A σ else ex d C r ls st A σ := by
  by_cases h : p ≤ 0
  · rw [if_pos h]; exact ex_jT (by simp only [pm_jmp, pm_cnd]; rw [pm_cd_T (decide_eq_true h)])
  · rw [if_neg h]; exact ex_jF (by simp only [pm_jmp, pm_cnd]; rw [pm_cd_F (decide_eq_false h)])
theorem e_ic_le {d : Nat} {C r : List pm_I} {a : Int} {x : Nat} {ls st : List pm_V} {A : pm_A} {σ : pm_S} {p q : Int} : ex d C ((3,2,a,x,5) :: r) ls (vI q :: vI p :: st) A σ = if p ≤ q then ex d C (C.drop x) ls st A σ else ex d C r ls st A σ := by
  by_cases h : p ≤ q
  · rw [if_pos h]; exact ex_jT (by simp only [pm_jmp, pm_cnd]; rw [pm_cd_T (decide_eq_true h)])
  · rw [if_neg h]; exact ex_jF (by simp only [pm_jmp, pm_cnd]; rw [pm_cd_F (decide_eq_false h)])
theorem e_sw {d : Nat} {C r : List pm_I} {a : Int} {x y : Nat} {ls st : List pm_V} {A : pm_A} {σ : pm_S} {p : Int} {w : List (Int × Nat) × Nat} (hw : pm_ws[x]? = some w) : ex d C ((3,3,a,x,y) :: r) ls (vI p :: st) A σ = ex d C (C.drop (pm_sw w.1 w.2 p)) ls st A σ := ex_jT (by simp only [pm_jmp, hw])
theorem e_getI {d : Nat} {C r : List pm_I} {a : Int} {x y : Nat} {ls st : List pm_V} {A : pm_A} {σ : pm_S} {o : Nat} (hk : pm_kd A o = x) (hl : y < pm_ln A o) (hx : x ≠ 999) : ex d C ((4,0,a,x,y) :: r) ls (vR o :: st) A σ = ex d C r ls (vI (σ o y) :: st) A σ := by
  obtain ⟨c, h1, h2⟩ := pm_kd_some hx hk
  have h3 := pm_ln_some h1 rfl
  rw [ex_cons]
  have h : pm_g4 0 x y (vR o :: st) A σ = some (vI (σ o y) :: st, A, σ) := by
    simp only [pm_g4, h1]
    rw [if_pos ⟨h2, by rw [h3]; exact hl⟩]
  show ((pm_g4 0 x y (vR o :: st) A σ).map _).bind _ = _
  rw [h]; rfl
theorem e_getR {d : Nat} {C r : List pm_I} {a : Int} {x y : Nat} {ls st : List pm_V} {A : pm_A} {σ : pm_S} {o : Nat} (hk : pm_kd A o = x) (hl : y < pm_ln A o) (hx : x ≠ 999) (hr : pm_rb A o y = true) : ex d C ((4,1,a,x,y) :: r) ls (vR o :: st) A σ = ex d C r ls (vR (pm_rf A o y) :: st) A σ := by
  obtain ⟨c, h1, h2⟩ := pm_kd_some hx hk
  have h3 := pm_ln_some h1 rfl
  rw [ex_cons]
  have h : pm_g4 1 x y (vR o :: st) A σ = some (vR (pm_rf A o y) :: st, A, σ) := by
    unfold pm_rb at hr
    rw [h1] at hr
    dsimp only at hr
    simp only [pm_g4, pm_rf, h1]
    rw [if_pos ⟨h2, by rw [h3]; exact hl⟩]
    cases hc : c.2.2[y]? with
    | none => rw [hc] at hr; cases hr
    | some z => cases z with
      | none => rw [hc] at hr; cases hr
      | some z => rfl
  show ((pm_g4 1 x y (vR o :: st) A σ).map _).bind _ = _
  rw [h]; rfl
theorem e_putI {d : Nat} {C r : List pm_I} {a : Int} {x y : Nat} {ls st : List pm_V} {A : pm_A} {σ : pm_S} {o : Nat} {v : Int} (hk : pm_kd A o = x) (hl : y < pm_ln A o) (hx : x ≠ 999) : ex d C ((4,2,a,x,y) :: r) ls (vI v :: vR o :: st) A σ = ex d C r ls st A (stv σ o y v) := by
  obtain ⟨c, h1, h2⟩ := pm_kd_some hx hk
  have h3 := pm_ln_some h1 rfl
  rw [ex_cons]
  have h : pm_g4 2 x y (vI v :: vR o :: st) A σ = some (st, A, stv σ o y v) := by
    simp only [pm_g4, h1]
    rw [if_pos ⟨h2, by rw [h3]; exact hl⟩]
  show ((pm_g4 2 x y (vI v :: vR o :: st) A σ).map _).bind _ = _
  rw [h]; rfl
theorem e_putZ {d : Nat} {C r : List pm_I} {a : Int} {x y : Nat} {ls st : List pm_V} {A : pm_A} {σ : pm_S} {o : Nat} {v : Int} (hk : pm_kd A o = x) (hl : y < pm_ln A o) (hx : x ≠ 999) (hv : v = 0 ∨ v = 1) : ex d C ((4,3,a,x,y) :: r) ls (vI v :: vR o :: st) A σ = ex d C r ls st A (stv σ o y v) := by
  obtain ⟨c, h1, h2⟩ := pm_kd_some hx hk
  have h3 := pm_ln_some h1 rfl
  rw [ex_cons]
  have h : pm_g4 3 x y (vI v :: vR o :: st) A σ = some (st, A, stv σ o y v) := by
    simp only [pm_g4, h1]
    rw [if_pos ⟨h2, by rw [h3]; exact hl, hv⟩]
  show ((pm_g4 3 x y (vI v :: vR o :: st) A σ).map _).bind _ = _
  rw [h]; rfl
theorem e_iaload {d : Nat} {C r : List pm_I} {a : Int} {x y : Nat} {ls st : List pm_V} {A : pm_A} {σ : pm_S} {o : Nat} {i : Int} (hk : pm_kd A o = 100) (h0 : 0 ≤ i) (hi : i < (pm_ln A o : Int)) : ex d C ((5,0,a,x,y) :: r) ls (vI i :: vR o :: st) A σ = ex d C r ls (vI (σ o i.toNat) :: st) A σ := by
  obtain ⟨c, h1, h2⟩ := pm_kd_some (by decide) hk
  have h3 := pm_ln_some h1 rfl
  rw [ex_cons]
  have h : pm_g5 0 (vI i :: vR o :: st) A σ = some (vI (σ o i.toNat) :: st, A, σ) := by
    simp only [pm_g5, h1]
    rw [if_pos ⟨h2, h0, by rw [h3]; exact hi⟩]
  show ((pm_g5 0 (vI i :: vR o :: st) A σ).map _).bind _ = _
  rw [h]; rfl
theorem e_iastore {d : Nat} {C r : List pm_I} {a : Int} {x y : Nat} {ls st : List pm_V} {A : pm_A} {σ : pm_S} {o : Nat} {i : Int} {v : Int} (hk : pm_kd A o = 100) (h0 : 0 ≤ i) (hi : i < (pm_ln A o : Int)) : ex d C ((5,1,a,x,y) :: r) ls (vI v :: vI i :: vR o :: st) A σ = ex d C r ls st A (stv σ o i.toNat v) := by
  obtain ⟨c, h1, h2⟩ := pm_kd_some (by decide) hk
  have h3 := pm_ln_some h1 rfl
  rw [ex_cons]
  have h : pm_g5 1 (vI v :: vI i :: vR o :: st) A σ = some (st, A, stv σ o i.toNat v) := by
    simp only [pm_g5, h1]
    rw [if_pos ⟨h2, h0, by rw [h3]; exact hi⟩]
  show ((pm_g5 1 (vI v :: vI i :: vR o :: st) A σ).map _).bind _ = _
  rw [h]; rfl
theorem e_baload {d : Nat} {C r : List pm_I} {a : Int} {x y : Nat} {ls st : List pm_V} {A : pm_A} {σ : pm_S} {o : Nat} {i : Int} (hk : pm_kd A o = 101) (h0 : 0 ≤ i) (hi : i < (pm_ln A o : Int)) : ex d C ((5,2,a,x,y) :: r) ls (vI i :: vR o :: st) A σ = ex d C r ls (vI (σ o i.toNat) :: st) A σ := by
  obtain ⟨c, h1, h2⟩ := pm_kd_some (by decide) hk
  have h3 := pm_ln_some h1 rfl
  rw [ex_cons]
  have h : pm_g5 2 (vI i :: vR o :: st) A σ = some (vI (σ o i.toNat) :: st, A, σ) := by
    simp only [pm_g5, h1]
    rw [if_pos ⟨h2, h0, by rw [h3]; exact hi⟩]
  show ((pm_g5 2 (vI i :: vR o :: st) A σ).map _).bind _ = _
  rw [h]; rfl
theorem e_bastore {d : Nat} {C r : List pm_I} {a : Int} {x y : Nat} {ls st : List pm_V} {A : pm_A} {σ : pm_S} {o : Nat} {i : Int} {v : Int} (hk : pm_kd A o = 101) (h0 : 0 ≤ i) (hi : i < (pm_ln A o : Int)) (hv : v = 0 ∨ v = 1) : ex d C ((5,3,a,x,y) :: r) ls (vI v :: vI i :: vR o :: st) A σ = ex d C r ls st A (stv σ o i.toNat v) := by
  obtain ⟨c, h1, h2⟩ := pm_kd_some (by decide) hk
  have h3 := pm_ln_some h1 rfl
  rw [ex_cons]
  have h : pm_g5 3 (vI v :: vI i :: vR o :: st) A σ = some (st, A, stv σ o i.toNat v) := by
    simp only [pm_g5, h1]
    rw [if_pos ⟨h2, h0, by rw [h3]; exact hi, hv⟩]
  show ((pm_g5 3 (vI v :: vI i :: vR o :: st) A σ).map _).bind _ = _
  rw [h]; rfl
theorem e_laload {d : Nat} {C r : List pm_I} {a : Int} {x y : Nat} {ls st : List pm_V} {A : pm_A} {σ : pm_S} {o : Nat} {i : Int} (hk : pm_kd A o = 102) (h0 : 0 ≤ i) (hi : i < (pm_ln A o : Int)) : ex d C ((5,4,a,x,y) :: r) ls (vI i :: vR o :: st) A σ = ex d C r ls (vL (σ o i.toNat) :: st) A σ := by
  obtain ⟨c, h1, h2⟩ := pm_kd_some (by decide) hk
  have h3 := pm_ln_some h1 rfl
  rw [ex_cons]
  have h : pm_g5 4 (vI i :: vR o :: st) A σ = some (vL (σ o i.toNat) :: st, A, σ) := by
    simp only [pm_g5, h1]
    rw [if_pos ⟨h2, h0, by rw [h3]; exact hi⟩]
  show ((pm_g5 4 (vI i :: vR o :: st) A σ).map _).bind _ = _
  rw [h]; rfl
theorem e_lastore {d : Nat} {C r : List pm_I} {a : Int} {x y : Nat} {ls st : List pm_V} {A : pm_A} {σ : pm_S} {o : Nat} {i : Int} {v : Int} (hk : pm_kd A o = 102) (h0 : 0 ≤ i) (hi : i < (pm_ln A o : Int)) : ex d C ((5,5,a,x,y) :: r) ls (vL v :: vI i :: vR o :: st) A σ = ex d C r ls st A (stv σ o i.toNat v) := by
  obtain ⟨c, h1, h2⟩ := pm_kd_some (by decide) hk
  have h3 := pm_ln_some h1 rfl
  rw [ex_cons]
  have h : pm_g5 5 (vL v :: vI i :: vR o :: st) A σ = some (st, A, stv σ o i.toNat v) := by
    simp only [pm_g5, h1]
    rw [if_pos ⟨h2, h0, by rw [h3]; exact hi⟩]
  show ((pm_g5 5 (vL v :: vI i :: vR o :: st) A σ).map _).bind _ = _
  rw [h]; rfl
theorem e_scr {d : Nat} {C r : List pm_I} {a : Int} {x y : Nat} {ls st : List pm_V} {A : pm_A} {σ : pm_S} {i : Int} (h0 : 0 ≤ i) (hi : i < (A.2.2.2.1 : Int)) : ex d C ((5,0,a,x,y) :: r) ls (vI i :: vS 99 :: st) A σ = ex d C r ls (vI (A.2.2.2.2 i.toNat) :: st) A σ := by
  rw [ex_cons]
  have h : pm_g5 0 (vI i :: vS 99 :: st) A σ = some (vI (A.2.2.2.2 i.toNat) :: st, A, σ) := by
    simp only [pm_g5]
    rw [if_pos ⟨trivial, h0, hi⟩]
  show ((pm_g5 0 (vI i :: vS 99 :: st) A σ).map _).bind _ = _
  rw [h]; rfl
theorem e_aaload {d : Nat} {C r : List pm_I} {a : Int} {x y : Nat} {ls st : List pm_V} {A : pm_A} {σ : pm_S} {o : Nat} {i : Int} (hk : pm_kd A o = 103 ∨ pm_kd A o = 104) (h0 : 0 ≤ i) (hi : i < (pm_ln A o : Int)) (hr : pm_rb A o i.toNat = true) : ex d C ((5,6,a,x,y) :: r) ls (vI i :: vR o :: st) A σ = ex d C r ls (vR (pm_rf A o i.toNat) :: st) A σ := by
  obtain ⟨c, h1, h2⟩ : ∃ c, A.2.2.1[o]? = some c ∧ (c.1 = 103 ∨ c.1 = 104) := by
    rcases hk with hk | hk
    · obtain ⟨c, h1, h2⟩ := pm_kd_some (by decide) hk; exact ⟨c, h1, Or.inl h2⟩
    · obtain ⟨c, h1, h2⟩ := pm_kd_some (by decide) hk; exact ⟨c, h1, Or.inr h2⟩
  have h3 := pm_ln_some h1 rfl
  rw [ex_cons]
  have h : pm_g5 6 (vI i :: vR o :: st) A σ = some (vR (pm_rf A o i.toNat) :: st, A, σ) := by
    unfold pm_rb at hr
    rw [h1] at hr
    dsimp only at hr
    simp only [pm_g5, pm_rf, h1]
    rw [if_pos ⟨h2, h0, by rw [h3]; exact hi⟩]
    cases hc : c.2.2[i.toNat]? with
    | none => rw [hc] at hr; cases hr
    | some z => cases z with
      | none => rw [hc] at hr; cases hr
      | some z => rfl
  show ((pm_g5 6 (vI i :: vR o :: st) A σ).map _).bind _ = _
  rw [h]; rfl
theorem e_alen {d : Nat} {C r : List pm_I} {a : Int} {x y : Nat} {ls st : List pm_V} {A : pm_A} {σ : pm_S} {o : Nat} (hk : 100 ≤ pm_kd A o) (hk2 : pm_kd A o ≠ 999) (hl : pm_ln A o < 2147483648) : ex d C ((5,8,a,x,y) :: r) ls (vR o :: st) A σ = ex d C r ls (vI (pm_ln A o : Int) :: st) A σ := by
  obtain ⟨c, h1, h2⟩ := pm_kd_some hk2 rfl
  have h3 := pm_ln_some h1 rfl
  rw [ex_cons]
  have h : pm_g5 8 (vR o :: st) A σ = some (vI (pm_ln A o : Int) :: st, A, σ) := by
    simp only [pm_g5, h1]
    rw [if_pos ⟨by rw [h2]; exact hk, by rw [h3]; exact hl⟩, h3]
  show ((pm_g5 8 (vR o :: st) A σ).map _).bind _ = _
  rw [h]; rfl
theorem e_slen {d : Nat} {C r : List pm_I} {a : Int} {x y : Nat} {ls st : List pm_V} {A : pm_A} {σ : pm_S} (hl : A.2.2.2.1 < 2147483648) : ex d C ((5,8,a,x,y) :: r) ls (vS 99 :: st) A σ = ex d C r ls (vI (A.2.2.2.1 : Int) :: st) A σ := by
  rw [ex_cons]
  have h : pm_g5 8 (vS 99 :: st) A σ = some (vI (A.2.2.2.1 : Int) :: st, A, σ) := by
    simp only [pm_g5]
    rw [if_pos ⟨trivial, hl⟩]
  show ((pm_g5 8 (vS 99 :: st) A σ).map _).bind _ = _
  rw [h]; rfl
theorem e_acpy {d : Nat} {C r : List pm_I} {a : Int} {x y : Nat} {ls st : List pm_V} {A : pm_A} {σ : pm_S} {s t : Nat} {sp dp n : Int} (hs : pm_kd A s = 100) (ht : pm_kd A t = 100) (hst : s ≠ t) (h1 : 0 ≤ n) (h2 : 0 ≤ dp) (h3 : 0 ≤ sp) (h4 : sp + n ≤ (pm_ln A s : Int)) (h5 : dp + n ≤ (pm_ln A t : Int)) (hc : pm_cat st ≤ 4) : ex d C ((5,9,a,x,y) :: r) ls (vI n :: vI dp :: vR t :: vI sp :: vR s :: st) A σ = ex d C r ls st A (cpy σ s sp.toNat t dp.toNat n.toNat) := by
  obtain ⟨c, c1, c2⟩ := pm_kd_some (by decide) hs
  obtain ⟨e, e1, e2⟩ := pm_kd_some (by decide) ht
  have c3 := pm_ln_some c1 rfl
  have e3 := pm_ln_some e1 rfl
  have h : pm_g5 9 (vI n :: vI dp :: vR t :: vI sp :: vR s :: st) A σ = some (st, A, cpy σ s sp.toNat t dp.toNat n.toNat) := by
    simp only [pm_g5, c1, e1]
    rw [if_pos ⟨c2, e2, hst, h1, h2, h3, by rw [c3]; exact h4, by rw [e3]; exact h5⟩]
  refine ex_stp (by simp) (by simp) (by simp) (pm_nd (by simp only [pm_cat]; omega)) ?_
  show (pm_g5 9 (vI n :: vI dp :: vR t :: vI sp :: vR s :: st) A σ).map _ = _
  rw [h]; rfl
theorem e_strl {d : Nat} {C r : List pm_I} {a : Int} {x y : Nat} {ls st : List pm_V} {A : pm_A} {σ : pm_S} {i : Nat} {t : List Nat} (ht : pm_tx[i]? = some t) (hc : pm_cat st ≤ 4) : ex d C ((7,0,a,x,y) :: r) ls (vS i :: st) A σ = ex d C r ls (vI (t.length : Int) :: st) A σ := by
  have h : pm_g7 pP.2.1 0 (vS i :: st) = some (vI (t.length : Int) :: st) := by
    show (match pm_tx[i]? with | some t => some (vI (t.length : Int) :: st) | none => none) = _
    rw [ht]
  refine ex_stp (by simp) (by simp) (by simp) (pm_nd (by simp only [pm_cat]; omega)) ?_
  show (pm_g7 pP.2.1 0 (vS i :: st)).map _ = _
  rw [h]; rfl
theorem e_char {d : Nat} {C r : List pm_I} {a : Int} {x y : Nat} {ls st : List pm_V} {A : pm_A} {σ : pm_S} {i : Nat} {j : Int} {t : List Nat} (ht : pm_tx[i]? = some t) (h0 : 0 ≤ j) (hj : j < (t.length : Int)) (hc : pm_cat st ≤ 4) : ex d C ((7,1,a,x,y) :: r) ls (vI j :: vS i :: st) A σ = ex d C r ls (vI ((t.getD j.toNat 0 : Nat) : Int) :: st) A σ := by
  have h : pm_g7 pP.2.1 1 (vI j :: vS i :: st) = some (vI ((t.getD j.toNat 0 : Nat) : Int) :: st) := by
    show (match pm_tx[i]? with | some t => if 0 ≤ j ∧ j < (t.length : Int) then some (vI ((t.getD j.toNat 0 : Nat) : Int) :: st) else none | none => none) = _
    rw [ht]
    exact if_pos ⟨h0, hj⟩
  refine ex_stp (by simp) (by simp) (by simp) (pm_nd (by simp only [pm_cat]; omega)) ?_
  show (pm_g7 pP.2.1 1 (vI j :: vS i :: st)).map _ = _
  rw [h]; rfl
theorem e_oinit {d : Nat} {C r : List pm_I} {a : Int} {x y : Nat} {ls st : List pm_V} {A : pm_A} {σ : pm_S} {o : Nat} (hc : pm_cat st ≤ 4) : ex d C ((7,2,a,x,y) :: r) ls (vR o :: st) A σ = ex d C r ls st A σ := ex_stp (by simp) (by simp) (by simp) (pm_nd (by simp only [pm_cat]; omega)) rfl
theorem e_call_0 {d : Nat} {C r : List pm_I} {a : Int} {x : Nat} {ls st : List pm_V} {A : pm_A} {σ : pm_S} {k : Nat} (hc : pm_cat st ≤ 8) (hr : pm_rcv k a [] A = true) : ex d C ((8,k,a,x,0) :: r) ls (st) A σ = pm_then (cl d x [] A σ) d C r k a ls st := by
  rw [ex_cons]
  show (if 0 ≤ (st).length ∧ pm_cat st ≤ 8 ∧ pm_rcv k a [] A = true then _ else none : Option pm_R) = _
  rw [if_pos ⟨Nat.zero_le _, hc, hr⟩]
  rfl
theorem e_call_1 {d : Nat} {C r : List pm_I} {a : Int} {x : Nat} {ls st : List pm_V} {A : pm_A} {σ : pm_S} {k : Nat} {v0 : pm_V} (hc : pm_cat st ≤ 8) (hr : pm_rcv k a [v0] A = true) : ex d C ((8,k,a,x,1) :: r) ls (v0 :: st) A σ = pm_then (cl d x [v0] A σ) d C r k a ls st := by
  rw [ex_cons]
  show (if 1 ≤ (v0 :: st).length ∧ pm_cat st ≤ 8 ∧ pm_rcv k a [v0] A = true then _ else none : Option pm_R) = _
  rw [if_pos ⟨by simp only [List.length_cons]; omega, hc, hr⟩]
  rfl
theorem e_call_2 {d : Nat} {C r : List pm_I} {a : Int} {x : Nat} {ls st : List pm_V} {A : pm_A} {σ : pm_S} {k : Nat} {v0 v1 : pm_V} (hc : pm_cat st ≤ 8) (hr : pm_rcv k a [v0, v1] A = true) : ex d C ((8,k,a,x,2) :: r) ls (v1 :: v0 :: st) A σ = pm_then (cl d x [v0, v1] A σ) d C r k a ls st := by
  rw [ex_cons]
  show (if 2 ≤ (v1 :: v0 :: st).length ∧ pm_cat st ≤ 8 ∧ pm_rcv k a [v0, v1] A = true then _ else none : Option pm_R) = _
  rw [if_pos ⟨by simp only [List.length_cons]; omega, hc, hr⟩]
  rfl
theorem e_call_3 {d : Nat} {C r : List pm_I} {a : Int} {x : Nat} {ls st : List pm_V} {A : pm_A} {σ : pm_S} {k : Nat} {v0 v1 v2 : pm_V} (hc : pm_cat st ≤ 8) (hr : pm_rcv k a [v0, v1, v2] A = true) : ex d C ((8,k,a,x,3) :: r) ls (v2 :: v1 :: v0 :: st) A σ = pm_then (cl d x [v0, v1, v2] A σ) d C r k a ls st := by
  rw [ex_cons]
  show (if 3 ≤ (v2 :: v1 :: v0 :: st).length ∧ pm_cat st ≤ 8 ∧ pm_rcv k a [v0, v1, v2] A = true then _ else none : Option pm_R) = _
  rw [if_pos ⟨by simp only [List.length_cons]; omega, hc, hr⟩]
  rfl
theorem e_call_4 {d : Nat} {C r : List pm_I} {a : Int} {x : Nat} {ls st : List pm_V} {A : pm_A} {σ : pm_S} {k : Nat} {v0 v1 v2 v3 : pm_V} (hc : pm_cat st ≤ 8) (hr : pm_rcv k a [v0, v1, v2, v3] A = true) : ex d C ((8,k,a,x,4) :: r) ls (v3 :: v2 :: v1 :: v0 :: st) A σ = pm_then (cl d x [v0, v1, v2, v3] A σ) d C r k a ls st := by
  rw [ex_cons]
  show (if 4 ≤ (v3 :: v2 :: v1 :: v0 :: st).length ∧ pm_cat st ≤ 8 ∧ pm_rcv k a [v0, v1, v2, v3] A = true then _ else none : Option pm_R) = _
  rw [if_pos ⟨by simp only [List.length_cons]; omega, hc, hr⟩]
  rfl
theorem e_call_5 {d : Nat} {C r : List pm_I} {a : Int} {x : Nat} {ls st : List pm_V} {A : pm_A} {σ : pm_S} {k : Nat} {v0 v1 v2 v3 v4 : pm_V} (hc : pm_cat st ≤ 8) (hr : pm_rcv k a [v0, v1, v2, v3, v4] A = true) : ex d C ((8,k,a,x,5) :: r) ls (v4 :: v3 :: v2 :: v1 :: v0 :: st) A σ = pm_then (cl d x [v0, v1, v2, v3, v4] A σ) d C r k a ls st := by
  rw [ex_cons]
  show (if 5 ≤ (v4 :: v3 :: v2 :: v1 :: v0 :: st).length ∧ pm_cat st ≤ 8 ∧ pm_rcv k a [v0, v1, v2, v3, v4] A = true then _ else none : Option pm_R) = _
  rw [if_pos ⟨by simp only [List.length_cons]; omega, hc, hr⟩]
  rfl
theorem e_call_6 {d : Nat} {C r : List pm_I} {a : Int} {x : Nat} {ls st : List pm_V} {A : pm_A} {σ : pm_S} {k : Nat} {v0 v1 v2 v3 v4 v5 : pm_V} (hc : pm_cat st ≤ 8) (hr : pm_rcv k a [v0, v1, v2, v3, v4, v5] A = true) : ex d C ((8,k,a,x,6) :: r) ls (v5 :: v4 :: v3 :: v2 :: v1 :: v0 :: st) A σ = pm_then (cl d x [v0, v1, v2, v3, v4, v5] A σ) d C r k a ls st := by
  rw [ex_cons]
  show (if 6 ≤ (v5 :: v4 :: v3 :: v2 :: v1 :: v0 :: st).length ∧ pm_cat st ≤ 8 ∧ pm_rcv k a [v0, v1, v2, v3, v4, v5] A = true then _ else none : Option pm_R) = _
  rw [if_pos ⟨by simp only [List.length_cons]; omega, hc, hr⟩]
  rfl
theorem e_call_7 {d : Nat} {C r : List pm_I} {a : Int} {x : Nat} {ls st : List pm_V} {A : pm_A} {σ : pm_S} {k : Nat} {v0 v1 v2 v3 v4 v5 v6 : pm_V} (hc : pm_cat st ≤ 8) (hr : pm_rcv k a [v0, v1, v2, v3, v4, v5, v6] A = true) : ex d C ((8,k,a,x,7) :: r) ls (v6 :: v5 :: v4 :: v3 :: v2 :: v1 :: v0 :: st) A σ = pm_then (cl d x [v0, v1, v2, v3, v4, v5, v6] A σ) d C r k a ls st := by
  rw [ex_cons]
  show (if 7 ≤ (v6 :: v5 :: v4 :: v3 :: v2 :: v1 :: v0 :: st).length ∧ pm_cat st ≤ 8 ∧ pm_rcv k a [v0, v1, v2, v3, v4, v5, v6] A = true then _ else none : Option pm_R) = _
  rw [if_pos ⟨by simp only [List.length_cons]; omega, hc, hr⟩]
  rfl
theorem e_call_8 {d : Nat} {C r : List pm_I} {a : Int} {x : Nat} {ls st : List pm_V} {A : pm_A} {σ : pm_S} {k : Nat} {v0 v1 v2 v3 v4 v5 v6 v7 : pm_V} (hc : pm_cat st ≤ 8) (hr : pm_rcv k a [v0, v1, v2, v3, v4, v5, v6, v7] A = true) : ex d C ((8,k,a,x,8) :: r) ls (v7 :: v6 :: v5 :: v4 :: v3 :: v2 :: v1 :: v0 :: st) A σ = pm_then (cl d x [v0, v1, v2, v3, v4, v5, v6, v7] A σ) d C r k a ls st := by
  rw [ex_cons]
  show (if 8 ≤ (v7 :: v6 :: v5 :: v4 :: v3 :: v2 :: v1 :: v0 :: st).length ∧ pm_cat st ≤ 8 ∧ pm_rcv k a [v0, v1, v2, v3, v4, v5, v6, v7] A = true then _ else none : Option pm_R) = _
  rw [if_pos ⟨by simp only [List.length_cons]; omega, hc, hr⟩]
  rfl
theorem e_call_9 {d : Nat} {C r : List pm_I} {a : Int} {x : Nat} {ls st : List pm_V} {A : pm_A} {σ : pm_S} {k : Nat} {v0 v1 v2 v3 v4 v5 v6 v7 v8 : pm_V} (hc : pm_cat st ≤ 8) (hr : pm_rcv k a [v0, v1, v2, v3, v4, v5, v6, v7, v8] A = true) : ex d C ((8,k,a,x,9) :: r) ls (v8 :: v7 :: v6 :: v5 :: v4 :: v3 :: v2 :: v1 :: v0 :: st) A σ = pm_then (cl d x [v0, v1, v2, v3, v4, v5, v6, v7, v8] A σ) d C r k a ls st := by
  rw [ex_cons]
  show (if 9 ≤ (v8 :: v7 :: v6 :: v5 :: v4 :: v3 :: v2 :: v1 :: v0 :: st).length ∧ pm_cat st ≤ 8 ∧ pm_rcv k a [v0, v1, v2, v3, v4, v5, v6, v7, v8] A = true then _ else none : Option pm_R) = _
  rw [if_pos ⟨by simp only [List.length_cons]; omega, hc, hr⟩]
  rfl
theorem e_call_10 {d : Nat} {C r : List pm_I} {a : Int} {x : Nat} {ls st : List pm_V} {A : pm_A} {σ : pm_S} {k : Nat} {v0 v1 v2 v3 v4 v5 v6 v7 v8 v9 : pm_V} (hc : pm_cat st ≤ 8) (hr : pm_rcv k a [v0, v1, v2, v3, v4, v5, v6, v7, v8, v9] A = true) : ex d C ((8,k,a,x,10) :: r) ls (v9 :: v8 :: v7 :: v6 :: v5 :: v4 :: v3 :: v2 :: v1 :: v0 :: st) A σ = pm_then (cl d x [v0, v1, v2, v3, v4, v5, v6, v7, v8, v9] A σ) d C r k a ls st := by
  rw [ex_cons]
  show (if 10 ≤ (v9 :: v8 :: v7 :: v6 :: v5 :: v4 :: v3 :: v2 :: v1 :: v0 :: st).length ∧ pm_cat st ≤ 8 ∧ pm_rcv k a [v0, v1, v2, v3, v4, v5, v6, v7, v8, v9] A = true then _ else none : Option pm_R) = _
  rw [if_pos ⟨by simp only [List.length_cons]; omega, hc, hr⟩]
  rfl
theorem e_call_11 {d : Nat} {C r : List pm_I} {a : Int} {x : Nat} {ls st : List pm_V} {A : pm_A} {σ : pm_S} {k : Nat} {v0 v1 v2 v3 v4 v5 v6 v7 v8 v9 v10 : pm_V} (hc : pm_cat st ≤ 8) (hr : pm_rcv k a [v0, v1, v2, v3, v4, v5, v6, v7, v8, v9, v10] A = true) : ex d C ((8,k,a,x,11) :: r) ls (v10 :: v9 :: v8 :: v7 :: v6 :: v5 :: v4 :: v3 :: v2 :: v1 :: v0 :: st) A σ = pm_then (cl d x [v0, v1, v2, v3, v4, v5, v6, v7, v8, v9, v10] A σ) d C r k a ls st := by
  rw [ex_cons]
  show (if 11 ≤ (v10 :: v9 :: v8 :: v7 :: v6 :: v5 :: v4 :: v3 :: v2 :: v1 :: v0 :: st).length ∧ pm_cat st ≤ 8 ∧ pm_rcv k a [v0, v1, v2, v3, v4, v5, v6, v7, v8, v9, v10] A = true then _ else none : Option pm_R) = _
  rw [if_pos ⟨by simp only [List.length_cons]; omega, hc, hr⟩]
  rfl
theorem e_iret {d : Nat} {C r : List pm_I} {a : Int} {x y : Nat} {ls : List pm_V} {A : pm_A} {σ : pm_S} {v : Int} : ex d C ((9,0,a,x,y) :: r) ls [vI v] A σ = some (.inl (some (vI v)), A, σ) := by rw [ex_cons]; rfl
theorem e_zret {d : Nat} {C r : List pm_I} {a : Int} {x y : Nat} {ls : List pm_V} {A : pm_A} {σ : pm_S} {v : Int} (hv : v = 0 ∨ v = 1) : ex d C ((9,1,a,x,y) :: r) ls [vI v] A σ = some (.inl (some (vI v)), A, σ) := by rw [ex_cons]; exact if_pos hv
theorem e_lret {d : Nat} {C r : List pm_I} {a : Int} {x y : Nat} {ls : List pm_V} {A : pm_A} {σ : pm_S} {v : Int} : ex d C ((9,2,a,x,y) :: r) ls [vL v] A σ = some (.inl (some (vL v)), A, σ) := by rw [ex_cons]; rfl
theorem e_vret {d : Nat} {C r : List pm_I} {a : Int} {x y : Nat} {ls : List pm_V} {A : pm_A} {σ : pm_S} : ex d C ((9,3,a,x,y) :: r) ls [] A σ = some (.inl none, A, σ) := by rw [ex_cons]; rfl
theorem e_thr {d : Nat} {C r : List pm_I} {a : Int} {x y : Nat} {ls st : List pm_V} {A : pm_A} {σ : pm_S} (hc : pm_cat st ≤ 8) : ex d C ((9,4,a,x,y) :: r) ls st A σ = some (.inr x, (A.1 + 1, A.2.1 + 6, A.2.2), σ) := by rw [ex_cons]; exact if_pos hc
