/-! PURE, 1: what a method gives; loops -/
def Rv (o : Option pm_R) (A : pm_A) (P : pm_V → pm_S → Prop) : Prop := ∃ v σ', o = some (.inl (some v), A, σ') ∧ P v σ'
def Rn (o : Option pm_R) (A : pm_A) (P : pm_S → Prop) : Prop := ∃ σ', o = some (.inl none, A, σ') ∧ P σ'
theorem Rv.go {o : Option pm_R} {A : pm_A} {P : pm_V → pm_S → Prop} {G : Option pm_R → Prop} {d : Nat} {C r : List pm_I} {k : Nat} {h : Int} {ls st : List pm_V} (hr : Rv o A P) (kk : ∀ v σ', P v σ' → G (ex d C r ls (v :: st) A σ')) : G (pm_then o d C r k h ls st) := by
  obtain ⟨v, σ', rfl, hp⟩ := hr
  rw [pm_then_v]
  exact kk v σ' hp
theorem Rn.go {o : Option pm_R} {A : pm_A} {P : pm_S → Prop} {G : Option pm_R → Prop} {d : Nat} {C r : List pm_I} {k : Nat} {h : Int} {ls st : List pm_V} (hr : Rn o A P) (kk : ∀ σ', P σ' → G (ex d C r ls st A σ')) : G (pm_then o d C r k h ls st) := by
  obtain ⟨σ', rfl, hp⟩ := hr
  rw [pm_then_n]
  exact kk σ' hp
theorem Rv.some {v : pm_V} {A : pm_A} {σ : pm_S} {P : pm_V → pm_S → Prop} (h : P v σ) : Rv (some (.inl (some v), A, σ)) A P := ⟨v, σ, rfl, h⟩
theorem Rn.some {A : pm_A} {σ : pm_S} {P : pm_S → Prop} (h : P σ) : Rn (some (.inl none, A, σ)) A P := ⟨σ, rfl, h⟩
theorem Rv.mono {o : Option pm_R} {A : pm_A} {P Q : pm_V → pm_S → Prop} (h : Rv o A P) (hpq : ∀ v σ, P v σ → Q v σ) : Rv o A Q := by
  obtain ⟨v, σ, h1, h2⟩ := h
  exact ⟨v, σ, h1, hpq v σ h2⟩
/-- a loop that counts up -/
theorem lp_up {G : Option pm_R → Prop} {d : Nat} {C K : List pm_I} {A : pm_A} {lo hi : Int} (I : Int → List pm_V → pm_S → Prop)
    (body : ∀ i ls σ, lo ≤ i → i < hi → I i ls σ → (∀ ls' σ', I (i + 1) ls' σ' → G (ex d C K ls' [] A σ')) → G (ex d C K ls [] A σ)) (exit : ∀ ls σ, I hi ls σ → G (ex d C K ls [] A σ)) {ls : List pm_V} {σ : pm_S} (hlo : lo ≤ hi) (h : I lo ls σ) : G (ex d C K ls [] A σ) := by
  have key : ∀ (n : Nat) (i : Int) (ls : List pm_V) (σ : pm_S), lo ≤ i → i + n = hi → I i ls σ → G (ex d C K ls [] A σ) := by
    intro n
    induction n with
    | zero => intro i ls σ h1 h2 h3; exact exit ls σ (by rw [show hi = i by omega]; exact h3)
    | succ n ih => intro i ls σ h1 h2 h3; exact body i ls σ h1 (by omega) h3 (fun ls' σ' h4 => ih (i + 1) ls' σ' (by omega) (by omega) h4)
  exact key (hi - lo).toNat lo ls σ (Int.le_refl _) (by omega) h
/-- a counted sum: f at lo, lo + 1, .. (n of them) -/
def itr {α : Type} (f : Int → α → α) : Nat → Int → α → α
  | 0, _, a => a
  | n + 1, i, a => itr f n (i + 1) (f i a)
theorem itr_succ {α : Type} (f : Int → α → α) : ∀ (n : Nat) (i : Int) (a : α), itr f (n + 1) i a = f (i + n) (itr f n i a)
  | 0, i, a => by simp [itr]
  | n + 1, i, a => by
    rw [itr, itr_succ f n (i + 1) (f i a), itr]
    congr 1
    omega
/-- up to i -/
def upto {α : Type} (f : Int → α → α) (a : α) (i : Int) : α := itr f i.toNat 0 a
theorem upto_0 {α : Type} (f : Int → α → α) (a : α) : upto f a 0 = a := rfl
theorem upto_s {α : Type} {f : Int → α → α} {a : α} {i : Int} (h : 0 ≤ i) : upto f a (i + 1) = f i (upto f a i) := by
  unfold upto
  rw [show (i + 1).toNat = i.toNat + 1 by omega, itr_succ]
  congr 1
  omega
theorem upto_congr {α : Type} {f g : Int → α → α} {a : α} {n : Int} (h : ∀ i x, 0 ≤ i → i < n → f i x = g i x) : upto f a n = upto g a n := by
  by_cases hn : 0 ≤ n
  · have key : ∀ (k : Nat), (k : Int) ≤ n → upto f a k = upto g a k := by
      intro k
      induction k with
      | zero => intro _; rfl
      | succ k ih =>
        intro hk
        have h1 := ih (by omega)
        rw [show ((k + 1 : Nat) : Int) = (k : Int) + 1 by omega, upto_s (by omega), upto_s (by omega), h1]
        exact h _ _ (by omega) (by omega)
    have := key n.toNat (by omega)
    rw [show ((n.toNat : Nat) : Int) = n by omega] at this
    exact this
  · unfold upto
    rw [show n.toNat = 0 by omega]
    rfl
/-- an invariant of a fold -/
theorem upto_inv {α : Type} {f : Int → α → α} {a : α} {n : Int} (I : Int → α → Prop) (h0 : I 0 a) (hs : ∀ i x, 0 ≤ i → i < n → I i x → I (i + 1) (f i x)) : ∀ (k : Nat), (k : Int) ≤ n → I k (upto f a k)
  | 0, _ => h0
  | k + 1, hk => by
    have h1 := upto_inv I h0 hs k (by omega)
    rw [show ((k + 1 : Nat) : Int) = (k : Int) + 1 by omega, upto_s (by omega)]
    exact hs _ _ (by omega) (by omega) h1
theorem upto_inv' {α : Type} {f : Int → α → α} {a : α} {n : Int} (I : Int → α → Prop) (hn : 0 ≤ n) (h0 : I 0 a) (hs : ∀ i x, 0 ≤ i → i < n → I i x → I (i + 1) (f i x)) : I n (upto f a n) := by
  have := upto_inv I h0 hs n.toNat (by omega)
  rw [show ((n.toNat : Nat) : Int) = n by omega] at this
  exact this
/-- the first that is so, or -1 -/
noncomputable def fnd (q : Int → Prop) (n : Int) : Int := Classical.epsilon fun r => (r = -1 ∧ ∀ j, 0 ≤ j → j < n → ¬ q j) ∨ (0 ≤ r ∧ r < n ∧ q r ∧ ∀ j, 0 ≤ j → j < r → ¬ q j)
theorem fnd_hit {q : Int → Prop} {n i : Int} (h0 : 0 ≤ i) (h1 : i < n) (hq : q i) (hn : ∀ j, 0 ≤ j → j < i → ¬ q j) : fnd q n = i := by
  have sp : (fnd q n = -1 ∧ ∀ j, 0 ≤ j → j < n → ¬ q j) ∨ (0 ≤ fnd q n ∧ fnd q n < n ∧ q (fnd q n) ∧ ∀ j, 0 ≤ j → j < fnd q n → ¬ q j) := Classical.epsilon_spec (p := fun r => (r = -1 ∧ ∀ j, 0 ≤ j → j < n → ¬ q j) ∨ (0 ≤ r ∧ r < n ∧ q r ∧ ∀ j, 0 ≤ j → j < r → ¬ q j)) ⟨i, Or.inr ⟨h0, h1, hq, hn⟩⟩
  rcases sp with ⟨-, h⟩ | ⟨a1, a2, a3, a4⟩
  · exact absurd hq (h i h0 h1)
  · rcases Int.lt_trichotomy (fnd q n) i with h | h | h
    · exact absurd a3 (hn _ a1 h)
    · exact h
    · exact absurd hq (a4 i h0 h)
theorem fnd_no {q : Int → Prop} {n : Int} (hn : ∀ j, 0 ≤ j → j < n → ¬ q j) : fnd q n = -1 := by
  have sp : (fnd q n = -1 ∧ ∀ j, 0 ≤ j → j < n → ¬ q j) ∨ (0 ≤ fnd q n ∧ fnd q n < n ∧ q (fnd q n) ∧ ∀ j, 0 ≤ j → j < fnd q n → ¬ q j) := Classical.epsilon_spec (p := fun r => (r = -1 ∧ ∀ j, 0 ≤ j → j < n → ¬ q j) ∨ (0 ≤ r ∧ r < n ∧ q r ∧ ∀ j, 0 ≤ j → j < r → ¬ q j)) ⟨-1, Or.inl ⟨rfl, hn⟩⟩
  rcases sp with ⟨h, -⟩ | ⟨a1, a2, a3, a4⟩
  · exact h
  · exact absurd a3 (hn _ a1 a2)
theorem fnd_spec (q : Int → Prop) (n : Int) : (fnd q n = -1 ∧ ∀ j, 0 ≤ j → j < n → ¬ q j) ∨ (0 ≤ fnd q n ∧ fnd q n < n ∧ q (fnd q n) ∧ ∀ j, 0 ≤ j → j < fnd q n → ¬ q j) := by
  by_cases h : ∃ i, 0 ≤ i ∧ i < n ∧ q i
  · obtain ⟨i, h0, h1, h2⟩ := h
    have key : ∀ (k : Nat) (i : Int), i = (k : Int) → i < n → q i → ∃ r, 0 ≤ r ∧ r < n ∧ q r ∧ ∀ j, 0 ≤ j → j < r → ¬ q j := by
      intro k
      induction k using Nat.strongRecOn with
      | _ k ih =>
        intro i hi hn hq
        by_cases hx : ∃ j, 0 ≤ j ∧ j < i ∧ q j
        · obtain ⟨j, j0, j1, j2⟩ := hx
          exact ih j.toNat (by omega) j (by omega) (by omega) j2
        · exact ⟨i, by omega, hn, hq, fun j j0 j1 j2 => hx ⟨j, j0, j1, j2⟩⟩
    obtain ⟨r, r0, r1, r2, r3⟩ := key i.toNat i (by omega) h1 h2
    rw [fnd_hit r0 r1 r2 r3]
    exact Or.inr ⟨r0, r1, r2, r3⟩
  · have hn : ∀ j, 0 ≤ j → j < n → ¬ q j := fun j j0 j1 j2 => h ⟨j, j0, j1, j2⟩
    exact Or.inl ⟨fnd_no hn, hn⟩
theorem fnd_congr {q r : Int → Prop} {n : Int} (h : ∀ i, 0 ≤ i → i < n → (q i ↔ r i)) : fnd q n = fnd r n := by
  rcases fnd_spec r n with ⟨a1, a2⟩ | ⟨a1, a2, a3, a4⟩
  · rw [a1]
    exact fnd_no fun j j0 j1 j2 => a2 j j0 j1 ((h j j0 j1).mp j2)
  · exact fnd_hit a1 a2 ((h _ a1 a2).mpr a3) fun j j0 j1 j2 => a4 j j0 j1 ((h j j0 (by omega)).mp j2)
/-- the terrace is well formed -/
def TOK (σ : pm_S) : Prop := (0 ≤ σ 3 0 ∧ σ 3 0 ≤ 8) ∧ (0 ≤ σ 3 1 ∧ σ 3 1 ≤ 12) ∧ (0 ≤ σ 3 2 ∧ σ 3 2 ≤ 6) ∧ (0 ≤ σ 3 3 ∧ σ 3 3 ≤ 40) ∧
  (∀ h : Int, 0 ≤ h → h < σ 3 0 → (0 ≤ σ 4 h.toNat ∧ σ 4 h.toNat ≤ 9) ∧ (-1 ≤ σ 5 h.toNat ∧ σ 5 h.toNat ≤ 9) ∧ (0 ≤ σ 6 h.toNat ∧ σ 6 h.toNat < 256)) ∧
  (∀ p : Int, 0 ≤ p → p < σ 3 2 → (0 ≤ σ 9 p.toNat ∧ σ 9 p.toNat ≤ 9) ∧ (1 ≤ σ 10 p.toNat ∧ σ 10 p.toNat ≤ 9))
/-- a row is well formed -/
def ROK (σ : pm_S) (c : Nat) : Prop := (∀ k : Int, 0 ≤ k → k < 80 → 0 ≤ σ c k.toNat ∧ σ c k.toNat ≤ 99) ∧ (∀ p : Int, 0 ≤ p → p < 6 → -1 ≤ σ c (80 + p).toNat ∧ σ c (80 + p).toNat < σ 3 0 ∧ σ c (80 + p).toNat < 8) ∧
  (∀ p : Int, 0 ≤ p → p < 6 → 0 ≤ σ c (86 + p).toNat ∧ σ c (86 + p).toNat ≤ 9) ∧ (∀ p : Int, 0 ≤ p → p < 6 → 0 ≤ σ c (92 + p).toNat ∧ σ c (92 + p).toNat ≤ 5000) ∧ (0 ≤ σ c 98 ∧ σ c 98 ≤ 5000) ∧ (0 ≤ σ c 99 ∧ σ c 99 ≤ 100)
/-- a wall between two houses -/
def hw (σ : pm_S) (a b : Int) : Prop := i_and (i_shr (σ 6 a.toNat) b) 1 ≠ 0
def upc (σ : pm_S) (o : Nat) (f : Nat → Int) : pm_S := fun o' => if o' = o then f else σ o'
theorem upc_eq {σ : pm_S} {o : Nat} {f : Nat → Int} : upc σ o f o = f := if_pos rfl
theorem upc_ne {σ : pm_S} {o o' : Nat} {f : Nat → Int} (h : o' ≠ o) : upc σ o f o' = σ o' := if_neg h
theorem upc_upc {σ : pm_S} {o : Nat} {f g : Nat → Int} : upc (upc σ o f) o g = upc σ o g := by
  funext o'
  unfold upc
  split <;> rfl
theorem upc_self {σ : pm_S} {o : Nat} : upc σ o (σ o) = σ := by
  funext o'
  unfold upc
  split
  · rename_i h; rw [h]
  · rfl
theorem stv_upc {σ : pm_S} {o k : Nat} {v : Int} : stv σ o k v = upc σ o (fun j => if j = k then v else σ o j) := by
  funext o' k'
  unfold stv upc
  by_cases h : o' = o
  · subst h
    rw [if_pos rfl]
    by_cases h2 : k' = k
    · rw [if_pos ⟨rfl, h2⟩, if_pos h2]
    · rw [if_neg (fun q => h2 q.2), if_neg h2]
  · rw [if_neg (fun q => h q.1), if_neg h]
theorem stv_o {σ : pm_S} {o o' k : Nat} {v : Int} (h : o' ≠ o) : stv σ o k v o' = σ o' := by
  funext k'
  exact if_neg (fun q => h q.1)
theorem stv_s {σ : pm_S} {o k : Nat} {v : Int} : stv σ o k v o k = v := if_pos ⟨rfl, rfl⟩
theorem stv_k {σ : pm_S} {o k k' : Nat} {v : Int} (h : k' ≠ k) : stv σ o k v o k' = σ o k' := if_neg (fun q => h q.2)
theorem pm_then_if {c : Prop} [Decidable c] {a b : Option pm_R} {d : Nat} {C r : List pm_I} {k : Nat} {h : Int} {ls st : List pm_V} : pm_then (if c then a else b) d C r k h ls st = if c then pm_then a d C r k h ls st else pm_then b d C r k h ls st := by
  split <;> rfl
