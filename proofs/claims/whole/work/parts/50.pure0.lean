/-! PURE, 1: what a method gives; loops -/
def Rv (o : Option pm_R) (A : pm_A) (P : pm_V → pm_S → Prop) : Prop := ∃ v σ', o = some (.inl (some v), A, σ') ∧ P v σ'
def Rn (o : Option pm_R) (A : pm_A) (P : pm_S → Prop) : Prop := ∃ σ', o = some (.inl none, A, σ') ∧ P σ'
theorem Rv.go {o : Option pm_R} {A : pm_A} {P : pm_V → pm_S → Prop} {G : Option pm_R → Prop} {d : Nat} {C r : List pm_I} {k : Nat} {h : Int} {ls st : List pm_V} (hr : Rv o A P) (kk : ∀ v σ', P v σ' → G (ex d C r ls (v :: st) A σ')) : G (pm_then o d C r k h ls st) := by
  obtain ⟨v, σ', rfl, hp⟩ := hr
  rw [pm_then_v]
  exact kk v σ' hp
theorem Rn.go {o : Option pm_R} {A : pm_A} {P : pm_S → Prop} {G : Option pm_R → Prop} {d : Nat} {C r : List pm_I} {k : Nat} {h : Int} {ls st : List pm_V} (hr : Rn o A P) (kk : ∀ σ', P σ' → G (ex d C r ls st A σ')) : G (pm_then o d C r k h ls st) := by
  obtain ⟨σ', rfl, hp⟩ := hr
  rw [pm_then_n]
  exact kk σ' hp
theorem Rv.some {v : pm_V} {A : pm_A} {σ : pm_S} {P : pm_V → pm_S → Prop} (h : P v σ) : Rv (some (.inl (some v), A, σ)) A P := ⟨v, σ, rfl, h⟩
theorem Rn.some {A : pm_A} {σ : pm_S} {P : pm_S → Prop} (h : P σ) : Rn (some (.inl none, A, σ)) A P := ⟨σ, rfl, h⟩
theorem Rv.mono {o : Option pm_R} {A : pm_A} {P Q : pm_V → pm_S → Prop} (h : Rv o A P) (hpq : ∀ v σ, P v σ → Q v σ) : Rv o A Q := by
  obtain ⟨v, σ, h1, h2⟩ := h
  exact ⟨v, σ, h1, hpq v σ h2⟩
/-- a loop that counts up -/
theorem lp_up {G : Option pm_R → Prop} {d : Nat} {C K : List pm_I} {A : pm_A} {lo hi : Int} (I : Int → List pm_V → pm_S → Prop)
    (body : ∀ i ls σ, lo ≤ i → i < hi → I i ls σ → (∀ ls' σ', I (i + 1) ls' σ' → G (ex d C K ls' [] A σ')) → G (ex d C K ls [] A σ)) (exit : ∀ ls σ, I hi ls σ → G (ex d C K ls [] A σ)) {ls : List pm_V} {σ : pm_S} (hlo : lo ≤ hi) (h : I lo ls σ) : G (ex d C K ls [] A σ) := by
  have key : ∀ (n : Nat) (i : Int) (ls : List pm_V) (σ : pm_S), lo ≤ i → i + n = hi → I i ls σ → G (ex d C K ls [] A σ) := by
    intro n
    induction n with
    | zero => intro i ls σ h1 h2 h3; exact exit ls σ (by rw [show hi = i by omega]; exact h3)
    | succ n ih => intro i ls σ h1 h2 h3; exact body i ls σ h1 (by omega) h3 (fun ls' σ' h4 => ih (i + 1) ls' σ' (by omega) (by omega) h4)
  exact key (hi - lo).toNat lo ls σ (Int.le_refl _) (by omega) h
/-- a counted sum: f at lo, lo + 1, .. (n of them) -/
def itr {α : Type} (f : Int → α → α) : Nat → Int → α → α
  | 0, _, a => a
  | n + 1, i, a => itr f n (i + 1) (f i a)
theorem itr_succ {α : Type} (f : Int → α → α) : ∀ (n : Nat) (i : Int) (a : α), itr f (n + 1) i a = f (i + n) (itr f n i a)
  | 0, i, a => by simp [itr]
  | n + 1, i, a => by
    rw [itr, itr_succ f n (i + 1) (f i a), itr]
    congr 1
    omega
/-- up to i -/
def upto {α : Type} (f : Int → α → α) (a : α) (i : Int) : α := itr f i.toNat 0 a
theorem upto_0 {α : Type} (f : Int → α → α) (a : α) : upto f a 0 = a := rfl
theorem upto_s {α : Type} {f : Int → α → α} {a : α} {i : Int} (h : 0 ≤ i) : upto f a (i + 1) = f i (upto f a i) := by
  unfold upto
  rw [show (i + 1).toNat = i.toNat + 1 by omega, itr_succ]
  congr 1
  omega
