/-! PURE, 5: frames -/
def off : List (Nat × Nat) → Nat → Bool
  | [], _ => true
  | p :: l, o => (decide (o < p.1) || decide (p.2 ≤ o)) && off l o
/-- nothing has changed but in these ranges of cells -/
def Sm (S : List (Nat × Nat)) (σ σ' : pm_S) : Prop := ∀ o, off S o = true → σ' o = σ o
theorem Sm.refl {S : List (Nat × Nat)} {σ : pm_S} : Sm S σ σ := fun _ _ => rfl
theorem Sm.trans {S : List (Nat × Nat)} {σ σ1 σ2 : pm_S} (h1 : Sm S σ σ1) (h2 : Sm S σ1 σ2) : Sm S σ σ2 := fun o ho => (h2 o ho).trans (h1 o ho)
def sbs (S T : List (Nat × Nat)) : Bool := S.all fun p => T.any fun q => decide (q.1 ≤ p.1) && decide (p.2 ≤ q.2)
theorem off_any {o : Nat} {p : Nat × Nat} : ∀ (T : List (Nat × Nat)), (T.any fun q => decide (q.1 ≤ p.1) && decide (p.2 ≤ q.2)) = true → off T o = true → o < p.1 ∨ p.2 ≤ o
  | [], h, _ => by cases h
  | q :: T, h, g => by
    rw [List.any_cons, Bool.or_eq_true] at h
    simp only [off, Bool.and_eq_true, Bool.or_eq_true, decide_eq_true_eq] at g h
    rcases h with h | h
    · rcases g.1 with g1 | g1 <;> omega
    · exact off_any T h g.2
theorem off_sbs {T : List (Nat × Nat)} {o : Nat} (g : off T o = true) : ∀ (S : List (Nat × Nat)), sbs S T = true → off S o = true
  | [], _ => rfl
  | p :: S, h => by
    unfold sbs at h
    rw [List.all_cons, Bool.and_eq_true] at h
    simp only [off, Bool.and_eq_true, Bool.or_eq_true, decide_eq_true_eq]
    exact ⟨off_any T h.1 g, off_sbs g S h.2⟩
theorem Sm.mono {S T : List (Nat × Nat)} {σ σ' : pm_S} (h : Sm S σ σ') (hs : sbs S T = true) : Sm T σ σ' := fun o ho => h o (off_sbs ho S hs)
theorem Sm.stv {S : List (Nat × Nat)} {σ τ : pm_S} {o k : Nat} {v : Int} (h : Sm S σ τ) (ho : off S o = false) : Sm S σ (stv τ o k v) := fun o' ho' => by
  rw [stv_o (fun e => by rw [e, ho] at ho'; cases ho')]
  exact h o' ho'
theorem Sm.upc {S : List (Nat × Nat)} {σ τ : pm_S} {o : Nat} {f : Nat → Int} (h : Sm S σ τ) (ho : off S o = false) : Sm S σ (upc τ o f) := fun o' ho' => by
  rw [upc_ne (fun e => by rw [e, ho] at ho'; cases ho')]
  exact h o' ho'
theorem cpy_o {σ : pm_S} {s sp d dp n o : Nat} (h : o ≠ d) : cpy σ s sp d dp n o = σ o := by
  funext k
  exact if_neg (fun q => h q.1)
theorem cpy_d {σ : pm_S} {s d n : Nat} : cpy σ s 0 d 0 n d = fun k => if k < n then σ s k else σ d k := by
  funext k
  unfold cpy
  by_cases h : k < n
  · rw [if_pos ⟨rfl, Nat.zero_le _, by omega⟩, if_pos h]; congr 1; omega
  · rw [if_neg (fun q => h (by omega)), if_neg h]
theorem Sm.cpy {S : List (Nat × Nat)} {σ τ : pm_S} {s sp d dp n : Nat} (h : Sm S σ τ) (ho : off S d = false) : Sm S σ (cpy τ s sp d dp n) := fun o' ho' => by
  rw [cpy_o (fun e => by rw [e, ho] at ho'; cases ho')]
  exact h o' ho'
/-- the cells of terrace, law, book -/
def basL : List Nat := [3, 4, 5, 6, 7, 8, 9, 10, 19, 20, 25, 26, 27]
def Bas (σ0 σ : pm_S) : Prop := ∀ o, o ∈ basL → σ o = σ0 o
theorem Bas.refl {σ : pm_S} : Bas σ σ := fun _ _ => rfl
theorem Bas.sm {S : List (Nat × Nat)} {σ0 σ σ' : pm_S} (h : Bas σ0 σ) (h2 : Sm S σ σ') (hs : basL.all (off S) = true) : Bas σ0 σ' := fun o ho => (h2 o (List.all_eq_true.mp hs o ho)).trans (h o ho)
theorem Bas.c3 {σ0 σ : pm_S} (h : Bas σ0 σ) : σ 3 = σ0 3 := h 3 (by decide)
theorem Bas.c4 {σ0 σ : pm_S} (h : Bas σ0 σ) : σ 4 = σ0 4 := h 4 (by decide)
theorem Bas.c5 {σ0 σ : pm_S} (h : Bas σ0 σ) : σ 5 = σ0 5 := h 5 (by decide)
theorem Bas.c6 {σ0 σ : pm_S} (h : Bas σ0 σ) : σ 6 = σ0 6 := h 6 (by decide)
theorem Bas.c7 {σ0 σ : pm_S} (h : Bas σ0 σ) : σ 7 = σ0 7 := h 7 (by decide)
theorem Bas.c8 {σ0 σ : pm_S} (h : Bas σ0 σ) : σ 8 = σ0 8 := h 8 (by decide)
theorem Bas.c9 {σ0 σ : pm_S} (h : Bas σ0 σ) : σ 9 = σ0 9 := h 9 (by decide)
theorem Bas.c10 {σ0 σ : pm_S} (h : Bas σ0 σ) : σ 10 = σ0 10 := h 10 (by decide)
theorem Bas.c19 {σ0 σ : pm_S} (h : Bas σ0 σ) : σ 19 = σ0 19 := h 19 (by decide)
theorem Bas.c20 {σ0 σ : pm_S} (h : Bas σ0 σ) : σ 20 = σ0 20 := h 20 (by decide)
theorem Bas.c25 {σ0 σ : pm_S} (h : Bas σ0 σ) : σ 25 = σ0 25 := h 25 (by decide)
theorem Bas.c26 {σ0 σ : pm_S} (h : Bas σ0 σ) : σ 26 = σ0 26 := h 26 (by decide)
theorem Bas.c27 {σ0 σ : pm_S} (h : Bas σ0 σ) : σ 27 = σ0 27 := h 27 (by decide)
/-- a wall between two houses -/
abbrev hwl (σ0 : pm_S) (a b : Int) : Prop := i_and (i_shr (σ0 6 a.toNat) b) 1 ≠ 0
/-- the terrace is well formed -/
def TK (σ0 : pm_S) : Prop := (0 ≤ σ0 3 0 ∧ σ0 3 0 ≤ 8) ∧ (0 ≤ σ0 3 1 ∧ σ0 3 1 ≤ 12) ∧ (0 ≤ σ0 3 2 ∧ σ0 3 2 ≤ 6) ∧ (0 ≤ σ0 3 3 ∧ σ0 3 3 ≤ 40) ∧
  (∀ h : Int, 0 ≤ h → h < σ0 3 0 → (0 ≤ σ0 4 h.toNat ∧ σ0 4 h.toNat ≤ 9) ∧ (-1 ≤ σ0 5 h.toNat ∧ σ0 5 h.toNat ≤ 9) ∧ (0 ≤ σ0 6 h.toNat ∧ σ0 6 h.toNat < 256)) ∧
  (∀ p : Int, 0 ≤ p → p < σ0 3 2 → (0 ≤ σ0 9 p.toNat ∧ σ0 9 p.toNat ≤ 9) ∧ (1 ≤ σ0 10 p.toNat ∧ σ0 10 p.toNat ≤ 9)) ∧
  (∀ e : Int, 0 ≤ e → e < σ0 3 1 → (0 ≤ σ0 7 e.toNat ∧ σ0 7 e.toNat < σ0 3 0) ∧ (0 ≤ σ0 8 e.toNat ∧ σ0 8 e.toNat < σ0 3 0) ∧ σ0 7 e.toNat ≠ σ0 8 e.toNat) ∧
  (∀ a b : Int, 0 ≤ a → a < σ0 3 0 → 0 ≤ b → b < 8 → (hwl σ0 a b ↔ ∃ e : Int, (0 ≤ e ∧ e < σ0 3 1) ∧ ((σ0 7 e.toNat = a ∧ σ0 8 e.toNat = b) ∨ (σ0 7 e.toNat = b ∧ σ0 8 e.toNat = a))))
theorem TK.ho {σ0 : pm_S} (h : TK σ0) : 0 ≤ σ0 3 0 ∧ σ0 3 0 ≤ 8 := h.1
theorem TK.wa {σ0 : pm_S} (h : TK σ0) : 0 ≤ σ0 3 1 ∧ σ0 3 1 ≤ 12 := h.2.1
theorem TK.pi {σ0 : pm_S} (h : TK σ0) : 0 ≤ σ0 3 2 ∧ σ0 3 2 ≤ 6 := h.2.2.1
theorem TK.sh {σ0 : pm_S} (h : TK σ0) : 0 ≤ σ0 3 3 ∧ σ0 3 3 ≤ 40 := h.2.2.2.1
theorem TK.hs {σ0 : pm_S} (h : TK σ0) {x : Int} (h0 : 0 ≤ x) (h1 : x < σ0 3 0) : (0 ≤ σ0 4 x.toNat ∧ σ0 4 x.toNat ≤ 9) ∧ (-1 ≤ σ0 5 x.toNat ∧ σ0 5 x.toNat ≤ 9) ∧ (0 ≤ σ0 6 x.toNat ∧ σ0 6 x.toNat < 256) := h.2.2.2.2.1 x h0 h1
theorem TK.ps {σ0 : pm_S} (h : TK σ0) {p : Int} (h0 : 0 ≤ p) (h1 : p < σ0 3 2) : (0 ≤ σ0 9 p.toNat ∧ σ0 9 p.toNat ≤ 9) ∧ (1 ≤ σ0 10 p.toNat ∧ σ0 10 p.toNat ≤ 9) := h.2.2.2.2.2.1 p h0 h1
theorem TK.ws {σ0 : pm_S} (h : TK σ0) {e : Int} (h0 : 0 ≤ e) (h1 : e < σ0 3 1) : (0 ≤ σ0 7 e.toNat ∧ σ0 7 e.toNat < σ0 3 0) ∧ (0 ≤ σ0 8 e.toNat ∧ σ0 8 e.toNat < σ0 3 0) ∧ σ0 7 e.toNat ≠ σ0 8 e.toNat := h.2.2.2.2.2.2.1 e h0 h1
theorem TK.bs {σ0 : pm_S} (h : TK σ0) {a b : Int} (a0 : 0 ≤ a) (a1 : a < σ0 3 0) (b0 : 0 ≤ b) (b1 : b < 8) : hwl σ0 a b ↔ ∃ e : Int, (0 ≤ e ∧ e < σ0 3 1) ∧ ((σ0 7 e.toNat = a ∧ σ0 8 e.toNat = b) ∨ (σ0 7 e.toNat = b ∧ σ0 8 e.toNat = a)) := h.2.2.2.2.2.2.2 a b a0 a1 b0 b1
/-- a row is well formed -/
def RK (σ0 : pm_S) (r : Nat → Int) : Prop := (∀ k : Int, 0 ≤ k → k < 80 → (0 ≤ r k.toNat ∧ r k.toNat ≤ 99) ∧ (10 * σ0 3 0 ≤ k → r k.toNat = 0)) ∧ (∀ p : Int, 0 ≤ p → p < 6 → -1 ≤ r (80 + p).toNat ∧ r (80 + p).toNat < σ0 3 0 ∧ (σ0 3 2 ≤ p → r (80 + p).toNat = -1)) ∧
  (∀ p q : Int, 0 ≤ p → p < 6 → 0 ≤ q → q < 6 → p ≠ q → r (80 + p).toNat = r (80 + q).toNat → r (80 + p).toNat = -1) ∧
  (∀ p : Int, 0 ≤ p → p < 6 → 0 ≤ r (86 + p).toNat ∧ r (86 + p).toNat ≤ 9)
theorem RK.am {σ0 : pm_S} {r : Nat → Int} (h : RK σ0 r) {k : Int} (h0 : 0 ≤ k) (h1 : k < 80) : 0 ≤ r k.toNat ∧ r k.toNat ≤ 99 := (h.1 k h0 h1).1
theorem RK.ze {σ0 : pm_S} {r : Nat → Int} (h : RK σ0 r) {k : Int} (h0 : 0 ≤ k) (h1 : k < 80) (h2 : 10 * σ0 3 0 ≤ k) : r k.toNat = 0 := (h.1 k h0 h1).2 h2
theorem RK.at {σ0 : pm_S} {r : Nat → Int} (h : RK σ0 r) {p : Int} (h0 : 0 ≤ p) (h1 : p < 6) : -1 ≤ r (80 + p).toNat ∧ r (80 + p).toNat < σ0 3 0 := ⟨(h.2.1 p h0 h1).1, (h.2.1 p h0 h1).2.1⟩
theorem RK.no {σ0 : pm_S} {r : Nat → Int} (h : RK σ0 r) {p : Int} (h0 : 0 ≤ p) (h1 : p < 6) (h2 : σ0 3 2 ≤ p) : r (80 + p).toNat = -1 := (h.2.1 p h0 h1).2.2 h2
theorem RK.di {σ0 : pm_S} {r : Nat → Int} (h : RK σ0 r) {p q : Int} (p0 : 0 ≤ p) (p1 : p < 6) (q0 : 0 ≤ q) (q1 : q < 6) (hn : p ≠ q) (he : r (80 + p).toNat = r (80 + q).toNat) : r (80 + p).toNat = -1 := h.2.2.1 p q p0 p1 q0 q1 hn he
theorem RK.fe {σ0 : pm_S} {r : Nat → Int} (h : RK σ0 r) {p : Int} (h0 : 0 ≤ p) (h1 : p < 6) : 0 ≤ r (86 + p).toNat ∧ r (86 + p).toNat ≤ 9 := h.2.2.2 p h0 h1
theorem hwl_irr {σ0 : pm_S} (hT : TK σ0) {a : Int} (a0 : 0 ≤ a) (a1 : a < σ0 3 0) : ¬ hwl σ0 a a := fun h => by
  have := hT.ho
  obtain ⟨e, ⟨e0, e1⟩, e2⟩ := (hT.bs a0 a1 a0 (by omega)).mp h
  have := (hT.ws e0 e1).2.2
  rcases e2 with ⟨x, y⟩ | ⟨x, y⟩ <;> rw [x, y] at this <;> exact this rfl
theorem hwl_sym {σ0 : pm_S} (hT : TK σ0) {a b : Int} (a0 : 0 ≤ a) (a1 : a < σ0 3 0) (b0 : 0 ≤ b) (b1 : b < σ0 3 0) : hwl σ0 a b ↔ hwl σ0 b a := by
  have := hT.ho
  rw [hT.bs a0 a1 b0 (by omega), hT.bs b0 b1 a0 (by omega)]
  constructor <;> rintro ⟨e, he, h | h⟩
  · exact ⟨e, he, Or.inr h⟩
  · exact ⟨e, he, Or.inl h⟩
  · exact ⟨e, he, Or.inr h⟩
  · exact ⟨e, he, Or.inl h⟩
theorem hwl_lt {σ0 : pm_S} (hT : TK σ0) {a b : Int} (a0 : 0 ≤ a) (a1 : a < σ0 3 0) (b0 : 0 ≤ b) (b1 : b < 8) (h : hwl σ0 a b) : b < σ0 3 0 := by
  obtain ⟨e, ⟨e0, e1⟩, e2⟩ := (hT.bs a0 a1 b0 b1).mp h
  have := hT.ws e0 e1
  omega
theorem hwl_tb {σ0 : pm_S} (hT : TK σ0) {a b : Int} (a0 : 0 ≤ a) (a1 : a < σ0 3 0) (b0 : 0 ≤ b) (b1 : b < 8) : hwl σ0 a b ↔ tb (σ0 6 a.toNat) b = true := by
  have := hT.hs a0 a1
  show ¬ _ ↔ _
  rw [bit_ne (by omega) (by omega) b0 (by omega)]
  cases tb (σ0 6 a.toNat) b <;> simp
/-- behind a call -/
theorem Rv.th {o : Option pm_R} {A A' : pm_A} {P Q : pm_V → pm_S → Prop} {d : Nat} {C r : List pm_I} {k : Nat} {h : Int} {ls st : List pm_V} (hr : Rv o A P) (kk : ∀ v σ', P v σ' → Rv (ex d C r ls (v :: st) A σ') A' Q) : Rv (pm_then o d C r k h ls st) A' Q := Rv.go (G := fun o => Rv o A' Q) hr kk
theorem Rv.tn {o : Option pm_R} {A A' : pm_A} {P : pm_V → pm_S → Prop} {Q : pm_S → Prop} {d : Nat} {C r : List pm_I} {k : Nat} {h : Int} {ls st : List pm_V} (hr : Rv o A P) (kk : ∀ v σ', P v σ' → Rn (ex d C r ls (v :: st) A σ') A' Q) : Rn (pm_then o d C r k h ls st) A' Q := Rv.go (G := fun o => Rn o A' Q) hr kk
theorem Rn.th {o : Option pm_R} {A A' : pm_A} {P : pm_S → Prop} {Q : pm_V → pm_S → Prop} {d : Nat} {C r : List pm_I} {k : Nat} {h : Int} {ls st : List pm_V} (hr : Rn o A P) (kk : ∀ σ', P σ' → Rv (ex d C r ls st A σ') A' Q) : Rv (pm_then o d C r k h ls st) A' Q := Rn.go (G := fun o => Rv o A' Q) hr kk
theorem Rn.tn {o : Option pm_R} {A A' : pm_A} {P Q : pm_S → Prop} {d : Nat} {C r : List pm_I} {k : Nat} {h : Int} {ls st : List pm_V} (hr : Rn o A P) (kk : ∀ σ', P σ' → Rn (ex d C r ls st A σ') A' Q) : Rn (pm_then o d C r k h ls st) A' Q := Rn.go (G := fun o => Rn o A' Q) hr kk
theorem Rn.mono {o : Option pm_R} {A : pm_A} {P Q : pm_S → Prop} (h : Rn o A P) (hpq : ∀ σ, P σ → Q σ) : Rn o A Q := by
  obtain ⟨σ, h1, h2⟩ := h
  exact ⟨σ, h1, hpq σ h2⟩
/-- from lo on -/
def upfr {α : Type} (lo : Int) (f : Int → α → α) (a : α) (i : Int) : α := itr f (i - lo).toNat lo a
theorem upfr_0 {α : Type} {lo : Int} {f : Int → α → α} {a : α} : upfr lo f a lo = a := by
  unfold upfr
  rw [show (lo - lo).toNat = 0 by omega]
  rfl
theorem upfr_s {α : Type} {lo : Int} {f : Int → α → α} {a : α} {i : Int} (h : lo ≤ i) : upfr lo f a (i + 1) = f i (upfr lo f a i) := by
  unfold upfr
  rw [show (i + 1 - lo).toNat = (i - lo).toNat + 1 by omega, itr_succ]
  congr 1
  omega
theorem upfr_1 {α : Type} {f : Int → α → α} {a : α} {i : Int} (h : 1 ≤ i) : upto f a i = upfr 1 f (f 0 a) i := by
  unfold upto upfr
  rw [show i.toNat = (i - 1).toNat + 1 by omega]
  rfl
theorem upfr_inv {α : Type} {lo : Int} {f : Int → α → α} {a : α} {n : Int} (I : Int → α → Prop) (h0 : I lo a) (hs : ∀ i x, lo ≤ i → i < n → I i x → I (i + 1) (f i x)) (hn : lo ≤ n) : I n (upfr lo f a n) := by
  have key : ∀ (k : Nat), lo + k ≤ n → I (lo + k) (upfr lo f a (lo + k)) := by
    intro k
    induction k with
    | zero => intro _; rw [show lo + ((0 : Nat) : Int) = lo by omega, upfr_0]; exact h0
    | succ k ih =>
      intro hk
      rw [show lo + ((k + 1 : Nat) : Int) = (lo + k) + 1 by omega, upfr_s (by omega)]
      exact hs _ _ (by omega) (by omega) (ih (by omega))
  have := key (n - lo).toNat (by omega)
  rw [show lo + (((n - lo).toNat : Nat) : Int) = n by omega] at this
  exact this
/-- a loop that leaves the store as it is -/
theorem lp_c {G : Option pm_R → Prop} {d : Nat} {C K : List pm_I} {A : pm_A} {σ : pm_S} {lo hi : Int} (I : Int → List pm_V → Prop)
    (body : ∀ i ls, lo ≤ i → i < hi → I i ls → (∀ ls', I (i + 1) ls' → G (ex d C K ls' [] A σ)) → G (ex d C K ls [] A σ)) (exit : ∀ ls, I hi ls → G (ex d C K ls [] A σ)) {ls : List pm_V} (hlo : lo ≤ hi) (h : I lo ls) : G (ex d C K ls [] A σ) :=
  lp_up (fun i ls τ => I i ls ∧ τ = σ) (fun i ls τ h1 h2 ⟨h3, h4⟩ kk => by subst h4; exact body i ls h1 h2 h3 (fun ls' h => kk ls' _ ⟨h, rfl⟩)) (fun ls τ ⟨h3, h4⟩ => by subst h4; exact exit ls h3) hlo ⟨h, rfl⟩
theorem mul10 (h : Int) : 10 * h = h * 10 := Int.mul_comm _ _
