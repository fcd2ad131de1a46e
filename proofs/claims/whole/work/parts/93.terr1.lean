/-! PURE, 49: terraces, the draft -/
def teH (δ : pm_S) (x : Int) : pm_S := stv (stv (stv (stv δ 4 (δ 3 0).toNat x) 5 (δ 3 0).toNat (-1)) 6 (δ 3 0).toNat 0) 3 0 (δ 3 0 + 1)
def teP (δ : pm_S) (x y : Int) : pm_S := stv (stv (stv δ 9 (δ 3 2).toNat x) 10 (δ 3 2).toNat y) 3 2 (δ 3 2 + 1)
def teS (δ : pm_S) (h x : Int) : pm_S := stv δ 5 h.toNat x
def teF (δ : pm_S) (x : Int) : pm_S := stv δ 3 3 x
def teW (δ : pm_S) (a b : Int) : pm_S := stv (stv (stv (stv (stv δ 7 (δ 3 1).toNat a) 8 (δ 3 1).toNat b) 3 1 (δ 3 1 + 1)) 6 a.toNat (i_or (δ 6 a.toNat) (i_shl 1 b))) 6 b.toNat (i_or (δ 6 b.toNat) (i_shl 1 a))
theorem TK.mk' {δ : pm_S} (h0 : 0 ≤ δ 3 0 ∧ δ 3 0 ≤ 8) (h1 : 0 ≤ δ 3 1 ∧ δ 3 1 ≤ 12) (h2 : 0 ≤ δ 3 2 ∧ δ 3 2 ≤ 6) (h3 : 0 ≤ δ 3 3 ∧ δ 3 3 ≤ 40) (hs : ∀ h : Int, 0 ≤ h → h < δ 3 0 → (0 ≤ δ 4 h.toNat ∧ δ 4 h.toNat ≤ 9) ∧ (-1 ≤ δ 5 h.toNat ∧ δ 5 h.toNat ≤ 9) ∧ (0 ≤ δ 6 h.toNat ∧ δ 6 h.toNat < 256)) (ps : ∀ p : Int, 0 ≤ p → p < δ 3 2 → (0 ≤ δ 9 p.toNat ∧ δ 9 p.toNat ≤ 9) ∧ (1 ≤ δ 10 p.toNat ∧ δ 10 p.toNat ≤ 9)) (ws : ∀ e : Int, 0 ≤ e → e < δ 3 1 → (0 ≤ δ 7 e.toNat ∧ δ 7 e.toNat < δ 3 0) ∧ (0 ≤ δ 8 e.toNat ∧ δ 8 e.toNat < δ 3 0) ∧ δ 7 e.toNat ≠ δ 8 e.toNat) (bs : ∀ a b : Int, 0 ≤ a → a < δ 3 0 → 0 ≤ b → b < 8 → (hwl δ a b ↔ ∃ e : Int, (0 ≤ e ∧ e < δ 3 1) ∧ ((δ 7 e.toNat = a ∧ δ 8 e.toNat = b) ∨ (δ 7 e.toNat = b ∧ δ 8 e.toNat = a)))) : TK δ := ⟨h0, h1, h2, h3, hs, ps, ws, bs⟩
theorem teF_TK {δ : pm_S} (hT : TK δ) {x : Int} (x0 : 0 ≤ x) (x1 : x ≤ 40) : TK (teF δ x) := by
  have e : ∀ o k, ¬ (o = 3 ∧ k = 3) → teF δ x o k = δ o k := fun o k h => by
    unfold teF
    by_cases ho : o = 3
    · subst ho; rw [stv_k (fun z => h ⟨rfl, z⟩)]
    · rw [stv_o ho]
  have e4 : teF δ x 4 = δ 4 := stv_o (by decide)
  have e5 : teF δ x 5 = δ 5 := stv_o (by decide)
  have e6 : teF δ x 6 = δ 6 := stv_o (by decide)
  have e7 : teF δ x 7 = δ 7 := stv_o (by decide)
  have e8 : teF δ x 8 = δ 8 := stv_o (by decide)
  have e9 : teF δ x 9 = δ 9 := stv_o (by decide)
  have e10 : teF δ x 10 = δ 10 := stv_o (by decide)
  have f0 := e 3 0 (by decide)
  have f1 := e 3 1 (by decide)
  have f2 := e 3 2 (by decide)
  have f3 : teF δ x 3 3 = x := stv_s
  unfold TK hwl
  rw [f0, f1, f2, f3, e4, e5, e6, e7, e8, e9, e10]
  exact ⟨hT.1, hT.2.1, hT.2.2.1, ⟨x0, x1⟩, hT.2.2.2.2⟩
theorem teS_TK {δ : pm_S} (hT : TK δ) {h x : Int} (h0 : 0 ≤ h) (h1 : h < δ 3 0) (x0 : 0 ≤ x) (x1 : x ≤ 9) : TK (teS δ h x) := by
  have e3 : teS δ h x 3 = δ 3 := stv_o (by decide)
  have e4 : teS δ h x 4 = δ 4 := stv_o (by decide)
  have e6 : teS δ h x 6 = δ 6 := stv_o (by decide)
  have e7 : teS δ h x 7 = δ 7 := stv_o (by decide)
  have e8 : teS δ h x 8 = δ 8 := stv_o (by decide)
  have e9 : teS δ h x 9 = δ 9 := stv_o (by decide)
  have e10 : teS δ h x 10 = δ 10 := stv_o (by decide)
  have f5 : ∀ k, teS δ h x 5 k = if k = h.toNat then x else δ 5 k := fun k => by
    unfold teS
    split
    · rename_i z; rw [z, stv_s]
    · rename_i z; rw [stv_k z]
  unfold TK hwl
  rw [e3, e4, e6, e7, e8, e9, e10]
  refine ⟨hT.1, hT.2.1, hT.2.2.1, hT.2.2.2.1, fun y y0 y1 => ?_, hT.2.2.2.2.2⟩
  have := hT.hs y0 y1
  rw [f5]
  refine ⟨this.1, ?_, this.2.2⟩
  split
  · omega
  · exact this.2.1
theorem teP_TK {δ : pm_S} (hT : TK δ) {x y : Int} (h6 : δ 3 2 < 6) (x0 : 0 ≤ x) (x1 : x ≤ 9) (y0 : 1 ≤ y) (y1 : y ≤ 9) : TK (teP δ x y) := by
  have tp := hT.pi
  have f0 : teP δ x y 3 0 = δ 3 0 := by unfold teP; rw [stv_k (by decide), stv_o (by decide), stv_o (by decide)]
  have f1 : teP δ x y 3 1 = δ 3 1 := by unfold teP; rw [stv_k (by decide), stv_o (by decide), stv_o (by decide)]
  have f2 : teP δ x y 3 2 = δ 3 2 + 1 := by unfold teP; rw [stv_s]
  have f3 : teP δ x y 3 3 = δ 3 3 := by unfold teP; rw [stv_k (by decide), stv_o (by decide), stv_o (by decide)]
  have e4 : teP δ x y 4 = δ 4 := by unfold teP; rw [stv_o (by decide), stv_o (by decide), stv_o (by decide)]
  have e5 : teP δ x y 5 = δ 5 := by unfold teP; rw [stv_o (by decide), stv_o (by decide), stv_o (by decide)]
  have e6 : teP δ x y 6 = δ 6 := by unfold teP; rw [stv_o (by decide), stv_o (by decide), stv_o (by decide)]
  have e7 : teP δ x y 7 = δ 7 := by unfold teP; rw [stv_o (by decide), stv_o (by decide), stv_o (by decide)]
  have e8 : teP δ x y 8 = δ 8 := by unfold teP; rw [stv_o (by decide), stv_o (by decide), stv_o (by decide)]
  have e9 : ∀ k, teP δ x y 9 k = if k = (δ 3 2).toNat then x else δ 9 k := fun k => by
    unfold teP
    rw [stv_o (by decide), stv_o (by decide)]
    split
    · rename_i z; rw [z, stv_s]
    · rename_i z; rw [stv_k z]
  have e10 : ∀ k, teP δ x y 10 k = if k = (δ 3 2).toNat then y else δ 10 k := fun k => by
    unfold teP
    rw [stv_o (by decide)]
    split
    · rename_i z; rw [z, stv_s]
    · rename_i z; rw [stv_k z, stv_o (by decide)]
  unfold TK hwl
  rw [f0, f1, f2, f3, e4, e5, e6, e7, e8]
  refine ⟨hT.1, hT.2.1, by omega, hT.2.2.2.1, hT.2.2.2.2.1, fun p p0 p1 => ?_, hT.2.2.2.2.2.2⟩
  rw [e9, e10]
  by_cases z : p.toNat = (δ 3 2).toNat
  · rw [if_pos z, if_pos z]; omega
  · rw [if_neg z, if_neg z]; exact hT.ps p0 (by omega)
theorem teH_TK {δ : pm_S} (hT : TK δ) {x : Int} (h8 : δ 3 0 < 8) (x0 : 0 ≤ x) (x1 : x ≤ 9) : TK (teH δ x) := by
  have th := hT.ho
  have f0 : teH δ x 3 0 = δ 3 0 + 1 := by unfold teH; rw [stv_s]
  have f1 : teH δ x 3 1 = δ 3 1 := by unfold teH; rw [stv_k (by decide), stv_o (by decide), stv_o (by decide), stv_o (by decide)]
  have f2 : teH δ x 3 2 = δ 3 2 := by unfold teH; rw [stv_k (by decide), stv_o (by decide), stv_o (by decide), stv_o (by decide)]
  have f3 : teH δ x 3 3 = δ 3 3 := by unfold teH; rw [stv_k (by decide), stv_o (by decide), stv_o (by decide), stv_o (by decide)]
  have e7 : teH δ x 7 = δ 7 := by unfold teH; rw [stv_o (by decide), stv_o (by decide), stv_o (by decide), stv_o (by decide)]
  have e8 : teH δ x 8 = δ 8 := by unfold teH; rw [stv_o (by decide), stv_o (by decide), stv_o (by decide), stv_o (by decide)]
  have e9 : teH δ x 9 = δ 9 := by unfold teH; rw [stv_o (by decide), stv_o (by decide), stv_o (by decide), stv_o (by decide)]
  have e10 : teH δ x 10 = δ 10 := by unfold teH; rw [stv_o (by decide), stv_o (by decide), stv_o (by decide), stv_o (by decide)]
  have e4 : ∀ k, teH δ x 4 k = if k = (δ 3 0).toNat then x else δ 4 k := fun k => by
    unfold teH
    rw [stv_o (by decide), stv_o (by decide), stv_o (by decide)]
    split
    · rename_i z; rw [z, stv_s]
    · rename_i z; rw [stv_k z]
  have e5 : ∀ k, teH δ x 5 k = if k = (δ 3 0).toNat then -1 else δ 5 k := fun k => by
    unfold teH
    rw [stv_o (by decide), stv_o (by decide)]
    split
    · rename_i z; rw [z, stv_s]
    · rename_i z; rw [stv_k z, stv_o (by decide)]
  have e6 : ∀ k, teH δ x 6 k = if k = (δ 3 0).toNat then 0 else δ 6 k := fun k => by
    unfold teH
    rw [stv_o (by decide)]
    split
    · rename_i z; rw [z, stv_s]
    · rename_i z; rw [stv_k z, stv_o (by decide), stv_o (by decide)]
  unfold TK hwl
  rw [f0, f1, f2, f3, e7, e8, e9, e10]
  refine ⟨by omega, hT.2.1, hT.2.2.1, hT.2.2.2.1, fun h h0 h1 => ?_, hT.2.2.2.2.2.1, fun e e0 e1 => ?_, fun a b a0 a1 b0 b1 => ?_⟩
  · rw [e4, e5, e6]
    by_cases z : h.toNat = (δ 3 0).toNat
    · rw [if_pos z, if_pos z, if_pos z]; omega
    · rw [if_neg z, if_neg z, if_neg z]; exact hT.hs h0 (by omega)
  · have := hT.ws e0 e1
    exact ⟨by omega, by omega, this.2.2⟩
  · rw [e6]
    by_cases z : a.toNat = (δ 3 0).toNat
    · rw [if_pos z, bit_test (by decide) (by decide) b0 (by omega), tb_0]
      refine ⟨fun g => absurd rfl g, fun ⟨e, he, g⟩ => ?_⟩
      have := hT.ws he.1 he.2
      omega
    · rw [if_neg z]
      exact hT.bs a0 (by omega) b0 b1
theorem teW_TK {δ : pm_S} (hT : TK δ) {x y : Int} (h12 : δ 3 1 < 12) (x0 : 0 ≤ x) (x1 : x < δ 3 0) (y0 : 0 ≤ y) (y1 : y < δ 3 0) (xy : x ≠ y) : TK (teW δ x y) := by
  have th := hT.ho
  have tw := hT.wa
  have f0 : teW δ x y 3 0 = δ 3 0 := by unfold teW; rw [stv_o (by decide), stv_o (by decide), stv_k (by decide), stv_o (by decide), stv_o (by decide)]
  have f1 : teW δ x y 3 1 = δ 3 1 + 1 := by unfold teW; rw [stv_o (by decide), stv_o (by decide), stv_s]
  have f2 : teW δ x y 3 2 = δ 3 2 := by unfold teW; rw [stv_o (by decide), stv_o (by decide), stv_k (by decide), stv_o (by decide), stv_o (by decide)]
  have f3 : teW δ x y 3 3 = δ 3 3 := by unfold teW; rw [stv_o (by decide), stv_o (by decide), stv_k (by decide), stv_o (by decide), stv_o (by decide)]
  have e4 : teW δ x y 4 = δ 4 := by unfold teW; rw [stv_o (by decide), stv_o (by decide), stv_o (by decide), stv_o (by decide), stv_o (by decide)]
  have e5 : teW δ x y 5 = δ 5 := by unfold teW; rw [stv_o (by decide), stv_o (by decide), stv_o (by decide), stv_o (by decide), stv_o (by decide)]
  have e9 : teW δ x y 9 = δ 9 := by unfold teW; rw [stv_o (by decide), stv_o (by decide), stv_o (by decide), stv_o (by decide), stv_o (by decide)]
  have e10 : teW δ x y 10 = δ 10 := by unfold teW; rw [stv_o (by decide), stv_o (by decide), stv_o (by decide), stv_o (by decide), stv_o (by decide)]
  have e7 : ∀ k, teW δ x y 7 k = if k = (δ 3 1).toNat then x else δ 7 k := fun k => by
    unfold teW
    rw [stv_o (by decide), stv_o (by decide), stv_o (by decide), stv_o (by decide)]
    split
    · rename_i z; rw [z, stv_s]
    · rename_i z; rw [stv_k z]
  have e8 : ∀ k, teW δ x y 8 k = if k = (δ 3 1).toNat then y else δ 8 k := fun k => by
    unfold teW
    rw [stv_o (by decide), stv_o (by decide), stv_o (by decide)]
    split
    · rename_i z; rw [z, stv_s]
    · rename_i z; rw [stv_k z, stv_o (by decide)]
  have e6 : ∀ k, teW δ x y 6 k = if k = x.toNat then i_or (δ 6 x.toNat) (i_shl 1 y) else if k = y.toNat then i_or (δ 6 y.toNat) (i_shl 1 x) else δ 6 k := fun k => by
    unfold teW
    by_cases z1 : k = y.toNat
    · rw [z1, stv_s, if_neg (by omega), if_pos rfl]
    · rw [stv_k z1]
      by_cases z2 : k = x.toNat
      · rw [z2, stv_s, if_pos rfl]
      · rw [stv_k z2, if_neg z2, if_neg z1, stv_o (by decide), stv_o (by decide), stv_o (by decide)]
  have hx := (hT.hs x0 x1).2.2
  have hy := (hT.hs y0 y1).2.2
  have sx := shl1_rng x0 (show x < 31 by omega)
  have sy := shl1_rng y0 (show y < 31 by omega)
  have ox := or_rng hx.1 (by omega) sy.1 sy.2
  have oy := or_rng hy.1 (by omega) sx.1 sx.2
  have tx : ∀ k, 0 ≤ k → tb (i_or (δ 6 x.toNat) (i_shl 1 y)) k = (tb (δ 6 x.toNat) k || decide (y = k)) := fun k k0 => by rw [or_tb hx.1 (by omega) sy.1 sy.2, shl1_tb y0 (by omega) k0]
  have ty : ∀ k, 0 ≤ k → tb (i_or (δ 6 y.toNat) (i_shl 1 x)) k = (tb (δ 6 y.toNat) k || decide (x = k)) := fun k k0 => by rw [or_tb hy.1 (by omega) sx.1 sx.2, shl1_tb x0 (by omega) k0]
  have lx : i_or (δ 6 x.toNat) (i_shl 1 y) < 256 := lt_tb (n := 8) ox.1 (fun k hk => by
    rw [tx k (by omega), tb_lt (n := 8) hx.1 (by omega) hk, decide_eq_false (by omega)]; rfl)
  have ly : i_or (δ 6 y.toNat) (i_shl 1 x) < 256 := lt_tb (n := 8) oy.1 (fun k hk => by
    rw [ty k (by omega), tb_lt (n := 8) hy.1 (by omega) hk, decide_eq_false (by omega)]; rfl)
  have ex7 : ∀ (a b : Int), (∃ e : Int, (0 ≤ e ∧ e < δ 3 1 + 1) ∧ ((teW δ x y 7 e.toNat = a ∧ teW δ x y 8 e.toNat = b) ∨ (teW δ x y 7 e.toNat = b ∧ teW δ x y 8 e.toNat = a))) ↔ ((∃ e : Int, (0 ≤ e ∧ e < δ 3 1) ∧ ((δ 7 e.toNat = a ∧ δ 8 e.toNat = b) ∨ (δ 7 e.toNat = b ∧ δ 8 e.toNat = a))) ∨ ((x = a ∧ y = b) ∨ (x = b ∧ y = a))) := by
    intro a b
    constructor
    · rintro ⟨e, he, g⟩
      rw [e7, e8] at g
      by_cases z : e.toNat = (δ 3 1).toNat
      · rw [if_pos z, if_pos z] at g; exact Or.inr g
      · rw [if_neg z, if_neg z] at g; exact Or.inl ⟨e, by omega, g⟩
    · rintro (⟨e, he, g⟩ | g)
      · refine ⟨e, by omega, ?_⟩
        rw [e7, e8, if_neg (by omega), if_neg (by omega)]; exact g
      · refine ⟨δ 3 1, by omega, ?_⟩
        rw [e7, e8, if_pos rfl, if_pos rfl]; exact g
  refine TK.mk' (by rw [f0]; exact hT.1) (by rw [f1]; omega) (by rw [f2]; exact hT.2.2.1) (by rw [f3]; exact hT.2.2.2.1) (fun h h0 h1 => ?_) (fun p p0 p1 => ?_) (fun e g0 g1 => ?_) (fun a b a0 a1 b0 b1 => ?_)
  · rw [f0] at h1
    have := hT.hs h0 h1
    rw [e4, e5, e6]
    refine ⟨this.1, this.2.1, ?_⟩
    split
    · omega
    · split
      · omega
      · exact this.2.2
  · rw [f2] at p1
    rw [e9, e10]
    exact hT.ps p0 p1
  · rw [f1] at g1
    rw [f0, e7, e8]
    by_cases z : e.toNat = (δ 3 1).toNat
    · rw [if_pos z, if_pos z]; exact ⟨⟨x0, x1⟩, ⟨y0, y1⟩, xy⟩
    · rw [if_neg z, if_neg z]; exact hT.ws g0 (by omega)
  · rw [f0] at a1
    rw [f1, ex7]
    have hb := hT.bs a0 a1 b0 b1
    rw [← hb]
    have ha := (hT.hs a0 a1).2.2
    show ¬ (i_and (i_shr (teW δ x y 6 a.toNat) b) 1 = 0) ↔ ¬ (i_and (i_shr (δ 6 a.toNat) b) 1 = 0) ∨ _
    rw [e6, bit_ne ha.1 (by omega) b0 (by omega)]
    by_cases z : a.toNat = x.toNat
    · have ea : a = x := by omega
      subst ea
      rw [if_pos rfl, bit_ne ox.1 ox.2 b0 (by omega), tx b b0]
      by_cases yb : y = b
      · subst yb; simp
      · have : ¬ (a = b ∧ y = a) := fun g => by omega
        simp [yb, this]
    · rw [if_neg z]
      by_cases z2 : a.toNat = y.toNat
      · have ea : a = y := by omega
        subst ea
        rw [if_pos rfl, bit_ne oy.1 oy.2 b0 (by omega), ty b b0]
        by_cases xb : x = b
        · subst xb; simp
        · have : ¬ (x = a ∧ a = b) := fun g => by omega
          simp [xb, this]
      · rw [if_neg z2, bit_ne ha.1 (by omega) b0 (by omega)]
        have n1 : ¬ ((x = a ∧ y = b) ∨ (x = b ∧ y = a)) := by omega
        simp [n1]
