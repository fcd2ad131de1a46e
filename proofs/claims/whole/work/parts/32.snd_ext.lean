/-! SOUNDNESS, 7: what stands outside the world: texts, statics, the script, words that no list carries -/
theorem va_AOA.moved {t : FieldType} {u U : State} (hvm : u.vm.Alike U.vm) (h : va_AOA t u) : va_AOA t U := by
  obtain ⟨comp, c, k, h1, h2, h3, h4, h5⟩ := arrayOverA_spec h
  obtain ⟨k', hk', he⟩ := hvm.2.2 _ _ h3
  have hi : (U.vm.classes.findIdx? fun (x : Class) => match x.kind with | .array component _ => component == comp | _ => false) = some c := by
    refine (va_idx_bare U.vm comp).symm.trans ?_
    first | rw [hvm.bare_eq] | rw [← hvm.bare_eq]
    exact (va_idx_bare u.vm comp).trans h2
  have hkind : k'.kind = .array comp (.array t) := by rw [he]; exact h4
  have f1 : U.vm.findClass (FieldType.array t).toString = some comp := by rw [hvm.findClass]; exact h1
  have f2 : U.vm.findClass ("[" ++ (FieldType.array t).toString) = some c := by rw [hvm.findClass]; exact h5
  unfold va_AOA Cond.before Cond.holds
  simp only [Cond.value]
  rw [f1, Option.bind_some]
  refine (congrArg (fun o : Option Nat => (o.bind (fun c => (U.vm.classes[c]?).map fun (k : Class) => match k.kind with | .array _ ty => decide (ty = FieldType.array t) && decide (U.vm.findClass ("[" ++ (FieldType.array t).toString) = some c) | _ => false) == some true)) hi).trans ?_
  simp [hk', hkind, f2]
def sE1 : String := "java/util/NoSuchElementException"
def sE2 : String := "java/lang/IllegalArgumentException"
/-- the words of a throw that no list carries -/
def sTw (ic : Nat) (X : String) : List Cond := (vx_atS RX11 ic X ["java/lang/RuntimeException", "java/lang/Exception"]).filter (fun w => !goodWord w)
/-- the texts, by their numbers (two classes may name one text: no two need be apart) -/
def sTx (K adV : Nat → Nat) (A : Nat → Prop) (U : State) (H : Heap) : Prop := ∀ i : Nat, i < 23 → va_O "java/lang/String" (K i) A U H ∧ va_OF "java/lang/String" "coder" "B" (.int 0) (K i) A U H ∧ va_OF "java/lang/String" "value" "[B" (.ref (adV i)) (K i) A U H ∧ va_T .byte (adV i) ((pm_tx.map List.length).getD i 0) (fun j => .int (((pm_tx.map fun t => t.map Int32.ofNat).getD i []).getD j 0)) A U H
theorem sTx.moved {K adV : Nat → Nat} {A : Nat → Prop} {u U : State} {H : Heap} (hvm : u.vm.Alike U.vm) (h : sTx K adV A u H) : sTx K adV A U H := fun i hi => ⟨va_O.moved hvm (h i hi).1, va_OF.moved hvm (h i hi).2.1, va_OF.moved hvm (h i hi).2.2.1, va_T.moved hvm (h i hi).2.2.2⟩
theorem sTx.kept {K adV : Nat → Nat} {A : Nat → Prop} {U : State} {H H1 : Heap} (h : sTx K adV A U H) (hq : ∀ a : Nat, a < H.size → ¬ A a → H1[a]? = H[a]?) : sTx K adV A U H1 := fun i hi => ⟨(h i hi).1.kept hq, (h i hi).2.1.kept hq, (h i hi).2.2.1.kept hq, (h i hi).2.2.2.kept hq⟩
theorem tx_recv {s : State} {H : Heap} {locs : List Loc} {K adV : Nat → Nat} {A : Nat → Prop} {i : Nat} (hE : sTx K adV A s s.heap) (hi : i < 23) (hS : va_S A s.heap H locs) : ∃ cell : Cell, H[K i]? = some cell ∧ cell.vm.isStatics = false ∧ s.vm.findClass "java/lang/String" = some cell.cls := by
  obtain ⟨cell, h1, h2, h3, -⟩ := (hE i hi).1.kept hS.2.1
  exact ⟨cell, h1, h2, h3⟩
theorem sDw_warm {s U : State} (hW : s.WarmedH U.vm) (h : ∀ w ∈ sDw, va_Nw w s) : ∀ w ∈ sDw, va_Nw w U := by
  intro w hw
  have h1 := h w hw
  simp only [sDw, List.mem_cons, List.not_mem_nil, or_false] at hw
  rcases hw with rfl | rfl | rfl <;> exact va_Nw.warmD hW h1
theorem sDw_same {s U : State} (hv : s.vm = U.vm) (h : ∀ w ∈ sDw, va_Nw w s) : ∀ w ∈ sDw, va_Nw w U := by
  intro w hw
  have h1 := h w hw
  simp only [sDw, List.mem_cons, List.not_mem_nil, or_false] at hw
  rcases hw with rfl | rfl | rfl <;> exact va_Nw.same rfl hv h1
def xt (B0 : Nat) (K adV : Nat → Nat) (Ls : Nat) (xs : Nat → Int32) (U : State) : Prop :=
  (sTx K adV (fun q => B0 ≤ q) U U.heap ∧ ∀ i q, pm_st[i]? = some q → vk_R q.1 q.2.1 q.2.2 (K i) U) ∧
  (vx_Zq Bundle.tN "UNASSIGNED_STACK" Bundle.steD (fun q => B0 ≤ q) U U.heap ∧ vx_Zq Bundle.tN "SUPPRESSED_SENTINEL" Bundle.listD (fun q => B0 ≤ q) U U.heap ∧ va_Z "java/lang/String" "COMPACT_STRINGS" "Z" (.int 1) (fun q => B0 ≤ q) U U.heap ∧ va_Zq RJ3 "SIOOBE_FORMATTER" "Ljava/util/function/BiFunction;" (fun q => B0 ≤ q) U U.heap) ∧
  ((∀ w ∈ pm_nw, va_Nw w U) ∧ va_AOA .int U ∧ va_AO RX1 U) ∧
  (va_Nc sE2 sE1 U ∧ va_Nc sE1 sE2 U ∧ va_Nw (.castable sE1 sE1) U ∧ va_Nw (.castable sE2 sE2) U ∧ ∀ w ∈ sDw, va_Nw w U) ∧
  va_X (K 99) Ls xs U U.heap ∧ K 99 < B0 ∧ B0 ≤ U.heap.size
theorem nw_warm {s U : State} (hW : s.WarmedH U.vm) (h : ∀ w ∈ pm_nw, va_Nw w s) : ∀ w ∈ pm_nw, va_Nw w U := by
  intro w hw
  have h1 := h w hw
  simp only [pm_nw, List.mem_cons, List.not_mem_nil, or_false] at hw
  rcases hw with rfl | rfl | rfl | rfl | rfl | rfl | rfl <;> exact va_Nw.warmM hW h1
theorem nw_same {s U : State} (hv : s.vm = U.vm) (h : ∀ w ∈ pm_nw, va_Nw w s) : ∀ w ∈ pm_nw, va_Nw w U := by
  intro w hw
  have h1 := h w hw
  simp only [pm_nw, List.mem_cons, List.not_mem_nil, or_false] at hw
  rcases hw with rfl | rfl | rfl | rfl | rfl | rfl | rfl <;> exact va_Nw.same rfl hv h1
theorem xt_same {B0 : Nat} {K adV : Nat → Nat} {Ls : Nat} {xs : Nat → Int32} {s U : State} (hv : s.vm = U.vm) (hh : s.heap = U.heap) (h : xt B0 K adV Ls xs s) : xt B0 K adV Ls xs U := by
  obtain ⟨⟨a1, a2⟩, ⟨b1, b2, b3, b4⟩, ⟨c1, c2, c3⟩, ⟨d1, d2, d3, d4, d5⟩, e1, e2, e3⟩ := h
  have al : s.vm.Alike U.vm := by rw [hv]; exact Vm.Alike.refl U.vm
  unfold xt
  rw [← hh]
  exact ⟨⟨a1.moved al, fun i q hq => vk_R.same hv.symm (a2 i q hq)⟩, ⟨vx_Zq.moved al b1, vx_Zq.moved al b2, va_Z.moved al b3, va_Zq.moved al b4⟩, ⟨nw_same hv c1, c2.moved al, c3.moved al⟩, ⟨d1.moved al, d2.moved al, va_Nw.same rfl hv d3, va_Nw.same rfl hv d4, sDw_same hv d5⟩, va_X.moved al e1, e2, e3⟩
theorem xt_warm {B0 : Nat} {K adV : Nat → Nat} {Ls : Nat} {xs : Nat → Int32} {s U : State} {locs : List Loc} (hW : s.WarmedH U.vm) (hS : va_S (fun q => B0 ≤ q) s.heap U.heap locs) (h : xt B0 K adV Ls xs s) : xt B0 K adV Ls xs U := by
  obtain ⟨⟨a1, a2⟩, ⟨b1, b2, b3, b4⟩, ⟨c1, c2, c3⟩, ⟨d1, d2, d3, d4, d5⟩, e1, e2, e3⟩ := h
  have al := hW.alike
  have kq : ∀ a : Nat, a < s.heap.size → ¬ (B0 ≤ a) → U.heap[a]? = s.heap[a]? := fun a h1 h2 => hS.2.1 a h1 h2
  refine ⟨⟨(a1.kept kq).moved al, fun i q hq => vk_R.warm hW (a2 i q hq)⟩, ⟨vx_Zq.moved al (b1.kept kq), vx_Zq.moved al (b2.kept kq), va_Z.moved al (b3.kept kq), va_Zq.moved al (b4.kept kq)⟩, ⟨nw_warm hW c1, c2.moved al, c3.moved al⟩, ⟨d1.moved al, d2.moved al, va_Nw.warmC hW d3, va_Nw.warmC hW d4, sDw_warm hW d5⟩, va_X.moved al (e1.kept (kq _ (by omega) (by omega))), e2, Nat.le_trans e3 hS.1⟩
/-- the good words of the tables: what every method carries -/
def sGd : List Cond := lw_tbl.filter goodWord
theorem sGd_mem {w : Cond} (h : w ∈ lw_tbl ∧ goodWord w = true) : w ∈ sGd := List.mem_filter.mpr h
theorem sGd_good {big ws : List Cond} (h : ∀ w ∈ ws, w ∈ sGd) (hb : ∀ w ∈ sGd, w ∈ big) : GoodIn big ws := fun w hw => ⟨hb w (h w hw), good_of_word (List.mem_filter.mp (h w hw)).2⟩
