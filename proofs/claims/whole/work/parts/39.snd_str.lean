/-! SOUNDNESS, 14: the JDK's own members of texts -/
def sWs (y : MethodName) (cc : ByteArray) (maxL : Nat) (ret : Option FieldType) : List Cond := Cond.code y cc maxL ret :: sGd
def rmJ (k : Nat) : Room := { frames := k, locals := 30 * k, cells := 0, slots := 0 }
def sJw : List Cond := [.code yJ3_checkIndex_8e157 cJ3_checkIndex_8e157 3 (some .int), .static yJ3_checkIndex_8e157, .initialized RJ3, .methodLink RJ0 1059 yJ3_checkIndex_8e157,
  .code yJ0_checkIndex_df160 cJ0_checkIndex_df160 2 none, .static yJ0_checkIndex_df160, .initialized RJ0, .methodLink RJ1 9 yJ0_checkIndex_df160, .fieldLink RJ0 1053 RJ3 "SIOOBE_FORMATTER" "Ljava/util/function/BiFunction;",
  .code yJ1_charAt_3b067 cJ1_charAt_3b067 2 (some .char), .static yJ1_charAt_3b067, .initialized RJ1, .methodLink RJ0 495 yJ1_charAt_3b067,
  .code yJ0_coder_7d493 cJ0_coder_7d493 1 (some .byte), .instanceMethod yJ0_coder_7d493, .selects RJ0 yJ0_coder_7d493 yJ0_coder_7d493, .methodLink RJ0 335 yJ0_coder_7d493,
  .code yJ0_isLatin1_aae02 cJ0_isLatin1_aae02 1 (some .boolean), .instanceMethod yJ0_isLatin1_aae02, .selects RJ0 yJ0_isLatin1_aae02 yJ0_isLatin1_aae02, .methodLink RJ0 492 yJ0_isLatin1_aae02,
  .code yJ0_length_8abf5 cJ0_length_8abf5 1 (some .int), .instanceMethod yJ0_length_8abf5, .selects RJ0 yJ0_length_8abf5 yJ0_length_8abf5,
  .code yJ0_charAt_5068e cJ0_charAt_5068e 2 (some .char), .instanceMethod yJ0_charAt_5068e, .selects RJ0 yJ0_charAt_5068e yJ0_charAt_5068e,
  .fieldLink RJ0 9 RJ0 "value" "[B", .fieldLink RJ0 15 RJ0 "coder" "B", .fieldLink RJ0 38 RJ0 "COMPACT_STRINGS" "Z"]
theorem sJw_in : ∀ w ∈ sJw, w ∈ lw_tbl ∧ goodWord w = true := by decide +kernel
theorem sJw_gd {k : Nat} {w : Cond} (h : sJw[k]? = some w) : w ∈ sGd := sGd_mem (sJw_in w (List.mem_of_getElem? h))
theorem sWs_good {y : MethodName} {cc : ByteArray} {maxL : Nat} {ret : Option FieldType} (h : Cond.code y cc maxL ret ∈ sGd) : GoodIn sGd (sWs y cc maxL ret) := sGd_good (fun w hw => by
  rcases List.mem_cons.mp hw with rfl | hw
  · exact h
  · exact hw) (fun _ h => h)
theorem tx_ok : (List.range 23).all (fun i => match pm_tx[i]? with
  | some t => decide (t.length < 64) && t.all (fun c => decide (c < 128))
  | none => false) = true := by decide +kernel
theorem tx_len : pm_tx.length = 23 := by decide +kernel
theorem tx_in {i : Nat} {t : List Nat} (h : pm_tx[i]? = some t) : i < 23 ∧ t.length < 64 ∧ ∀ c ∈ t, c < 128 := by
  have hi : i < 23 := by
    have := (List.getElem?_eq_some_iff.mp h).1
    rw [tx_len] at this
    exact this
  have h1 := List.all_eq_true.mp tx_ok i (List.mem_range.mpr hi)
  rw [h] at h1
  simp only [Bool.and_eq_true, decide_eq_true_eq, List.all_eq_true] at h1
  exact ⟨hi, h1⟩
theorem ch_ok : ∀ c : Fin 128, ((Int32.ofNat c.val &&& 255).toUInt32 % 65536).toInt32 = Int32.ofNat c.val ∧ narrow .char (.int (Int32.ofNat c.val)) = .int (Int32.ofNat c.val) ∧ (Int32.ofNat c.val).toInt = (c.val : Int) := by decide +kernel
theorem ln_ok : ∀ c : Fin 64, (Int32.ofNat c.val) >>> ((0 : Int32) &&& 31) = Int32.ofNat c.val ∧ (Int32.ofNat c.val).toInt = (c.val : Int) := by decide +kernel
section
variable {B0 : Nat} {K adV : Nat → Nat} {Ls : Nat} {xs : Nat → Int32}
theorem xt_blind {av : List Value} : FrameBlind (va_Pc av (xt B0 K adV Ls xs)) := fun a U g mk h => ⟨h.1, xt_same (s := U) rfl rfl h.2⟩
theorem xt_pre {s : State} {H : Heap} {locs : List Loc} {av : List Value} (h : xt B0 K adV Ls xs s) (hV : va_S (fun q => B0 ≤ q) s.heap H locs) : ∀ U : State, U.heap = H → s.WarmedH U.vm → va_Pc av (xt B0 K adV Ls xs) av.toArray U := fun U hU hW => ⟨rfl, xt_warm hW (by rw [hU]; exact hV) h⟩
theorem nF {s t : State} (ht : t.heap = s.heap) : va_F (fun _ => False) s t := ⟨by rw [ht]; exact Nat.le_refl _, fun q _ _ => by rw [ht]⟩
theorem m_pc (l : Launch) (i n : Int32) (q : Value) (hq : q.category = 1) (h0 : ¬ i < 0) (h1 : i < n) : Met l yJ3_checkIndex_8e157 (sWs yJ3_checkIndex_8e157 cJ3_checkIndex_8e157 3 (some .int)) (rmJ 0) (va_Pc [.int i, .int n, q] (xt B0 K adV Ls xs)) (va_Qi (S := Unit) (fun _ _ => True) (fun _ _ => True) (fun _ => False)) 0 0 (fun _ => False) := by
  refine Met.ofW (cc := cJ3_checkIndex_8e157) (maxL := 3) (ret := some .int) (by decide +kernel) rfl ?_
  intro p e s m args below meth c s₁ B hml hv
  obtain ⟨rfl, hxt⟩ := hv
  have hx := B.exec
  have hb := B.bytes
  have hr := B.returns
  have hlocks := B.notSynchronized
  have hl := lv_entry ([.int i, .int n, q]) (n := 3) (by rw [show lg_sl [.int i, .int n, q] = [.val (.int i), .val (.int n), .val q] by unfold lg_sl; simp only [List.flatMap_cons, List.flatMap_nil, hq]; rfl]; exact Nat.le_refl 3)
  rw [lg_entry_eq]
  generalize (lg_sl ([.int i, .int n, q]) ++ List.replicate (3 - (lg_sl ([.int i, .int n, q])).length) Slot.unset).toArray = ls at hl ⊢
  have hl : lv_has ls 3 [(0, .int i), (1, .int n), (2, q)] := hl
  refine lv_iload_n hx hb (show decode cJ3_checkIndex_8e157 0 = .ok (.iload_n 0, 1) by decide +kernel) rfl (lv_at hl 0 rfl) ?_
  refine lv_if_lt hx hb (show decode cJ3_checkIndex_8e157 1 = .ok (.ifCond .lt 8, 3) by decide +kernel) (tgt := 9) rfl (fun z => absurd z h0) (fun _ => ?_)
  refine lv_iload_n hx hb (show decode cJ3_checkIndex_8e157 4 = .ok (.iload_n 0, 1) by decide +kernel) rfl (lv_at hl 0 rfl) ?_
  refine lv_iload_n hx hb (show decode cJ3_checkIndex_8e157 5 = .ok (.iload_n 1, 1) by decide +kernel) rfl (lv_at hl 1 rfl) ?_
  refine lv_icmp_lt hx hb (show decode cJ3_checkIndex_8e157 6 = .ok (.if_icmp .lt 10, 3) by decide +kernel) (tgt := 16) rfl (fun _ => ?_) (fun z => absurd h1 z)
  refine lv_iload_n hx hb (show decode cJ3_checkIndex_8e157 16 = .ok (.iload_n 0, 1) by decide +kernel) rfl (lv_at hl 0 rfl) ?_
  exact W.iret hx hb hr (fun t ht _ => ⟨⟨_, (), rfl, trivial, trivial⟩, nF ht⟩) (fun q hq => by cases hq) (show decode cJ3_checkIndex_8e157 17 = .ok (.ireturn, 1) by decide +kernel) hlocks
theorem m_ci (l : Launch) (i n : Int32) (h0 : ¬ i < 0) (h1 : i < n) : Met l yJ0_checkIndex_df160 (sWs yJ0_checkIndex_df160 cJ0_checkIndex_df160 2 none) (rmJ 1) (va_Pc [.int i, .int n] (xt B0 K adV Ls xs)) (va_Qv (S := Unit) (fun _ => True) (fun _ _ => True) (fun _ => False)) 0 0 (fun _ => False) := by
  refine Met.ofW (cc := cJ0_checkIndex_df160) (maxL := 2) (ret := none) (by decide +kernel) rfl ?_
  intro p e s m args below meth c s₁ B hml hv
  obtain ⟨rfl, hxt⟩ := hv
  have hx := B.exec
  have hb := B.bytes
  have hr := B.returns
  have hlocks := B.notSynchronized
  have hts0 := atoms_spec (ws := sWs yJ0_checkIndex_df160 cJ0_checkIndex_df160 2 none) B.pre
  have hts : ∀ w ∈ sGd, w.before #[.int i, .int n] s = true := fun w h => hts0 w (List.mem_cons_of_mem _ h)
  have hown : s.vm.findClass RJ0 = some m.cls := findClass_of_methodNamed B.named
  have hS : va_S (fun q => B0 ≤ q) s.heap s.heap [] := va_S.rf
  have hl := lv_entry ([.int i, .int n]) (n := 2) (by simp [lg_sl, Value.category])
  rw [lg_entry_eq]
  generalize (lg_sl ([.int i, .int n]) ++ List.replicate (2 - (lg_sl ([.int i, .int n])).length) Slot.unset).toArray = ls at hl ⊢
  have hl : lv_has ls 2 [(0, .int i), (1, .int n)] := hl
  refine lv_iload_n hx hb (show decode cJ0_checkIndex_df160 0 = .ok (.iload_n 0, 1) by decide +kernel) rfl (lv_at hl 0 rfl) ?_
  refine lv_iload_n hx hb (show decode cJ0_checkIndex_df160 1 = .ok (.iload_n 1, 1) by decide +kernel) rfl (lv_at hl 1 rfl) ?_
  have go : ∀ q : Value, q.category = 1 → W p l e (headSpec (sWs yJ0_checkIndex_df160 cJ0_checkIndex_df160 2 none) (rmJ 1)).room s m #[.int i, .int n] below meth c s.heap [] 0 0 (MQ below (va_Qv (S := Unit) (fun _ => True) (fun _ _ => True) (fun _ => False)) #[.int i, .int n] s 0 0 (fun _ => False)) (F0 m 5 ls [q, .int n, .int i]) := by
    intro q hq
    refine va_calli (A0 := fun _ => False) (H0 := s.heap) (va_runS (Ts := sGd) (own := RJ0) (cc := cJ0_checkIndex_df160) ⟨hx, hb, hml, hown, hts⟩ (m_pc (B0 := B0) (K := K) (adV := adV) (Ls := Ls) (xs := xs) l i n q hq h0 h1) ⟨(callB_of 3 hts (sWs_good (sJw_gd (k := 0) rfl)) rfl rfl rfl (hts _ (sJw_gd (k := 2) rfl)) (hts _ (sJw_gd (k := 3) rfl)) ⟨by decide +kernel, by decide +kernel, by decide +kernel⟩ ⟨by decide, by decide⟩), (hts _ (sJw_gd (k := 1) rfl))⟩ ⟨xt_blind, xt_pre hxt hS⟩ rfl rfl hl.1 (rest := []) rfl (Nat.le_of_ble_eq_true rfl) (show decode cJ0_checkIndex_df160 5 = .ok (.invokestatic 1059, 3) by decide +kernel) ⟨Nat.le_refl _, Nat.le_refl _⟩) va_S.rf (fun _ _ h => h) (fun _ h => h) (fun r u t H1 locs1 _ _ _ _ _ _ h5 => ?_)
    refine lv_pop hx hb (show decode cJ0_checkIndex_df160 8 = .ok (.pop, 1) by decide +kernel) rfl ?_
    exact W.vret hx hb hr (fun t ht _ => ⟨⟨(), rfl, trivial, trivial⟩, h5.F ht⟩) (fun q hq => h5.2.2 q hq) (show decode cJ0_checkIndex_df160 9 = .ok (.return_, 1) by decide +kernel) hlocks
  rcases hxt.2.1.2.2.2 with hz | ⟨t9, hz⟩
  · exact va_gets hx hb hz hS hown (hts _ (sJw_gd (k := 8) rfl)) (fun _ h => h) (show decode cJ0_checkIndex_df160 2 = .ok (.getstatic 1053, 3) by decide +kernel) (go _ rfl)
  · exact va_gets hx hb hz hS hown (hts _ (sJw_gd (k := 8) rfl)) (fun _ h => h) (show decode cJ0_checkIndex_df160 2 = .ok (.getstatic 1053, 3) by decide +kernel) (go _ rfl)
theorem m_lc (l : Launch) {k : Nat} {t : List Nat} (ht : pm_tx[k]? = some t) (i : Int32) (h0 : 0 ≤ i.toInt) (h1 : i.toInt < (t.length : Int)) : Met l yJ1_charAt_3b067 (sWs yJ1_charAt_3b067 cJ1_charAt_3b067 2 (some .char)) (rmJ 2) (va_Pc [.ref (adV k), .int i] (xt B0 K adV Ls xs)) (va_Qi (S := Unit) (fun r _ => r.toInt = ((t.getD i.toInt.toNat 0 : Nat) : Int)) (fun _ _ => True) (fun _ => False)) 0 0 (fun _ => False) := by
  obtain ⟨hk23, ht64, ht128⟩ := tx_in ht
  obtain ⟨i1, i2⟩ := ix_in h0 h1
  have elen : (pm_tx.map List.length).getD k 0 = t.length := by simp [List.getD_eq_getElem?_getD, ht]
  have ebyt : (pm_tx.map fun t => t.map Int32.ofNat).getD k [] = t.map Int32.ofNat := by simp [List.getD_eq_getElem?_getD, ht]
  have hlt : i.toInt.toNat < t.length := by omega
  have hcl : t.getD i.toInt.toNat 0 < 128 := by
    rw [List.getD_eq_getElem?_getD, List.getElem?_eq_getElem hlt]
    exact ht128 _ (List.getElem_mem _)
  have eb : (t.map Int32.ofNat).getD i.toInt.toNat 0 = Int32.ofNat (t.getD i.toInt.toNat 0) := by
    rw [List.getD_eq_getElem?_getD, List.getD_eq_getElem?_getD, List.getElem?_map, List.getElem?_eq_getElem hlt]; rfl
  obtain ⟨c1, c2, c3⟩ := ch_ok ⟨t.getD i.toInt.toNat 0, hcl⟩
  refine Met.ofW (cc := cJ1_charAt_3b067) (maxL := 2) (ret := (some .char)) (by decide +kernel) rfl ?_
  intro p e s m args below meth c s₁ B hml hv
  obtain ⟨rfl, hxt⟩ := hv
  have hx := B.exec
  have hb := B.bytes
  have hr := B.returns
  have hlocks := B.notSynchronized
  have hts0 := atoms_spec (ws := sWs yJ1_charAt_3b067 cJ1_charAt_3b067 2 (some .char)) B.pre
  have hts : ∀ w ∈ sGd, w.before #[.ref (adV k), .int i] s = true := fun w h => hts0 w (List.mem_cons_of_mem _ h)
  have hown : s.vm.findClass RJ1 = some m.cls := findClass_of_methodNamed B.named
  have hS : va_S (fun q => B0 ≤ q) s.heap s.heap [] := va_S.rf
  have hl := lv_entry ([.ref (adV k), .int i]) (n := 2) (by simp [lg_sl, Value.category])
  rw [lg_entry_eq]
  generalize (lg_sl ([.ref (adV k), .int i]) ++ List.replicate (2 - (lg_sl ([.ref (adV k), .int i])).length) Slot.unset).toArray = ls at hl ⊢
  have hl : lv_has ls 2 [(0, .ref (adV k)), (1, .int i)] := hl
  have hT := (hxt.1.1 k hk23).2.2.2
  rw [elen, ebyt] at hT
  refine lv_iload_n hx hb (show decode cJ1_charAt_3b067 0 = .ok (.iload_n 1, 1) by decide +kernel) rfl (lv_at hl 1 rfl) ?_
  refine lv_aload_n hx hb (show decode cJ1_charAt_3b067 1 = .ok (.aload_n 0, 1) by decide +kernel) rfl (lv_at hl 0 rfl) ?_
  refine va_tlen hx hb hT hS rfl (show decode cJ1_charAt_3b067 2 = .ok (.arraylength, 1) by decide +kernel) ?_
  refine va_callv (A0 := fun _ => False) (H0 := s.heap) (va_runS (Ts := sGd) (own := RJ1) (cc := cJ1_charAt_3b067) ⟨hx, hb, hml, hown, hts⟩ (m_ci (B0 := B0) (K := K) (adV := adV) (Ls := Ls) (xs := xs) l i (Int32.ofNat t.length) (ix_nn h0).1 (i32_lt.mpr (by rw [(ln_ok ⟨t.length, ht64⟩).2]; exact h1))) ⟨(callB_of 2 hts (sWs_good (sJw_gd (k := 4) rfl)) rfl rfl rfl (hts _ (sJw_gd (k := 6) rfl)) (hts _ (sJw_gd (k := 7) rfl)) ⟨by decide +kernel, by decide +kernel, by decide +kernel⟩ ⟨by decide, by decide⟩), (hts _ (sJw_gd (k := 5) rfl))⟩ ⟨xt_blind, xt_pre hxt hS⟩ rfl rfl hl.1 (rest := []) rfl (Nat.le_of_ble_eq_true rfl) (show decode cJ1_charAt_3b067 3 = .ok (.invokestatic 9, 3) by decide +kernel) ⟨Nat.le_refl _, Nat.le_refl _⟩) va_S.rf (fun _ _ h => h) (fun _ h => h) (fun u t9 H1 locs1 _ _ _ _ _ _ h5 => ?_)
  have h6 : va_S (fun q => B0 ≤ q) s.heap H1 locs1 := ⟨h5.1, fun q g1 _ => h5.2.1 q g1 (fun z => z), fun l9 hl9 => (h5.2.2 l9 hl9).elim⟩
  refine lv_aload_n hx hb (show decode cJ1_charAt_3b067 6 = .ok (.aload_n 0, 1) by decide +kernel) rfl (lv_at hl 0 rfl) ?_
  refine lv_iload_n hx hb (show decode cJ1_charAt_3b067 7 = .ok (.iload_n 1, 1) by decide +kernel) rfl (lv_at hl 1 rfl) ?_
  refine va_tb hx hb hT h6 i1 (v := .int (Int32.ofNat (t.getD i.toInt.toNat 0))) (by rw [i2, eb]) (show decode cJ1_charAt_3b067 8 = .ok (.baload, 1) by decide +kernel) ?_
  refine lv_sipush hx hb (show decode cJ1_charAt_3b067 9 = .ok (.sipush 255, 3) by decide +kernel) (v := 255) (by decide) ?_
  refine lv_iand hx hb (show decode cJ1_charAt_3b067 12 = .ok (.iand, 1) by decide +kernel) ?_
  refine lv_i2c hx hb (show decode cJ1_charAt_3b067 13 = .ok (.i2c, 1) by decide +kernel) c1 ?_
  exact W.zret hx hb hr c2 (fun t ht _ => ⟨⟨_, (), rfl, c3, trivial⟩, h5.F ht⟩) (fun q hq => h5.2.2 q hq) (show decode cJ1_charAt_3b067 14 = .ok (.ireturn, 1) by decide +kernel) hlocks
theorem m_co (l : Launch) {k : Nat} (hk : k < 23) : Met l yJ0_coder_7d493 (sWs yJ0_coder_7d493 cJ0_coder_7d493 1 (some .byte)) (rmJ 0) (va_Pc [.ref (K k)] (xt B0 K adV Ls xs)) (va_Qi (S := Unit) (fun r _ => r = 0) (fun _ _ => True) (fun _ => False)) 0 0 (fun _ => False) := by
  refine Met.ofW (cc := cJ0_coder_7d493) (maxL := 1) (ret := (some .byte)) (by decide +kernel) rfl ?_
  intro p e s m args below meth c s₁ B hml hv
  obtain ⟨rfl, hxt⟩ := hv
  have hx := B.exec
  have hb := B.bytes
  have hr := B.returns
  have hlocks := B.notSynchronized
  have hts0 := atoms_spec (ws := sWs yJ0_coder_7d493 cJ0_coder_7d493 1 (some .byte)) B.pre
  have hts : ∀ w ∈ sGd, w.before #[.ref (K k)] s = true := fun w h => hts0 w (List.mem_cons_of_mem _ h)
  have hown : s.vm.findClass RJ0 = some m.cls := findClass_of_methodNamed B.named
  have hS : va_S (fun q => B0 ≤ q) s.heap s.heap [] := va_S.rf
  have hl := lv_entry ([.ref (K k)]) (n := 1) (by simp [lg_sl, Value.category])
  rw [lg_entry_eq]
  generalize (lg_sl ([.ref (K k)]) ++ List.replicate (1 - (lg_sl ([.ref (K k)])).length) Slot.unset).toArray = ls at hl ⊢
  have hl : lv_has ls 1 [(0, .ref (K k))] := hl
  refine va_gets hx hb hxt.2.1.2.2.1 hS hown (hts _ (sJw_gd (k := 29) rfl)) (fun _ h => h) (show decode cJ0_coder_7d493 0 = .ok (.getstatic 38, 3) by decide +kernel) ?_
  refine lv_if_eq hx hb (show decode cJ0_coder_7d493 3 = .ok (.ifCond .eq 10, 3) by decide +kernel) (tgt := 13) rfl (fun z => absurd z (by decide)) (fun _ => ?_)
  refine lv_aload_n hx hb (show decode cJ0_coder_7d493 6 = .ok (.aload_n 0, 1) by decide +kernel) rfl (lv_at hl 0 rfl) ?_
  refine vk_getf hx hb (hxt.1.1 k hk).2.1 hS hown (hts _ (sJw_gd (k := 28) rfl)) (fun _ h => h) (show decode cJ0_coder_7d493 7 = .ok (.getfield 15, 3) by decide +kernel) ?_
  refine lv_goto hx hb (show decode cJ0_coder_7d493 10 = .ok (.goto 4, 3) by decide +kernel) (tgt := 14) rfl ?_
  exact W.zret hx hb hr rfl (fun t ht _ => ⟨⟨_, (), rfl, rfl, trivial⟩, nF ht⟩) (fun q hq => by cases hq) (show decode cJ0_coder_7d493 14 = .ok (.ireturn, 1) by decide +kernel) hlocks
theorem m_il (l : Launch) {k : Nat} (hk : k < 23) : Met l yJ0_isLatin1_aae02 (sWs yJ0_isLatin1_aae02 cJ0_isLatin1_aae02 1 (some .boolean)) (rmJ 0) (va_Pc [.ref (K k)] (xt B0 K adV Ls xs)) (va_Qi (S := Unit) (fun r _ => r = 1) (fun _ _ => True) (fun _ => False)) 0 0 (fun _ => False) := by
  refine Met.ofW (cc := cJ0_isLatin1_aae02) (maxL := 1) (ret := (some .boolean)) (by decide +kernel) rfl ?_
  intro p e s m args below meth c s₁ B hml hv
  obtain ⟨rfl, hxt⟩ := hv
  have hx := B.exec
  have hb := B.bytes
  have hr := B.returns
  have hlocks := B.notSynchronized
  have hts0 := atoms_spec (ws := sWs yJ0_isLatin1_aae02 cJ0_isLatin1_aae02 1 (some .boolean)) B.pre
  have hts : ∀ w ∈ sGd, w.before #[.ref (K k)] s = true := fun w h => hts0 w (List.mem_cons_of_mem _ h)
  have hown : s.vm.findClass RJ0 = some m.cls := findClass_of_methodNamed B.named
  have hS : va_S (fun q => B0 ≤ q) s.heap s.heap [] := va_S.rf
  have hl := lv_entry ([.ref (K k)]) (n := 1) (by simp [lg_sl, Value.category])
  rw [lg_entry_eq]
  generalize (lg_sl ([.ref (K k)]) ++ List.replicate (1 - (lg_sl ([.ref (K k)])).length) Slot.unset).toArray = ls at hl ⊢
  have hl : lv_has ls 1 [(0, .ref (K k))] := hl
  refine va_gets hx hb hxt.2.1.2.2.1 hS hown (hts _ (sJw_gd (k := 29) rfl)) (fun _ h => h) (show decode cJ0_isLatin1_aae02 0 = .ok (.getstatic 38, 3) by decide +kernel) ?_
  refine lv_if_eq hx hb (show decode cJ0_isLatin1_aae02 3 = .ok (.ifCond .eq 14, 3) by decide +kernel) (tgt := 17) rfl (fun z => absurd z (by decide)) (fun _ => ?_)
  refine lv_aload_n hx hb (show decode cJ0_isLatin1_aae02 6 = .ok (.aload_n 0, 1) by decide +kernel) rfl (lv_at hl 0 rfl) ?_
  refine vk_getf hx hb (hxt.1.1 k hk).2.1 hS hown (hts _ (sJw_gd (k := 28) rfl)) (fun _ h => h) (show decode cJ0_isLatin1_aae02 7 = .ok (.getfield 15, 3) by decide +kernel) ?_
  refine lv_if_ne hx hb (show decode cJ0_isLatin1_aae02 10 = .ok (.ifCond .ne 7, 3) by decide +kernel) (tgt := 17) rfl (fun z => absurd rfl z) (fun _ => ?_)
  refine lv_iconst hx hb (show decode cJ0_isLatin1_aae02 13 = .ok (.iconst 1, 1) by decide +kernel) (v := 1) rfl ?_
  refine lv_goto hx hb (show decode cJ0_isLatin1_aae02 14 = .ok (.goto 4, 3) by decide +kernel) (tgt := 18) rfl ?_
  exact W.zret hx hb hr rfl (fun t ht _ => ⟨⟨_, (), rfl, rfl, trivial⟩, nF ht⟩) (fun q hq => by cases hq) (show decode cJ0_isLatin1_aae02 18 = .ok (.ireturn, 1) by decide +kernel) hlocks
theorem m_le (l : Launch) {k : Nat} {t : List Nat} (ht : pm_tx[k]? = some t) : Met l yJ0_length_8abf5 (sWs yJ0_length_8abf5 cJ0_length_8abf5 1 (some .int)) (rmJ 1) (va_Pc [.ref (K k)] (xt B0 K adV Ls xs)) (va_Qi (S := Unit) (fun r _ => r.toInt = (t.length : Int)) (fun _ _ => True) (fun _ => False)) 0 0 (fun _ => False) := by
  obtain ⟨hk23, ht64, ht128⟩ := tx_in ht
  have elen : (pm_tx.map List.length).getD k 0 = t.length := by simp [List.getD_eq_getElem?_getD, ht]
  obtain ⟨c1, c2⟩ := ln_ok ⟨t.length, ht64⟩
  refine Met.ofW (cc := cJ0_length_8abf5) (maxL := 1) (ret := (some .int)) (by decide +kernel) rfl ?_
  intro p e s m args below meth c s₁ B hml hv
  obtain ⟨rfl, hxt⟩ := hv
  have hx := B.exec
  have hb := B.bytes
  have hr := B.returns
  have hlocks := B.notSynchronized
  have hts0 := atoms_spec (ws := sWs yJ0_length_8abf5 cJ0_length_8abf5 1 (some .int)) B.pre
  have hts : ∀ w ∈ sGd, w.before #[.ref (K k)] s = true := fun w h => hts0 w (List.mem_cons_of_mem _ h)
  have hown : s.vm.findClass RJ0 = some m.cls := findClass_of_methodNamed B.named
  have hS : va_S (fun q => B0 ≤ q) s.heap s.heap [] := va_S.rf
  have hl := lv_entry ([.ref (K k)]) (n := 1) (by simp [lg_sl, Value.category])
  rw [lg_entry_eq]
  generalize (lg_sl ([.ref (K k)]) ++ List.replicate (1 - (lg_sl ([.ref (K k)])).length) Slot.unset).toArray = ls at hl ⊢
  have hl : lv_has ls 1 [(0, .ref (K k))] := hl
  have hT := (hxt.1.1 k hk23).2.2.2
  rw [elen] at hT
  refine lv_aload_n hx hb (show decode cJ0_length_8abf5 0 = .ok (.aload_n 0, 1) by decide +kernel) rfl (lv_at hl 0 rfl) ?_
  refine vk_getf hx hb (hxt.1.1 k hk23).2.2.1 hS hown (hts _ (sJw_gd (k := 27) rfl)) (fun _ h => h) (show decode cJ0_length_8abf5 1 = .ok (.getfield 9, 3) by decide +kernel) ?_
  refine va_tlen hx hb hT hS rfl (show decode cJ0_length_8abf5 4 = .ok (.arraylength, 1) by decide +kernel) ?_
  refine lv_aload_n hx hb (show decode cJ0_length_8abf5 5 = .ok (.aload_n 0, 1) by decide +kernel) rfl (lv_at hl 0 rfl) ?_
  refine va_calli (A0 := fun _ => False) (H0 := s.heap) (va_runV (C := RJ0) (Ts := sGd) (own := RJ0) (cc := cJ0_length_8abf5) ⟨hx, hb, hml, hown, hts⟩ (m_co (B0 := B0) (K := K) (adV := adV) (Ls := Ls) (xs := xs) l hk23) ⟨(callB_of 0 hts (sWs_good (sJw_gd (k := 13) rfl)) rfl rfl rfl (hts _ (sJw_gd (k := 6) rfl)) (hts _ (sJw_gd (k := 16) rfl)) ⟨by decide +kernel, by decide +kernel, by decide +kernel⟩ ⟨by decide, by decide⟩), (hts _ (sJw_gd (k := 14) rfl)), (hts _ (sJw_gd (k := 15) rfl))⟩ ⟨xt_blind, tx_recv hxt.1.1 hk23 hS, xt_pre hxt hS⟩ rfl rfl hl.1 (rest := [.int (Int32.ofNat t.length)]) rfl (Nat.le_of_ble_eq_true rfl) (show decode cJ0_length_8abf5 6 = .ok (.invokevirtual 335, 3) by decide +kernel) ⟨Nat.le_refl _, Nat.le_refl _⟩) va_S.rf (fun _ _ h => h) (fun _ h => h) (fun r u t9 H1 locs1 _ _ hr0 _ _ _ h5 => ?_)
  subst hr0
  refine lv_ishr hx hb (show decode cJ0_length_8abf5 9 = .ok (.ishr, 1) by decide +kernel) ?_
  exact W.iret hx hb hr (fun t ht _ => ⟨⟨_, (), rfl, by rw [c1]; exact c2, trivial⟩, h5.F ht⟩) (fun q hq => h5.2.2 q hq) (show decode cJ0_length_8abf5 10 = .ok (.ireturn, 1) by decide +kernel) hlocks
theorem m_ch (l : Launch) {k : Nat} {t : List Nat} (ht : pm_tx[k]? = some t) (i : Int32) (h0 : 0 ≤ i.toInt) (h1 : i.toInt < (t.length : Int)) : Met l yJ0_charAt_5068e (sWs yJ0_charAt_5068e cJ0_charAt_5068e 2 (some .char)) (rmJ 3) (va_Pc [.ref (K k), .int i] (xt B0 K adV Ls xs)) (va_Qi (S := Unit) (fun r _ => r.toInt = ((t.getD i.toInt.toNat 0 : Nat) : Int)) (fun _ _ => True) (fun _ => False)) 0 0 (fun _ => False) := by
  obtain ⟨hk23, ht64, ht128⟩ := tx_in ht
  have hlt : i.toInt.toNat < t.length := by omega
  have hcl : t.getD i.toInt.toNat 0 < 128 := by
    rw [List.getD_eq_getElem?_getD, List.getElem?_eq_getElem hlt]
    exact ht128 _ (List.getElem_mem _)
  obtain ⟨c1, c2, c3⟩ := ch_ok ⟨t.getD i.toInt.toNat 0, hcl⟩
  refine Met.ofW (cc := cJ0_charAt_5068e) (maxL := 2) (ret := (some .char)) (by decide +kernel) rfl ?_
  intro p e s m args below meth c s₁ B hml hv
  obtain ⟨rfl, hxt⟩ := hv
  have hx := B.exec
  have hb := B.bytes
  have hr := B.returns
  have hlocks := B.notSynchronized
  have hts0 := atoms_spec (ws := sWs yJ0_charAt_5068e cJ0_charAt_5068e 2 (some .char)) B.pre
  have hts : ∀ w ∈ sGd, w.before #[.ref (K k), .int i] s = true := fun w h => hts0 w (List.mem_cons_of_mem _ h)
  have hown : s.vm.findClass RJ0 = some m.cls := findClass_of_methodNamed B.named
  have hS : va_S (fun q => B0 ≤ q) s.heap s.heap [] := va_S.rf
  have hl := lv_entry ([.ref (K k), .int i]) (n := 2) (by simp [lg_sl, Value.category])
  rw [lg_entry_eq]
  generalize (lg_sl ([.ref (K k), .int i]) ++ List.replicate (2 - (lg_sl ([.ref (K k), .int i])).length) Slot.unset).toArray = ls at hl ⊢
  have hl : lv_has ls 2 [(0, .ref (K k)), (1, .int i)] := hl
  refine lv_aload_n hx hb (show decode cJ0_charAt_5068e 0 = .ok (.aload_n 0, 1) by decide +kernel) rfl (lv_at hl 0 rfl) ?_
  refine va_calli (A0 := fun _ => False) (H0 := s.heap) (va_runV (C := RJ0) (Ts := sGd) (own := RJ0) (cc := cJ0_charAt_5068e) ⟨hx, hb, hml, hown, hts⟩ (m_il (B0 := B0) (K := K) (adV := adV) (Ls := Ls) (xs := xs) l hk23) ⟨(callB_of 0 hts (sWs_good (sJw_gd (k := 17) rfl)) rfl rfl rfl (hts _ (sJw_gd (k := 6) rfl)) (hts _ (sJw_gd (k := 20) rfl)) ⟨by decide +kernel, by decide +kernel, by decide +kernel⟩ ⟨by decide, by decide⟩), (hts _ (sJw_gd (k := 18) rfl)), (hts _ (sJw_gd (k := 19) rfl))⟩ ⟨xt_blind, tx_recv hxt.1.1 hk23 hS, xt_pre hxt hS⟩ rfl rfl hl.1 (rest := []) rfl (Nat.le_of_ble_eq_true rfl) (show decode cJ0_charAt_5068e 1 = .ok (.invokevirtual 492, 3) by decide +kernel) ⟨Nat.le_refl _, Nat.le_refl _⟩) va_S.rf (fun _ _ h => h) (fun _ h => h) (fun r u t9 H1 locs1 _ _ hr0 _ _ _ h5 => ?_)
  subst hr0
  have h6 : va_S (fun q => B0 ≤ q) s.heap H1 locs1 := ⟨h5.1, fun q g1 _ => h5.2.1 q g1 (fun z => z), fun l9 hl9 => (h5.2.2 l9 hl9).elim⟩
  refine lv_if_eq hx hb (show decode cJ0_charAt_5068e 4 = .ok (.ifCond .eq 12, 3) by decide +kernel) (tgt := 16) rfl (fun z => absurd z (by decide)) (fun _ => ?_)
  refine lv_aload_n hx hb (show decode cJ0_charAt_5068e 7 = .ok (.aload_n 0, 1) by decide +kernel) rfl (lv_at hl 0 rfl) ?_
  refine vk_getf hx hb (hxt.1.1 k hk23).2.2.1 h6 hown (hts _ (sJw_gd (k := 27) rfl)) (fun _ h => h) (show decode cJ0_charAt_5068e 8 = .ok (.getfield 9, 3) by decide +kernel) ?_
  refine lv_iload_n hx hb (show decode cJ0_charAt_5068e 11 = .ok (.iload_n 1, 1) by decide +kernel) rfl (lv_at hl 1 rfl) ?_
  refine va_calli (A0 := fun _ => False) (H0 := s.heap) (va_runS (Ts := sGd) (own := RJ0) (cc := cJ0_charAt_5068e) ⟨hx, hb, hml, hown, hts⟩ (m_lc (B0 := B0) (K := K) (adV := adV) (Ls := Ls) (xs := xs) l ht i h0 h1) ⟨(callB_of 2 hts (sWs_good (sJw_gd (k := 9) rfl)) rfl rfl rfl (hts _ (sJw_gd (k := 11) rfl)) (hts _ (sJw_gd (k := 12) rfl)) ⟨by decide +kernel, by decide +kernel, by decide +kernel⟩ ⟨by decide, by decide⟩), (hts _ (sJw_gd (k := 10) rfl))⟩ ⟨xt_blind, xt_pre hxt h6⟩ rfl rfl hl.1 (rest := []) rfl (Nat.le_of_ble_eq_true rfl) (show decode cJ0_charAt_5068e 12 = .ok (.invokestatic 495, 3) by decide +kernel) ⟨Nat.le_refl _, Nat.le_refl _⟩) h5 (fun _ _ h => h) (fun _ h => h) (fun r u t9 H2 locs2 _ _ hr0 _ _ _ h7 => ?_)
  have er : r = Int32.ofNat (t.getD i.toInt.toNat 0) := i32_eq.mpr (by rw [hr0, c3])
  subst er
  exact W.zret hx hb hr c2 (fun t ht _ => ⟨⟨_, (), rfl, c3, trivial⟩, h7.F ht⟩) (fun q hq => h7.2.2 q hq) (show decode cJ0_charAt_5068e 15 = .ok (.ireturn, 1) by decide +kernel) hlocks
end
section
variable {p : Program} {l : Launch} {e : Env} {R : Room} {s : State} {m : MethodId} {args : Array Value} {below : List Frame} {meth : Method} {c : Code} {H : Heap} {locs : List Loc} {cells slots : Nat} {Q : State → Prop}
variable {B0 : Nat} {K adV : Nat → Nat} {Ls : Nat} {xs : Nat → Int32} {M j : Nat} {pf : Nat → Nat} {D : va_G} {A A' : pm_A} {σ σ' : pm_S} {g : sG}
theorem sW_kept {H1 : Heap} (hW : sW D B0 A σ g s H) (hk : ∀ q : Nat, q < H.size → H1[q]? = H[q]?) : sW D B0 A σ g s H1 := ⟨hW.1.kept (fun k q hq => hk q.1 ((hW.1 k q hq).lt)), hW.2⟩
theorem snd_g7 {k : Nat} {a : Int} {x y : Nat} {st st' : List pm_V} {L : Array Slot} {sM : List Value} (hX : sX B0 K adV Ls xs p s m args meth c M) (hR : 6 ≤ R.frames ∧ 200 ≤ R.locals) (hsz : L.size = c.maxLocals) (hcr : cells + 0 ≤ R.cells ∧ slots + 0 ≤ R.slots)
    (hcat : (sM.map fun v => v.category).sum ≤ 9) (hok : okI (sMdG M) pf j (7, k, a, x, y)) (h : pm_g7 pm_tx k st = some st') (hW : sW D B0 A σ g s H) (hV : va_S (fun q => B0 ≤ q) s.heap H locs) (hS : sS A.2.2.1.length g.1 K st sM)
    (kk : ∀ H' locs' sM', sW D B0 A σ g s H' → va_S (fun q => B0 ≤ q) s.heap H' locs' → sS A.2.2.1.length g.1 K st' sM' → W p l e R s m args below meth c H' locs' cells slots Q (F0 m (pf (j + 1)) L sM')) : W p l e R s m args below meth c H locs cells slots Q (F0 m (pf j) L sM) := by
  obtain ⟨hx, hb, hml, hr, hown, hts, -, -, hnm, hxt⟩ := hX
  obtain ⟨v, idx, hd, hf, hw, hc⟩ := hok
  have hf := hf rfl
  have hw : ∀ w ∈ wdI (sMdG M).1.cls (7, k, a, x, y) v idx, w.before args s = true := fun w h => hts w (sGd_mem (hw w h))
  rcases (show k = 0 ∨ k = 1 ∨ k = 2 ∨ 3 ≤ k by omega) with rfl | rfl | rfl | hk
  · have hf3 : pf (j + 1) = pf j + 3 := hf
    rw [hf3] at kk
    simp only [pm_g7] at h
    split at h
    next i st2 =>
      split at h
      next t ht =>
        cases h
        obtain ⟨w0, sM0, rfl, hw0, hS0⟩ := sS_cons hS
        have hw0 : w0 = .ref (K i) := hw0
        subst hw0
        obtain ⟨hk23, ht64, -⟩ := tx_in ht
        simp only [List.map_cons, List.sum_cons, show ∀ z : Nat, (Value.ref z).category = 1 from fun _ => rfl] at hcat
        refine va_calli (A0 := fun q => B0 ≤ q) (H0 := s.heap) (va_runV (C := RJ0) (Ts := sGd) (own := (sMdG M).1.cls) (cc := (sMdG M).2.1) ⟨hx, hb, hsz.symm, hown, hts⟩ (m_le (B0 := B0) (K := K) (adV := adV) (Ls := Ls) (xs := xs) l ht) ⟨callB_of 0 hts (sWs_good (sJw_gd (k := 21) rfl)) rfl rfl rfl (hts _ (sJw_gd (k := 6) rfl)) (hw _ List.mem_cons_self) ⟨by decide +kernel, by decide +kernel, by decide +kernel⟩ ⟨by show _ + 1 ≤ R.frames; have := hR.1; dsimp only [rmJ]; omega, by show 8 + _ + _ ≤ R.locals; have := hR.2; dsimp only [rmJ]; omega⟩, (hts _ (sJw_gd (k := 22) rfl)), (hts _ (sJw_gd (k := 23) rfl))⟩ ⟨xt_blind, tx_recv hxt.1.1 hk23 hV, xt_pre hxt hV⟩ rfl rfl rfl (As := []) (rest := sM0) rfl (by show 2 * 0 + _ ≤ 8; omega) hd hcr) hV (fun _ _ h => h.elim) (fun _ h => h.elim) (fun r u t9 H1 locs1 _ _ hr0 _ _ h4 h5 => ?_)
        exact kk _ _ _ (sW_kept hW (fun q hq => h4 q hq (fun z => z))) h5 ⟨⟨r, rfl, hr0⟩, hS0⟩
      next => cases h
    next => cases h
  · have hf3 : pf (j + 1) = pf j + 3 := hf
    rw [hf3] at kk
    simp only [pm_g7] at h
    split at h
    next j9 i st2 =>
      split at h
      next t ht =>
        split at h
        next hcc =>
          cases h
          obtain ⟨w1, sM1, rfl, ⟨z, rfl, rfl⟩, hS1⟩ := sS_cons hS
          obtain ⟨w0, sM0, rfl, hw0, hS0⟩ := sS_cons hS1
          have hw0 : w0 = .ref (K i) := hw0
          subst hw0
          obtain ⟨hk23, ht64, -⟩ := tx_in ht
          simp only [List.map_cons, List.sum_cons, show ∀ z : Nat, (Value.ref z).category = 1 from fun _ => rfl, show ∀ z : Int32, (Value.int z).category = 1 from fun _ => rfl] at hcat
          refine va_calli (A0 := fun q => B0 ≤ q) (H0 := s.heap) (va_runV (C := RJ0) (Ts := sGd) (own := (sMdG M).1.cls) (cc := (sMdG M).2.1) ⟨hx, hb, hsz.symm, hown, hts⟩ (m_ch (B0 := B0) (K := K) (adV := adV) (Ls := Ls) (xs := xs) l ht z hcc.1 hcc.2) ⟨callB_of 1 hts (sWs_good (sJw_gd (k := 24) rfl)) rfl rfl rfl (hts _ (sJw_gd (k := 6) rfl)) (hw _ List.mem_cons_self) ⟨by decide +kernel, by decide +kernel, by decide +kernel⟩ ⟨by show _ + 1 ≤ R.frames; have := hR.1; dsimp only [rmJ]; omega, by show 8 + _ + _ ≤ R.locals; have := hR.2; dsimp only [rmJ]; omega⟩, (hts _ (sJw_gd (k := 25) rfl)), (hts _ (sJw_gd (k := 26) rfl))⟩ ⟨xt_blind, tx_recv hxt.1.1 hk23 hV, xt_pre hxt hV⟩ rfl rfl rfl (As := [.int z]) (rest := sM0) rfl (by show 2 * 0 + _ ≤ 8; omega) hd hcr) hV (fun _ _ h => h.elim) (fun _ h => h.elim) (fun r u t9 H1 locs1 _ _ hr0 _ _ h4 h5 => ?_)
          exact kk _ _ _ (sW_kept hW (fun q hq => h4 q hq (fun z => z))) h5 ⟨⟨r, rfl, hr0⟩, hS0⟩
        next => cases h
      next => cases h
    next => cases h
  · have hf3 : pf (j + 1) = pf j + 3 := hf
    rw [hf3] at kk
    simp only [pm_g7] at h
    split at h
    next o st2 =>
      cases h
      obtain ⟨w0, sM0, rfl, ⟨ho, rfl⟩, hS0⟩ := sS_cons hS
      have hwn : ∀ w ∈ sWn, w.before args s = true := fun w h => hts w (sGd_mem (sWn_in w h))
      simp only [List.map_cons, List.sum_cons, show ∀ z : Nat, (Value.ref z).category = 1 from fun _ => rfl] at hcat
      exact W.objInit hx hb hown (hw _ List.mem_cons_self) (hwn (.instanceMethod objectInit) (by simp [sWn])) (hwn (.code objectInit ⟨#[0xb1]⟩ 1 none) (by simp [sWn])) rfl hsz rfl hd (by omega) (by show 2 * 0 + _ + 12 ≤ _; omega) (kk _ _ _ hW hV hS0)
    next => cases h
  · exfalso
    unfold pm_g7 at h
    split at h <;> first | omega | cases h
end
