/-! SOUNDNESS, 20: the start -/
def lstN : List Cond := flatC (Jvm.Cond.and given_1 narrow_1)
def tmS (i : Nat) : Term := match pm_st[i]? with
  | some q => .string q.1 q.2.1
  | none => .int 0
def vlS (i : Nat) : Term := .field (tmS i) "java/lang/String" "value" "[B"
/-- where the given facts of each text begin -/
def psS : List Nat := [39, 67, 77, 87, 99, 111, 124, 139, 154, 172, 189, 207, 226, 247, 268, 291, 313, 336, 361, 386, 412, 441, 495]
def fcS (i : Nat) (t : List Nat) : List Cond := [Cond.exactly (tmS i) "java/lang/String", Cond.eq (.field (tmS i) "java/lang/String" "coder" "B") (.int 0), Cond.arrayOf (vlS i) .byte, Cond.eq (.length (vlS i)) (.int (Int32.ofNat t.length))] ++ (List.range t.length).map (fun j => Cond.eq (.elem (vlS i) (.int (Int32.ofNat j))) (.int (Int32.ofNat (t.getD j 0))))
theorem tx_given : (List.range 23).all (fun i => match pm_tx[i]?, psS[i]? with
  | some t, some p => decide ((lstN.drop p).take (4 + t.length) = fcS i t)
  | _, _ => false) = true := by decide +kernel
theorem tx_ref : pm_st.all (fun q => decide (Cond.stringRef q.1 q.2.1 q.2.2 ∈ lw_tbl)) = true := by decide +kernel
def sSw : List Cond := [.laysStatic Bundle.tN "UNASSIGNED_STACK" Bundle.steD, .initialized Bundle.tN, .laysStatic Bundle.tN "SUPPRESSED_SENTINEL" Bundle.listD, .laysStatic "java/lang/String" "COMPACT_STRINGS" "Z", .initialized "java/lang/String", .laysStatic RJ3 "SIOOBE_FORMATTER" "Ljava/util/function/BiFunction;", .initialized RJ3, .arrayOver (.array .int), .arrayOver (.object RX1), .castable sE1 sE1, .castable sE2 sE2] ++ (pm_nw ++ sDw)
theorem sSw_in : ∀ w ∈ sSw, w ∈ lw_tbl := by decide +kernel
def sSn : List Cond := [.isRef (.static Bundle.tN "UNASSIGNED_STACK" Bundle.steD), .isRef (.static Bundle.tN "SUPPRESSED_SENTINEL" Bundle.listD), .eq (.static "java/lang/String" "COMPACT_STRINGS" "Z") (.int 1), .isRef (.static RJ3 "SIOOBE_FORMATTER" "Ljava/util/function/BiFunction;"), .not (.castable sE2 sE1), .not (.castable sE1 sE2)]
theorem sSn_in : ∀ w ∈ sSn, w ∈ lstN := by decide +kernel
theorem st_len : pm_st.length = 23 := by decide +kernel
section
variable {s : State} {b L : Nat} {xs : Nat → Int32}
theorem xt0 (hts : ∀ w ∈ lw_tbl, w.before #[Value.ref b] s = true) (hgn : (Jvm.Cond.and given_1 narrow_1).before #[Value.ref b] s = true) (hX : va_X b L xs s s.heap) (hb : b < s.heap.size) : ∃ K adV : Nat → Nat, K 99 = b ∧ xt s.heap.size K adV L xs s := by
  have hn : ∀ w ∈ lstN, w.before #[Value.ref b] s = true := flat_of_before _ hgn
  have hA : ∀ a : Nat, a < s.heap.size → ¬ (fun q => s.heap.size ≤ q) a := fun a h1 h2 => absurd h1 (Nat.not_lt.mpr h2)
  have h0 : ∀ i : Nat, ∃ q : Nat × Nat, i < 23 → (va_O "java/lang/String" q.1 (fun q => s.heap.size ≤ q) s s.heap ∧ va_OF "java/lang/String" "coder" "B" (.int 0) q.1 (fun q => s.heap.size ≤ q) s s.heap ∧ va_OF "java/lang/String" "value" "[B" (.ref q.2) q.1 (fun q => s.heap.size ≤ q) s s.heap ∧ va_T .byte q.2 ((pm_tx.map List.length).getD i 0) (fun j => .int (((pm_tx.map fun t => t.map Int32.ofNat).getD i []).getD j 0)) (fun q => s.heap.size ≤ q) s s.heap) ∧ ∀ z, pm_st[i]? = some z → vk_R z.1 z.2.1 z.2.2 q.1 s := by
    intro i
    by_cases hi : i < 23
    · have h1 := List.all_eq_true.mp tx_given i (List.mem_range.mpr hi)
      have e1 : ∃ z, pm_st[i]? = some z := ⟨_, List.getElem?_eq_getElem (by rw [st_len]; exact hi)⟩
      have e2 : ∃ t, pm_tx[i]? = some t := ⟨_, List.getElem?_eq_getElem (by rw [tx_len]; exact hi)⟩
      have e5 : ∃ t, psS[i]? = some t := ⟨_, List.getElem?_eq_getElem (show i < psS.length from hi)⟩
      obtain ⟨z, hz⟩ := e1
      obtain ⟨t, ht⟩ := e2
      obtain ⟨ps, hps⟩ := e5
      rw [ht, hps] at h1
      have h1 := of_decide_eq_true h1
      have hm : ∀ w ∈ fcS i t, w ∈ lstN := fun w hw9 => by
        rw [← h1] at hw9
        exact List.mem_of_mem_drop (List.mem_of_mem_take hw9)
      have g1 := hm (Cond.exactly (tmS i) "java/lang/String") (by simp [fcS])
      have g2 := hm (Cond.eq (.field (tmS i) "java/lang/String" "coder" "B") (.int 0)) (by simp [fcS])
      have g3 := hm (Cond.arrayOf (vlS i) .byte) (by simp [fcS])
      have g4 := hm (Cond.eq (.length (vlS i)) (.int (Int32.ofNat t.length))) (by simp [fcS])
      have g5 : ∀ j, j < t.length → Cond.eq (.elem (vlS i) (.int (Int32.ofNat j))) (.int (Int32.ofNat (t.getD j 0))) ∈ lstN := fun j hj => hm _ (List.mem_append_right _ (List.mem_map.mpr ⟨j, List.mem_range.mpr hj, rfl⟩))
      have g6 : Cond.stringRef z.1 z.2.1 z.2.2 ∈ lw_tbl := of_decide_eq_true (List.all_eq_true.mp tx_ref z (List.mem_of_getElem? hz))
      have elen : (pm_tx.map List.length).getD i 0 = t.length := by simp [List.getD_eq_getElem?_getD, ht]
      have ebyt : (pm_tx.map fun t => t.map Int32.ofNat).getD i [] = t.map Int32.ofNat := by simp [List.getD_eq_getElem?_getD, ht]
      have ht64 := (tx_in ht).2.1
      obtain ⟨aK, aV, q1, q2⟩ := vk_Sof (args := #[Value.ref b]) (s := s) (N := 1) (tm := fun _ => tmS i) (len := [t.length]) (byt := [t.map Int32.ofNat]) (A := fun q => s.heap.size ≤ q)
        (fun k hk => by rw [show k = 0 by omega]; show t.length < 2 ^ 31; omega) (fun k _ => hn _ g1) (fun k _ => hn _ g2) (fun k _ => hn _ g3) (fun k hk => by rw [show k = 0 by omega]; exact hn _ g4)
        (fun k hk j hj => by
          rw [show k = 0 by omega] at hj ⊢
          have hj : j < t.length := hj
          have h9 := hn _ (g5 j hj)
          have e9 : (t.map Int32.ofNat).getD j 0 = Int32.ofNat (t.getD j 0) := by rw [List.getD_eq_getElem?_getD, List.getD_eq_getElem?_getD, List.getElem?_map, List.getElem?_eq_getElem hj]; rfl
          show (Cond.eq _ (.int ((t.map Int32.ofNat).getD j 0))).before _ s = true
          rw [e9]
          exact h9) (fun i j hi hj hij => by omega) hA
      refine ⟨(aK 0, aV 0), fun _ => ⟨?_, fun z9 hz9 => ?_⟩⟩
      · rw [elen, ebyt]
        exact q1.1 0 (by omega)
      · rw [hz] at hz9
        cases hz9
        have e3 : tmS i = .string z.1 z.2.1 := by unfold tmS; rw [hz]
        have h8 := q2 0 (by omega)
        have h8 : (tmS i).eval #[Value.ref b] s none [] s = some (.ref (aK 0)) := h8
        rw [e3] at h8
        exact vk_R.of (hts _ g6) h8
    · exact ⟨(0, 0), fun h => absurd h hi⟩
  obtain ⟨ad, had⟩ := Classical.axiomOfChoice h0
  have hw : ∀ w ∈ sSw, w.before #[Value.ref b] s = true := fun w h => hts w (sSw_in w h)
  have hv : ∀ w ∈ sSn, w.before #[Value.ref b] s = true := fun w h => hn w (sSn_in w h)
  have gw : ∀ (k : Nat) (w : Cond), sSw[k]? = some w → w.before #[Value.ref b] s = true := fun k w h => hw w (List.mem_of_getElem? h)
  have gv : ∀ (k : Nat) (w : Cond), sSn[k]? = some w → w.before #[Value.ref b] s = true := fun k w h => hv w (List.mem_of_getElem? h)
  refine ⟨fun i => if i = 99 then b else (ad i).1, fun i => (ad i).2, rfl, ⟨fun i hi => ?_, fun i q hq => ?_⟩, ⟨vx_Zqof (gw 0 _ rfl) (gw 1 _ rfl) (gv 0 _ rfl) hA, vx_Zqof (gw 2 _ rfl) (gw 1 _ rfl) (gv 1 _ rfl) hA, va_Zof (gw 3 _ rfl) (gw 4 _ rfl) (va_eqt (gv 2 _ rfl)) hA, va_Zqof (gw 5 _ rfl) (gw 6 _ rfl) (gv 3 _ rfl) hA⟩, ⟨fun w hw9 => ?_, gw 7 _ rfl, gw 8 _ rfl⟩, ⟨va_Nc.of (gv 4 _ rfl), va_Nc.of (gv 5 _ rfl), va_Nw.of rfl (gw 9 _ rfl), va_Nw.of rfl (gw 10 _ rfl), fun w hw9 => ?_⟩, ?_, ?_, Nat.le_refl _⟩
  · have := (had i hi).1
    dsimp only
    rw [show (if i = 99 then b else (ad i).1) = (ad i).1 from if_neg (by omega)]
    exact this
  · have hi : i < 23 := by have := (List.getElem?_eq_some_iff.mp hq).1; rw [st_len] at this; exact this
    dsimp only
    rw [show (if i = 99 then b else (ad i).1) = (ad i).1 from if_neg (by omega)]
    exact (had i hi).2 q hq
  · have h1 := hw w (List.mem_append_right _ (List.mem_append_left _ hw9))
    simp only [pm_nw, List.mem_cons, List.not_mem_nil, or_false] at hw9
    rcases hw9 with rfl | rfl | rfl | rfl | rfl | rfl | rfl <;> exact va_Nw.of rfl h1
  · have h1 := hw w (List.mem_append_right _ (List.mem_append_right _ hw9))
    simp only [sDw, List.mem_cons, List.not_mem_nil, or_false] at hw9
    rcases hw9 with rfl | rfl | rfl <;> exact va_Nw.of rfl h1
  · show va_X (if 99 = 99 then b else _) L xs s s.heap
    rw [if_pos rfl]
    exact hX
  · show (if 99 = 99 then b else _) < _
    rw [if_pos rfl]
    exact hb
theorem kn0 {args : Array Value} (hts : ∀ w ∈ lw_tbl, w.before args s = true) : ∃ D : va_G, va_K D vwT [] s := by
  have h0 : ∀ c : Nat, ∃ q : ClassId × (Nat → Nat), c < 13 → u_Kn s (vwG c).1 (vwG c).2.1 (vwG c).2.2 q.1 q.2 := by
    intro c
    by_cases hc : c < 13
    · have ho := List.all_eq_true.mp ity_ok c (List.mem_range.mpr hc)
      simp only [Bool.and_eq_true, decide_eq_true_eq] at ho
      obtain ⟨⟨⟨⟨⟨-, -⟩, o3⟩, -⟩, -⟩, -⟩ := ho
      have hg : ∀ w ∈ sGd, w.before args s = true := fun w hw => hts w (List.mem_filter.mp hw).1
      obtain ⟨cC, iS, h⟩ := u_known hg (uws_in hc) (hts _ o3)
      exact ⟨(cC, iS), fun _ => h⟩
    · exact ⟨(0, fun _ => 0), fun h => absurd h hc⟩
  obtain ⟨f, hf⟩ := Classical.axiomOfChoice h0
  refine ⟨(fun c => (f c).1, fun c => (f c).2), fun c q hq => ?_, fun k q hk => by cases hk⟩
  have hc : c < 13 := (List.getElem?_eq_some_iff.mp hq).1
  rw [vw_get hc] at hq
  cases hq
  exact hf c hc
end
