/-! SOUNDNESS, 10: jumps -/
section
variable {p : Program} {l : Launch} {e : Env} {R : Room} {s : State} {m : MethodId} {args : Array Value} {below : List Frame} {meth : Method} {c : Code} {H : Heap} {locs : List Loc} {cells slots : Nat} {Q : State → Prop}
variable {B0 : Nat} {K adV : Nat → Nat} {Ls : Nat} {xs : Nat → Int32} {M j : Nat} {n : Nat} {ad : Nat → Nat} {pf : Nat → Nat}
theorem sw_table : ∀ (w : List (Int × Nat)) (lo : Int) (d : Nat) (v : Int), w.map (·.1) = (List.range w.length).map (fun z : Nat => lo + (z : Int)) → (v < lo ∨ lo + w.length - 1 < v → pm_sw w d v = d) ∧ (¬ v < lo → ¬ lo + w.length - 1 < v → ∃ q, w[(v - lo).toNat]? = some q ∧ pm_sw w d v = q.2)
  | [], lo, d, v, _ => ⟨fun _ => rfl, fun h1 h2 => by simp at h2; omega⟩
  | (k, t) :: w, lo, d, v, h => by
    simp only [List.length_cons, List.range_succ_eq_map, List.map_cons, List.map_map] at h
    obtain ⟨h1, h2⟩ := List.cons.inj h
    have hk : k = lo := by simpa using h1
    have h3 : w.map (·.1) = (List.range w.length).map (fun z : Nat => (lo + 1) + (z : Int)) := by
      rw [h2]
      apply List.map_congr_left
      intro z _
      simp only [Function.comp]
      omega
    obtain ⟨r1, r2⟩ := sw_table w (lo + 1) d v h3
    refine ⟨fun hv => ?_, fun g1 g2 => ?_⟩
    · show (if v = k then t else pm_sw w d v) = d
      simp only [List.length_cons] at hv
      rw [if_neg (by omega)]
      exact r1 (by omega)
    · simp only [List.length_cons] at g2
      by_cases e : v = k
      · refine ⟨(k, t), ?_, ?_⟩
        · rw [show (v - lo).toNat = 0 by omega]; rfl
        · show (if v = k then t else pm_sw w d v) = t
          rw [if_pos e]
      · obtain ⟨q, q1, q2⟩ := r2 (by omega) (by omega)
        refine ⟨q, ?_, ?_⟩
        · rw [show (v - lo).toNat = (v - (lo + 1)).toNat + 1 by omega]; exact q1
        · show (if v = k then t else pm_sw w d v) = q.2
          rw [if_neg e]; exact q2
theorem sw_look (pf : Nat → Nat) (pc d : Nat) (v : Int) : ∀ (w : List (Int × Nat)), Op.lookupswitch.offset (w.map fun q => (q.1, (pf q.2 : Int) - pc)) ((pf d : Int) - pc) v = (pf (pm_sw w d v) : Int) - pc
  | [] => by first | rfl | simp [Op.lookupswitch.offset, pm_sw]
  | (k, t) :: w => by
    rw [List.map_cons, Op.lookupswitch.offset_cons]
    show _ = (pf (if v = k then t else pm_sw w d v) : Int) - pc
    by_cases e : v = k
    · rw [if_pos e]
      first | rw [if_pos e] | rw [if_pos e.symm]
    · rw [if_neg e]
      first | (rw [if_neg e]; exact sw_look pf pc d v w) | (rw [if_neg (Ne.symm e)]; exact sw_look pf pc d v w)
theorem look_ok (w : List (Int × Nat)) (g : Nat → Int) (h : ((w.map (·.1)).zip ((w.map (·.1)).drop 1)).all (fun q => decide (q.1 < q.2)) = true) : (((w.map fun q => (q.1, g q.2)).zip ((w.map fun q => (q.1, g q.2)).drop 1)).all (fun (a, next) => decide (a.1 < next.1))) = true := by
  simp only [← List.map_drop, List.zip_map, List.all_map] at h ⊢
  exact h
theorem snd_g3 {k : Nat} {a : Int} {x y : Nat} {st st' : List pm_V} {t : Option Nat} {L : Array Slot} {sM : List Value} (hX : sX B0 K adV Ls xs p s m args meth c M)
    (hok : okI (sMdG M) pf j (3, k, a, x, y)) (h : pm_jmp pm_ws k x y st = some (t, st')) (hS : sS n ad K st sM)
    (kk : ∀ sM', sS n ad K st' sM' → W p l e R s m args below meth c H locs cells slots Q (F0 m (pf (t.getD (j + 1))) L sM')) : W p l e R s m args below meth c H locs cells slots Q (F0 m (pf j) L sM) := by
  obtain ⟨hx, hb, hml, hr, hown, hts, -, -, -, hxt⟩ := hX
  obtain ⟨v, idx, hd, hf, hw, hc⟩ := hok
  have tg : ∀ t : Nat, ((pf j : Nat) : Int) + ((pf t : Int) - (pf j : Nat)) = (pf t : Int) := fun t => by omega
  rcases (show k = 0 ∨ k = 1 ∨ k = 2 ∨ k = 3 ∨ 4 ≤ k by omega) with rfl | rfl | rfl | rfl | hk
  · cases h
    exact lv_goto hx hb hd (tg x) (kk _ hS)
  · have hf3 : pf (j + 1) = pf j + 3 := hf rfl
    simp only [pm_jmp] at h
    split at h
    next p1 st2 =>
      cases h
      obtain ⟨w2, sM2, rfl, ⟨zp, rfl, rfl⟩, hS2⟩ := sS_cons hS
      have kk := kk _ hS2
      rcases (show y = 0 ∨ y = 1 ∨ y = 2 ∨ y = 3 ∨ y = 4 ∨ 5 ≤ y by omega) with rfl | rfl | rfl | rfl | rfl | hy
      · refine lv_if_eq hx hb hd (tg x) (fun q => ?_) (fun q => ?_)
        · rw [pm_cd_T (b := pm_cnd 0 zp.toInt 0) (decide_eq_true (by rw [q]; rfl))] at kk; exact kk
        · rw [pm_cd_F (b := pm_cnd 0 zp.toInt 0) (decide_eq_false (fun z => q (i32_eq.mpr z)))] at kk; rw [← hf3]; exact kk
      · refine lv_if_ne hx hb hd (tg x) (fun q => ?_) (fun q => ?_)
        · rw [pm_cd_T (b := pm_cnd 1 zp.toInt 0) (decide_eq_true (fun z => q (i32_eq.mpr z)))] at kk; exact kk
        · rw [pm_cd_F (b := pm_cnd 1 zp.toInt 0) (decide_eq_false (fun z => z (by rw [q]; rfl)))] at kk; rw [← hf3]; exact kk
      · refine lv_if_lt hx hb hd (tg x) (fun q => ?_) (fun q => ?_)
        · rw [pm_cd_T (b := pm_cnd 2 zp.toInt 0) (decide_eq_true (i32_lt.mp q))] at kk; exact kk
        · rw [pm_cd_F (b := pm_cnd 2 zp.toInt 0) (decide_eq_false (fun z => q (i32_lt.mpr z)))] at kk; rw [← hf3]; exact kk
      · refine lv_if_ge hx hb hd (tg x) (fun q => ?_) (fun q => ?_)
        · rw [pm_cd_T (b := pm_cnd 3 zp.toInt 0) (decide_eq_true (i32_le.mp q))] at kk; exact kk
        · rw [pm_cd_F (b := pm_cnd 3 zp.toInt 0) (decide_eq_false (fun z => q (i32_le.mpr z)))] at kk; rw [← hf3]; exact kk
      · refine lv_if_gt hx hb hd (tg x) (fun q => ?_) (fun q => ?_)
        · rw [pm_cd_T (b := pm_cnd 4 zp.toInt 0) (decide_eq_true (i32_lt.mp q))] at kk; exact kk
        · rw [pm_cd_F (b := pm_cnd 4 zp.toInt 0) (decide_eq_false (fun z => q (i32_lt.mpr z)))] at kk; rw [← hf3]; exact kk
      · obtain ⟨y, rfl⟩ : ∃ z, y = z + 5 := ⟨y - 5, by omega⟩
        refine lv_if_le hx hb hd (tg x) (fun q => ?_) (fun q => ?_)
        · rw [pm_cd_T (b := pm_cnd (y + 5) zp.toInt 0) (decide_eq_true (i32_le.mp q))] at kk; exact kk
        · rw [pm_cd_F (b := pm_cnd (y + 5) zp.toInt 0) (decide_eq_false (fun z => q (i32_le.mpr z)))] at kk; rw [← hf3]; exact kk
    next => cases h
  · have hf3 : pf (j + 1) = pf j + 3 := hf rfl
    simp only [pm_jmp] at h
    split at h
    next q1 p1 st2 =>
      cases h
      obtain ⟨w1, sM1, rfl, ⟨zq, rfl, rfl⟩, hS1⟩ := sS_cons hS
      obtain ⟨w2, sM2, rfl, ⟨zp, rfl, rfl⟩, hS2⟩ := sS_cons hS1
      have kk := kk _ hS2
      rcases (show y = 0 ∨ y = 1 ∨ y = 2 ∨ y = 3 ∨ y = 4 ∨ 5 ≤ y by omega) with rfl | rfl | rfl | rfl | rfl | hy
      · refine lv_icmp_eq hx hb hd (tg x) (fun q => ?_) (fun q => ?_)
        · rw [pm_cd_T (b := pm_cnd 0 zp.toInt zq.toInt) (decide_eq_true (by rw [q]))] at kk; exact kk
        · rw [pm_cd_F (b := pm_cnd 0 zp.toInt zq.toInt) (decide_eq_false (fun z => q (i32_eq.mpr z)))] at kk; rw [← hf3]; exact kk
      · refine lv_icmp_ne hx hb hd (tg x) (fun q => ?_) (fun q => ?_)
        · rw [pm_cd_T (b := pm_cnd 1 zp.toInt zq.toInt) (decide_eq_true (fun z => q (i32_eq.mpr z)))] at kk; exact kk
        · rw [pm_cd_F (b := pm_cnd 1 zp.toInt zq.toInt) (decide_eq_false (fun z => z (by rw [q])))] at kk; rw [← hf3]; exact kk
      · refine lv_icmp_lt hx hb hd (tg x) (fun q => ?_) (fun q => ?_)
        · rw [pm_cd_T (b := pm_cnd 2 zp.toInt zq.toInt) (decide_eq_true (i32_lt.mp q))] at kk; exact kk
        · rw [pm_cd_F (b := pm_cnd 2 zp.toInt zq.toInt) (decide_eq_false (fun z => q (i32_lt.mpr z)))] at kk; rw [← hf3]; exact kk
      · refine lv_icmp_ge hx hb hd (tg x) (fun q => ?_) (fun q => ?_)
        · rw [pm_cd_T (b := pm_cnd 3 zp.toInt zq.toInt) (decide_eq_true (i32_le.mp q))] at kk; exact kk
        · rw [pm_cd_F (b := pm_cnd 3 zp.toInt zq.toInt) (decide_eq_false (fun z => q (i32_le.mpr z)))] at kk; rw [← hf3]; exact kk
      · refine lv_icmp_gt hx hb hd (tg x) (fun q => ?_) (fun q => ?_)
        · rw [pm_cd_T (b := pm_cnd 4 zp.toInt zq.toInt) (decide_eq_true (i32_lt.mp q))] at kk; exact kk
        · rw [pm_cd_F (b := pm_cnd 4 zp.toInt zq.toInt) (decide_eq_false (fun z => q (i32_lt.mpr z)))] at kk; rw [← hf3]; exact kk
      · obtain ⟨y, rfl⟩ : ∃ z, y = z + 5 := ⟨y - 5, by omega⟩
        refine lv_icmp_le hx hb hd (tg x) (fun q => ?_) (fun q => ?_)
        · rw [pm_cd_T (b := pm_cnd (y + 5) zp.toInt zq.toInt) (decide_eq_true (i32_le.mp q))] at kk; exact kk
        · rw [pm_cd_F (b := pm_cnd (y + 5) zp.toInt zq.toInt) (decide_eq_false (fun z => q (i32_le.mpr z)))] at kk; rw [← hf3]; exact kk
    next => cases h
  · simp only [pm_jmp] at h
    split at h
    next p1 st2 w hw9 =>
      cases h
      obtain ⟨w2, sM2, rfl, ⟨zp, rfl, rfl⟩, hS2⟩ := sS_cons hS
      have kk := kk _ hS2
      rcases y with _ | y
      · have hd : decode (sMdG M).2.1 (pf j) = .ok (.tableswitch ((pf w.2 : Int) - (pf j : Nat)) ((w.1.map (·.1)).headD 0) ((w.1.map (·.1)).headD 0 + (w.1.length : Int) - 1) (w.1.map fun q => (pf q.2 : Int) - (pf j : Nat)).toArray, v) := by
          rw [hd]; simp only [xi, xi3, hw9]
        have hc : w.1.map (·.1) = (List.range w.1.length).map (fun z : Nat => (w.1.map (·.1)).headD 0 + (z : Int)) := by
          simp only [cdI, hw9, Bool.and_eq_true, decide_eq_true_eq] at hc
          exact hc.1
        generalize (w.1.map (·.1)).headD 0 = lo at hd hc
        obtain ⟨r1, r2⟩ := sw_table w.1 lo w.2 zp.toInt hc
        by_cases ho : zp.toInt < lo ∨ lo + (w.1.length : Int) - 1 < zp.toInt
        · rw [r1 ho] at kk
          exact lv_tableOut hx hb hd ho (tg _) kk
        · obtain ⟨q, q1, q2⟩ := r2 (fun z => ho (Or.inl z)) (fun z => ho (Or.inr z))
          rw [q2] at kk
          exact lv_tableIn hx hb hd (fun z => ho (Or.inl z)) (fun z => ho (Or.inr z)) (off := (pf q.2 : Int) - (pf j : Nat)) (by simp [q1]) (tg _) kk
      · have hd : decode (sMdG M).2.1 (pf j) = .ok (.lookupswitch ((pf w.2 : Int) - (pf j : Nat)) (w.1.map fun q => (q.1, (pf q.2 : Int) - (pf j : Nat))).toArray, v) := by
          rw [hd]; simp only [xi, xi3, hw9]
        refine lv_lookup hx hb hd ?_ (by rw [List.toList_toArray]; exact sw_look pf (pf j) w.2 zp.toInt w.1) (tg _) kk
        simp only [cdI, hw9] at hc
        rw [List.toList_toArray]
        exact look_ok w.1 (fun t => (pf t : Int) - (pf j : Nat)) hc
    next => cases h
  · exfalso
    unfold pm_jmp at h
    split at h <;> first | omega | cases h
end
