/-! SOUNDNESS, 9: arithmetic and jumps -/
section
variable {p : Program} {l : Launch} {e : Env} {R : Room} {s : State} {m : MethodId} {args : Array Value} {below : List Frame} {meth : Method} {c : Code} {H : Heap} {locs : List Loc} {cells slots : Nat} {Q : State → Prop}
variable {B0 : Nat} {K adV : Nat → Nat} {Ls : Nat} {xs : Nat → Int32} {M j : Nat} {n : Nat} {ad : Nat → Nat} {pf : Nat → Nat}
/-- words of the tables that every program has -/
def sWd : List Cond := [.static Lib.Math.min.name, .initialized "java/lang/Math", .code Lib.Math.min.name Lib.Math.min.code 2 (some .int), .static Lib.Math.max.name, .code Lib.Math.max.name Lib.Math.max.code 2 (some .int), .static Lib.MathLoose.max_long.x, .code Lib.MathLoose.max_long.x Lib.MathLoose.max_long.code 4 (some .long)]
theorem sWd_in : ∀ w ∈ sWd, w ∈ lw_tbl ∧ goodWord w = true := by decide +kernel
theorem mx_long : yJ9_max_f86c9 = Lib.MathLoose.max_long.x := by decide +kernel
theorem min_i (x y : Int32) : (if y < x then y else x).toInt = min x.toInt y.toInt := by
  by_cases h : y < x
  · rw [if_pos h]; have := i32_lt.mp h; omega
  · rw [if_neg h]; have : ¬ y.toInt < x.toInt := fun q => h (i32_lt.mpr q); omega
theorem max_i (x y : Int32) : (if x < y then y else x).toInt = max x.toInt y.toInt := by
  by_cases h : x < y
  · rw [if_pos h]; have := i32_lt.mp h; omega
  · rw [if_neg h]; have : ¬ x.toInt < y.toInt := fun q => h (i32_lt.mpr q); omega
theorem max_l (x y : Int64) : (if y < x then x else y).toInt = max x.toInt y.toInt := by
  by_cases h : y < x
  · rw [if_pos h]; have := i64_lt.mp h; omega
  · rw [if_neg h]; have : ¬ y.toInt < x.toInt := fun q => h (i64_lt.mpr q); omega
theorem sh_l {x y : Int32} : i_shl x.toInt y.toInt = (x <<< (y &&& 31)).toInt := by unfold i_shl; rw [i32_ofInt, i32_ofInt]
theorem sh_r {x y : Int32} : i_shr x.toInt y.toInt = (x >>> (y &&& 31)).toInt := by unfold i_shr; rw [i32_ofInt, i32_ofInt]
theorem sh_u {x y : Int32} : i_ushr x.toInt y.toInt = (x.toUInt32 >>> (y.toUInt32 &&& Int32.toUInt32 31)).toInt32.toInt := by unfold i_ushr; rw [i32_ofInt, i32_ofInt]
theorem bt_a {x y : Int32} : i_and x.toInt y.toInt = (x &&& y).toInt := by unfold i_and; rw [i32_ofInt, i32_ofInt]
theorem bt_o {x y : Int32} : i_or x.toInt y.toInt = (x ||| y).toInt := by unfold i_or; rw [i32_ofInt, i32_ofInt]
theorem bt_x {x y : Int32} : i_xor x.toInt y.toInt = (x ^^^ y).toInt := by unfold i_xor; rw [i32_ofInt, i32_ofInt]
theorem snd_g1 {k : Nat} {a : Int} {x y : Nat} {ls st st' : List pm_V} {p1 q1 r1 : Int} {L : Array Slot} {sM : List Value} (hX : sX B0 K adV Ls xs p s m args meth c M) (hR : 1 ≤ R.frames ∧ 200 ≤ R.locals) (hcr : cells ≤ R.cells ∧ slots ≤ R.slots)
    (hok : okI (sMdG M) pf j (1, k, a, x, y)) (h : pm_g1 k p1 q1 = some r1) (hsz : L.size = c.maxLocals) (hL : sL n ad K ls L) (hS : sS n ad K (vI q1 :: vI p1 :: st) sM) (hcat : k = 13 ∨ k = 14 → (sM.map fun v => v.category).sum ≤ 100)
    (kk : ∀ sM', sS n ad K (vI r1 :: st) sM' → W p l e R s m args below meth c H locs cells slots Q (F0 m (pf (j + 1)) L sM')) : W p l e R s m args below meth c H locs cells slots Q (F0 m (pf j) L sM) := by
  obtain ⟨hx, hb, hml, hr, hown, hts, -, -, -, hxt⟩ := hX
  obtain ⟨v, idx, hd, hf, hw, hc⟩ := hok
  have hf := hf rfl
  have hw : ∀ w ∈ wdI (sMdG M).1.cls (1, k, a, x, y) v idx, w.before args s = true := fun w h => hts w (sGd_mem (hw w h))
  have hwd : ∀ w ∈ sWd, w.before args s = true := fun w h => hts w (sGd_mem (sWd_in w h))
  rw [hf] at kk
  obtain ⟨w1, sM1, rfl, ⟨zq, rfl, rfl⟩, hS1⟩ := sS_cons hS
  obtain ⟨w2, sM2, rfl, ⟨zp, rfl, rfl⟩, hS2⟩ := sS_cons hS1
  rcases (show k = 0 ∨ k = 1 ∨ k = 2 ∨ k = 3 ∨ k = 4 ∨ k = 5 ∨ k = 6 ∨ k = 7 ∨ k = 8 ∨ k = 9 ∨ k = 10 ∨ k = 11 ∨ k = 12 ∨ k = 13 ∨ k = 14 ∨ 15 ≤ k by omega) with rfl | rfl | rfl | rfl | rfl | rfl | rfl | rfl | rfl | rfl | rfl | rfl | rfl | rfl | rfl | hk
  · cases h; exact lv_iadd hx hb hd (kk _ ⟨⟨_, rfl, i32_add _ _⟩, hS2⟩)
  · cases h; exact lv_isub hx hb hd (kk _ ⟨⟨_, rfl, i32_sub _ _⟩, hS2⟩)
  · cases h; exact lv_imul hx hb hd (kk _ ⟨⟨_, rfl, i32_mul _ _⟩, hS2⟩)
  · simp only [pm_g1] at h
    split at h
    next => cases h
    next hne => cases h; exact lv_idiv hx hb hd (fun q => hne (by rw [q]; rfl)) (kk _ ⟨⟨_, rfl, i32_div _ _⟩, hS2⟩)
  · simp only [pm_g1] at h
    split at h
    next => cases h
    next hne => cases h; exact lv_irem hx hb hd (fun q => hne (by rw [q]; rfl)) (kk _ ⟨⟨_, rfl, i32_rem hne⟩, hS2⟩)
  · cases h
  · cases h; exact lv_ishl hx hb hd (kk _ ⟨⟨_, rfl, sh_l.symm⟩, hS2⟩)
  · cases h; exact lv_ishr hx hb hd (kk _ ⟨⟨_, rfl, sh_r.symm⟩, hS2⟩)
  · cases h; exact lv_iushr hx hb hd rfl (kk _ ⟨⟨_, rfl, sh_u.symm⟩, hS2⟩)
  · cases h; exact lv_iand hx hb hd (kk _ ⟨⟨_, rfl, bt_a.symm⟩, hS2⟩)
  · cases h; exact lv_ior hx hb hd (kk _ ⟨⟨_, rfl, bt_o.symm⟩, hS2⟩)
  · cases h; exact lv_ixor hx hb hd (kk _ ⟨⟨_, rfl, bt_x.symm⟩, hS2⟩)
  · cases h
  · cases h
    have hq := hcat (Or.inl rfl)
    simp only [List.map_cons, List.sum_cons, show ∀ z : Int32, (Value.int z).category = 1 from fun _ => rfl] at hq
    exact va_mmin hx hb hsz.symm hown (hw _ List.mem_cons_self) (hwd _ (by simp [sWd])) (hwd _ (by simp [sWd])) (hwd _ (by simp [sWd])) hR.1 (by omega) hcr.1 hcr.2 hd (kk _ ⟨⟨_, rfl, by first | exact min_i _ _ | (have := min_i zp zq; simpa using this)⟩, hS2⟩)
  · cases h
    have hq := hcat (Or.inr rfl)
    simp only [List.map_cons, List.sum_cons, show ∀ z : Int32, (Value.int z).category = 1 from fun _ => rfl] at hq
    exact va_mmax hx hb hsz.symm hown (hw _ List.mem_cons_self) (hwd _ (by simp [sWd])) (hwd _ (by simp [sWd])) (hwd _ (by simp [sWd])) hR.1 (by omega) hcr.1 hcr.2 hd (kk _ ⟨⟨_, rfl, max_i _ _⟩, hS2⟩)
  · exfalso
    unfold pm_g1 at h
    split at h <;> first | omega | cases h
theorem snd_g1u {k : Nat} {a : Int} {x y : Nat} {ls st : List pm_V} {p1 : Int} {L : Array Slot} {sM : List Value} {r1 : pm_V} (hX : sX B0 K adV Ls xs p s m args meth c M)
    (hok : okI (sMdG M) pf j (1, k, a, x, y)) (h : (k = 5 ∧ r1 = vI (wr (-p1))) ∨ (k = 12 ∧ r1 = vL p1)) (hS : sS n ad K (vI p1 :: st) sM)
    (kk : ∀ sM', sS n ad K (r1 :: st) sM' → W p l e R s m args below meth c H locs cells slots Q (F0 m (pf (j + 1)) L sM')) : W p l e R s m args below meth c H locs cells slots Q (F0 m (pf j) L sM) := by
  obtain ⟨hx, hb, hml, hr, hown, hts, -, -, -, hxt⟩ := hX
  obtain ⟨v, idx, hd, hf, hw, hc⟩ := hok
  have hf := hf rfl
  rw [hf] at kk
  obtain ⟨w2, sM2, rfl, ⟨zp, rfl, rfl⟩, hS2⟩ := sS_cons hS
  rcases h with ⟨rfl, rfl⟩ | ⟨rfl, rfl⟩
  · exact lv_ineg hx hb hd (kk _ ⟨⟨_, rfl, i32_neg _⟩, hS2⟩)
  · exact lv_i2l hx hb hd rfl (kk _ ⟨⟨_, rfl, i32_i2l _⟩, hS2⟩)
theorem lcmp_i (x y : Int64) : (lg_cmp x y).toInt = if x.toInt < y.toInt then -1 else if x.toInt = y.toInt then 0 else 1 := by
  unfold lg_cmp
  by_cases h1 : y < x
  · have h2 := i64_lt.mp h1
    rw [if_pos h1, if_neg (by omega), if_neg (by omega)]
    rfl
  · have h2 : ¬ y.toInt < x.toInt := fun q => h1 (i64_lt.mpr q)
    rw [if_neg h1]
    by_cases h3 : x = y
    · have h4 := i64_eq.mp h3
      rw [if_pos h3, if_neg (by omega), if_pos h4]
      rfl
    · have h4 : ¬ x.toInt = y.toInt := fun q => h3 (i64_eq.mpr q)
      rw [if_neg h3, if_pos (by omega)]
      rfl
theorem snd_g2 {k : Nat} {a : Int} {x y : Nat} {ls st st' : List pm_V} {p1 q1 : Int} {r1 : pm_V} {L : Array Slot} {sM : List Value} (hX : sX B0 K adV Ls xs p s m args meth c M) (hR : 1 ≤ R.frames ∧ 200 ≤ R.locals) (hcr : cells ≤ R.cells ∧ slots ≤ R.slots)
    (hok : okI (sMdG M) pf j (2, k, a, x, y)) (h : pm_g2 k p1 q1 = some r1) (hsz : L.size = c.maxLocals) (hS : sS n ad K (vL q1 :: vL p1 :: st) sM) (hcat : k = 5 → (sM.map fun v => v.category).sum ≤ 100)
    (kk : ∀ sM', sS n ad K (r1 :: st) sM' → W p l e R s m args below meth c H locs cells slots Q (F0 m (pf (j + 1)) L sM')) : W p l e R s m args below meth c H locs cells slots Q (F0 m (pf j) L sM) := by
  obtain ⟨hx, hb, hml, hr, hown, hts, -, -, -, hxt⟩ := hX
  obtain ⟨v, idx, hd, hf, hw, hc⟩ := hok
  have hf := hf rfl
  have hw : ∀ w ∈ wdI (sMdG M).1.cls (2, k, a, x, y) v idx, w.before args s = true := fun w h => hts w (sGd_mem (hw w h))
  have hwd : ∀ w ∈ sWd, w.before args s = true := fun w h => hts w (sGd_mem (sWd_in w h))
  rw [hf] at kk
  obtain ⟨w1, sM1, rfl, ⟨zq, rfl, rfl⟩, hS1⟩ := sS_cons hS
  obtain ⟨w2, sM2, rfl, ⟨zp, rfl, rfl⟩, hS2⟩ := sS_cons hS1
  rcases (show k = 0 ∨ k = 1 ∨ k = 2 ∨ k = 3 ∨ k = 4 ∨ k = 5 ∨ 6 ≤ k by omega) with rfl | rfl | rfl | rfl | rfl | rfl | hk
  · cases h; exact lv_ladd hx hb hd (kk _ ⟨⟨_, rfl, i64_add _ _⟩, hS2⟩)
  · cases h; exact lv_lmul hx hb hd (kk _ ⟨⟨_, rfl, i64_mul _ _⟩, hS2⟩)
  · simp only [pm_g2] at h
    split at h
    next => cases h
    next hne => cases h; exact lv_ldiv hx hb hd (fun q => hne (by rw [q]; rfl)) (kk _ ⟨⟨_, rfl, i64_div _ _⟩, hS2⟩)
  · simp only [pm_g2] at h
    split at h
    next => cases h
    next hne => cases h; exact lv_lrem hx hb hd (fun q => hne (by rw [q]; rfl)) (kk _ ⟨⟨_, rfl, i64_rem hne⟩, hS2⟩)
  · cases h; exact W.lcmp hx hb hd (kk _ ⟨⟨_, rfl, lcmp_i _ _⟩, hS2⟩)
  · cases h
    have hq := hcat rfl
    simp only [List.map_cons, List.sum_cons, show ∀ z : Int64, (Value.long z).category = 2 from fun _ => rfl] at hq
    have hl := hw _ List.mem_cons_self
    rw [mx_long] at hl
    exact va_mmax_long hx hb hsz.symm hown hl (hwd _ (by simp [sWd])) (hwd _ (by simp [sWd])) (hwd _ (by simp [sWd])) hR.1 (by omega) hcr.1 hcr.2 hd (kk _ ⟨⟨_, rfl, by first | exact max_l _ _ | (have := max_l zp zq; simpa using this)⟩, hS2⟩)
  · exfalso
    unfold pm_g2 at h
    split at h <;> first | omega | cases h
end
