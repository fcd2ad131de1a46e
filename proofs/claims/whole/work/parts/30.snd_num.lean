/-! SOUNDNESS, 5: numbers -/
theorem wr_bmod (x : Int) : x.bmod (2 ^ 32) = wr x := by
  unfold Int.bmod wr
  simp only [show ((2 ^ 32 : Nat) : Int) = 4294967296 by decide]
  split <;> omega
theorem wl_bmod (x : Int) : x.bmod (2 ^ 64) = wl x := by
  unfold Int.bmod wl
  simp only [show ((2 ^ 64 : Nat) : Int) = 18446744073709551616 by decide]
  split <;> omega
theorem i32_lo (z : Int32) : -2147483648 ≤ z.toInt := by
  have h := Int32.le_toInt z
  omega
theorem i32_hi (z : Int32) : z.toInt < 2147483648 := by
  have h := Int32.toInt_lt z
  omega
theorem i64_lo (z : Int64) : -9223372036854775808 ≤ z.toInt := by
  have h := Int64.le_toInt z
  omega
theorem i64_hi (z : Int64) : z.toInt < 9223372036854775808 := by
  have h := Int64.toInt_lt z
  omega
theorem wr_id {x : Int} (h1 : -2147483648 ≤ x) (h2 : x < 2147483648) : wr x = x := by unfold wr; omega
theorem wl_id {x : Int} (h1 : -9223372036854775808 ≤ x) (h2 : x < 9223372036854775808) : wl x = x := by unfold wl; omega
theorem i32_add (a b : Int32) : (a + b).toInt = wr (a.toInt + b.toInt) := by rw [Int32.toInt_add, ← wr_bmod]
theorem i32_sub (a b : Int32) : (a - b).toInt = wr (a.toInt - b.toInt) := by rw [Int32.toInt_sub, ← wr_bmod]
theorem i32_mul (a b : Int32) : (a * b).toInt = wr (a.toInt * b.toInt) := by rw [Int32.toInt_mul, ← wr_bmod]
theorem i32_neg (a : Int32) : (-a).toInt = wr (-a.toInt) := by rw [Int32.toInt_neg, ← wr_bmod]
theorem i32_div (a b : Int32) : (a / b).toInt = wr (a.toInt.tdiv b.toInt) := by rw [Int32.toInt_div, ← wr_bmod]
theorem i64_add (a b : Int64) : (a + b).toInt = wl (a.toInt + b.toInt) := by rw [Int64.toInt_add, ← wl_bmod]
theorem i64_sub (a b : Int64) : (a - b).toInt = wl (a.toInt - b.toInt) := by rw [Int64.toInt_sub, ← wl_bmod]
theorem i64_mul (a b : Int64) : (a * b).toInt = wl (a.toInt * b.toInt) := by rw [Int64.toInt_mul, ← wl_bmod]
theorem i64_div (a b : Int64) : (a / b).toInt = wl (a.toInt.tdiv b.toInt) := by rw [Int64.toInt_div, ← wl_bmod]
theorem wr_ex (x : Int) : ∃ t : Int, wr x = x + 4294967296 * t := ⟨-((x + 2147483648) / 4294967296), by unfold wr; omega⟩
theorem wl_ex (x : Int) : ∃ t : Int, wl x = x + 18446744073709551616 * t := ⟨-((x + 9223372036854775808) / 18446744073709551616), by unfold wl; omega⟩
theorem tmod_lt (p q : Int) (h : q ≠ 0) : -(q.natAbs : Int) < p.tmod q ∧ p.tmod q < (q.natAbs : Int) := by
  have h1 := Int.natAbs_tmod p q
  have h2 : p.natAbs % q.natAbs < q.natAbs := Nat.mod_lt _ (by omega)
  omega
theorem i32_rem {a b : Int32} (h : b.toInt ≠ 0) : (a - a / b * b).toInt = a.toInt.tmod b.toInt := by
  rw [i32_sub, i32_mul, i32_div]
  obtain ⟨t, ht⟩ := wr_ex (a.toInt.tdiv b.toInt)
  obtain ⟨u, hu⟩ := wr_ex (wr (a.toInt.tdiv b.toInt) * b.toInt)
  obtain ⟨w, hw⟩ := wr_ex (a.toInt - wr (wr (a.toInt.tdiv b.toInt) * b.toInt))
  have hd := Int.mul_tdiv_add_tmod a.toInt b.toInt
  have hm := tmod_lt a.toInt b.toInt h
  have e1 : wr (a.toInt.tdiv b.toInt) * b.toInt = a.toInt.tdiv b.toInt * b.toInt + 4294967296 * (t * b.toInt) := by rw [ht, Int.add_mul, Int.mul_assoc]
  have e2 : b.toInt * a.toInt.tdiv b.toInt = a.toInt.tdiv b.toInt * b.toInt := Int.mul_comm _ _
  have lo := i32_lo b
  have hi := i32_hi b
  generalize hX : wr (a.toInt - wr (wr (a.toInt.tdiv b.toInt) * b.toInt)) = X at hw ⊢
  have r1 : -2147483648 ≤ X ∧ X < 2147483648 := by rw [← hX]; unfold wr; omega
  generalize a.toInt.tdiv b.toInt * b.toInt = P at *
  generalize t * b.toInt = T at *
  generalize wr (wr (a.toInt.tdiv b.toInt) * b.toInt) = Y at *
  generalize wr (a.toInt.tdiv b.toInt) * b.toInt = Z at *
  generalize a.toInt.tmod b.toInt = R at *
  omega
theorem i64_rem {a b : Int64} (h : b.toInt ≠ 0) : (a - a / b * b).toInt = a.toInt.tmod b.toInt := by
  rw [i64_sub, i64_mul, i64_div]
  obtain ⟨t, ht⟩ := wl_ex (a.toInt.tdiv b.toInt)
  obtain ⟨u, hu⟩ := wl_ex (wl (a.toInt.tdiv b.toInt) * b.toInt)
  obtain ⟨w, hw⟩ := wl_ex (a.toInt - wl (wl (a.toInt.tdiv b.toInt) * b.toInt))
  have hd := Int.mul_tdiv_add_tmod a.toInt b.toInt
  have hm := tmod_lt a.toInt b.toInt h
  have e1 : wl (a.toInt.tdiv b.toInt) * b.toInt = a.toInt.tdiv b.toInt * b.toInt + 18446744073709551616 * (t * b.toInt) := by rw [ht, Int.add_mul, Int.mul_assoc]
  have e2 : b.toInt * a.toInt.tdiv b.toInt = a.toInt.tdiv b.toInt * b.toInt := Int.mul_comm _ _
  have lo := i64_lo b
  have hi := i64_hi b
  generalize hX : wl (a.toInt - wl (wl (a.toInt.tdiv b.toInt) * b.toInt)) = X at hw ⊢
  have r1 : -9223372036854775808 ≤ X ∧ X < 9223372036854775808 := by rw [← hX]; unfold wl; omega
  generalize a.toInt.tdiv b.toInt * b.toInt = P at *
  generalize t * b.toInt = T at *
  generalize wl (wl (a.toInt.tdiv b.toInt) * b.toInt) = Y at *
  generalize wl (a.toInt.tdiv b.toInt) * b.toInt = Z at *
  generalize a.toInt.tmod b.toInt = R at *
  omega
theorem i32_lt {a b : Int32} : a < b ↔ a.toInt < b.toInt := Int32.lt_iff_toInt_lt
theorem i32_le {a b : Int32} : a ≤ b ↔ a.toInt ≤ b.toInt := Int32.le_iff_toInt_le
theorem i32_eq {a b : Int32} : a = b ↔ a.toInt = b.toInt := ⟨fun h => by rw [h], fun h => Int32.toInt_inj.mp h⟩
theorem i32_0 : (0 : Int32).toInt = 0 := rfl
theorem i64_lt {a b : Int64} : a < b ↔ a.toInt < b.toInt := Int64.lt_iff_toInt_lt
theorem i64_eq {a b : Int64} : a = b ↔ a.toInt = b.toInt := ⟨fun h => by rw [h], fun h => Int64.toInt_inj.mp h⟩
theorem i64_0 : (0 : Int64).toInt = 0 := rfl
theorem i32_ofInt {z : Int32} : Int32.ofInt z.toInt = z := Int32.ofInt_toInt z
theorem i32_i2l (x : Int32) : x.toInt64.toInt = x.toInt := Int32.toInt_toInt64 x
/-- an index -/
theorem ix_in {z : Int32} {n : Nat} (h0 : 0 ≤ z.toInt) (h1 : z.toInt < (n : Int)) : vp_in z n ∧ z.toNatClampNeg = z.toInt.toNat := ⟨vp_in_iff.mpr ⟨h0, h1⟩, rfl⟩
theorem ix_nn {z : Int32} (h0 : 0 ≤ z.toInt) : ¬ z < 0 ∧ z.toNatClampNeg = z.toInt.toNat := ⟨fun h => by have := i32_lt.mp h; rw [i32_0] at this; omega, rfl⟩
