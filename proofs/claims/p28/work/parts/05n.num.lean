/-! NUMBERS: an Int32 by the whole number that it is -/
theorem i_lo (x : Int32) : -2147483648 ≤ x.toInt := x.le_toInt
theorem i_hi (x : Int32) : x.toInt < 2147483648 := x.toInt_lt
theorem i_bm {z : Int} (h1 : -2147483648 ≤ z) (h2 : z < 2147483648) : z.bmod (2 ^ 32) = z := by
  apply Int.bmod_eq_of_le <;> omega
theorem i_add {x y : Int32} (h1 : -2147483648 ≤ x.toInt + y.toInt) (h2 : x.toInt + y.toInt < 2147483648) : (x + y).toInt = x.toInt + y.toInt := by rw [Int32.toInt_add, i_bm h1 h2]
theorem i_sub {x y : Int32} (h1 : -2147483648 ≤ x.toInt - y.toInt) (h2 : x.toInt - y.toInt < 2147483648) : (x - y).toInt = x.toInt - y.toInt := by rw [Int32.toInt_sub, i_bm h1 h2]
theorem i_mul {x y : Int32} (h1 : -2147483648 ≤ x.toInt * y.toInt) (h2 : x.toInt * y.toInt < 2147483648) : (x * y).toInt = x.toInt * y.toInt := by rw [Int32.toInt_mul, i_bm h1 h2]
theorem i_td (X : Int) {Y : Int} (hY : 0 < Y) : (0 ≤ X ∧ X.tdiv Y = X / Y ∧ 0 ≤ X / Y ∧ X / Y ≤ X) ∨ (X < 0 ∧ X.tdiv Y = -(-X / Y) ∧ 0 ≤ -X / Y ∧ -X / Y ≤ -X) := by
  by_cases h : 0 ≤ X
  · exact Or.inl ⟨h, Int.tdiv_eq_ediv_of_nonneg h, Int.ediv_nonneg h (by omega), Int.ediv_le_self _ h⟩
  · have h2 : 0 ≤ -X := by omega
    refine Or.inr ⟨by omega, ?_, Int.ediv_nonneg h2 (by omega), Int.ediv_le_self _ h2⟩
    have h3 : (- -X).tdiv Y = -((-X).tdiv Y) := Int.neg_tdiv _ _
    rw [Int.neg_neg] at h3
    rw [h3, Int.tdiv_eq_ediv_of_nonneg h2]
theorem i_div {x y : Int32} (hy : 0 < y.toInt) : (x / y).toInt = x.toInt.tdiv y.toInt := by
  have h1 := i_lo x
  have h2 := i_hi x
  rw [Int32.toInt_div, i_bm]
  · rcases i_td x.toInt hy with ⟨_, h, _, _⟩ | ⟨_, h, _, _⟩ <;> rw [h] <;> omega
  · rcases i_td x.toInt hy with ⟨_, h, _, _⟩ | ⟨_, h, _, _⟩ <;> rw [h] <;> omega
/-- nothing below 0 is divided -/
theorem i_dv {x y : Int32} (hx : 0 ≤ x.toInt) (hy : 0 < y.toInt) : (x / y).toInt = x.toInt / y.toInt := by
  rw [i_div hy, Int.tdiv_eq_ediv_of_nonneg hx]
theorem i_ms (z : Int32) : 0 ≤ z.toInt ↔ z.toBitVec.msb = false := by
  constructor
  · intro h
    cases hz : z.toBitVec.msb with
    | false => rfl
    | true =>
      have h1 : z.toBitVec.toInt < 0 := BitVec.toInt_neg_of_msb_true hz
      have h2 : z.toInt = z.toBitVec.toInt := rfl
      omega
  · intro h
    exact BitVec.toInt_nonneg_of_msb_false h
theorem i_0 : (0 : Int32).toInt = 0 := by decide
theorem i_le {x y : Int32} : x ≤ y ↔ x.toInt ≤ y.toInt := Int32.le_iff_toInt_le
theorem i_lt {x y : Int32} : x < y ↔ x.toInt < y.toInt := Int32.lt_iff_toInt_lt
theorem i_eq {x y : Int32} : x = y ↔ x.toInt = y.toInt := Int32.toInt_inj.symm
theorem i_xor {x y : Int32} (hy : 0 ≤ y.toInt) : 0 ≤ x ^^^ y ↔ 0 ≤ x.toInt := by
  rw [i_le, i_0, i_ms, i_ms x]
  have h1 := (i_ms y).mp hy
  have h2 : (x ^^^ y).toBitVec = x.toBitVec ^^^ y.toBitVec := rfl
  rw [h2, BitVec.msb_xor, h1, Bool.xor_false]
