/-! THE MEAN OF THE HEIGHTS, AS A DOUBLE -/
set_option maxRecDepth 100000 in
theorem mean_2 : ∀ S, S < 121 → (FP.ddiv (FP.i2d (nI S)) (FP.i2d (nI 2)) &&& 0x7fffffffffffffff ≤ 0x7ff0000000000000) ∧ Op.cmpValue (FP.dcmp (FP.ddiv (FP.i2d (nI S)) (FP.i2d (nI 2))) 4633641066610819072) .l ≤ 0 := by decide +kernel
set_option maxRecDepth 100000 in
theorem mean_3 : ∀ S, S < 181 → (FP.ddiv (FP.i2d (nI S)) (FP.i2d (nI 3)) &&& 0x7fffffffffffffff ≤ 0x7ff0000000000000) ∧ Op.cmpValue (FP.dcmp (FP.ddiv (FP.i2d (nI S)) (FP.i2d (nI 3))) 4633641066610819072) .l ≤ 0 := by decide +kernel
set_option maxRecDepth 100000 in
theorem mean_4 : ∀ S, S < 241 → (FP.ddiv (FP.i2d (nI S)) (FP.i2d (nI 4)) &&& 0x7fffffffffffffff ≤ 0x7ff0000000000000) ∧ Op.cmpValue (FP.dcmp (FP.ddiv (FP.i2d (nI S)) (FP.i2d (nI 4))) 4633641066610819072) .l ≤ 0 := by decide +kernel
set_option maxRecDepth 100000 in
theorem mean_5 : ∀ S, S < 301 → (FP.ddiv (FP.i2d (nI S)) (FP.i2d (nI 5)) &&& 0x7fffffffffffffff ≤ 0x7ff0000000000000) ∧ Op.cmpValue (FP.dcmp (FP.ddiv (FP.i2d (nI S)) (FP.i2d (nI 5))) 4633641066610819072) .l ≤ 0 := by decide +kernel
set_option maxRecDepth 100000 in
theorem mean_6 : ∀ S, S < 361 → (FP.ddiv (FP.i2d (nI S)) (FP.i2d (nI 6)) &&& 0x7fffffffffffffff ≤ 0x7ff0000000000000) ∧ Op.cmpValue (FP.dcmp (FP.ddiv (FP.i2d (nI S)) (FP.i2d (nI 6))) 4633641066610819072) .l ≤ 0 := by decide +kernel
set_option maxRecDepth 100000 in
theorem mean_7 : ∀ S, S < 421 → (FP.ddiv (FP.i2d (nI S)) (FP.i2d (nI 7)) &&& 0x7fffffffffffffff ≤ 0x7ff0000000000000) ∧ Op.cmpValue (FP.dcmp (FP.ddiv (FP.i2d (nI S)) (FP.i2d (nI 7))) 4633641066610819072) .l ≤ 0 := by decide +kernel
set_option maxRecDepth 100000 in
theorem mean_8 : ∀ S, S < 481 → (FP.ddiv (FP.i2d (nI S)) (FP.i2d (nI 8)) &&& 0x7fffffffffffffff ≤ 0x7ff0000000000000) ∧ Op.cmpValue (FP.dcmp (FP.ddiv (FP.i2d (nI S)) (FP.i2d (nI 8))) 4633641066610819072) .l ≤ 0 := by decide +kernel
theorem mean_a {S J : Nat} (h2 : 2 ≤ J) (h8 : J ≤ 8) (hS : S ≤ 60 * J) : vf_n64 (FP.ddiv (FP.i2d (nI S)) (FP.i2d (nI J))) ∧ Op.cmpValue (FP.dcmp (FP.ddiv (FP.i2d (nI S)) (FP.i2d (nI J))) 4633641066610819072) .l ≤ 0 := by
  rcases (show J = 2 ∨ J = 3 ∨ J = 4 ∨ J = 5 ∨ J = 6 ∨ J = 7 ∨ J = 8 by omega) with rfl | rfl | rfl | rfl | rfl | rfl | rfl
  · exact mean_2 S (by omega)
  · exact mean_3 S (by omega)
  · exact mean_4 S (by omega)
  · exact mean_5 S (by omega)
  · exact mean_6 S (by omega)
  · exact mean_7 S (by omega)
  · exact mean_8 S (by omega)
theorem sumH_b {k : gC} {g : St} (hc : cfg k) (hr : rowsOK k g) : ∃ S, S ≤ 60 * k.1 ∧ mSumH k g = nI S := by
  have hJ := hc.2.1
  have key : ∀ n, n ≤ k.1 → 0 ≤ (it (fun j a => a + mHt k g j) n (0 : Int32)).toInt ∧ (it (fun j a => a + mHt k g j) n (0 : Int32)).toInt ≤ 60 * n := by
    intro n
    induction n with
    | zero => intro _; rw [it_0, i_0]; exact ⟨by decide, by decide⟩
    | succ n ih =>
      intro hn
      obtain ⟨h1, h2⟩ := ih (by omega)
      obtain ⟨b0, b1⟩ := mHt_b hc hr (j := n) (by omega)
      rw [it_s, i_add (by omega) (by omega)]
      omega
  obtain ⟨h1, h2⟩ := key k.1 (Nat.le_refl _)
  have e : mSumH k g = it (fun j a => a + mHt k g j) k.1 0 := rfl
  refine ⟨(mSumH k g).toInt.toNat, by rw [e]; omega, i_eq.mpr ?_⟩
  rw [nI_t (by rw [e]; omega), e]
  omega
theorem mean_I {k : gC} {g : St} (hc : cfg k) (hr : rowsOK k g) : vf_n64 (FP.ddiv (FP.i2d (mSumH k g)) (FP.i2d (nI k.1))) ∧ Op.cmpValue (FP.dcmp (FP.ddiv (FP.i2d (mSumH k g)) (FP.i2d (nI k.1))) 4633641066610819072) .l ≤ 0 := by
  obtain ⟨S, hS, e⟩ := sumH_b hc hr
  rw [e]
  exact mean_a hc.1 hc.2.1 hS
/-! THE END'S OTHER BOUNDS -/
theorem mLF_30 {k : gC} {h : gK} {g : St} {j : Nat} {x : Int32} : ¬ (30 : Int32) < mLFor k h g j x := by
  have e : mLFor k h g j x = if mSFor k g j x = -1 then -1 else if bz (g (1 + k.2.1 j) 4) = 0 then mFirst (fun i => mHt k (mTicks k h i (mSetTo g (k.2.1 j) (mSFor k g j x))) j) x 31 0 else -1 := rfl
  rw [e]
  by_cases h1 : mSFor k g j x = -1
  · rw [if_pos h1]; decide
  · rw [if_neg h1]
    by_cases h2 : bz (g (1 + k.2.1 j) 4) = 0
    · rw [if_pos h2]
      rcases mF_spec (fun i => mHt k (mTicks k h i (mSetTo g (k.2.1 j) (mSFor k g j x))) j) x 31 0 with ⟨h3, -⟩ | ⟨s, -, h3, h4, -⟩
      · rw [h3]; decide
      · rw [h4]; exact nI_nlt (a := 30) (by omega) (by decide)
    · rw [if_neg h2]; decide
theorem mLeast_9 {k : gC} {h : gK} {g : St} : ∀ n, ¬ (9000 : Int32) < mLeast k h g n := by
  have key : ∀ n, (it (fun i a => if mTicks k h (i + 1) g 0 5 < a then mTicks k h (i + 1) g 0 5 else a) n (9000 : Int32)).toInt ≤ 9000 := by
    intro n
    induction n with
    | zero => rw [it_0, c_9000]; decide
    | succ n ih =>
      rw [it_s]
      by_cases q : mTicks k h (n + 1) g 0 5 < it (fun i a => if mTicks k h (i + 1) g 0 5 < a then mTicks k h (i + 1) g 0 5 else a) n 9000
      · rw [if_pos q]
        have := i_lt.mp q
        omega
      · rw [if_neg q]; exact ih
  intro n q
  have e : mLeast k h g n = it (fun i a => if mTicks k h (i + 1) g 0 5 < a then mTicks k h (i + 1) g 0 5 else a) n 9000 := rfl
  have := i_lt.mp q
  rw [e, c_9000] at this
  have := key n
  omega
theorem mHt_60 {k : gC} {g : St} {j : Nat} : ¬ (60 : Int32) < mHt k g j := by
  intro q
  have := i_lt.mp q
  have e : mHt k g j = mHby (mPress k g (k.2.1 j)) (g (3 + j) 5) := rfl
  have hb := mHby_60 (mPress k g (k.2.1 j)) (g (3 + j) 5)
  rw [e, c_60] at this
  omega
