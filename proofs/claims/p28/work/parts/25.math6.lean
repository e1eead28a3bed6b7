/-! A SETTING IS THE LEAST THAT DOES -/
theorem mF_spec (f : Nat → Int32) (x : Int32) : ∀ n i : Nat, (mFirst f x n i = -1 ∧ ∀ q, i ≤ q → q < i + n → f q < x) ∨ ∃ s, i ≤ s ∧ s < i + n ∧ mFirst f x n i = nI s ∧ ¬ f s < x ∧ ∀ q, i ≤ q → q < s → f q < x := by
  intro n
  induction n with
  | zero => intro i; exact Or.inl ⟨rfl, fun q h1 h2 => absurd h2 (by omega)⟩
  | succ n ih =>
    intro i
    have e : mFirst f x (n + 1) i = if f i < x then mFirst f x n (i + 1) else nI i := rfl
    by_cases h : f i < x
    · rw [if_pos h] at e
      rcases ih (i + 1) with ⟨h1, h2⟩ | ⟨s, h1, h2, h3, h4, h5⟩
      · refine Or.inl ⟨e.trans h1, fun q hq1 hq2 => ?_⟩
        by_cases hq : q = i
        · subst hq; exact h
        · exact h2 q (by omega) (by omega)
      · refine Or.inr ⟨s, by omega, by omega, e.trans h3, h4, fun q hq1 hq2 => ?_⟩
        by_cases hq : q = i
        · subst hq; exact h
        · exact h5 q (by omega) hq2
    · rw [if_neg h] at e
      exact Or.inr ⟨i, by omega, by omega, e, h, fun q hq1 hq2 => absurd hq2 (by omega)⟩
/-- the flows as the law adds them -/
def lFl (k : gC) (g : St) (p n : Nat) : Int32 := it (fun i a => a + (if k.2.1 i = p then k.2.2 (3 + i) 2 * g (3 + i) 4 else 0)) n 20
theorem lFl_e (k : gC) (g : St) (p : Nat) : lFl k g p k.1 = 20 + mFSet k g p := by
  unfold lFl mFSet
  generalize k.1 = n
  induction n with
  | zero => rfl
  | succ n ih =>
    rw [it_s, it_s, ih]
    by_cases h : k.2.1 n = p
    · rw [if_pos h, if_pos h, Int32.add_assoc]
    · rw [if_neg h, if_neg h, Int32.add_zero]
theorem mFSet_b {k : gC} {g : St} (hc : cfg k) (hr : rowsOK k g) (p : Nat) : 0 ≤ (mFSet k g p).toInt ∧ (mFSet k g p).toInt ≤ 160 := by
  have key : ∀ n, n ≤ k.1 → 0 ≤ (it (fun j a => if k.2.1 j = p then a + k.2.2 (3 + j) 2 * g (3 + j) 4 else a) n (0 : Int32)).toInt ∧ (it (fun j a => if k.2.1 j = p then a + k.2.2 (3 + j) 2 * g (3 + j) 4 else a) n (0 : Int32)).toInt ≤ 20 * n := by
    intro n
    induction n with
    | zero => intro _; rw [it_0, i_0]; exact ⟨by decide, by decide⟩
    | succ n ih =>
      intro hn
      obtain ⟨h1, h2⟩ := ih (by omega)
      have hJ := hc.2.1
      rw [it_s]
      obtain ⟨n1, n2⟩ := hc.2.2.2.2 n (by omega)
      obtain ⟨v1, v2, -, -⟩ := hr.2 n (by omega)
      obtain ⟨-, m1, m2⟩ := i_mulB (x := k.2.2 (3 + n) 2) (y := g (3 + n) 4) (A := 5) (B := 4) (by omega) v1 n2 v2 (by decide)
      by_cases h : k.2.1 n = p
      · rw [if_pos h, i_add (by omega) (by omega)]
        omega
      · rw [if_neg h]
        omega
  have h := key k.1 (Nat.le_refl _)
  have := hc.2.1
  unfold mFSet
  omega
theorem i_m3 (w s : Int32) : w * 10 * s = 10 * s * w := by
  rw [Int32.mul_comm w 10, Int32.mul_assoc, Int32.mul_comm w s, ← Int32.mul_assoc]
theorem setTo_h {k : gC} {g : St} (j : Nat) (v : Int32) (hc : cfg k) (hj : j < k.1) : mHt k (mSetTo g (k.2.1 j) v) j = mHt k g j := by
  have hp := hc.2.2.1 j hj
  refine mHt_e (fun i hi => ?_) hj ?_
  · unfold mSetTo
    split
    · exact s2_ok _ _ _ (by omega) _
    · rfl
  · unfold mSetTo
    split
    · exact s2_k _ _ _ (by decide)
    · rfl
theorem nI_n1 {n : Nat} (h : n < 2147483648) : ¬ nI n = -1 := by
  intro q
  have := i_eq.mp q
  rw [nI_t h] at this
  have e : (-1 : Int32).toInt = -1 := by decide
  omega
theorem least_I {k : gC} {h : gK} {g : St} {j x : Nat} (hc : cfg k) (hr : rowsOK k g) (hj : j < k.1) (hx1 : 1 ≤ x) (hx2 : x ≤ 60) :
    (¬ 0 ≤ mSFor k g j (nI x) → mLFor k h g j (nI x) = -1) ∧
    (0 ≤ mSFor k g j (nI x) → ¬ mSFor k g j (nI x) ≤ 0 ∧ ¬ k.2.2 (1 + k.2.1 j) 1 * 10 * mSFor k g j (nI x) / lFl k g (k.2.1 j) k.1 * g (3 + j) 4 / 4 < nI x ∧ ¬ nI x ≤ k.2.2 (1 + k.2.1 j) 1 * 10 * (mSFor k g j (nI x) - 1) / lFl k g (k.2.1 j) k.1 * g (3 + j) 4 / 4 ∧ ¬ lFl k g (k.2.1 j) k.1 = 0 ∧
      (nI x ≤ mHt k g j → bz (g (1 + k.2.1 j) 4) = 0 → mLFor k h g j (nI x) = 0) ∧ (¬ (nI x ≤ mHt k g j ∧ bz (g (1 + k.2.1 j) 4) = 0) → ¬ mLFor k h g j (nI x) = 0)) := by
  obtain ⟨F, hF⟩ : ∃ F, F = mFSet k g (k.2.1 j) := ⟨_, rfl⟩
  obtain ⟨f0, f1⟩ := mFSet_b hc hr (k.2.1 j)
  rw [← hF] at f0 f1
  have eL : lFl k g (k.2.1 j) k.1 = 20 + F := by rw [lFl_e, hF]
  have e20 : (20 + F).toInt = 20 + F.toInt := by rw [i_add] <;> rw [c_20] <;> omega
  have hn0 : ¬ 20 + F ≤ 0 := by
    intro q
    have := i_le.mp q
    rw [e20, i_0] at this
    omega
  have hne : ¬ (20 + F = 0) := fun q => hn0 (by rw [q]; decide)
  have fe : ∀ i : Nat, mHby (mPby (nI i) (k.2.2 (1 + k.2.1 j) 1) F) (g (3 + j) 4) = (if 10 * nI i * k.2.2 (1 + k.2.1 j) 1 / (20 + F) * g (3 + j) 4 / 4 < 60 then 10 * nI i * k.2.2 (1 + k.2.1 j) 1 / (20 + F) * g (3 + j) 4 / 4 else 60) := by
    intro i
    unfold mHby mPby
    rw [if_neg hn0]
  have hx60 : ¬ (60 : Int32) < nI x := nI_nlt (a := 60) hx2 (by decide)
  have eS : mSFor k g j (nI x) = mFirst (fun i => mHby (mPby (nI i) (k.2.2 (1 + k.2.1 j) 1) F) (g (3 + j) 4)) (nI x) 11 0 := by unfold mSFor; rw [← hF]
  have eL2 : mLFor k h g j (nI x) = if mSFor k g j (nI x) = -1 then -1 else if bz (g (1 + k.2.1 j) 4) = 0 then mFirst (fun i => mHt k (mTicks k h i (mSetTo g (k.2.1 j) (mSFor k g j (nI x)))) j) (nI x) 31 0 else -1 := rfl
  rcases mF_spec (fun i => mHby (mPby (nI i) (k.2.2 (1 + k.2.1 j) 1) F) (g (3 + j) 4)) (nI x) 11 0 with ⟨h1, -⟩ | ⟨s, -, h2, h3, h4, h5⟩
  · rw [← eS] at h1
    refine ⟨fun _ => by rw [eL2, if_pos h1], fun q => ?_⟩
    rw [h1] at q
    exact absurd q (by decide)
  · rw [← eS] at h3
    refine ⟨fun q => absurd (by rw [h3]; exact nI_pos' (by omega)) q, fun _ => ?_⟩
    have z0 : mHby (mPby (nI 0) (k.2.2 (1 + k.2.1 j) 1) F) (g (3 + j) 4) < nI x := by
      rw [fe, show nI 0 = 0 from rfl, Int32.mul_zero, Int32.zero_mul, Int32.zero_div, Int32.zero_mul, Int32.zero_div, if_pos (by decide)]
      exact nI_lt (a := 0) (by omega) (by omega)
    have hs0 : 0 < s := by
      rcases Nat.eq_zero_or_pos s with e | e
      · subst e; exact absurd z0 h4
      · exact e
    rw [h3, eL]
    refine ⟨nI_nle hs0 (by omega), ?_, ?_, hne, ?_, ?_⟩
    · rw [i_m3]
      have h4' : ¬ mHby (mPby (nI s) (k.2.2 (1 + k.2.1 j) 1) F) (g (3 + j) 4) < nI x := h4
      rw [fe] at h4'
      intro q
      by_cases hlt : 10 * nI s * k.2.2 (1 + k.2.1 j) 1 / (20 + F) * g (3 + j) 4 / 4 < 60
      · rw [if_pos hlt] at h4'
        exact h4' q
      · exact hlt (i_lt.mpr (Int.lt_of_lt_of_le (i_lt.mp q) (by rw [nI_t (by omega), c_60]; omega)))
    · have h6 : mHby (mPby (nI (s - 1)) (k.2.2 (1 + k.2.1 j) 1) F) (g (3 + j) 4) < nI x := h5 (s - 1) (by omega) (by omega)
      have e1 : nI s - 1 = nI (s - 1) := by
        have := nI_pred (s - 1)
        rw [show s - 1 + 1 = s by omega] at this
        exact this
      rw [e1, i_m3]
      rw [fe] at h6
      intro q
      by_cases hlt : 10 * nI (s - 1) * k.2.2 (1 + k.2.1 j) 1 / (20 + F) * g (3 + j) 4 / 4 < 60
      · rw [if_pos hlt] at h6
        exact absurd (i_lt.mp h6) (by have := i_le.mp q; omega)
      · rw [if_neg hlt] at h6
        exact hx60 h6
    · intro q1 q2
      rw [eL2, h3, if_neg (nI_n1 (by omega)), if_pos q2]
      have e0 : mHt k (mTicks k h 0 (mSetTo g (k.2.1 j) (nI s))) j = mHt k g j := setTo_h j _ hc hj
      show (if mHt k (mTicks k h 0 (mSetTo g (k.2.1 j) (nI s))) j < nI x then _ else nI 0) = 0
      rw [e0, if_neg (fun q => absurd (i_lt.mp q) (by have := i_le.mp q1; omega))]
      rfl
    · intro q q0
      rw [eL2, h3, if_neg (nI_n1 (by omega))] at q0
      by_cases q2 : bz (g (1 + k.2.1 j) 4) = 0
      · rw [if_pos q2] at q0
        have q1 : ¬ nI x ≤ mHt k g j := fun z => q ⟨z, q2⟩
        have e0 : mHt k (mTicks k h 0 (mSetTo g (k.2.1 j) (nI s))) j = mHt k g j := setTo_h j _ hc hj
        rcases mF_spec (fun i => mHt k (mTicks k h i (mSetTo g (k.2.1 j) (nI s))) j) (nI x) 31 0 with ⟨h1, -⟩ | ⟨s', -, h2', h3', h4', -⟩
        · rw [h1] at q0
          exact absurd q0 (by decide)
        · rw [h3'] at q0
          have e1 := i_eq.mp q0
          rw [nI_t (by omega), i_0] at e1
          obtain rfl : s' = 0 := by omega
          have h4'' : ¬ mHt k (mTicks k h 0 (mSetTo g (k.2.1 j) (nI s))) j < nI x := h4'
          rw [e0] at h4''
          exact q1 (Int32.not_lt.mp h4'')
      · rw [if_neg q2] at q0
        exact absurd q0 (by decide)
theorem bz_i1 {x : Int32} (h : ¬ (if bz x = 0 then (0 : Int32) else 1) = 1) : bz x = 0 := by
  by_cases q : bz x = 0
  · exact q
  · rw [if_neg q] at h; exact absurd rfl h
theorem bz_i2 {x : Int32} (h : (if bz x = 0 then (0 : Int32) else 1) = 1) : ¬ bz x = 0 := by
  intro q
  rw [if_pos q] at h
  exact absurd h (by decide)
