/-! THE NUMBERS OF A SHOW: what stays within what -/
def cfg (k : gC) : Prop := 2 ≤ k.1 ∧ k.1 ≤ 8 ∧ (∀ j, j < k.1 → k.2.1 j < 2) ∧ (∀ p, p < 2 → 10 ≤ (k.2.2 (1 + p) 1).toInt ∧ (k.2.2 (1 + p) 1).toInt ≤ 60) ∧ ∀ j, j < k.1 → 1 ≤ (k.2.2 (3 + j) 2).toInt ∧ (k.2.2 (3 + j) 2).toInt ≤ 5
def pOK (r : Nat → Int32) : Prop := 0 ≤ (r 2).toInt ∧ (r 2).toInt ≤ 10 ∧ 0 ≤ (r 3).toInt ∧ (r 3).toInt ≤ 10 ∧ (¬ bz (r 4) = 0 → r 2 = 0 ∧ r 3 = 0)
def jOK (r : Nat → Int32) : Prop := 0 ≤ (r 4).toInt ∧ (r 4).toInt ≤ 4 ∧ 0 ≤ (r 5).toInt ∧ (r 5).toInt ≤ 4
def rowsOK (k : gC) (g : St) : Prop := (∀ p, p < 2 → pOK (g (1 + p))) ∧ ∀ j, j < k.1 → jOK (g (3 + j))
def stepOK (h : gK) : Prop := ∀ q, q < 6 → 0 ≤ (h.2.2.2.2 q 0).toInt ∧ (h.2.2.2.2 q 0).toInt ≤ 7 ∧ ((0 ≤ (h.2.2.2.2 q 2).toInt ∧ (h.2.2.2.2 q 2).toInt ≤ 6) ∨ (16 ≤ (h.2.2.2.2 q 2).toInt ∧ (h.2.2.2.2 q 2).toInt ≤ 20))
theorem c_10 : (10 : Int32).toInt = 10 := by decide
theorem c_20 : (20 : Int32).toInt = 20 := by decide
theorem c_4 : (4 : Int32).toInt = 4 := by decide
theorem c_60 : (60 : Int32).toInt = 60 := by decide
theorem c_1 : (1 : Int32).toInt = 1 := by decide
theorem c_2 : (2 : Int32).toInt = 2 := by decide
theorem c_3 : (3 : Int32).toInt = 3 := by decide
theorem c_5 : (5 : Int32).toInt = 5 := by decide
theorem c_9000 : (9000 : Int32).toInt = 9000 := by decide
theorem c_300 : (300 : Int32).toInt = 300 := by decide
theorem m_b {a b A B : Int} (ha0 : 0 ≤ a) (hb0 : 0 ≤ b) (ha : a ≤ A) (hb : b ≤ B) : 0 ≤ a * b ∧ a * b ≤ A * B :=
  ⟨Int.mul_nonneg ha0 hb0, Int.le_trans (Int.mul_le_mul_of_nonneg_right ha hb0) (Int.mul_le_mul_of_nonneg_left hb (Int.le_trans ha0 ha))⟩
theorem d_b {a b A : Int} (ha0 : 0 ≤ a) (hb : 0 < b) (ha : a ≤ A) : 0 ≤ a / b ∧ a / b ≤ A :=
  ⟨Int.ediv_nonneg ha0 (by omega), Int.le_trans (Int.ediv_le_self _ ha0) ha⟩
/-- a product of small ones -/
theorem i_mulB {x y : Int32} {A B : Int} (hx0 : 0 ≤ x.toInt) (hy0 : 0 ≤ y.toInt) (hx : x.toInt ≤ A) (hy : y.toInt ≤ B) (hAB : A * B < 2147483648) : (x * y).toInt = x.toInt * y.toInt ∧ 0 ≤ (x * y).toInt ∧ (x * y).toInt ≤ A * B := by
  have h := m_b hx0 hy0 hx hy
  have e : (x * y).toInt = x.toInt * y.toInt := i_mul (by omega) (by omega)
  rw [e]
  exact ⟨rfl, h⟩
theorem flow_b {k : gC} {g : St} (hc : cfg k) (hr : rowsOK k g) {j : Nat} (hj : j < k.1) : (mFlow k g j).toInt = (k.2.2 (3 + j) 2).toInt * (g (3 + j) 5).toInt ∧ 0 ≤ (mFlow k g j).toInt ∧ (mFlow k g j).toInt ≤ 20 := by
  obtain ⟨h1, h2⟩ := hc.2.2.2.2 j hj
  obtain ⟨h3, h4, h5, h6⟩ := hr.2 j hj
  exact i_mulB (A := 5) (B := 4) (by omega) h5 h2 h6 (by decide)
theorem flows_b {k : gC} {g : St} (hc : cfg k) (hr : rowsOK k g) (p : Nat) : ∀ n, n ≤ k.1 → 0 ≤ (it (fun j a => if k.2.1 j = p then a + mFlow k g j else a) n 0).toInt ∧ (it (fun j a => if k.2.1 j = p then a + mFlow k g j else a) n 0).toInt ≤ 20 * n := by
  intro n
  induction n with
  | zero => intro _; rw [it_0, i_0]; exact ⟨by decide, by decide⟩
  | succ n ih =>
    intro hn
    obtain ⟨h1, h2⟩ := ih (by omega)
    have hJ := hc.2.1
    rw [it_s]
    obtain ⟨-, h3, h4⟩ := flow_b hc hr (j := n) (by omega)
    by_cases h : k.2.1 n = p
    · rw [if_pos h, i_add (by omega) (by omega)]
      omega
    · rw [if_neg h]
      omega
theorem mFlows_b {k : gC} {g : St} (hc : cfg k) (hr : rowsOK k g) (p : Nat) : 0 ≤ (mFlows k g p).toInt ∧ (mFlows k g p).toInt ≤ 160 := by
  have h := flows_b hc hr p k.1 (Nat.le_refl _)
  have := hc.2.1
  unfold mFlows
  omega
/-- the pressure: a whole number from 0 to 300 -/
theorem mPby_b {d w f : Int32} (hd0 : 0 ≤ d.toInt) (hd : d.toInt ≤ 10) (hw0 : 0 ≤ w.toInt) (hw : w.toInt ≤ 60) (hf0 : 0 ≤ f.toInt) (hf : f.toInt ≤ 160) : (mPby d w f).toInt = 10 * d.toInt * w.toInt / (20 + f.toInt) ∧ 0 ≤ (mPby d w f).toInt ∧ (mPby d w f).toInt ≤ 300 := by
  have h1 : (20 + f).toInt = 20 + f.toInt := by rw [i_add] <;> rw [c_20] <;> omega
  have h0 : ¬ 20 + f ≤ 0 := by
    intro h
    have := i_le.mp h
    rw [h1, i_0] at this
    omega
  obtain ⟨e1, l1, u1⟩ := i_mulB (x := 10) (y := d) (A := 10) (B := 10) (by decide) hd0 (by decide) hd (by decide)
  obtain ⟨e2, l2, u2⟩ := i_mulB (x := 10 * d) (y := w) (A := 100) (B := 60) l1 hw0 u1 hw (by decide)
  unfold mPby
  rw [if_neg h0, i_dv l2 (by rw [h1]; omega), h1, e2, e1, c_10]
  refine ⟨rfl, Int.ediv_nonneg ?_ (by omega), ?_⟩
  · rw [← c_10, ← e1, ← e2]; exact l2
  · have : 10 * d.toInt * w.toInt ≤ 6000 := by rw [← c_10, ← e1, ← e2]; exact u2
    have h9 : 0 ≤ 10 * d.toInt * w.toInt := by rw [← c_10, ← e1, ← e2]; exact l2
    exact Int.ediv_le_of_le_mul (by omega) (by omega)
theorem mHby_b {p v : Int32} (hp0 : 0 ≤ p.toInt) (hp : p.toInt ≤ 300) (hv0 : 0 ≤ v.toInt) (hv : v.toInt ≤ 4) : (p * v / 4).toInt = p.toInt * v.toInt / 4 ∧ 0 ≤ (p * v / 4).toInt ∧ 0 ≤ (mHby p v).toInt ∧ (mHby p v).toInt ≤ 60 := by
  obtain ⟨e1, l1, u1⟩ := i_mulB (x := p) (y := v) (A := 300) (B := 4) hp0 hv0 hp hv (by decide)
  have e2 : (p * v / 4).toInt = p.toInt * v.toInt / 4 := by rw [i_dv l1 (by decide), e1, c_4]
  have l2 : 0 ≤ (p * v / 4).toInt := by rw [i_dv l1 (by decide), c_4]; omega
  refine ⟨e2, l2, ?_⟩
  unfold mHby
  by_cases h : p * v / 4 < 60
  · rw [if_pos h]
    have := i_lt.mp h
    rw [c_60] at this
    omega
  · rw [if_neg h, c_60]; omega
theorem mHby_60 (p v : Int32) : (mHby p v).toInt ≤ 60 := by
  unfold mHby
  by_cases h : p * v / 4 < 60
  · rw [if_pos h]
    have := i_lt.mp h
    rw [c_60] at this
    omega
  · rw [if_neg h, c_60]; omega
theorem mPress_b {k : gC} {g : St} (hc : cfg k) (hr : rowsOK k g) {p : Nat} (hp : p < 2) : 0 ≤ (mPress k g p).toInt ∧ (mPress k g p).toInt ≤ 300 := by
  obtain ⟨h1, h2, h3, h4, h5⟩ := hr.1 p hp
  obtain ⟨h6, h7⟩ := hc.2.2.2.1 p hp
  obtain ⟨h8, h9⟩ := mFlows_b hc hr p
  exact (mPby_b h3 h4 (by omega) h7 h8 h9).2
theorem mHt_b {k : gC} {g : St} (hc : cfg k) (hr : rowsOK k g) {j : Nat} (hj : j < k.1) : 0 ≤ (mHt k g j).toInt ∧ (mHt k g j).toInt ≤ 60 := by
  obtain ⟨h1, h2⟩ := mPress_b hc hr (hc.2.2.1 j hj)
  obtain ⟨h3, h4, h5, h6⟩ := hr.2 j hj
  exact (mHby_b h1 h2 h5 h6).2.2
/-- one nearer -/
theorem mNear_b {a b : Int32} {A B : Int} (ha : a.toInt = A) (hb : b.toInt = B) (h0 : 0 ≤ A) (h1 : A ≤ 10) (h2 : 0 ≤ B) (h3 : B ≤ 10) : (A < B ∧ (mNear a b).toInt = A + 1) ∨ (B < A ∧ (mNear a b).toInt = A - 1) ∨ (A = B ∧ mNear a b = b) := by
  unfold mNear
  by_cases h : b ≤ a
  · rw [if_pos h]
    have h4 := i_le.mp h
    by_cases h5 : a ≤ b
    · rw [if_pos h5]
      have h6 := i_le.mp h5
      exact Or.inr (Or.inr ⟨by omega, rfl⟩)
    · rw [if_neg h5]
      have h6 : ¬ a.toInt ≤ b.toInt := fun q => h5 (i_le.mpr q)
      refine Or.inr (Or.inl ⟨by omega, ?_⟩)
      rw [i_sub] <;> rw [c_1] <;> omega
  · rw [if_neg h]
    have h6 : ¬ b.toInt ≤ a.toInt := fun q => h (i_le.mpr q)
    refine Or.inl ⟨by omega, ?_⟩
    rw [i_add] <;> rw [c_1] <;> omega
