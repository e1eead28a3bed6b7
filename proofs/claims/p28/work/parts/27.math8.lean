/-! MANY TICKS -/
theorem ticks_I {k : gC} {h : gK} {g : St} {F : Int} {N : Nat} (hc : cfg k) (hs : stepOK h) (hh : callsOK h) (hI : Inv k g F N) : ∀ n, N + n ≤ 4000 → Inv k (mTicks k h n g) F (N + n) ∧ ∀ j, j < k.1 → mTicks k h n g (3 + j) 8 = g (3 + j) 8 := by
  intro n
  induction n with
  | zero => intro _; exact ⟨hI, fun j hj => rfl⟩
  | succ n ih =>
    intro hn
    obtain ⟨h1, h2⟩ := ih (by omega)
    obtain ⟨t1, -, t2, -⟩ := tick_I hc hs hh h1 (by omega)
    exact ⟨t1, fun j hj => ((t2 j hj).2.1).trans (h2 j hj)⟩
theorem tick_E {k : gC} {h : gK} {g : St} {F : Int} {N : Nat} (hc : cfg k) (hs : stepOK h) (hh : callsOK h) (hI : Inv k g F N) (hN : N < 4000) :
    ∃ (A : Nat → Int32) (S' : Nat → Nat) (gn : St), gn = mTick k h g ∧ Inv k gn F (N + 1) ∧ 0 + mDown k h g = mFallIn g (g 0 4 + nI 1) ∧ tickF k g gn A S' N := by
  obtain ⟨h1, h2, h3⟩ := tick_I hc hs hh hI hN
  exact ⟨_, _, _, rfl, h1, by rw [Int32.zero_add, h2, fall_n hI (by decide)], h3⟩
theorem if01_0 {x : Int32} (h : (if bz x = 0 then (0 : Int32) else 1) = 0) : bz x = 0 := by
  by_cases q : bz x = 0
  · exact q
  · rw [if_neg q] at h; exact absurd h (by decide)
theorem if01_n {x : Int32} (h : ¬ (if bz x = 0 then (0 : Int32) else 1) = 0) : ¬ bz x = 0 := fun q => h (by rw [if_pos q])
theorem and_1s {k : gC} {g' : St} {mu : Nat → Int32} (n : Nat) : seenJ k g' mu n &&& 1 = seenJ k g' mu n := by
  rcases (seen_x (k := k) (g' := g') (mu := mu) n).1 with h | h <;> rw [h] <;> decide
