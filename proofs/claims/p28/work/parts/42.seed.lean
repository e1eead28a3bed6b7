/-! WHAT THE SCRIPT MAKES IS WHAT THE METHODS TAKE -/
def nsF (f s : Nat) : Nat → Nat := fun x => if x < f then 3 else if x = f then s else 0
theorem nsF_0 : nsF 0 0 = fun _ => 0 := by
  funext x
  unfold nsF
  rw [if_neg (by omega)]
  split <;> rfl
theorem nsF_f (f s : Nat) : nsF f s f = s := by unfold nsF; rw [if_neg (by omega), if_pos rfl]
theorem nsF_o {f s x : Nat} (h : x ≠ f) : nsF f (s + 1) x = nsF f s x := by unfold nsF; rw [if_neg h, if_neg h]
theorem nsF_n (f : Nat) : nsF f 3 = nsF (f + 1) 0 := by
  funext x
  unfold nsF
  by_cases h1 : x < f
  · rw [if_pos h1, if_pos (by omega)]
  · rw [if_neg h1]
    by_cases h2 : x = f
    · rw [if_pos h2, if_pos (by omega)]
    · rw [if_neg h2, if_neg (by omega)]
      split <;> rfl
theorem nsF_3 {f s : Nat} (hs : s ≤ 3) (x : Nat) : nsF f s x ≤ 3 := by
  unfold nsF
  split
  · omega
  · split <;> omega
theorem nsF_2 {x : Nat} (h : x < 2) : nsF 2 0 x = 3 := if_pos h
theorem kG_p (G : gT) {p : Nat} (hp : p < 2) : (kG G).2.2 (1 + p) 1 = 10 + nI (bel (sCell G p) 51) := by
  have e : (kG G).2.2 (1 + p) 1 = sPw G (1 + p - 1) := if_pos (by omega)
  rw [e, show 1 + p - 1 = p by omega]
  rfl
theorem kG_pb (G : gT) {p : Nat} (hp : p < 2) : ¬ (kG G).2.2 (1 + p) 1 < 10 ∧ (kG G).2.2 (1 + p) 1 ≤ 60 := by
  obtain ⟨h1, h2⟩ := (kG_cfg G).2.2.2.1 p hp
  exact ⟨fun q => by have := i_lt.mp q; rw [c_10] at this; omega, i_le.mpr (by rw [c_60]; exact h2)⟩
