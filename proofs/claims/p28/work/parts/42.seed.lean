/-! WHAT THE SCRIPT MAKES IS WHAT THE METHODS TAKE -/
def nsF (f s : Nat) : Nat → Nat := fun x => if x < f then 3 else if x = f then s else 0
theorem nsF_0 : nsF 0 0 = fun _ => 0 := by
  funext x
  unfold nsF
  rw [if_neg (by omega)]
  split <;> rfl
theorem nsF_f (f s : Nat) : nsF f s f = s := by unfold nsF; rw [if_neg (by omega), if_pos rfl]
theorem nsF_o {f s x : Nat} (h : x ≠ f) : nsF f (s + 1) x = nsF f s x := by unfold nsF; rw [if_neg h, if_neg h]
theorem nsF_n (f : Nat) : nsF f 3 = nsF (f + 1) 0 := by
  funext x
  unfold nsF
  by_cases h1 : x < f
  · rw [if_pos h1, if_pos (by omega)]
  · rw [if_neg h1]
    by_cases h2 : x = f
    · rw [if_pos h2, if_pos (by omega)]
    · rw [if_neg h2, if_neg (by omega)]
      split <;> rfl
theorem nsF_3 {f s : Nat} (hs : s ≤ 3) (x : Nat) : nsF f s x ≤ 3 := by
  unfold nsF
  split
  · omega
  · split <;> omega
theorem nsF_2 {x : Nat} (h : x < 2) : nsF 2 0 x = 3 := if_pos h
theorem kG_p (G : gT) {p : Nat} (hp : p < 2) : (kG G).2.2 (1 + p) 1 = 10 + nI (bel (sCell G p) 51) := by
  have e : (kG G).2.2 (1 + p) 1 = sPw G (1 + p - 1) := if_pos (by omega)
  rw [e, show 1 + p - 1 = p by omega]
  rfl
theorem kG_pb (G : gT) {p : Nat} (hp : p < 2) : ¬ (kG G).2.2 (1 + p) 1 < 10 ∧ (kG G).2.2 (1 + p) 1 ≤ 60 := by
  obtain ⟨h1, h2⟩ := (kG_cfg G).2.2.2.1 p hp
  exact ⟨fun q => by have := i_lt.mp q; rw [c_10] at this; omega, i_le.mpr (by rw [c_60]; exact h2)⟩
theorem kG_1 (G : gT) (j : Nat) : (kG G).2.2 (3 + j) 1 = nI (bel (sCell G (j + 3) >>> (2 &&& 31)) 20) := by
  have e : (kG G).2.2 (3 + j) 1 = nI (bel (sZ G (3 + j - 3) >>> (2 &&& 31)) 20) := (if_neg (by omega)).trans (if_pos rfl)
  rw [e, show 3 + j - 3 = j by omega]
  rfl
theorem kG_2 (G : gT) (j : Nat) : (kG G).2.2 (3 + j) 2 = (1 : Int32) + nI (bel (sCell G (j + 3) >>> (4 &&& 31)) 5) := by
  have e : (kG G).2.2 (3 + j) 2 = (1 : Int32) + nI (bel (sZ G (3 + j - 3) >>> (4 &&& 31)) 5) := (if_neg (by omega)).trans ((if_neg (by decide)).trans (if_pos rfl))
  rw [e, show 3 + j - 3 = j by omega]
  rfl
theorem kG_3 (G : gT) (j : Nat) : (kG G).2.2 (3 + j) 3 = nI (bel (sCell G (j + 3) >>> (5 &&& 31)) 7) - 3 := by
  have e : (kG G).2.2 (3 + j) 3 = nI (bel (sZ G (3 + j - 3) >>> (5 &&& 31)) 7) - 3 := (if_neg (by omega)).trans ((if_neg (by decide)).trans (if_neg (by decide)))
  rw [e, show 3 + j - 3 = j by omega]
  rfl
theorem kG_jb (G : gT) (j : Nat) : ¬ (kG G).2.2 (3 + j) 1 < 0 ∧ ¬ 19 < (kG G).2.2 (3 + j) 1 ∧ ¬ (kG G).2.2 (3 + j) 2 < 1 ∧ ¬ 5 < (kG G).2.2 (3 + j) 2 ∧ ¬ (kG G).2.2 (3 + j) 3 < (-3) ∧ (kG G).2.2 (3 + j) 3 ≤ 3 := by
  have b1 := bel_lt (sCell G (j + 3) >>> (2 &&& 31)) (n := 20) (by decide)
  have b2 := bel_lt (sCell G (j + 3) >>> (4 &&& 31)) (n := 5) (by decide)
  have b3 := bel_lt (sCell G (j + 3) >>> (5 &&& 31)) (n := 7) (by decide)
  have e1 : ((kG G).2.2 (3 + j) 1).toInt = (bel (sCell G (j + 3) >>> (2 &&& 31)) 20 : Nat) := by rw [kG_1, nI_t (by omega)]
  have e2 : ((kG G).2.2 (3 + j) 2).toInt = (1 : Nat) + (bel (sCell G (j + 3) >>> (4 &&& 31)) 5 : Nat) := by rw [kG_2]; exact nI_addT (a := 1) (by omega)
  have e3 : ((kG G).2.2 (3 + j) 3).toInt = (bel (sCell G (j + 3) >>> (5 &&& 31)) 7 : Nat) - 3 := by
    rw [kG_3, i_sub (by rw [nI_t (by omega), c_3]; omega) (by rw [nI_t (by omega), c_3]; omega), nI_t (by omega), c_3]
  have c19 : (19 : Int32).toInt = 19 := by decide
  have cm3 : (-3 : Int32).toInt = -3 := by decide
  refine ⟨fun q => ?_, fun q => ?_, fun q => ?_, fun q => ?_, fun q => ?_, i_le.mpr ?_⟩
  · have := i_lt.mp q; rw [e1, i_0] at this; omega
  · have := i_lt.mp q; rw [e1, c19] at this; omega
  · have := i_lt.mp q; rw [e2, c_1] at this; omega
  · have := i_lt.mp q; rw [e2, c_5] at this; omega
  · have := i_lt.mp q; rw [e3, cm3] at this; omega
  · rw [e3, c_3]; omega
theorem wG_1 (G : gT) (q : Nat) : wG G q 1 = (1 : Int32) + nI (bel (sCell G q >>> (3 &&& 31)) 1023) := rfl
theorem wG_2 (G : gT) (q : Nat) : wG G q 2 = if q % 3 = 0 then (16 : Int32) + nI (bel (sCell G q >>> (4 &&& 31)) 5) else nI (bel (sCell G q >>> (5 &&& 31)) 7) := rfl
theorem isV_a {v : Int32} (h : (0 ≤ v.toInt ∧ v.toInt ≤ 6) ∨ (16 ≤ v.toInt ∧ v.toInt ≤ 20)) : ¬ mIsV v = 0 := by
  have c6 : (6 : Int32).toInt = 6 := by decide
  have n0 : ¬ v < 0 := fun q => by have := i_lt.mp q; rw [i_0] at this; omega
  unfold mIsV
  rw [if_neg n0]
  rcases h with ⟨h1, h2⟩ | ⟨h1, h2⟩
  · rw [if_pos (i_le.mpr (by rw [c6]; exact h2))]; decide
  · rw [if_neg (fun q => by have := i_le.mp q; rw [c6] at this; omega), if_neg (fun q => by have := i_lt.mp q; rw [c_10] at this; omega), if_neg (fun q => by have := i_lt.mp q; rw [c_20] at this; omega)]; decide
theorem wG_b (G : gT) {q : Nat} (hq : q < 6) : ¬ wG G q 0 < 0 ∧ ¬ 99 < wG G q 0 ∧ ¬ wG G q 1 < 1 ∧ ¬ 1023 < wG G q 1 ∧ ¬ mIsV (wG G q 2) = 0 := by
  obtain ⟨h1, h2, h3⟩ := wG_ok G q hq
  have h1 : 0 ≤ (wG G q 0).toInt := h1
  have h2 : (wG G q 0).toInt ≤ 7 := h2
  have b := bel_lt (sCell G q >>> (3 &&& 31)) (n := 1023) (by decide)
  have e1 : (wG G q 1).toInt = (1 : Nat) + (bel (sCell G q >>> (3 &&& 31)) 1023 : Nat) := by rw [wG_1]; exact nI_addT (a := 1) (by omega)
  have c99 : (99 : Int32).toInt = 99 := by decide
  have c1023 : (1023 : Int32).toInt = 1023 := by decide
  refine ⟨fun q => ?_, fun q => ?_, fun q => ?_, fun q => ?_, isV_a h3⟩
  · have := i_lt.mp q; rw [i_0] at this; omega
  · have := i_lt.mp q; rw [c99] at this; omega
  · have := i_lt.mp q; rw [e1, c_1] at this; omega
  · have := i_lt.mp q; rw [e1, c1023] at this; omega
