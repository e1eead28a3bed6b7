/-! WATER THAT FALLS, ENERGY, PUMPS THAT RUN DRY, LAMPS -/
theorem pour_o (g : St) (x : Int32) {o : Nat} (h : o ≠ 0) : mPour g x o = g o := by
  unfold mPour
  split
  · exact s2_o _ _ _ h
  · rw [s2_o _ _ _ h, s2_o _ _ _ h, s2_o _ _ _ h]
theorem pour_q (g : St) (x : Int32) {q : Nat} (h5 : q ≠ 5) (h6 : q ≠ 6) : mPour g x 0 q = g 0 q := by
  unfold mPour
  split
  · exact s2_k _ _ _ h5
  · rw [s2_k _ _ _ h5, s2_k _ _ _ h6, s2_k _ _ _ h5]
theorem pour_I {g : St} {x : Int32} (hw : 0 ≤ (g 0 5).toInt) (hw9 : (g 0 5).toInt ≤ 9000) (hx : 0 ≤ x.toInt) (hx9 : x.toInt ≤ 1000000) (hs : 0 ≤ (g 0 6).toInt) (hs9 : (g 0 6).toInt ≤ 1000000) : (mPour g x 0 5).toInt + (mPour g x 0 6).toInt = (g 0 5).toInt + (g 0 6).toInt + x.toInt ∧ 0 ≤ (mPour g x 0 5).toInt ∧ (mPour g x 0 5).toInt ≤ 9000 ∧ 0 ≤ (mPour g x 0 6).toInt := by
  have e : (g 0 5 + x).toInt = (g 0 5).toInt + x.toInt := i_add (by omega) (by omega)
  unfold mPour
  by_cases h : g 0 5 + x ≤ 9000
  · rw [if_pos h, s2_s, s2_k _ _ _ (by decide)]
    have := i_le.mp h
    rw [e, c_9000] at this
    omega
  · rw [if_neg h, s2_s, s2_k _ _ _ (by decide), s2_s]
    have h2 : ¬ (g 0 5 + x).toInt ≤ (9000 : Int32).toInt := fun q => h (i_le.mpr q)
    rw [e, c_9000] at h2
    have e2 : (g 0 5 + x - 9000).toInt = (g 0 5).toInt + x.toInt - 9000 := by rw [i_sub] <;> rw [e, c_9000] <;> omega
    have e3 : (g 0 6 + (g 0 5 + x - 9000)).toInt = (g 0 6).toInt + ((g 0 5).toInt + x.toInt - 9000) := by rw [i_add] <;> rw [e2] <;> omega
    rw [e3, c_9000]
    omega
/-- the slot of now is emptied -/
theorem clear_x (g : St) (t : Int32) : (∀ o, o < 20 → mClear g t o = g o) ∧ (∀ s, s ≠ mSl t → mClear g t 20 s = g 20 s ∧ mClear g t 21 s = g 21 s ∧ mClear g t 22 s = g 22 s) ∧ mClear g t 20 (mSl t) = 0 ∧ mClear g t 21 (mSl t) = 0 ∧ mClear g t 22 (mSl t) = 0 := by
  unfold mClear
  refine ⟨fun o ho => ?_, fun s hs => ⟨?_, ?_, ?_⟩, ?_, ?_, ?_⟩
  · rw [s2_o _ _ _ (by omega), s2_o _ _ _ (by omega), s2_o _ _ _ (by omega)]
  · rw [s2_ok _ _ _ (by decide), s2_ok _ _ _ (by decide), s2_k _ _ _ hs]
  · rw [s2_ok _ _ _ (by decide), s2_k _ _ _ hs, s2_ok _ _ _ (by decide)]
  · rw [s2_k _ _ _ hs, s2_ok _ _ _ (by decide), s2_ok _ _ _ (by decide)]
  · rw [s2_ok _ _ _ (by decide), s2_ok _ _ _ (by decide), s2_s]
  · rw [s2_ok _ _ _ (by decide), s2_s]
  · rw [s2_s]
abbrev sN (g : St) : Nat := mSl (g 0 4)
theorem mFall_x (g : St) : (∀ o, o ≠ 0 → o < 20 → mFall g o = g o) ∧ (∀ q, q ≠ 5 → q ≠ 6 → q ≠ 7 → q ≠ 8 → mFall g 0 q = g 0 q) ∧ mFall g 0 5 = mPour g (g 20 (sN g)) 0 5 ∧ mFall g 0 6 = mPour g (g 20 (sN g)) 0 6 ∧ mFall g 0 7 = g 0 7 + (FI g (sN g) - g 20 (sN g)) ∧ mFall g 0 8 = g 0 8 + g 21 (sN g) ∧ (∀ s, s ≠ sN g → mFall g 20 s = g 20 s ∧ mFall g 21 s = g 21 s ∧ mFall g 22 s = g 22 s) ∧ mFall g 20 (sN g) = 0 ∧ mFall g 21 (sN g) = 0 ∧ mFall g 22 (sN g) = 0 := by
  have e4 : mPour g (mFallB g (g 0 4)) 0 4 = g 0 4 := pour_q _ _ (by decide) (by decide)
  have eb : mFallB g (g 0 4) = g 20 (sN g) := rfl
  unfold mFall
  rw [e4, eb]
  have e7 : mPour g (g 20 (sN g)) 0 7 = g 0 7 := pour_q _ _ (by decide) (by decide)
  have e8 : mPour g (g 20 (sN g)) 0 8 = g 0 8 := pour_q _ _ (by decide) (by decide)
  have ec : mFallC (mPour g (g 20 (sN g))) (g 0 4) = g 21 (sN g) := by unfold mFallC; rw [pour_o _ _ (by decide)]
  have ei : mFallIn g (g 0 4) = FI g (sN g) := rfl
  rw [e7, e8, ec, ei]
  obtain ⟨c1, c2, c3, c4, c5⟩ := clear_x (s2 (s2 (mPour g (g 20 (sN g))) 0 8 (g 0 8 + g 21 (sN g))) 0 7 (g 0 7 + (FI g (sN g) - g 20 (sN g)))) (g 0 4)
  refine ⟨fun o h0 ho => ?_, fun q h5 h6 h7 h8 => ?_, ?_, ?_, ?_, ?_, fun s hs => ?_, c3, c4, c5⟩
  · rw [c1 o ho, s2_o _ _ _ h0, s2_o _ _ _ h0, pour_o _ _ h0]
  · rw [c1 0 (by decide), s2_k _ _ _ h7, s2_k _ _ _ h8, pour_q _ _ h5 h6]
  · rw [c1 0 (by decide), s2_k _ _ _ (by decide), s2_k _ _ _ (by decide)]
  · rw [c1 0 (by decide), s2_k _ _ _ (by decide), s2_k _ _ _ (by decide)]
  · rw [c1 0 (by decide), s2_s]
  · rw [c1 0 (by decide), s2_k _ _ _ (by decide), s2_s]
  · obtain ⟨d1, d2, d3⟩ := c2 s hs
    rw [d1, d2, d3, s2_o _ _ _ (by decide), s2_o _ _ _ (by decide), pour_o _ _ (by decide)]
    refine ⟨rfl, ?_, ?_⟩
    · rw [s2_o _ _ _ (by decide), s2_o _ _ _ (by decide), pour_o _ _ (by decide)]
    · rw [s2_o _ _ _ (by decide), s2_o _ _ _ (by decide), pour_o _ _ (by decide)]
theorem fall_I {g : St} (ha : aOK g) (hw : 0 ≤ (g 0 5).toInt) (hw9 : (g 0 5).toInt ≤ 9000) (hs : 0 ≤ (g 0 6).toInt) (ht : 0 ≤ (g 0 8).toInt) (hl : (g 0 8).toInt ≤ (g 0 7).toInt) {F : Int} (hF : (g 0 5).toInt + SI g + (g 0 7).toInt + (g 0 6).toInt = F) (hF9 : F ≤ 500000) :
    aOK (mFall g) ∧ 0 ≤ (mFall g 0 5).toInt ∧ (mFall g 0 5).toInt ≤ 9000 ∧ 0 ≤ (mFall g 0 6).toInt ∧ 0 ≤ (mFall g 0 8).toInt ∧ (mFall g 0 8).toInt ≤ (mFall g 0 7).toInt ∧ (mFall g 0 5).toInt + SI (mFall g) + (mFall g 0 7).toInt + (mFall g 0 6).toInt = F := by
  have hsl : sN g < 9 := mSl_lt _
  obtain ⟨a1, a2, a3, a4, a5, a6, a7, a8, a9, a10⟩ := mFall_x g
  have h0 := SI_0 ha
  obtain ⟨p1, p2, p3⟩ := ha _ hsl
  have h4 := sI_S ha hsl
  have h5 := FI_i ha (by omega) hsl
  have e4 : sI g (sN g) = (g 20 (sN g)).toInt + (g 21 (sN g)).toInt + (g 22 (sN g)).toInt := rfl
  obtain ⟨b1, b2, b3, b4⟩ := pour_I (g := g) (x := g 20 (sN g)) hw hw9 p1 (by omega) hs (by omega)
  have e7a : (FI g (sN g) - g 20 (sN g)).toInt = (g 21 (sN g)).toInt + (g 22 (sN g)).toInt := by rw [i_sub] <;> rw [h5, e4] <;> omega
  have e7 : (mFall g 0 7).toInt = (g 0 7).toInt + ((g 21 (sN g)).toInt + (g 22 (sN g)).toInt) := by rw [a5, i_add] <;> rw [e7a] <;> omega
  have e8 : (mFall g 0 8).toInt = (g 0 8).toInt + (g 21 (sN g)).toInt := by rw [a6, i_add] <;> omega
  have hS : SI (mFall g) = SI g + -(sI g (sN g)) := by
    refine SI_d hsl (fun i hi => ?_)
    by_cases h : i = sN g
    · subst h
      rw [if_pos rfl]
      unfold sI
      rw [a8, a9, a10, i_0]
      omega
    · rw [if_neg h]
      obtain ⟨d1, d2, d3⟩ := a7 i h
      unfold sI
      rw [d1, d2, d3]
      omega
  refine ⟨fun i hi => ?_, by rw [a3]; exact b2, by rw [a3]; exact b3, by rw [a4]; exact b4, by omega, by omega, ?_⟩
  · by_cases h : i = sN g
    · subst h
      rw [a8, a9, a10, i_0]
      omega
    · obtain ⟨d1, d2, d3⟩ := a7 i h
      rw [d1, d2, d3]
      exact ha i hi
  · rw [hS, e7, a3, a4]
    omega
theorem i_63 (y : Int32) : 0 ≤ (y &&& 63).toInt ∧ (y &&& 63).toInt ≤ 63 := by
  have h1 : (y &&& 63).toBitVec.toNat ≤ 63 := by
    have : (y &&& 63).toBitVec = y.toBitVec &&& (63 : Int32).toBitVec := rfl
    rw [this, BitVec.toNat_and]
    exact Nat.and_le_right
  have h2 : (y &&& 63).toInt = ((y &&& 63).toBitVec.toNat : Int) := by
    show (y &&& 63).toBitVec.toInt = _
    rw [BitVec.toInt_eq_toNat_of_lt (by omega)]
  rw [h2]
  omega
theorem mBits_b (x : Int32) : 0 ≤ (mBits x).toInt ∧ (mBits x).toInt ≤ 63 := i_63 _
theorem en_x (k : gC) (g : St) : (∀ o, o ≠ 0 → mEnergy k g o = g o) ∧ (∀ q, q ≠ 9 → mEnergy k g 0 q = g 0 q) ∧ ∃ b : Int32, 0 ≤ b.toInt ∧ b.toInt ≤ 63 ∧ mEnergy k g 0 9 = g 0 9 + g 1 3 * g 1 3 + g 2 3 * g 2 3 + b := by
  have e1 : mEn1 g = s2 (s2 g 0 9 (g 0 9 + g 1 3 * g 1 3)) 0 9 (s2 g 0 9 (g 0 9 + g 1 3 * g 1 3) 0 9 + s2 g 0 9 (g 0 9 + g 1 3 * g 1 3) 2 3 * s2 g 0 9 (g 0 9 + g 1 3 * g 1 3) 2 3) := rfl
  have e2 : mEn1 g = s2 (s2 g 0 9 (g 0 9 + g 1 3 * g 1 3)) 0 9 (g 0 9 + g 1 3 * g 1 3 + g 2 3 * g 2 3) := by rw [e1, s2_s, s2_ok _ _ _ (by decide)]
  unfold mEnergy
  refine ⟨fun o ho => ?_, fun q hq => ?_, _, (mBits_b (mLamps k (mEn1 g))).1, (mBits_b _).2, ?_⟩
  · rw [s2_o _ _ _ ho, e2, s2_o _ _ _ ho, s2_o _ _ _ ho]
  · rw [s2_k _ _ _ hq, e2, s2_k _ _ _ hq, s2_k _ _ _ hq]
  · rw [s2_s, e2, s2_s]
abbrev dry1 (p : Nat) (g : St) : St := if g (1 + p) 3 ≤ 0 then g else mTrip g p
theorem trip_o (g : St) (p : Nat) {o : Nat} (h : o ≠ 1 + p) : mTrip g p o = g o := by unfold mTrip; rw [s2_o _ _ _ h, s2_o _ _ _ h, s2_o _ _ _ h, s2_o _ _ _ h]
theorem dry1_o (i : Nat) (v : St) (o : Nat) (h : o ≠ 1 + i) : dry1 i v o = v o := by
  unfold dry1
  split
  · rfl
  · exact trip_o _ _ h
theorem dry1_r (i : Nat) (v v' : St) (h : v (1 + i) = v' (1 + i)) : dry1 i v (1 + i) = dry1 i v' (1 + i) := by
  unfold dry1 mTrip s2
  rw [h]
  split
  · exact h
  · simp only [sr_s]
    try rw [h]
theorem dry_x (g : St) : (∀ o, (o = 0 ∨ 3 ≤ o) → mDry g o = g o) ∧ ∀ p, p < 2 → (mDry g (1 + p) = g (1 + p) ∧ ¬ (g 0 5 < 300 ∧ ¬ g (1 + p) 3 ≤ 0)) ∨ (mDry g (1 + p) 2 = 0 ∧ mDry g (1 + p) 3 = 0 ∧ mDry g (1 + p) 4 = 1) := by
  unfold mDry
  by_cases h : g 0 5 < 300
  · rw [if_pos h]
    obtain ⟨a1, a2⟩ := it_row (f := dry1) (b := 1) dry1_o dry1_r 2 g
    refine ⟨fun o ho => a2 o (fun i hi => by omega), fun p hp => ?_⟩
    have e := a1 p hp
    by_cases h2 : g (1 + p) 3 ≤ 0
    · refine Or.inl ⟨e.trans ?_, fun q => q.2 h2⟩
      unfold dry1
      rw [if_pos h2]
    · refine Or.inr ?_
      show it dry1 2 g (1 + p) 2 = 0 ∧ it dry1 2 g (1 + p) 3 = 0 ∧ it dry1 2 g (1 + p) 4 = 1
      rw [e]
      unfold dry1
      rw [if_neg h2]
      unfold mTrip
      refine ⟨s2_s _ _ _ _, ?_, ?_⟩
      · rw [s2_k _ _ _ (by decide), s2_s]
      · rw [s2_k _ _ _ (by decide), s2_k _ _ _ (by decide), s2_k _ _ _ (by decide), s2_s]
  · rw [if_neg h]
    exact ⟨fun _ _ => rfl, fun p _ => Or.inl ⟨rfl, fun q => h q.1⟩⟩
theorem off_x (k : gC) (g : St) : (∀ j, j < k.1 → mOff k g (3 + j) 7 = 0 ∧ ∀ q, q ≠ 7 → mOff k g (3 + j) q = g (3 + j) q) ∧ ∀ o, (o < 3 ∨ 3 + k.1 ≤ o) → mOff k g o = g o := by
  obtain ⟨a1, a2⟩ := it_row (f := fun j g => s2 g (3 + j) 7 0) (b := 3) (fun i v o h => s2_o _ _ _ h) (fun i v v' h => by unfold s2; rw [sr_s, sr_s, h]) k.1 g
  refine ⟨fun j hj => ?_, fun o ho => a2 o (fun i hi => by omega)⟩
  have e := a1 j hj
  show it (fun j g => s2 g (3 + j) 7 0) k.1 g (3 + j) 7 = 0 ∧ _
  unfold mOff
  rw [e]
  exact ⟨s2_s _ _ _ _, fun q hq => s2_k _ _ _ hq⟩
theorem shorts_0 {k : gC} {g : St} (hJ : k.1 ≤ 8) (h : mShorts k g = 0) : ∀ j, j < k.1 → mShort g j = 0 := by
  have key : ∀ n, n ≤ 8 → 0 ≤ (it (fun j a => if mShort g j = 0 then a else a + 1) n (0 : Int32)).toInt ∧ (it (fun j a => if mShort g j = 0 then a else a + 1) n (0 : Int32)).toInt ≤ n ∧ ((it (fun j a => if mShort g j = 0 then a else a + 1) n (0 : Int32)).toInt = 0 → ∀ j, j < n → mShort g j = 0) := by
    intro n
    induction n with
    | zero => intro _; rw [it_0, i_0]; exact ⟨by decide, by decide, fun _ j hj => absurd hj (by omega)⟩
    | succ n ih =>
      intro hn
      obtain ⟨b1, b2, b3⟩ := ih (by omega)
      rw [it_s]
      by_cases hs : mShort g n = 0
      · rw [if_pos hs]
        refine ⟨b1, by omega, fun e j hj => ?_⟩
        by_cases hjn : j = n
        · subst hjn; exact hs
        · exact b3 e j (by omega)
      · rw [if_neg hs, i_add (by rw [c_1]; omega) (by rw [c_1]; omega), c_1]
        exact ⟨by omega, by omega, fun e => by omega⟩
  have h2 := (key k.1 hJ).2.2
  unfold mShorts at h
  rw [h] at h2
  exact h2 i_0
theorem lamp_x {k : gC} {g : St} (hJ : k.1 ≤ 8) : (∀ o, (o ≠ 0 ∧ (o < 3 ∨ 3 + k.1 ≤ o)) → mLamp k g o = g o) ∧ (∀ q, q ≠ 10 → q ≠ 11 → mLamp k g 0 q = g 0 q) ∧ (∀ j, j < k.1 → ∀ q, q ≠ 7 → mLamp k g (3 + j) q = g (3 + j) q) ∧ ∀ j, j < k.1 → bz (mLamp k g (3 + j) 7) = 0 ∨ bz (g (3 + j) 8) = 0 := by
  unfold mLamp
  by_cases h : mShorts k g = 0
  · rw [if_pos h]
    refine ⟨fun _ _ => rfl, fun _ _ _ => rfl, fun _ _ _ _ => rfl, fun j hj => ?_⟩
    have h2 := shorts_0 hJ h j hj
    unfold mShort at h2
    by_cases h3 : bz (g (3 + j) 7) = 0
    · exact Or.inl h3
    · rw [if_neg h3] at h2
      by_cases h4 : bz (g (3 + j) 8) = 0
      · exact Or.inr h4
      · rw [if_neg h4] at h2
        exact absurd h2 (by decide)
  · rw [if_neg h]
    have e : ∀ g1 : St, (∀ o, o ≠ 0 → g1 o = g o) → (∀ q, q ≠ 10 → q ≠ 11 → g1 0 q = g 0 q) → (∀ o, (o ≠ 0 ∧ (o < 3 ∨ 3 + k.1 ≤ o)) → mOff k g1 o = g o) ∧ (∀ q, q ≠ 10 → q ≠ 11 → mOff k g1 0 q = g 0 q) ∧ (∀ j, j < k.1 → ∀ q, q ≠ 7 → mOff k g1 (3 + j) q = g (3 + j) q) ∧ ∀ j, j < k.1 → bz (mOff k g1 (3 + j) 7) = 0 ∨ bz (g (3 + j) 8) = 0 := by
      intro g1 h1 h2
      obtain ⟨a1, a2⟩ := off_x k g1
      refine ⟨fun o ho => (a2 o ho.2).trans (h1 o ho.1), fun q hq hq2 => ?_, fun j hj q hq => ?_, fun j hj => Or.inl ?_⟩
      · rw [a2 0 (Or.inl (by decide))]; exact h2 q hq hq2
      · rw [(a1 j hj).2 q hq, h1 _ (by omega)]
      · rw [(a1 j hj).1]; rfl
    split
    · exact e _ (fun o ho => s2_o _ _ _ ho) (fun q hq _ => s2_k _ _ _ hq)
    · exact e _ (fun o ho => by rw [s2_o _ _ _ ho, s2_o _ _ _ ho]) (fun q hq hq2 => by rw [s2_k _ _ _ hq2, s2_k _ _ _ hq])
