/-! WATER: thrown, in the air, fallen -/
theorem it_congr {V : Type} {f f' : Nat → V → V} {n : Nat} {v : V} (h : ∀ i, i < n → ∀ w, f i w = f' i w) : it f n v = it f' n v := by
  induction n with
  | zero => rfl
  | succ n ih => rw [it_s, it_s, ih (fun i hi w => h i (by omega) w), h n (by omega)]
theorem mFlows_e {k : gC} {g g' : St} (h : ∀ j, j < k.1 → g' (3 + j) 5 = g (3 + j) 5) (p : Nat) : mFlows k g' p = mFlows k g p := by
  unfold mFlows
  refine it_congr (fun i hi w => ?_)
  unfold mFlow
  rw [h i hi]
theorem mPress_e {k : gC} {g g' : St} (h : ∀ j, j < k.1 → g' (3 + j) 5 = g (3 + j) 5) {p : Nat} (hp : g' (1 + p) 3 = g (1 + p) 3) : mPress k g' p = mPress k g p := by
  unfold mPress
  rw [mFlows_e h, hp]
theorem mHt_e {k : gC} {g g' : St} (h : ∀ j, j < k.1 → g' (3 + j) 5 = g (3 + j) 5) {j : Nat} (hj : j < k.1) (hp : g' (1 + k.2.1 j) 3 = g (1 + k.2.1 j) 3) : mHt k g' j = mHt k g j := by
  unfold mHt
  rw [mPress_e h hp, h j hj]
def FI (g : St) (s : Nat) : Int32 := g 20 s + g 21 s + g 22 s
theorem mFallIn_e (g : St) (t : Int32) : mFallIn g t = FI g (mSl t) := rfl
theorem FI_e {g g' : St} (h : ∀ o, 20 ≤ o → g' o = g o) (s : Nat) : FI g' s = FI g s := by unfold FI; rw [h 20 (by decide), h 21 (by decide), h 22 (by decide)]
theorem mPutI_c (pl : Int32) : mPutI pl = 20 ∨ mPutI pl = 21 ∨ mPutI pl = 22 := by
  unfold mPutI
  repeat' split
  all_goals simp
theorem i_ac (a b c x : Int32) : a + x + b + c = a + b + c + x := by
  rw [Int32.add_assoc a x b, Int32.add_comm x b, ← Int32.add_assoc a b x, Int32.add_assoc (a + b) x c, Int32.add_comm x c, ← Int32.add_assoc]
theorem i_ac2 (a b c x : Int32) : a + (b + x) + c = a + b + c + x := by
  rw [← Int32.add_assoc a b x, Int32.add_assoc (a + b) x c, Int32.add_comm x c, ← Int32.add_assoc]
theorem FI_put (g : St) (t pl mu : Int32) (s : Nat) : FI (mPut g t pl mu) s = FI g s + (if s = mSl t then mu else 0) := by
  unfold mPut FI
  by_cases h : s = mSl t
  · subst h
    rw [if_pos rfl]
    rcases mPutI_c pl with e | e | e <;> rw [e]
    · rw [s2_s, s2_ok _ _ _ (by decide), s2_ok _ _ _ (by decide), i_ac]
    · rw [s2_s, s2_ok _ _ _ (by decide), s2_ok _ _ _ (by decide), i_ac2]
    · rw [s2_s, s2_ok _ _ _ (by decide), s2_ok _ _ _ (by decide), ← Int32.add_assoc]
  · rw [if_neg h, Int32.add_zero]
    rcases mPutI_c pl with e | e | e <;> rw [e]
    · rw [s2_k _ _ _ h, s2_ok _ _ _ (by decide), s2_ok _ _ _ (by decide)]
    · rw [s2_k _ _ _ h, s2_ok _ _ _ (by decide), s2_ok _ _ _ (by decide)]
    · rw [s2_k _ _ _ h, s2_ok _ _ _ (by decide), s2_ok _ _ _ (by decide)]
theorem mPut_o (g : St) (t pl mu : Int32) {o : Nat} (h : o < 20) : mPut g t pl mu o = g o := by
  unfold mPut
  rcases mPutI_c pl with e | e | e <;> rw [e] <;> exact s2_o _ _ _ (by omega)
/-- what a jet throws -/
def amt (k : gC) (g : St) (j : Nat) : Int32 := if mHt k g j ≤ 0 then 0 else mMuch k g j
abbrev slotJ (k : gC) (g : St) (j : Nat) : Nat := mSl (g 0 4 + mAir (mHt k g j))
theorem mTaken_o (k : gC) (g : St) (j : Nat) {o : Nat} (h0 : o ≠ 0) (h1 : o ≠ 3 + j) : mTaken k g j o = g o := by
  unfold mTaken
  rw [s2_o _ _ _ h1, s2_o _ _ _ h0]
theorem mThrow1_o (k : gC) (j : Nat) (g : St) {o : Nat} (h0 : o ≠ 0) (h1 : o ≠ 3 + j) (h2 : o < 20) : mThrow1 k j g o = g o := by
  unfold mThrow1
  split
  · rfl
  · rw [mPut_o _ _ _ _ h2, mTaken_o k g j h0 h1]
theorem mThrow1_j (k : gC) (j : Nat) (g : St) (hj : j < 8) {q : Nat} (h : q ≠ 9) : mThrow1 k j g (3 + j) q = g (3 + j) q := by
  unfold mThrow1
  split
  · rfl
  · rw [mPut_o _ _ _ _ (by omega)]
    unfold mTaken
    rw [s2_k _ _ _ h, s2_ok _ _ _ (by omega)]
theorem mThrow1_9 (k : gC) (j : Nat) (g : St) (hj : j < 8) : mThrow1 k j g (3 + j) 9 = g (3 + j) 9 + amt k g j := by
  unfold mThrow1 amt
  by_cases h : mHt k g j ≤ 0
  · rw [if_pos h, if_pos h, Int32.add_zero]
  · rw [if_neg h, if_neg h, mPut_o _ _ _ _ (by omega)]
    unfold mTaken
    rw [s2_s]
theorem mThrow1_0 (k : gC) (j : Nat) (g : St) {q : Nat} (h : q ≠ 5) : mThrow1 k j g 0 q = g 0 q := by
  unfold mThrow1
  split
  · rfl
  · rw [mPut_o _ _ _ _ (by omega)]
    unfold mTaken
    rw [s2_ok _ _ _ (by omega), s2_k _ _ _ h]
theorem mThrow1_5 (k : gC) (j : Nat) (g : St) : mThrow1 k j g 0 5 = g 0 5 - amt k g j := by
  unfold mThrow1 amt
  by_cases h : mHt k g j ≤ 0
  · rw [if_pos h, if_pos h, Int32.sub_zero]
  · rw [if_neg h, if_neg h, mPut_o _ _ _ _ (by omega)]
    unfold mTaken
    rw [s2_ok _ _ _ (by omega), s2_s]
theorem mThrow1_F (k : gC) (j : Nat) (g : St) (hj : j < 8) (s : Nat) : FI (mThrow1 k j g) s = FI g s + (if s = slotJ k g j then amt k g j else 0) := by
  unfold mThrow1 amt slotJ
  by_cases h : mHt k g j ≤ 0
  · rw [if_pos h, if_pos h, ite_self, Int32.add_zero]
  · rw [if_neg h, if_neg h, FI_put, FI_e (g := g) (fun o ho => mTaken_o k g j (by omega) (by omega))]
abbrev thr (k : gC) (g : St) (n : Nat) : St := it (mThrow1 k) n g
def amtA (k : gC) (g : St) (j : Nat) : Int32 := amt k (thr k g j) j
/-- after n jets -/
theorem thr_x (k : gC) (g : St) (hp : ∀ j, j < k.1 → k.2.1 j < 2) (n : Nat) (hn : n ≤ k.1) (hJ : k.1 ≤ 8) :
    (∀ o, (o = 1 ∨ o = 2) → thr k g n o = g o) ∧ (∀ j, j < 8 → ∀ q, q ≠ 9 → thr k g n (3 + j) q = g (3 + j) q) ∧ (∀ q, q ≠ 5 → thr k g n 0 q = g 0 q) ∧ (∀ j, n ≤ j → j < 8 → thr k g n (3 + j) 9 = g (3 + j) 9) ∧ (∀ j, j < n → thr k g n (3 + j) 9 = g (3 + j) 9 + amtA k g j) ∧ (∀ s, FI (thr k g n) s = it (fun j a => a + (if s = slotJ k g j then amtA k g j else 0)) n (FI g s)) := by
  induction n with
  | zero => exact ⟨fun _ _ => rfl, fun _ _ _ _ => rfl, fun _ _ => rfl, fun _ _ _ => rfl, fun j hj => absurd hj (by omega), fun _ => rfl⟩
  | succ n ih =>
    obtain ⟨a1, a2, a3, a4, a5, a6⟩ := ih (by omega)
    have eH : ∀ j, j < k.1 → mHt k (thr k g n) j = mHt k g j := fun j hj => mHt_e (fun i hi => a2 i (by omega) 5 (by decide)) hj (by rw [a1 _ (by have := hp j hj; omega)])
    have e0 : thr k g (n + 1) = mThrow1 k n (thr k g n) := rfl
    rw [e0]
    refine ⟨fun o ho => ?_, fun j hj q hq => ?_, fun q hq => ?_, fun j h1 h2 => ?_, fun j hj => ?_, fun s => ?_⟩
    · rw [mThrow1_o _ _ _ (by omega) (by omega) (by omega)]; exact a1 o ho
    · by_cases e : j = n
      · subst e; rw [mThrow1_j _ _ _ hj hq]; exact a2 j hj q hq
      · rw [mThrow1_o _ _ _ (by omega) (by omega) (by omega)]; exact a2 j hj q hq
    · rw [mThrow1_0 _ _ _ hq]; exact a3 q hq
    · rw [mThrow1_o _ _ _ (by omega) (by omega) (by omega)]; exact a4 j (by omega) h2
    · by_cases e : j = n
      · subst e
        rw [mThrow1_9 _ _ _ (by omega), a4 j (Nat.le_refl _) (by omega)]
        rfl
      · rw [mThrow1_o _ _ _ (by omega) (by omega) (by omega)]; exact a5 j (by omega)
    · rw [mThrow1_F _ _ _ (by omega), a6 s, it_s]
      have e1 : slotJ k (thr k g n) n = slotJ k g n := by unfold slotJ; rw [a3 4 (by decide), eH n (by omega)]
      rw [e1]
      rfl
/-! the same in whole numbers -/
def sI (g : St) (s : Nat) : Int := (g 20 s).toInt + (g 21 s).toInt + (g 22 s).toInt
def SI (g : St) : Int := sI g 0 + sI g 1 + sI g 2 + sI g 3 + sI g 4 + sI g 5 + sI g 6 + sI g 7 + sI g 8
def aOK (g : St) : Prop := ∀ s, s < 9 → 0 ≤ (g 20 s).toInt ∧ 0 ≤ (g 21 s).toInt ∧ 0 ≤ (g 22 s).toInt
theorem sI_0 {g : St} (h : aOK g) {s : Nat} (hs : s < 9) : 0 ≤ sI g s := by
  obtain ⟨h1, h2, h3⟩ := h s hs
  unfold sI
  omega
theorem c9 {s : Nat} (hs : s < 9) : s = 0 ∨ s = 1 ∨ s = 2 ∨ s = 3 ∨ s = 4 ∨ s = 5 ∨ s = 6 ∨ s = 7 ∨ s = 8 := by omega
theorem sI_S {g : St} (h : aOK g) {s : Nat} (hs : s < 9) : sI g s ≤ SI g := by
  have b0 := sI_0 h (s := 0) (by decide)
  have b1 := sI_0 h (s := 1) (by decide)
  have b2 := sI_0 h (s := 2) (by decide)
  have b3 := sI_0 h (s := 3) (by decide)
  have b4 := sI_0 h (s := 4) (by decide)
  have b5 := sI_0 h (s := 5) (by decide)
  have b6 := sI_0 h (s := 6) (by decide)
  have b7 := sI_0 h (s := 7) (by decide)
  have b8 := sI_0 h (s := 8) (by decide)
  unfold SI
  rcases c9 hs with rfl | rfl | rfl | rfl | rfl | rfl | rfl | rfl | rfl <;> omega
theorem SI_0 {g : St} (h : aOK g) : 0 ≤ SI g := Int.le_trans (sI_0 h (s := 0) (by decide)) (sI_S h (by decide))
/-- one slot's sum changes by d -/
theorem SI_d {g g' : St} {s : Nat} {d : Int} (hs : s < 9) (h : ∀ i, i < 9 → sI g' i = sI g i + (if i = s then d else 0)) : SI g' = SI g + d := by
  have b0 := h 0 (by decide)
  have b1 := h 1 (by decide)
  have b2 := h 2 (by decide)
  have b3 := h 3 (by decide)
  have b4 := h 4 (by decide)
  have b5 := h 5 (by decide)
  have b6 := h 6 (by decide)
  have b7 := h 7 (by decide)
  have b8 := h 8 (by decide)
  unfold SI
  rcases c9 hs with rfl | rfl | rfl | rfl | rfl | rfl | rfl | rfl | rfl <;> simp only [Nat.reduceEqDiff, if_true, if_false, Int.add_zero] at b0 b1 b2 b3 b4 b5 b6 b7 b8 <;> omega
theorem FI_i {g : St} (h : aOK g) (hb : SI g < 1000000) {s : Nat} (hs : s < 9) : (FI g s).toInt = sI g s := by
  obtain ⟨h1, h2, h3⟩ := h s hs
  have h4 := sI_S h hs
  unfold sI at h4
  unfold FI sI
  have e : (g 20 s + g 21 s).toInt = (g 20 s).toInt + (g 21 s).toInt := i_add (by omega) (by omega)
  rw [i_add (by omega) (by omega), e]
theorem put_I {g : St} {t pl mu : Int32} (h : aOK g) (hb : SI g < 1000000) (h0 : 0 ≤ mu.toInt) (h1 : mu.toInt ≤ 20) : aOK (mPut g t pl mu) ∧ SI (mPut g t pl mu) = SI g + mu.toInt := by
  have hsl := mSl_lt t
  obtain ⟨p1, p2, p3⟩ := h _ hsl
  have h4 := sI_S h hsl
  unfold sI at h4
  have key : ∀ i, i < 9 → (0 ≤ (mPut g t pl mu 20 i).toInt ∧ 0 ≤ (mPut g t pl mu 21 i).toInt ∧ 0 ≤ (mPut g t pl mu 22 i).toInt) ∧ sI (mPut g t pl mu) i = sI g i + (if i = mSl t then mu.toInt else 0) := by
    intro i hi
    obtain ⟨q1, q2, q3⟩ := h i hi
    unfold sI mPut
    by_cases e : i = mSl t
    · subst e
      rw [if_pos rfl]
      rcases mPutI_c pl with e | e | e <;> rw [e]
      · rw [s2_s, s2_ok _ _ _ (by decide), s2_ok _ _ _ (by decide), i_add (by omega) (by omega)]; omega
      · rw [s2_s, s2_ok _ _ _ (by decide), s2_ok _ _ _ (by decide), i_add (by omega) (by omega)]; omega
      · rw [s2_s, s2_ok _ _ _ (by decide), s2_ok _ _ _ (by decide), i_add (by omega) (by omega)]; omega
    · rw [if_neg e]
      rcases mPutI_c pl with e' | e' | e' <;> rw [e']
      · rw [s2_k _ _ _ e, s2_ok _ _ _ (by decide), s2_ok _ _ _ (by decide)]; omega
      · rw [s2_k _ _ _ e, s2_ok _ _ _ (by decide), s2_ok _ _ _ (by decide)]; omega
      · rw [s2_k _ _ _ e, s2_ok _ _ _ (by decide), s2_ok _ _ _ (by decide)]; omega
  exact ⟨fun i hi => (key i hi).1, SI_d hsl (fun i hi => (key i hi).2)⟩
theorem SI_e {g g' : St} (h : ∀ o, 20 ≤ o → g' o = g o) : SI g' = SI g := by
  unfold SI sI
  rw [h 20 (by decide), h 21 (by decide), h 22 (by decide)]
theorem aOK_e {g g' : St} (h : ∀ o, 20 ≤ o → g' o = g o) (ha : aOK g) : aOK g' := fun s hs => by rw [h 20 (by decide), h 21 (by decide), h 22 (by decide)]; exact ha s hs
/-- what a jet throws is there, and no more than its flow -/
theorem amt_b {k : gC} {g : St} (hc : cfg k) (hr : rowsOK k g) (hw : 0 ≤ (g 0 5).toInt) {j : Nat} (hj : j < k.1) : 0 ≤ (amt k g j).toInt ∧ (amt k g j).toInt ≤ (mFlow k g j).toInt ∧ (amt k g j).toInt ≤ (g 0 5).toInt ∧ (amt k g j).toInt ≤ 20 := by
  obtain ⟨-, f0, f1⟩ := flow_b hc hr hj
  unfold amt
  by_cases h : mHt k g j ≤ 0
  · rw [if_pos h, i_0]; omega
  · rw [if_neg h]
    unfold mMuch
    by_cases h2 : g 0 5 < mFlow k g j
    · rw [if_pos h2]
      have := i_lt.mp h2
      omega
    · rw [if_neg h2]
      have : ¬ (g 0 5).toInt < (mFlow k g j).toInt := fun q => h2 (i_lt.mpr q)
      omega
theorem mThrow1_I {k : gC} {g : St} {j : Nat} (hc : cfg k) (hr : rowsOK k g) (hj : j < k.1) (ha : aOK g) (hw : 0 ≤ (g 0 5).toInt) (hb : SI g < 1000000) : aOK (mThrow1 k j g) ∧ SI (mThrow1 k j g) = SI g + (amt k g j).toInt ∧ (mThrow1 k j g 0 5).toInt = (g 0 5).toInt - (amt k g j).toInt ∧ 0 ≤ (mThrow1 k j g 0 5).toInt := by
  obtain ⟨b1, b2, b3, b4⟩ := amt_b hc hr hw hj
  have hJ := hc.2.1
  have l1 := i_hi (g 0 5)
  have ew : (mThrow1 k j g 0 5).toInt = (g 0 5).toInt - (amt k g j).toInt := by rw [mThrow1_5, i_sub (by omega) (by omega)]
  have key : aOK (mThrow1 k j g) ∧ SI (mThrow1 k j g) = SI g + (amt k g j).toInt := by
    unfold mThrow1
    have ea : amt k g j = if mHt k g j ≤ 0 then 0 else mMuch k g j := rfl
    by_cases h : mHt k g j ≤ 0
    · rw [if_pos h] at ea ⊢
      rw [ea, i_0]
      exact ⟨ha, by omega⟩
    · rw [if_neg h] at ea ⊢
      have e1 : ∀ o, 20 ≤ o → mTaken k g j o = g o := fun o ho => mTaken_o k g j (by omega) (by omega)
      have e2 := SI_e e1
      obtain ⟨p1, p2⟩ := put_I (g := mTaken k g j) (t := g 0 4 + mAir (mHt k g j)) (pl := mPlace k (mTaken k g j) j (mHt k g j)) (mu := mMuch k g j) (aOK_e e1 ha) (by rw [e2]; exact hb) (by rw [← ea]; exact b1) (by rw [← ea]; exact b4)
      exact ⟨p1, by rw [p2, e2, ea]⟩
  exact ⟨key.1, key.2, ew, by rw [ew]; omega⟩
/-- all that is thrown in a tick: the rows stay in their bounds, and no water is made -/
theorem thr_I {k : gC} {g : St} (hc : cfg k) (hr : rowsOK k g) (ha : aOK g) (hw : 0 ≤ (g 0 5).toInt) (hb : SI g + (g 0 5).toInt < 1000000) (n : Nat) (hn : n ≤ k.1) : rowsOK k (thr k g n) ∧ aOK (thr k g n) ∧ 0 ≤ (thr k g n 0 5).toInt ∧ SI (thr k g n) + (thr k g n 0 5).toInt = SI g + (g 0 5).toInt := by
  have hJ := hc.2.1
  induction n with
  | zero => exact ⟨hr, ha, hw, rfl⟩
  | succ n ih =>
    obtain ⟨c1, c2, c3, c4⟩ := ih (by omega)
    have hs0 := SI_0 c2
    obtain ⟨d1, d2, d3, d4⟩ := mThrow1_I hc c1 (j := n) (by omega) c2 c3 (by omega)
    obtain ⟨x1, x2, -⟩ := thr_x k g hc.2.2.1 (n + 1) hn hJ
    refine ⟨⟨fun p hp => ?_, fun j hj => ?_⟩, d1, d4, ?_⟩
    · rw [x1 _ (by omega)]; exact hr.1 p hp
    · obtain ⟨r1, r2, r3, r4⟩ := hr.2 j hj
      exact ⟨by rw [x2 j (by omega) 4 (by decide)]; exact r1, by rw [x2 j (by omega) 4 (by decide)]; exact r2, by rw [x2 j (by omega) 5 (by decide)]; exact r3, by rw [x2 j (by omega) 5 (by decide)]; exact r4⟩
    · show SI (mThrow1 k n (thr k g n)) + (mThrow1 k n (thr k g n) 0 5).toInt = _
      rw [d2, d3]; omega
