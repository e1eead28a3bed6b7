/-! WHAT THE LAW ASKS BEHIND EACH TICK -/
def arS (v : Nat → Int32) (i : Nat) : Nat → Int32 := fun z => if z < i then v z else 0
def arF (v : Nat → Int32) (i : Nat) : Nat → Int32 := fun z => if 1 ≤ z ∧ z < i then v z else 0
theorem ar_0 (v : Nat → Int32) : (fun _ => 0) = arS v 0 := by funext z; unfold arS; rw [if_neg (by omega)]
theorem ar_s (v : Nat → Int32) (i : Nat) : upd (arS v i) i (v i) = arS v (i + 1) := by
  funext z
  unfold upd arS
  by_cases h : z = i
  · subst h; rw [if_pos rfl, if_pos (by omega)]
  · rw [if_neg h]
    by_cases h2 : z < i
    · rw [if_pos h2, if_pos (by omega)]
    · rw [if_neg h2, if_neg (by omega)]
theorem ar_r (v : Nat → Int32) {i z : Nat} (h : z < i) : arS v i z = v z := if_pos h
theorem af_0 (v : Nat → Int32) : (fun _ => 0) = arF v (0 + 1) := by funext z; unfold arF; rw [if_neg (by omega)]
theorem af_s (v : Nat → Int32) (i : Nat) : upd (arF v (i + 1)) (i + 1) (v (i + 1)) = arF v (i + 1 + 1) := by
  funext z
  unfold upd arF
  by_cases h : z = i + 1
  · subst h; rw [if_pos rfl, if_pos (by omega)]
  · rw [if_neg h]
    by_cases h2 : 1 ≤ z ∧ z < i + 1
    · rw [if_pos h2, if_pos (by omega)]
    · rw [if_neg h2, if_neg (by omega)]
theorem i_asub (a b : Int32) : a + b - a = b := by
  rw [Int32.add_comm, Int32.sub_eq_add_neg, Int32.add_assoc, ← Int32.sub_eq_add_neg, Int32.sub_self, Int32.add_zero]
theorem it_addI {F : Nat → Int32} : ∀ n, n ≤ 100 → (∀ i, i < n → 0 ≤ (F i).toInt ∧ (F i).toInt ≤ 1000000) → (it (fun i a => a + F i) n (0 : Int32)).toInt = it (fun i (a : Int) => a + (F i).toInt) n 0 ∧ 0 ≤ it (fun i (a : Int) => a + (F i).toInt) n 0 ∧ it (fun i (a : Int) => a + (F i).toInt) n 0 ≤ 1000000 * n := by
  intro n
  induction n with
  | zero => intro _ _; rw [it_0, it_0, i_0]; exact ⟨rfl, by decide, by decide⟩
  | succ n ih =>
    intro hn hF
    obtain ⟨h1, h2, h3⟩ := ih (by omega) (fun i hi => hF i (by omega))
    obtain ⟨f1, f2⟩ := hF n (by omega)
    rw [it_s, it_s, i_add (by rw [h1]; omega) (by rw [h1]; omega), h1]
    omega
theorem mAll_I {g : St} (ha : aOK g) (hb : SI g < 1000000) : (mAll g).toInt = SI g := by
  have e : mAll g = it (fun i a => a + FI g i) 9 0 := rfl
  have h := it_addI (F := FI g) 9 (by decide) (fun i hi => by rw [FI_i ha hb hi]; exact ⟨sI_0 ha hi, Int.le_trans (sI_S ha hi) (by omega)⟩)
  rw [e, h.1]
  have e0 := FI_i ha hb (s := 0) (by decide)
  have e1 := FI_i ha hb (s := 1) (by decide)
  have e2 := FI_i ha hb (s := 2) (by decide)
  have e3 := FI_i ha hb (s := 3) (by decide)
  have e4 := FI_i ha hb (s := 4) (by decide)
  have e5 := FI_i ha hb (s := 5) (by decide)
  have e6 := FI_i ha hb (s := 6) (by decide)
  have e7 := FI_i ha hb (s := 7) (by decide)
  have e8 := FI_i ha hb (s := 8) (by decide)
  show ((((((((((0 : Int) + (FI g 0).toInt) + (FI g 1).toInt) + (FI g 2).toInt) + (FI g 3).toInt) + (FI g 4).toInt) + (FI g 5).toInt) + (FI g 6).toInt) + (FI g 7).toInt) + (FI g 8).toInt) = SI g
  unfold SI
  omega
/-- when water falls: by the tick, by the slot -/
theorem fall_n {k : gC} {g : St} {F : Int} {N i : Nat} (hI : Inv k g F N) (hi : i < 1000) : mFallIn g (g 0 4 + nI i) = FI g ((N + i) % 9) := by
  obtain ⟨-, -, -, -, -, -, -, -, -, e, hN, -⟩ := hI
  rw [mFallIn_e, e, nI_add, mSl_n (by omega)]
/-- in eight ticks all falls that is in the air -/
theorem falls_all {k : gC} {g : St} {F : Int} {N : Nat} (hI : Inv k g F N) : it (fun i a => a + mFallIn g (g 0 4 + nI (i + 1))) 8 0 = mAll g := by
  have hI' := hI
  obtain ⟨-, ha, h5, -, h6, h8, h7, hF, hF9, -, hN, -, -, ⟨z1, z2, z3⟩, -⟩ := hI'
  have hS0 := SI_0 ha
  have hb : SI g < 1000000 := by omega
  have e : it (fun i a => a + mFallIn g (g 0 4 + nI (i + 1))) 8 0 = it (fun i a => a + FI g ((N + (i + 1)) % 9)) 8 0 := it_congr (fun i hi w => by rw [fall_n hI (by omega)])
  rw [e]
  refine i_eq.mpr ?_
  have hm : ∀ i, (N + (i + 1)) % 9 < 9 := fun i => Nat.mod_lt _ (by decide)
  have h := it_addI (F := fun i => FI g ((N + (i + 1)) % 9)) 8 (by decide) (fun i hi => by rw [FI_i ha hb (hm i)]; exact ⟨sI_0 ha (hm i), Int.le_trans (sI_S ha (hm i)) (by omega)⟩)
  rw [h.1, mAll_I ha hb]
  have hz : sI g (N % 9) = 0 := by unfold sI; rw [z1, z2, z3, i_0]; rfl
  have e0 := FI_i ha hb (hm 0)
  have e1 := FI_i ha hb (hm 1)
  have e2 := FI_i ha hb (hm 2)
  have e3 := FI_i ha hb (hm 3)
  have e4 := FI_i ha hb (hm 4)
  have e5 := FI_i ha hb (hm 5)
  have e6 := FI_i ha hb (hm 6)
  have e7 := FI_i ha hb (hm 7)
  show (((((((((0 : Int) + (FI g ((N + (0 + 1)) % 9)).toInt) + (FI g ((N + (1 + 1)) % 9)).toInt) + (FI g ((N + (2 + 1)) % 9)).toInt) + (FI g ((N + (3 + 1)) % 9)).toInt) + (FI g ((N + (4 + 1)) % 9)).toInt) + (FI g ((N + (5 + 1)) % 9)).toInt) + (FI g ((N + (6 + 1)) % 9)).toInt) + (FI g ((N + (7 + 1)) % 9)).toInt) = SI g
  rw [e0, e1, e2, e3, e4, e5, e6, e7]
  have hr : N % 9 < 9 := Nat.mod_lt _ (by decide)
  obtain ⟨r, hr0⟩ : ∃ r, r = N % 9 := ⟨_, rfl⟩
  have q (i : Nat) : (N + (i + 1)) % 9 = (r + (i + 1)) % 9 := by omega
  rw [q 0, q 1, q 2, q 3, q 4, q 5, q 6, q 7]
  rw [← hr0] at hz hr
  unfold SI
  rcases c9 hr with rfl | rfl | rfl | rfl | rfl | rfl | rfl | rfl | rfl <;> simp only [Nat.reduceAdd, Nat.reduceMod, Nat.zero_add] <;> omega
/-- the place that the law puts it in -/
def ixJ (k : gC) (g' : St) (j : Nat) : Nat := (3 + mHt k g' j / 10).toNatClampNeg
theorem ix_e {k : gC} {g' : St} {j : Nat} (hc : cfg k) (hr : rowsOK k g') (hj : j < k.1) : ixJ k g' j = 3 + (mHt k g' j).toInt.toNat / 10 ∧ ixJ k g' j < 10 ∧ vp_in (3 + mHt k g' j / 10) 10 := by
  obtain ⟨h0, h1⟩ := mHt_b hc hr hj
  have hd : (mHt k g' j / 10).toInt = (mHt k g' j).toInt / 10 := by rw [i_dv h0 (by decide), c_10]
  have e : (3 + mHt k g' j / 10).toInt = 3 + (mHt k g' j).toInt / 10 := by rw [i_add (by rw [hd, c_3]; omega) (by rw [hd, c_3]; omega), hd, c_3]
  have e2 : ixJ k g' j = (3 + mHt k g' j / 10).toInt.toNat := rfl
  have e3 : ixJ k g' j = 3 + (mHt k g' j).toInt.toNat / 10 := by rw [e2, e]; omega
  refine ⟨e3, by rw [e3]; omega, fun q => ?_⟩
  rcases q with q | q
  · have := i_lt.mp q
    rw [e, i_0] at this
    omega
  · have : ixJ k g' j = (3 + mHt k g' j / 10).toNatClampNeg := rfl
    omega
/-- the law's row of what falls, with what was thrown in this tick -/
def flJ (k : gC) (g' : St) (mu : Nat → Int32) (n : Nat) (w : Nat → Int32) : Nat → Int32 := it (fun j w => if bz (g' (1 + k.2.1 j) 4) = 0 then upd w (ixJ k g' j) (w (ixJ k g' j) + mu j) else w) n w
def seenJ (k : gC) (g' : St) (mu : Nat → Int32) (n : Nat) : Int32 := it (fun j b => if bz (g' (1 + k.2.1 j) 4) = 0 then b else b &&& (if mu j = 0 then 1 else 0)) n 1
theorem seen_x {k : gC} {g' : St} {mu : Nat → Int32} : ∀ n, (seenJ k g' mu n = 0 ∨ seenJ k g' mu n = 1) ∧ (¬ seenJ k g' mu n = 0 → ∀ j, j < n → ¬ bz (g' (1 + k.2.1 j) 4) = 0 → mu j = 0) := by
  intro n
  induction n with
  | zero => exact ⟨Or.inr rfl, fun _ j hj => absurd hj (by omega)⟩
  | succ n ih =>
    obtain ⟨h1, h2⟩ := ih
    have e : seenJ k g' mu (n + 1) = if bz (g' (1 + k.2.1 n) 4) = 0 then seenJ k g' mu n else seenJ k g' mu n &&& (if mu n = 0 then 1 else 0) := rfl
    by_cases ht : bz (g' (1 + k.2.1 n) 4) = 0
    · rw [if_pos ht] at e
      rw [e]
      refine ⟨h1, fun q j hj hb => ?_⟩
      by_cases hjn : j = n
      · subst hjn; exact absurd ht hb
      · exact h2 q j (by omega) hb
    · rw [if_neg ht] at e
      by_cases hm : mu n = 0
      · rw [if_pos hm] at e
        have e' : seenJ k g' mu (n + 1) = seenJ k g' mu n := by rw [e]; rcases h1 with h1 | h1 <;> rw [h1] <;> decide
        rw [e']
        refine ⟨h1, fun q j hj hb => ?_⟩
        by_cases hjn : j = n
        · subst hjn; exact hm
        · exact h2 q j (by omega) hb
      · rw [if_neg hm] at e
        have e' : seenJ k g' mu (n + 1) = 0 := by rw [e]; rcases h1 with h1 | h1 <;> rw [h1] <;> decide
        rw [e']
        exact ⟨Or.inl rfl, fun q => absurd rfl q⟩
theorem fl_x {k : gC} {g' : St} {mu : Nat → Int32} {w : Nat → Int32} (z : Nat) : ∀ n, flJ k g' mu n w z = it (fun j a => a + (if bz (g' (1 + k.2.1 j) 4) = 0 ∧ z = ixJ k g' j then mu j else 0)) n (w z) := by
  intro n
  induction n with
  | zero => rfl
  | succ n ih =>
    have e : flJ k g' mu (n + 1) w = if bz (g' (1 + k.2.1 n) 4) = 0 then upd (flJ k g' mu n w) (ixJ k g' n) (flJ k g' mu n w (ixJ k g' n) + mu n) else flJ k g' mu n w := rfl
    rw [e, it_s, ← ih]
    by_cases ht : bz (g' (1 + k.2.1 n) 4) = 0
    · rw [if_pos ht]
      by_cases hz : z = ixJ k g' n
      · subst hz
        rw [if_pos ⟨ht, rfl⟩, u_e]
      · rw [if_neg (fun q => hz q.2), u_q _ _ hz, Int32.add_zero]
    · rw [if_neg ht, if_neg (fun q => ht q.1), Int32.add_zero]
/-- what falls was thrown, as long ago as it is high -/
theorem falls_seen {k : gC} {g g' : St} {F : Int} {N : Nat} {A : Nat → Int32} {S' : Nat → Nat} (hc : cfg k) (hI : Inv k g F N) (hI' : Inv k g' F (N + 1)) (hT : tickF k g g' A S' N) (hs : ¬ seenJ k g' A k.1 = 0) {i : Nat} (h1 : 1 ≤ i) (h8 : i ≤ 8) :
    mFallIn g' (g' 0 4 + nI i) = flJ k g' A k.1 (arF (fun z => mFallIn g (g 0 4 + nI z)) 9) (i + 1) := by
  obtain ⟨t1, t2, -⟩ := hT
  rw [fall_n hI' (by omega), fl_x, t2 _ (by omega)]
  have e0 : arF (fun z => mFallIn g (g 0 4 + nI z)) 9 (i + 1) = FI g ((N + 1 + i) % 9) := by
    unfold arF
    by_cases hi : i + 1 < 9
    · rw [if_pos ⟨by omega, hi⟩]
      show mFallIn g (g 0 4 + nI (i + 1)) = _
      rw [fall_n hI (by omega), show N + (i + 1) = N + 1 + i by omega]
    · rw [if_neg (fun q => hi q.2)]
      obtain ⟨-, -, -, -, -, -, -, -, -, -, -, -, -, ⟨z1, z2, z3⟩, -⟩ := hI
      rw [show (N + 1 + i) % 9 = N % 9 by omega]
      unfold FI
      rw [z1, z2, z3]
      rfl
  rw [e0]
  refine it_congr (fun j hj w => ?_)
  have hx := ix_e hc hI'.1 hj
  obtain ⟨-, -, -, -, -, -, -, -, -, -, -, hsl⟩ := t1 j hj
  obtain ⟨b0, b1⟩ := mHt_b hc hI'.1 hj
  by_cases ht : bz (g' (1 + k.2.1 j) 4) = 0
  · have hsl' := hsl ht
    by_cases hz : i + 1 = ixJ k g' j
    · rw [if_pos (show (N + 1 + i) % 9 = S' j by omega), if_pos ⟨ht, hz⟩]
    · rw [if_neg (show ¬ (N + 1 + i) % 9 = S' j by omega), if_neg (fun q => hz q.2)]
  · rw [(seen_x k.1).2 hs j hj ht, ite_self, ite_self]
theorem abs_le {d : Int32} {b : Int} (h1 : d.toInt ≤ b) (h2 : -d.toInt ≤ b) (hb : b ≤ 100) : (if 0 ≤ d then d else 0 - d).toInt ≤ b := by
  by_cases h : 0 ≤ d
  · rw [if_pos h]; exact h1
  · rw [if_neg h]
    have h3 : ¬ 0 ≤ d.toInt := fun q => h (i_le.mpr (by rw [i_0]; exact q))
    rw [i_sub] <;> rw [i_0] <;> omega
/-- jet by jet, in the law's words -/
theorem jet_I {k : gC} {g g' : St} {F : Int} {N : Nat} {A : Nat → Int32} {S' : Nat → Nat} (hc : cfg k) (hI : Inv k g F N) (hI' : Inv k g' F (N + 1)) (hT : tickF k g g' A S' N) {j : Nat} (hj : j < k.1) :
    g' (3 + j) 9 - g (3 + j) 9 = A j ∧ (¬ bz (g' (3 + j) 6) = 0 → ¬ (0 : Int32) < (if 0 ≤ g' (3 + j) 5 - g (3 + j) 5 then g' (3 + j) 5 - g (3 + j) 5 else 0 - (g' (3 + j) 5 - g (3 + j) 5))) ∧ ¬ (1 : Int32) < (if 0 ≤ g' (3 + j) 5 - g (3 + j) 5 then g' (3 + j) 5 - g (3 + j) 5 else 0 - (g' (3 + j) 5 - g (3 + j) 5)) ∧ (g (3 + j) 5 = g' (3 + j) 4 → g' (3 + j) 5 = g (3 + j) 5) ∧ ¬ (60 : Int32) < mHt k g' j ∧ ¬ mFlow k g' j < A j ∧ (¬ bz (g' (3 + j) 7) = 0 → bz (g (3 + j) 8) = 0) ∧ g' (3 + j) 8 = g (3 + j) 8 := by
  obtain ⟨t1, -⟩ := hT
  obtain ⟨a1, a2, a3, a4, a5, a6, a7, a8, a9, a10, a11, a12⟩ := t1 j hj
  obtain ⟨r1, r2, r3, r4⟩ := hI.1.2 j hj
  obtain ⟨s1, s2, s3, s4⟩ := hI'.1.2 j hj
  have ed : (g' (3 + j) 5 - g (3 + j) 5).toInt = (g' (3 + j) 5).toInt - (g (3 + j) 5).toInt := i_sub (by omega) (by omega)
  refine ⟨by rw [a3, i_asub], fun hst q => ?_, fun q => ?_, a10, fun q => ?_, fun q => ?_, fun q => a11.resolve_left q, a2⟩
  · have e5 := a7 (by rw [← a1]; exact hst)
    have := i_lt.mp q
    rw [e5, Int32.sub_self, if_pos (by decide)] at this
    exact absurd this (by decide)
  · have := i_lt.mp q
    have hb := abs_le (d := g' (3 + j) 5 - g (3 + j) 5) (b := 1) (by omega) (by omega) (by decide)
    rw [c_1] at this
    omega
  · have := i_lt.mp q
    have hb := mHby_60 (mPress k g' (k.2.1 j)) (g' (3 + j) 5)
    have e : mHt k g' j = mHby (mPress k g' (k.2.1 j)) (g' (3 + j) 5) := rfl
    rw [e, c_60] at this
    omega
  · have := i_lt.mp q
    omega
/-- pump by pump -/
theorem pump_I {k : gC} {g g' : St} {F : Int} {N : Nat} {A : Nat → Int32} {S' : Nat → Nat} (hI : Inv k g F N) (hI' : Inv k g' F (N + 1)) (hT : tickF k g g' A S' N) {p : Nat} (hp : p < 2) :
    (¬ bz (g' (1 + p) 4) = 0 → ¬ (0 : Int32) < g' (1 + p) 2 + g' (1 + p) 3 + mPress k g' p) ∧ (bz (g' (1 + p) 4) = 0 → ¬ (1 : Int32) < (if 0 ≤ g' (1 + p) 3 - g (1 + p) 3 then g' (1 + p) 3 - g (1 + p) 3 else 0 - (g' (1 + p) 3 - g (1 + p) 3))) ∧ (¬ 300 ≤ g' 0 5 → g' (1 + p) 3 ≤ 0) := by
  obtain ⟨-, -, t3, -⟩ := hT
  obtain ⟨q1, q2, q3, q4, q5⟩ := hI'.1.1 p hp
  obtain ⟨u1, u2, u3, u4, u5⟩ := hI.1.1 p hp
  refine ⟨fun ht => ?_, fun ht q => ?_, fun hw => ?_⟩
  · obtain ⟨e1, e2⟩ := q5 ht
    have ep : mPress k g' p = 0 := by
      unfold mPress mPby
      rw [e2, Int32.mul_zero, Int32.zero_mul, Int32.zero_div, ite_self]
    rw [e1, e2, ep]
    decide
  · obtain ⟨-, b1, b2, -⟩ := t3 p hp ht
    have ed : (g' (1 + p) 3 - g (1 + p) 3).toInt = (g' (1 + p) 3).toInt - (g (1 + p) 3).toInt := i_sub (by omega) (by omega)
    have := i_lt.mp q
    have hb := abs_le (d := g' (1 + p) 3 - g (1 + p) 3) (b := 1) (by omega) (by omega) (by decide)
    rw [c_1] at this
    omega
  · by_cases ht : bz (g' (1 + p) 4) = 0
    · obtain ⟨-, -, -, b3⟩ := t3 p hp ht
      have hw' : ¬ (300 : Int) ≤ (g' 0 5).toInt := fun q => hw (i_le.mpr (by rw [c_300]; exact q))
      refine i_le.mpr ?_
      rw [i_0]
      omega
    · rw [(q5 ht).2]
      decide
/-- energy, in the law's words -/
def lEn (g' : St) (e : Int32) (n : Nat) : Int32 := it (fun p e => e + (if bz (g' (1 + p) 4) = 0 then g' (1 + p) 3 * g' (1 + p) 3 else 0)) n e
theorem en_I {k : gC} {g g' : St} {F : Int} {N : Nat} {A : Nat → Int32} {S' : Nat → Nat} (hI : Inv k g F N) (hI' : Inv k g' F (N + 1)) (hT : tickF k g g' A S' N) : ¬ g' 0 9 < lEn g' (g 0 9) 2 := by
  obtain ⟨-, -, -, t4⟩ := hT
  have hr := hI'.1.1
  obtain ⟨-, -, -, -, -, -, -, -, -, -, hN, h9, h9b, -⟩ := hI
  have sq : ∀ p, p < 2 → (if bz (g' (1 + p) 4) = 0 then g' (1 + p) 3 * g' (1 + p) 3 else 0 : Int32).toInt = (if bz (g' (1 + p) 4) = 0 then (g' (1 + p) 3).toInt * (g' (1 + p) 3).toInt else 0) ∧ 0 ≤ (if bz (g' (1 + p) 4) = 0 then (g' (1 + p) 3).toInt * (g' (1 + p) 3).toInt else 0) ∧ (if bz (g' (1 + p) 4) = 0 then (g' (1 + p) 3).toInt * (g' (1 + p) 3).toInt else 0) ≤ 100 := by
    intro p hp
    obtain ⟨-, -, a1, a2, -⟩ := hr p hp
    obtain ⟨s1, s2⟩ := sq_b a1 a2
    by_cases h : bz (g' (1 + p) 4) = 0
    · rw [if_pos h, if_pos h]
      exact ⟨i_mul (by omega) (by omega), s1, s2⟩
    · rw [if_neg h, if_neg h]
      exact ⟨rfl, by decide, by decide⟩
  obtain ⟨a1, a2, a3⟩ := sq 0 (by decide)
  obtain ⟨b1, b2, b3⟩ := sq 1 (by decide)
  have e : lEn g' (g 0 9) 2 = g 0 9 + (if bz (g' (1 + 0) 4) = 0 then g' (1 + 0) 3 * g' (1 + 0) 3 else 0) + (if bz (g' (1 + 1) 4) = 0 then g' (1 + 1) 3 * g' (1 + 1) 3 else 0) := rfl
  intro q
  have h := i_lt.mp q
  have e1 : (g 0 9 + (if bz (g' (1 + 0) 4) = 0 then g' (1 + 0) 3 * g' (1 + 0) 3 else 0 : Int32)).toInt = (g 0 9).toInt + (if bz (g' (1 + 0) 4) = 0 then (g' (1 + 0) 3).toInt * (g' (1 + 0) 3).toInt else 0) := by rw [i_add (by rw [a1]; omega) (by rw [a1]; omega), a1]
  rw [e, i_add (by rw [e1, b1]; omega) (by rw [e1, b1]; omega), e1, b1] at h
  have t4' : (g 0 9).toInt + (if bz (g' (1 + 0) 4) = 0 then (g' (1 + 0) 3).toInt * (g' (1 + 0) 3).toInt else 0) + (if bz (g' (1 + 1) 4) = 0 then (g' (1 + 1) 3).toInt * (g' (1 + 1) 3).toInt else 0) ≤ (g' 0 9).toInt := t4
  omega
