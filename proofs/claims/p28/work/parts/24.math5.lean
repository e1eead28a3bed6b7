/-! A TICK, WHOLE -/
theorem nI_t {n : Nat} (h : n < 2147483648) : (nI n).toInt = n := nI_toInt (by omega)
theorem mSl_n {n : Nat} (h : n < 1000000) : mSl (nI n) = n % 9 := by
  have h1 : mFm (nI n) 9 = nI (n % 9) := mFm_n (b := 9) (by omega) (by decide) (by decide)
  unfold mSl
  rw [h1, nI_clamp (by omega)]
/-- F: all water that was ever put in; N: the ticks so far -/
def Inv (k : gC) (g : St) (F : Int) (N : Nat) : Prop :=
  rowsOK k g ∧ aOK g ∧ 0 ≤ (g 0 5).toInt ∧ (g 0 5).toInt ≤ 9000 ∧ 0 ≤ (g 0 6).toInt ∧ 0 ≤ (g 0 8).toInt ∧ (g 0 8).toInt ≤ (g 0 7).toInt ∧ (g 0 5).toInt + SI g + (g 0 7).toInt + (g 0 6).toInt = F ∧ F ≤ 500000 ∧ g 0 4 = nI N ∧ N ≤ 4000 ∧ 0 ≤ (g 0 9).toInt ∧ (g 0 9).toInt ≤ 300 * N ∧ (g 20 (N % 9) = 0 ∧ g 21 (N % 9) = 0 ∧ g 22 (N % 9) = 0) ∧ (g 0 12).toInt ≤ 4
theorem mTick0_x {k : gC} {h : gK} {g : St} (hc : cfg k) (hs : stepOK h) (hh : callsOK h) (hr : rowsOK k g) :
    rowsOK k (mTick0 k h g) ∧ (∀ o, 20 ≤ o → mTick0 k h g o = g o) ∧ mTick0 k h g 0 4 = g 0 4 + 1 ∧ (∀ q, q ≠ 4 → mTick0 k h g 0 q = g 0 q) ∧
    (∀ p, p < 2 → mTick0 k h g (1 + p) 4 = g (1 + p) 4 ∧ (bz (g (1 + p) 4) = 0 → ((mTick0 k h g (1 + p) 3).toInt - (g (1 + p) 3).toInt ≤ 1 ∧ (g (1 + p) 3).toInt - (mTick0 k h g (1 + p) 3).toInt ≤ 1))) ∧
    ∀ j, j < k.1 → mTick0 k h g (3 + j) 6 = g (3 + j) 6 ∧ mTick0 k h g (3 + j) 8 = g (3 + j) 8 ∧ mTick0 k h g (3 + j) 9 = g (3 + j) 9 ∧
      (¬ bz (g (3 + j) 6) = 0 → mTick0 k h g (3 + j) 5 = g (3 + j) 5) ∧ (mTick0 k h g (3 + j) 5).toInt - (g (3 + j) 5).toInt ≤ 1 ∧ (g (3 + j) 5).toInt - (mTick0 k h g (3 + j) 5).toInt ≤ 1 ∧ (g (3 + j) 5 = mTick0 k h g (3 + j) 4 → mTick0 k h g (3 + j) 5 = g (3 + j) 5) := by
  have hJ := hc.2.1
  obtain ⟨r1, k1, k2, k3⟩ := gStp_k hc hs hh hr
  obtain ⟨t1, t2, t3⟩ := mTurns_x k (gStp k h g)
  refine ⟨mTick0_r hc hs hh hr, fun o ho => ?_, ?_, fun q hq => ?_, fun p hp => ?_, fun j hj => ?_⟩
  · rw [mTick0_e, t3 o (by omega), k1 o (by omega)]
    exact s2_o _ _ _ (by omega)
  · rw [mTick0_e, t3 0 (by omega), k1 0 (by omega)]
    exact s2_s _ _ _ _
  · rw [mTick0_e, t3 0 (by omega), k1 0 (by omega)]
    exact s2_k _ _ _ hq
  · obtain ⟨e1, e2, e3⟩ := k2 p hp
    have n3 : gNow g (1 + p) = g (1 + p) := s2_o _ _ _ (by omega)
    rw [n3] at e1 e2 e3
    refine ⟨?_, fun ht => ?_⟩
    · rw [mTick0_e, t1 p hp, mPT_q _ _ (by decide), e2]
    · obtain ⟨a1, a2, a3, a4, -⟩ := r1.1 p hp
      rw [mTick0_e, t1 p hp, mPT_d (by rw [e2]; exact ht)]
      have h3 : (gStp k h g (1 + p) 3).toInt = (g (1 + p) 3).toInt := by rw [e1]
      rcases mNear_b (a := gStp k h g (1 + p) 3) (b := gStp k h g (1 + p) 2) rfl rfl a3 a4 a1 a2 with ⟨b1, b2⟩ | ⟨b1, b2⟩ | ⟨b1, b2⟩ <;> rw [b2] <;> omega
  · obtain ⟨e5, e6, e8, e9⟩ := k3 j (by omega)
    have n3 : gNow g (3 + j) = g (3 + j) := s2_o _ _ _ (by omega)
    rw [n3] at e5 e6 e8 e9
    obtain ⟨a1, a2, a3, a4⟩ := r1.2 j hj
    have h5 : (gStp k h g (3 + j) 5).toInt = (g (3 + j) 5).toInt := by rw [e5]
    rw [mTick0_e, t2 j hj]
    by_cases hst : bz (g (3 + j) 6) = 0
    · have q5 := mJT_d (g := gStp k h g) (j := j) (by rw [e6]; exact hst)
      have q4 : mJTurn (gStp k h g) j (3 + j) 4 = gStp k h g (3 + j) 4 := mJT_q _ _ (by decide)
      have nb := mNear_b (a := gStp k h g (3 + j) 5) (b := gStp k h g (3 + j) 4) rfl rfl a3 (by omega) a1 (by omega)
      refine ⟨by rw [mJT_q _ _ (by decide), e6], by rw [mJT_q _ _ (by decide), e8], by rw [mJT_q _ _ (by decide), e9], fun q => absurd hst q, ?_, ?_, fun q => ?_⟩
      · rw [q5]; rcases nb with ⟨b1, b2⟩ | ⟨b1, b2⟩ | ⟨b1, b2⟩ <;> rw [b2] <;> omega
      · rw [q5]; rcases nb with ⟨b1, b2⟩ | ⟨b1, b2⟩ | ⟨b1, b2⟩ <;> rw [b2] <;> omega
      · rw [q4] at q
        have q' : (gStp k h g (3 + j) 5).toInt = (gStp k h g (3 + j) 4).toInt := by rw [e5, q]
        rw [q5]
        rcases nb with ⟨b1, b2⟩ | ⟨b1, b2⟩ | ⟨b1, b2⟩
        · omega
        · omega
        · rw [b2, q]
    · have q5 := mJT_t (g := gStp k h g) (j := j) (by rw [e6]; exact hst)
      rw [q5]
      exact ⟨e6, e8, e9, fun _ => e5, by omega, by omega, fun _ => e5⟩
/-- what a tick does, from the outside -/
def tickF (k : gC) (g g' : St) (amt' : Nat → Int32) (sl' : Nat → Nat) (N : Nat) : Prop :=
  (∀ j, j < k.1 → g' (3 + j) 6 = g (3 + j) 6 ∧ g' (3 + j) 8 = g (3 + j) 8 ∧ g' (3 + j) 9 = g (3 + j) 9 + amt' j ∧ 0 ≤ (amt' j).toInt ∧ (amt' j).toInt ≤ (mFlow k g' j).toInt ∧ (amt' j).toInt ≤ 20 ∧
    (¬ bz (g (3 + j) 6) = 0 → g' (3 + j) 5 = g (3 + j) 5) ∧ (g' (3 + j) 5).toInt - (g (3 + j) 5).toInt ≤ 1 ∧ (g (3 + j) 5).toInt - (g' (3 + j) 5).toInt ≤ 1 ∧ (g (3 + j) 5 = g' (3 + j) 4 → g' (3 + j) 5 = g (3 + j) 5) ∧ (bz (g' (3 + j) 7) = 0 ∨ bz (g (3 + j) 8) = 0) ∧
    (bz (g' (1 + k.2.1 j) 4) = 0 → sl' j = (N + 1 + 2 + (mHt k g' j).toInt.toNat / 10) % 9)) ∧
  (∀ s, s ≠ (N + 1) % 9 → FI g' s = it (fun j a => a + (if s = sl' j then amt' j else 0)) k.1 (FI g s)) ∧
  (∀ p, p < 2 → (bz (g' (1 + p) 4) = 0 → bz (g (1 + p) 4) = 0 ∧ (g' (1 + p) 3).toInt - (g (1 + p) 3).toInt ≤ 1 ∧ (g (1 + p) 3).toInt - (g' (1 + p) 3).toInt ≤ 1 ∧ ¬ ((g' 0 5).toInt < 300 ∧ 0 < (g' (1 + p) 3).toInt))) ∧
  (g 0 9).toInt + (if bz (g' 1 4) = 0 then (g' 1 3).toInt * (g' 1 3).toInt else 0) + (if bz (g' 2 4) = 0 then (g' 2 3).toInt * (g' 2 3).toInt else 0) ≤ (g' 0 9).toInt
theorem sq_b {x : Int} (h0 : 0 ≤ x) (h1 : x ≤ 10) : 0 ≤ x * x ∧ x * x ≤ 100 := m_b h0 h0 h1 h1
set_option maxHeartbeats 4000000 in
theorem tick_I {k : gC} {h : gK} {g : St} {F : Int} {N : Nat} (hc : cfg k) (hs : stepOK h) (hh : callsOK h) (hI : Inv k g F N) (hN : N < 4000) :
    Inv k (mTick k h g) F (N + 1) ∧ mDown k h g = FI g ((N + 1) % 9) ∧ tickF k g (mTick k h g) (amtA k (mFall (mTick0 k h g))) (slotJ k (mFall (mTick0 k h g))) N := by
  have hJ := hc.2.1
  obtain ⟨i1, i2, i3, i4, i5, i6, i7, i8, i9, i10, i11, i12, i13, i14, i15⟩ := hI
  obtain ⟨z1, z2, z3, z4, z5, z6⟩ := mTick0_x hc hs hh i1
  obtain ⟨gA, hA⟩ : ∃ z, z = mTick0 k h g := ⟨_, rfl⟩
  rw [← hA] at z1 z2 z3 z4 z5 z6
  have eN : gA 0 4 = nI (N + 1) := by rw [z3, i10, nI_1]
  have esN : sN gA = (N + 1) % 9 := by show mSl (gA 0 4) = _; rw [eN, mSl_n (by omega)]
  -- the fall
  have eS0 : SI gA = SI g := SI_e z2
  have f0 := fall_I (g := gA) (aOK_e z2 i2) (by rw [z4 5 (by decide)]; exact i3) (by rw [z4 5 (by decide)]; exact i4) (by rw [z4 6 (by decide)]; exact i5) (by rw [z4 8 (by decide)]; exact i6) (by rw [z4 8 (by decide), z4 7 (by decide)]; exact i7) (F := F) (by rw [eS0, z4 5 (by decide), z4 6 (by decide), z4 7 (by decide)]; exact i8) i9
  obtain ⟨f1, f2, f3, f4, f5, f6, f7⟩ := f0
  obtain ⟨w1, w2, w3, w4, w5, w6, w7, w8, w9, w10⟩ := mFall_x gA
  obtain ⟨gB, hB⟩ : ∃ z, z = mFall gA := ⟨_, rfl⟩
  rw [← hB] at f1 f2 f3 f4 f5 f6 f7 w1 w2 w3 w4 w5 w6 w7 w8 w9 w10
  have rB : rowsOK k gB := rows_x z1 (fun p hp => w1 _ (by omega) (by omega)) (fun j hj => w1 _ (by omega) (by omega))
  -- the throw
  have bS : SI gB + (gB 0 5).toInt < 1000000 := by omega
  obtain ⟨t1, t2, t3, t4⟩ := thr_I hc rB f1 f2 bS k.1 (Nat.le_refl _)
  obtain ⟨x1, x2, x3, x4, x5, x6⟩ := thr_x k gB hc.2.2.1 k.1 (Nat.le_refl _) hJ
  obtain ⟨gT, hT⟩ : ∃ z, z = thr k gB k.1 := ⟨_, rfl⟩
  have hT' : mThrow k gB = gT := by rw [hT]; rfl
  rw [← hT] at t1 t2 t3 t4 x1 x2 x3 x4 x5 x6
  -- energy
  obtain ⟨y1, y2, b, y3, y4, y5⟩ := en_x k gT
  obtain ⟨gE, hE⟩ : ∃ z, z = mEnergy k gT := ⟨_, rfl⟩
  rw [← hE] at y1 y2 y5
  -- dry
  obtain ⟨d1, d2⟩ := dry_x gE
  obtain ⟨gD', hD⟩ : ∃ z, z = mDry gE := ⟨_, rfl⟩
  rw [← hD] at d1 d2
  -- lamps
  obtain ⟨l1, l2, l3, l4⟩ := lamp_x (g := gD') hJ
  obtain ⟨gL, hL⟩ : ∃ z, z = mTick k h g := ⟨_, rfl⟩
  have hL' : mLamp k gD' = gL := by rw [hL, hD, hE, ← hT', hB, hA]; rfl
  rw [hL'] at l1 l2 l3 l4
  rw [← hA, ← hB, ← hL]
  -- the rows of the end
  have eP : ∀ p, p < 2 → gL (1 + p) = gD' (1 + p) := fun p hp => l1 _ ⟨by omega, by omega⟩
  have eAir : ∀ o, 20 ≤ o → gL o = gT o := fun o ho => by rw [l1 o ⟨by omega, by omega⟩, d1 o (by omega), y1 o (by omega)]
  have eT1 : ∀ p, p < 2 → gE (1 + p) = gA (1 + p) := fun p hp => by rw [y1 _ (by omega), x1 _ (by omega), w1 _ (by omega) (by omega)]
  have e0 : ∀ q, q ≠ 9 → q ≠ 10 → q ≠ 11 → gL 0 q = gT 0 q := fun q h9 h10 h11 => by rw [l2 q h10 h11, d1 0 (Or.inl rfl), y2 q h9]
  have e09 : gL 0 9 = gE 0 9 := by rw [l2 9 (by decide) (by decide), d1 0 (Or.inl rfl)]
  have eJ : ∀ j, j < k.1 → ∀ q, q ≠ 7 → q ≠ 9 → gL (3 + j) q = gA (3 + j) q := fun j hj q h7 h9 => by rw [l3 j hj q h7, d1 _ (by omega), y1 _ (by omega), x2 j (by omega) q h9, w1 _ (by omega) (by omega)]
  have eJ9 : ∀ j, j < k.1 → gL (3 + j) 9 = gA (3 + j) 9 + amtA k gB j := fun j hj => by rw [l3 j hj 9 (by decide), d1 _ (by omega), y1 _ (by omega), x5 j hj, w1 _ (by omega) (by omega)]
  have eS : SI gL = SI gT := SI_e eAir
  -- the pumps
  have hP : ∀ p, p < 2 → (gL (1 + p) = gA (1 + p) ∧ ¬ (gE 0 5 < 300 ∧ ¬ gA (1 + p) 3 ≤ 0)) ∨ (gL (1 + p) 2 = 0 ∧ gL (1 + p) 3 = 0 ∧ gL (1 + p) 4 = 1) := fun p hp => by
    have := d2 p hp
    rw [eT1 p hp] at this
    rw [eP p hp]
    exact this
  have rL : rowsOK k gL := by
    refine ⟨fun p hp => ?_, fun j hj => ?_⟩
    · rcases hP p hp with ⟨q1, -⟩ | ⟨q1, q2, q3⟩
      · rw [q1]; exact z1.1 p hp
      · exact ⟨by rw [q1]; decide, by rw [q1]; decide, by rw [q2]; decide, by rw [q2]; decide, fun _ => ⟨q1, q2⟩⟩
    · obtain ⟨a1, a2, a3, a4⟩ := z1.2 j hj
      exact ⟨by rw [eJ j hj 4 (by decide) (by decide)]; exact a1, by rw [eJ j hj 4 (by decide) (by decide)]; exact a2, by rw [eJ j hj 5 (by decide) (by decide)]; exact a3, by rw [eJ j hj 5 (by decide) (by decide)]; exact a4⟩
  -- energy in whole numbers
  have dA : ∀ p, p < 2 → 0 ≤ (gA (1 + p) 3).toInt ∧ (gA (1 + p) 3).toInt ≤ 10 := fun p hp => ⟨(z1.1 p hp).2.2.1, (z1.1 p hp).2.2.2.1⟩
  have hx0 : gT 1 3 = gA 1 3 := by rw [x1 1 (Or.inl rfl), w1 1 (by decide) (by decide)]
  have hx1 : gT 2 3 = gA 2 3 := by rw [x1 2 (Or.inr rfl), w1 2 (by decide) (by decide)]
  obtain ⟨da1, da2⟩ : 0 ≤ (gA 1 3).toInt ∧ (gA 1 3).toInt ≤ 10 := dA 0 (by decide)
  obtain ⟨db1, db2⟩ : 0 ≤ (gA 2 3).toInt ∧ (gA 2 3).toInt ≤ 10 := dA 1 (by decide)
  obtain ⟨sa1, sa2⟩ := sq_b da1 da2
  obtain ⟨sb1, sb2⟩ := sq_b db1 db2
  have eT9 : gT 0 9 = g 0 9 := by rw [x3 9 (by decide), w2 9 (by decide) (by decide) (by decide) (by decide), z4 9 (by decide)]
  have eEn : (gL 0 9).toInt = (g 0 9).toInt + (gA 1 3).toInt * (gA 1 3).toInt + (gA 2 3).toInt * (gA 2 3).toInt + b.toInt := by
    have m1 : (gA 1 3 * gA 1 3).toInt = (gA 1 3).toInt * (gA 1 3).toInt := i_mul (by omega) (by omega)
    have m2 : (gA 2 3 * gA 2 3).toInt = (gA 2 3).toInt * (gA 2 3).toInt := i_mul (by omega) (by omega)
    have n1 : (g 0 9 + gA 1 3 * gA 1 3).toInt = (g 0 9).toInt + (gA 1 3).toInt * (gA 1 3).toInt := by rw [i_add (by omega) (by omega), m1]
    have n2 : (g 0 9 + gA 1 3 * gA 1 3 + gA 2 3 * gA 2 3).toInt = (g 0 9).toInt + (gA 1 3).toInt * (gA 1 3).toInt + (gA 2 3).toInt * (gA 2 3).toInt := by rw [i_add (by omega) (by omega), n1, m2]
    rw [e09, y5, hx0, hx1, eT9, i_add (by omega) (by omega), n2]
  have hW : ∀ q, q ≠ 5 → gT 0 q = gB 0 q := x3
  refine ⟨⟨rL, aOK_e eAir t2, ?_, ?_, ?_, ?_, ?_, ?_, i9, ?_, by omega, ?_, ?_, ?_, ?_⟩, ?_, ?_, ?_, ?_, ?_⟩
  · rw [e0 5 (by decide) (by decide) (by decide)]; exact t3
  · rw [e0 5 (by decide) (by decide) (by decide)]
    have := SI_0 t2
    have h9 : (gT 0 5).toInt ≤ (gB 0 5).toInt := by
      have key : ∀ n, n ≤ k.1 → (thr k gB n 0 5).toInt ≤ (gB 0 5).toInt := by
        intro n
        induction n with
        | zero => intro _; exact Int.le_refl _
        | succ n ih =>
          intro hn
          obtain ⟨c1, c2, c3, c4⟩ := thr_I hc rB f1 f2 bS n (by omega)
          have := SI_0 c2
          obtain ⟨v1, v2, v3, v4⟩ := mThrow1_I hc c1 (j := n) (by omega) c2 c3 (by omega)
          obtain ⟨u1, -⟩ := amt_b hc c1 c3 (j := n) (by omega)
          have := ih (by omega)
          show (mThrow1 k n (thr k gB n) 0 5).toInt ≤ _
          omega
      rw [hT]; exact key k.1 (Nat.le_refl _)
    omega
  · rw [e0 6 (by decide) (by decide) (by decide), hW 6 (by decide)]; exact f4
  · rw [e0 8 (by decide) (by decide) (by decide), hW 8 (by decide)]; exact f5
  · rw [e0 8 (by decide) (by decide) (by decide), hW 8 (by decide), e0 7 (by decide) (by decide) (by decide), hW 7 (by decide)]; exact f6
  · rw [eS, e0 5 (by decide) (by decide) (by decide), e0 6 (by decide) (by decide) (by decide), e0 7 (by decide) (by decide) (by decide), hW 6 (by decide), hW 7 (by decide)]
    omega
  · rw [e0 4 (by decide) (by decide) (by decide), hW 4 (by decide), w2 4 (by decide) (by decide) (by decide) (by decide), eN]
  · rw [eEn]; omega
  · rw [eEn]; omega
  · -- the slot of now is empty
    have hz : ∀ a, (a = 20 ∨ a = 21 ∨ a = 22) → gL a ((N + 1) % 9) = 0 := by
      intro a ha
      have key : ∀ n, n ≤ k.1 → thr k gB n a ((N + 1) % 9) = 0 := by
        intro n
        induction n with
        | zero =>
          intro _
          show gB a ((N + 1) % 9) = 0
          rw [← esN]
          rcases ha with rfl | rfl | rfl
          · exact w8
          · exact w9
          · exact w10
        | succ n ih =>
          intro hn
          have e1 := ih (by omega)
          obtain ⟨c1, c2, c3, c4⟩ := thr_I hc rB f1 f2 bS n (by omega)
          obtain ⟨v1, v2, v3, -⟩ := thr_x k gB hc.2.2.1 n (by omega) hJ
          show mThrow1 k n (thr k gB n) a ((N + 1) % 9) = 0
          unfold mThrow1
          split
          · exact e1
          · rename_i hne
            obtain ⟨p0, p1⟩ := mHt_b hc c1 (j := n) (by omega)
            obtain ⟨q, hq, eq⟩ : ∃ q : Nat, q ≤ 60 ∧ mHt k (thr k gB n) n = nI q := by
              refine ⟨(mHt k (thr k gB n) n).toInt.toNat, by omega, i_eq.mpr ?_⟩
              rw [nI_t (by omega)]; omega
            have e4 : thr k gB n 0 4 = nI (N + 1) := by rw [v3 4 (by decide), w2 4 (by decide) (by decide) (by decide) (by decide), eN]
            have eA : thr k gB n 0 4 + mAir (mHt k (thr k gB n) n) = nI (N + 1 + (2 + q / 10)) := by
              rw [e4, eq]
              have : mAir (nI q) = nI (2 + q / 10) := by
                unfold mAir
                refine i_eq.mpr ?_
                have hd : (nI q / 10).toInt = q / 10 := by rw [i_dv (by rw [nI_t (by omega)]; omega) (by decide), nI_t (by omega), c_10]
                rw [i_add (by rw [hd, c_2]; omega) (by rw [hd, c_2]; omega), hd, c_2, nI_t (by omega)]
                omega
              rw [this, nI_add]
            rw [eA]
            unfold mPut
            rw [mSl_n (by omega)]
            have hne2 : (N + 1) % 9 ≠ (N + 1 + (2 + q / 10)) % 9 := by omega
            have ek : mTaken k (thr k gB n) n a ((N + 1) % 9) = 0 := by rw [mTaken_o _ _ _ (by omega) (by omega)]; exact e1
            by_cases hr : a = mPutI (mPlace k (mTaken k (thr k gB n) n) n (mHt k (thr k gB n) n))
            · subst hr
              rw [s2_k _ _ _ hne2]; exact ek
            · rw [s2_ok _ _ _ hr]; exact ek
      rw [eAir a (by omega), hT]
      exact key k.1 (Nat.le_refl _)
    exact ⟨hz 20 (by simp), hz 21 (by simp), hz 22 (by simp)⟩
  · rw [e0 12 (by decide) (by decide) (by decide), hW 12 (by decide), w2 12 (by decide) (by decide) (by decide) (by decide), z4 12 (by decide)]; exact i15
  · -- what comes down
    unfold mDown
    rw [← hA, mFallIn_e, eN, mSl_n (by omega)]
    exact FI_e z2 _
  · -- jet by jet
    intro j hj
    obtain ⟨q1, q2, q3, q4, q5, q6, q7⟩ := z6 j hj
    have ht := thr_I hc rB f1 f2 bS j (by omega)
    obtain ⟨am1, am2, am3, am4⟩ := amt_b hc ht.1 ht.2.2.1 (j := j) hj
    have eF : mFlow k (thr k gB j) j = mFlow k gL j := by
      unfold mFlow
      rw [(thr_x k gB hc.2.2.1 j (by omega) hJ).2.1 j (by omega) 5 (by decide), w1 _ (by omega) (by omega), eJ j hj 5 (by decide) (by decide)]
    refine ⟨by rw [eJ j hj 6 (by decide) (by decide), q1], by rw [eJ j hj 8 (by decide) (by decide), q2], by rw [eJ9 j hj, q3], am1, by rw [← eF]; exact am2, am4, ?_, ?_, ?_, ?_, ?_, fun htr => ?_⟩
    · rw [eJ j hj 5 (by decide) (by decide)]; exact q4
    · rw [eJ j hj 5 (by decide) (by decide)]; exact q5
    · rw [eJ j hj 5 (by decide) (by decide)]; exact q6
    · rw [eJ j hj 5 (by decide) (by decide), eJ j hj 4 (by decide) (by decide)]; exact q7
    · have := l4 j hj
      rw [d1 _ (by omega), y1 _ (by omega), x2 j (by omega) 8 (by decide), w1 _ (by omega) (by omega), q2] at this
      exact this
    · have hpp := hc.2.2.1 j hj
      have eH : mHt k gL j = mHt k gB j := by
        refine mHt_e (fun i hi => by rw [eJ i hi 5 (by decide) (by decide), w1 _ (by omega) (by omega)]) hj ?_
        rcases hP _ hpp with ⟨r1, -⟩ | ⟨-, -, r3⟩
        · rw [r1, w1 _ (by omega) (by omega)]
        · rw [r3] at htr
          exact absurd htr (by decide)
      rw [eH]
      obtain ⟨p0, p1⟩ := mHt_b hc rB hj
      obtain ⟨q, hq, eq⟩ : ∃ q : Nat, q ≤ 60 ∧ mHt k gB j = nI q := by
        refine ⟨(mHt k gB j).toInt.toNat, by omega, i_eq.mpr ?_⟩
        rw [nI_t (by omega)]; omega
      have e4 : gB 0 4 = nI (N + 1) := by rw [w2 4 (by decide) (by decide) (by decide) (by decide), eN]
      have eA : gB 0 4 + mAir (mHt k gB j) = nI (N + 1 + (2 + q / 10)) := by
        rw [e4, eq]
        have : mAir (nI q) = nI (2 + q / 10) := by
          unfold mAir
          refine i_eq.mpr ?_
          have hd : (nI q / 10).toInt = q / 10 := by rw [i_dv (by rw [nI_t (by omega)]; omega) (by decide), nI_t (by omega), c_10]
          rw [i_add (by rw [hd, c_2]; omega) (by rw [hd, c_2]; omega), hd, c_2, nI_t (by omega)]
          omega
        rw [this, nI_add]
      show mSl (gB 0 4 + mAir (mHt k gB j)) = _
      rw [eA, mSl_n (by omega), eq, nI_t (by omega)]
      congr 1
      omega
  · intro s hs'
    have e1 : FI gL s = FI gT s := FI_e eAir s
    have e2 : FI gB s = FI g s := by
      obtain ⟨u1, u2, u3⟩ := w7 s (by rw [esN]; exact hs')
      unfold FI
      rw [u1, u2, u3, z2 20 (by decide), z2 21 (by decide), z2 22 (by decide)]
    rw [e1, x6 s, e2]
  · intro p hp htr
    rcases hP p hp with ⟨r1, r2⟩ | ⟨-, -, r3⟩
    · rw [r1] at htr ⊢
      obtain ⟨u1, u2⟩ := z5 p hp
      rw [u1] at htr
      obtain ⟨v1, v2⟩ := u2 htr
      refine ⟨htr, v1, v2, fun q => r2 ⟨?_, fun q2 => ?_⟩⟩
      · rw [e0 5 (by decide) (by decide) (by decide)] at q
        rw [y2 5 (by decide)]
        exact i_lt.mpr (by rw [c_300]; exact q.1)
      · have := i_le.mp q2
        rw [i_0] at this
        omega
    · rw [r3] at htr
      exact absurd htr (by decide)
  · rw [eEn]
    have ha : (if bz (gL 1 4) = 0 then (gL 1 3).toInt * (gL 1 3).toInt else 0) ≤ (gA 1 3).toInt * (gA 1 3).toInt := by
      split
      · rename_i htr
        rcases hP 0 (by decide) with ⟨r1, -⟩ | ⟨-, -, r3⟩
        · rw [show gL 1 = gA 1 from r1]; exact Int.le_refl _
        · rw [show gL 1 4 = 1 from r3] at htr
          exact absurd htr (by decide)
      · exact sa1
    have hb' : (if bz (gL 2 4) = 0 then (gL 2 3).toInt * (gL 2 3).toInt else 0) ≤ (gA 2 3).toInt * (gA 2 3).toInt := by
      split
      · rename_i htr
        rcases hP 1 (by decide) with ⟨r1, -⟩ | ⟨-, -, r3⟩
        · rw [show gL 2 = gA 2 from r1]; exact Int.le_refl _
        · rw [show gL 2 4 = 1 from r3] at htr
          exact absurd htr (by decide)
      · exact sb1
    omega
