/-! A TICK, PIECE BY PIECE: which rows it changes, and how -/
theorem it_ind {V : Type} {f : Nat → V → V} (P : V → Prop) {n : Nat} {v : V} (h0 : P v) (hs : ∀ i v, i < n → P v → P (f i v)) : P (it f n v) := by
  induction n with
  | zero => exact h0
  | succ n ih => exact hs n _ (by omega) (ih (fun i v hi => hs i v (by omega)))
/-- pieces that each look at a row of their own, and change it alone -/
theorem it_row {f : Nat → St → St} {b : Nat} (h1 : ∀ i v o, o ≠ b + i → f i v o = v o) (h2 : ∀ i v v', v (b + i) = v' (b + i) → f i v (b + i) = f i v' (b + i)) (n : Nat) (v : St) : (∀ i, i < n → it f n v (b + i) = f i v (b + i)) ∧ ∀ o, (∀ i, i < n → o ≠ b + i) → it f n v o = v o := by
  induction n with
  | zero => exact ⟨fun i hi => absurd hi (by omega), fun o _ => rfl⟩
  | succ n ih =>
    obtain ⟨g1, g2⟩ := ih
    refine ⟨fun i hi => ?_, fun o ho => ?_⟩
    · rw [it_s]
      by_cases hin : i = n
      · subst hin
        exact h2 i _ _ (g2 _ (fun j hj => by omega))
      · rw [h1 n _ _ (by omega)]
        exact g1 i (by omega)
    · rw [it_s, h1 n _ _ (ho n (by omega))]
      exact g2 o (fun i hi => ho i (by omega))
theorem rows_p {k : gC} {g : St} {r : Nat → Int32} {p : Nat} (h : rowsOK k g) (hp : p < 2) (hr : pOK r) : rowsOK k (sr g (1 + p) r) := by
  refine ⟨fun q hq => ?_, fun j hj => ?_⟩
  · by_cases e : q = p
    · subst e; rw [sr_s]; exact hr
    · rw [sr_n _ _ (by omega)]; exact h.1 q hq
  · rw [sr_n _ _ (by omega)]; exact h.2 j hj
theorem rows_j {k : gC} {g : St} {r : Nat → Int32} {i : Nat} (h : rowsOK k g) (hr : jOK r) : rowsOK k (sr g (3 + i) r) := by
  refine ⟨fun q hq => ?_, fun j hj => ?_⟩
  · rw [sr_n _ _ (by omega)]; exact h.1 q hq
  · by_cases e : j = i
    · subst e; rw [sr_s]; exact hr
    · rw [sr_n _ _ (by omega)]; exact h.2 j hj
theorem rows_x {k : gC} {g g' : St} (h : rowsOK k g) (hp : ∀ p, p < 2 → g' (1 + p) = g (1 + p)) (hj : ∀ j, j < k.1 → g' (3 + j) = g (3 + j)) : rowsOK k g' := ⟨fun p hp' => by rw [hp p hp']; exact h.1 p hp', fun j hj' => by rw [hj j hj']; exact h.2 j hj'⟩
theorem u_q (f : Nat → Int32) {k j : Nat} (v : Int32) (h : j ≠ k) : upd f k v j = f j := if_neg h
theorem u_e (f : Nat → Int32) (k : Nat) (v : Int32) : upd f k v k = v := if_pos rfl
/-- what STEPS leave alone -/
def keepS (g g' : St) : Prop := (∀ o, (o = 0 ∨ 20 ≤ o) → g' o = g o) ∧ (∀ p, p < 2 → g' (1 + p) 3 = g (1 + p) 3 ∧ g' (1 + p) 4 = g (1 + p) 4 ∧ g' (1 + p) 5 = g (1 + p) 5) ∧ ∀ j, j < 8 → g' (3 + j) 5 = g (3 + j) 5 ∧ g' (3 + j) 6 = g (3 + j) 6 ∧ g' (3 + j) 8 = g (3 + j) 8 ∧ g' (3 + j) 9 = g (3 + j) 9
theorem keepS_r (g : St) : keepS g g := ⟨fun _ _ => rfl, fun _ _ => ⟨rfl, rfl, rfl⟩, fun _ _ => ⟨rfl, rfl, rfl, rfl⟩⟩
theorem keepS_t {g g' g'' : St} (h1 : keepS g g') (h2 : keepS g' g'') : keepS g g'' := by
  refine ⟨fun o ho => (h2.1 o ho).trans (h1.1 o ho), fun p hp => ?_, fun j hj => ?_⟩
  · obtain ⟨a1, a2, a3⟩ := h1.2.1 p hp
    obtain ⟨b1, b2, b3⟩ := h2.2.1 p hp
    exact ⟨b1.trans a1, b2.trans a2, b3.trans a3⟩
  · obtain ⟨a1, a2, a3, a4⟩ := h1.2.2 j hj
    obtain ⟨b1, b2, b3, b4⟩ := h2.2.2 j hj
    exact ⟨b1.trans a1, b2.trans a2, b3.trans a3, b4.trans a4⟩
theorem keepS_p {g : St} {p : Nat} (v : Int32) (hp : p < 2) : keepS g (s2 g (1 + p) 2 v) := by
  refine ⟨fun o ho => s2_o _ _ _ (by omega), fun q hq => ?_, fun j hj => ?_⟩
  · by_cases e : q = p
    · subst e
      exact ⟨s2_k _ _ _ (by decide), s2_k _ _ _ (by decide), s2_k _ _ _ (by decide)⟩
    · rw [s2_o _ _ _ (show 1 + q ≠ 1 + p by omega)]; exact ⟨rfl, rfl, rfl⟩
  · rw [s2_o _ _ _ (show 3 + j ≠ 1 + p by omega)]; exact ⟨rfl, rfl, rfl, rfl⟩
theorem keepS_j {g : St} {i q : Nat} (v : Int32) (hi : i < 8) (hq : q = 4 ∨ q = 7) : keepS g (s2 g (3 + i) q v) := by
  refine ⟨fun o ho => s2_o _ _ _ (by omega), fun p hp => ?_, fun j hj => ?_⟩
  · rw [s2_o _ _ _ (show 1 + p ≠ 3 + i by omega)]; exact ⟨rfl, rfl, rfl⟩
  · by_cases e : j = i
    · subst e
      exact ⟨s2_k _ _ _ (by omega), s2_k _ _ _ (by omega), s2_k _ _ _ (by omega), s2_k _ _ _ (by omega)⟩
    · rw [s2_o _ _ _ (show 3 + j ≠ 3 + i by omega)]; exact ⟨rfl, rfl, rfl, rfl⟩
theorem mSetTo_k {k : gC} {g : St} {p : Nat} {v : Int32} (h : rowsOK k g) (hp : p < 2) (h0 : 0 ≤ v.toInt) (h1 : v.toInt ≤ 10) : rowsOK k (mSetTo g p v) ∧ keepS g (mSetTo g p v) := by
  unfold mSetTo
  by_cases ht : bz (g (1 + p) 4) = 0
  · rw [if_pos ht]
    refine ⟨rows_p h hp ?_, keepS_p v hp⟩
    obtain ⟨a1, a2, a3, a4, a5⟩ := h.1 p hp
    refine ⟨by rw [u_e]; exact h0, by rw [u_e]; exact h1, by rw [u_q _ _ (by decide)]; exact a3, by rw [u_q _ _ (by decide)]; exact a4, fun q => ?_⟩
    rw [u_q _ _ (by decide)] at q
    exact absurd ht q
  · rw [if_neg ht]
    exact ⟨h, keepS_r g⟩
theorem mObey_k {k : gC} {g : St} {j : Nat} {v : Int32} (hc : cfg k) (h : rowsOK k g) (hj : j < k.1) (hv : (0 ≤ v.toInt ∧ v.toInt ≤ 6) ∨ (16 ≤ v.toInt ∧ v.toInt ≤ 20)) : rowsOK k (mObey k g j v) ∧ keepS g (mObey k g j v) := by
  have hJ := hc.2.1
  unfold mObey
  by_cases h1 : v < 10
  · rw [if_pos h1]
    have h1' := i_lt.mp h1
    rw [c_10] at h1'
    obtain ⟨a1, a2, a3, a4⟩ := h.2 j hj
    by_cases h2 : v < 5
    · rw [if_pos h2]
      have h2' := i_lt.mp h2
      rw [c_5] at h2'
      exact ⟨rows_j h ⟨by rw [u_e]; omega, by rw [u_e]; omega, by rw [u_q _ _ (by decide)]; exact a3, by rw [u_q _ _ (by decide)]; exact a4⟩, keepS_j v (by omega) (Or.inl rfl)⟩
    · rw [if_neg h2]
      exact ⟨rows_j h ⟨by rw [u_q _ _ (by decide)]; exact a1, by rw [u_q _ _ (by decide)]; exact a2, by rw [u_q _ _ (by decide)]; exact a3, by rw [u_q _ _ (by decide)]; exact a4⟩, keepS_j _ (by omega) (Or.inr rfl)⟩
  · rw [if_neg h1]
    have h1' : ¬ v.toInt < 10 := fun q => h1 (i_lt.mpr (by rw [c_10]; exact q))
    have e : (v - 10).toInt = v.toInt - 10 := by rw [i_sub] <;> rw [c_10] <;> omega
    exact mSetTo_k h (hc.2.2.1 j hj) (by omega) (by omega)
theorem mStep_k {k : gC} {h : gK} {g : St} {q s : Nat} (hc : cfg k) (hr : rowsOK k g) (hv : (0 ≤ (h.2.2.2.2 q 2).toInt ∧ (h.2.2.2.2 q 2).toInt ≤ 6) ∨ (16 ≤ (h.2.2.2.2 q 2).toInt ∧ (h.2.2.2.2 q 2).toInt ≤ 20)) : rowsOK k (mStep k h q s g) ∧ keepS g (mStep k h q s g) := by
  refine it_ind (fun z => rowsOK k z ∧ keepS g z) ⟨hr, keepS_r g⟩ (fun i v hi hh => ?_)
  unfold mStep1
  by_cases hn : mNames h q i = 0
  · rw [if_pos hn]; exact hh
  · rw [if_neg hn]
    obtain ⟨a1, a2⟩ := mObey_k hc hh.1 (j := (i + s) % k.1) (Nat.mod_lt _ (by have := hc.1; omega)) hv
    exact ⟨a1, keepS_t hh.2 a2⟩
def callsOK (h : gK) : Prop := ∀ i, i < h.1 → h.2.1 i < 2
theorem mSteps_k {k : gC} {h : gK} {g : St} (hc : cfg k) (hs : stepOK h) (hh : callsOK h) (hr : rowsOK k g) : rowsOK k (mSteps k h g) ∧ keepS g (mSteps k h g) := by
  refine it_ind (fun z => rowsOK k z ∧ keepS g z) ⟨hr, keepS_r g⟩ (fun i v hi hv => ?_)
  refine it_ind (fun z => rowsOK k z ∧ keepS g z) hv (fun s w hs' hw => ?_)
  show rowsOK k (if mDue h i (3 * h.2.1 i + s) = w 0 4 then mStep k h (3 * h.2.1 i + s) (h.2.2.1 i) w else w) ∧ _
  by_cases hd : mDue h i (3 * h.2.1 i + s) = w 0 4
  · rw [if_pos hd]
    have := hh i hi
    obtain ⟨a1, a2⟩ := mStep_k (h := h) (q := 3 * h.2.1 i + s) (s := h.2.2.1 i) hc hw.1 (hs _ (by omega)).2.2
    exact ⟨a1, keepS_t hw.2 a2⟩
  · rw [if_neg hd]; exact hw
/-- drives and valves turn, each in its own row -/
theorem mPT_o (i : Nat) (v : St) (o : Nat) (h : o ≠ 1 + i) : mPTurn v i o = v o := by
  unfold mPTurn
  split
  · exact s2_o _ _ _ h
  · rfl
theorem mPT_r (i : Nat) (v v' : St) (h : v (1 + i) = v' (1 + i)) : mPTurn v i (1 + i) = mPTurn v' i (1 + i) := by
  unfold mPTurn s2
  rw [h]
  split
  · rw [sr_s, sr_s]
  · exact h
theorem mJT_o (i : Nat) (v : St) (o : Nat) (h : o ≠ 3 + i) : mJTurn v i o = v o := by
  unfold mJTurn
  split
  · exact s2_o _ _ _ h
  · rfl
theorem mJT_r (i : Nat) (v v' : St) (h : v (3 + i) = v' (3 + i)) : mJTurn v i (3 + i) = mJTurn v' i (3 + i) := by
  unfold mJTurn s2
  rw [h]
  split
  · rw [sr_s, sr_s]
  · exact h
theorem mTurns_x (k : gC) (g : St) : (∀ p, p < 2 → mTurns k g (1 + p) = mPTurn g p (1 + p)) ∧ (∀ j, j < k.1 → mTurns k g (3 + j) = mJTurn g j (3 + j)) ∧ ∀ o, (o = 0 ∨ 3 + k.1 ≤ o) → mTurns k g o = g o := by
  obtain ⟨a1, a2⟩ := it_row (f := fun p g => mPTurn g p) (b := 1) mPT_o mPT_r 2 g
  obtain ⟨b1, b2⟩ := it_row (f := fun j g => mJTurn g j) (b := 3) mJT_o mJT_r k.1 (it (fun p g => mPTurn g p) 2 g)
  refine ⟨fun p hp => ?_, fun j hj => ?_, fun o ho => ?_⟩
  · exact (b2 _ (fun i hi => by omega)).trans (a1 p hp)
  · exact (b1 j hj).trans (mJT_r j _ _ (a2 _ (fun i hi => by omega)))
  · exact (b2 o (fun i hi => by omega)).trans (a2 o (fun i hi => by omega))
theorem mPT_q (g : St) (p : Nat) {q : Nat} (h : q ≠ 3) : mPTurn g p (1 + p) q = g (1 + p) q := by
  unfold mPTurn
  split
  · exact s2_k _ _ _ h
  · rfl
theorem mJT_q (g : St) (j : Nat) {q : Nat} (h : q ≠ 5) : mJTurn g j (3 + j) q = g (3 + j) q := by
  unfold mJTurn
  split
  · exact s2_k _ _ _ h
  · rfl
theorem mPT_d {g : St} {p : Nat} (h : bz (g (1 + p) 4) = 0) : mPTurn g p (1 + p) 3 = mNear (g (1 + p) 3) (g (1 + p) 2) := by
  unfold mPTurn
  rw [if_pos h, s2_s]
theorem mPT_t {g : St} {p : Nat} (h : ¬ bz (g (1 + p) 4) = 0) : mPTurn g p (1 + p) = g (1 + p) := by
  unfold mPTurn
  rw [if_neg h]
theorem mJT_d {g : St} {j : Nat} (h : bz (g (3 + j) 6) = 0) : mJTurn g j (3 + j) 5 = mNear (g (3 + j) 5) (g (3 + j) 4) := by
  unfold mJTurn
  rw [if_pos h, s2_s]
theorem mJT_t {g : St} {j : Nat} (h : ¬ bz (g (3 + j) 6) = 0) : mJTurn g j (3 + j) = g (3 + j) := by
  unfold mJTurn
  rw [if_neg h]
theorem mTurns_r {k : gC} {g : St} (h : rowsOK k g) : rowsOK k (mTurns k g) := by
  obtain ⟨t1, t2, -⟩ := mTurns_x k g
  refine ⟨fun p hp => ?_, fun j hj => ?_⟩
  · rw [t1 p hp]
    obtain ⟨a1, a2, a3, a4, a5⟩ := h.1 p hp
    by_cases ht : bz (g (1 + p) 4) = 0
    · refine ⟨by rw [mPT_q _ _ (by decide)]; exact a1, by rw [mPT_q _ _ (by decide)]; exact a2, ?_, ?_, fun q => absurd ht (by rw [mPT_q _ _ (by decide)] at q; exact q)⟩
      · rw [mPT_d ht]
        rcases mNear_b (a := g (1 + p) 3) (b := g (1 + p) 2) rfl rfl a3 a4 a1 a2 with ⟨b1, b2⟩ | ⟨b1, b2⟩ | ⟨b1, b2⟩ <;> rw [b2] <;> omega
      · rw [mPT_d ht]
        rcases mNear_b (a := g (1 + p) 3) (b := g (1 + p) 2) rfl rfl a3 a4 a1 a2 with ⟨b1, b2⟩ | ⟨b1, b2⟩ | ⟨b1, b2⟩ <;> rw [b2] <;> omega
    · rw [mPT_t ht]
      exact ⟨a1, a2, a3, a4, a5⟩
  · rw [t2 j hj]
    obtain ⟨a1, a2, a3, a4⟩ := h.2 j hj
    by_cases ht : bz (g (3 + j) 6) = 0
    · refine ⟨by rw [mJT_q _ _ (by decide)]; exact a1, by rw [mJT_q _ _ (by decide)]; exact a2, ?_, ?_⟩
      · rw [mJT_d ht]
        rcases mNear_b (a := g (3 + j) 5) (b := g (3 + j) 4) rfl rfl a3 (by omega) a1 (by omega) with ⟨b1, b2⟩ | ⟨b1, b2⟩ | ⟨b1, b2⟩ <;> rw [b2] <;> omega
      · rw [mJT_d ht]
        rcases mNear_b (a := g (3 + j) 5) (b := g (3 + j) 4) rfl rfl a3 (by omega) a1 (by omega) with ⟨b1, b2⟩ | ⟨b1, b2⟩ | ⟨b1, b2⟩ <;> rw [b2] <;> omega
    · rw [mJT_t ht]
      exact ⟨a1, a2, a3, a4⟩
/-- the steps and the turning together -/
abbrev gNow (g : St) : St := s2 g 0 4 (g 0 4 + 1)
def gStp (k : gC) (h : gK) (g : St) : St := if bz (g 0 14) = 0 then mSteps k h (gNow g) else gNow g
theorem mTick0_e (k : gC) (h : gK) (g : St) : mTick0 k h g = mTurns k (gStp k h g) := rfl
theorem gNow_r {k : gC} {g : St} (h : rowsOK k g) : rowsOK k (gNow g) := rows_x h (fun p hp => s2_o _ _ _ (by omega)) (fun j hj => s2_o _ _ _ (by omega))
theorem gStp_k {k : gC} {h : gK} {g : St} (hc : cfg k) (hs : stepOK h) (hh : callsOK h) (hr : rowsOK k g) : rowsOK k (gStp k h g) ∧ keepS (gNow g) (gStp k h g) := by
  unfold gStp
  split
  · exact mSteps_k hc hs hh (gNow_r hr)
  · exact ⟨gNow_r hr, keepS_r _⟩
theorem mTick0_r {k : gC} {h : gK} {g : St} (hc : cfg k) (hs : stepOK h) (hh : callsOK h) (hr : rowsOK k g) : rowsOK k (mTick0 k h g) := by
  rw [mTick0_e]
  exact mTurns_r (gStp_k hc hs hh hr).1
