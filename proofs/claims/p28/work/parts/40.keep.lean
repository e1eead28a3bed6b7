/-! WHAT THE LAW'S OWN CALLS LEAVE OF IT ALL -/
theorem Inv_k {k : gC} {g g' : St} {F : Int} {N : Nat} (hI : Inv k g F N) (hr : rowsOK k g') (h0 : ∀ q, q < 10 → g' 0 q = g 0 q) (ha : ∀ o, 20 ≤ o → g' o = g o) (h12 : (g' 0 12).toInt ≤ 4) : Inv k g' F N := by
  obtain ⟨i1, i2, i3, i4, i5, i6, i7, i8, i9, i10, i11, i12, i13, i14, i15⟩ := hI
  refine ⟨hr, aOK_e ha i2, ?_, ?_, ?_, ?_, ?_, ?_, i9, ?_, i11, ?_, ?_, ?_, h12⟩
  · rw [h0 5 (by decide)]; exact i3
  · rw [h0 5 (by decide)]; exact i4
  · rw [h0 6 (by decide)]; exact i5
  · rw [h0 8 (by decide)]; exact i6
  · rw [h0 8 (by decide), h0 7 (by decide)]; exact i7
  · rw [h0 5 (by decide), h0 6 (by decide), h0 7 (by decide), SI_e ha]; exact i8
  · rw [h0 4 (by decide)]; exact i10
  · rw [h0 9 (by decide)]; exact i12
  · rw [h0 9 (by decide)]; exact i13
  · rw [ha 20 (by decide), ha 21 (by decide), ha 22 (by decide)]; exact i14
theorem rowsOK_j {k : gC} {g : St} {j q : Nat} {v : Int32} (hr : rowsOK k g) (h : (q ≠ 4 ∧ q ≠ 5) ∨ (0 ≤ v.toInt ∧ v.toInt ≤ 4)) : rowsOK k (s2 g (3 + j) q v) := by
  refine ⟨fun p hp => ?_, fun i hi => ?_⟩
  · by_cases e : 1 + p = 3 + j
    · omega
    · rw [s2_o _ _ _ e]; exact hr.1 p hp
  · by_cases e : i = j
    · subst e
      obtain ⟨a1, a2, a3, a4⟩ := hr.2 i hi
      unfold jOK
      rcases h with ⟨h4, h5⟩ | ⟨h4, h5⟩
      · rw [s2_k _ _ _ (fun z => h4 z.symm), s2_k _ _ _ (fun z => h5 z.symm)]
        exact ⟨a1, a2, a3, a4⟩
      · by_cases q4 : q = 4
        · subst q4; rw [s2_s, s2_k _ _ _ (by decide)]; exact ⟨h4, h5, a3, a4⟩
        · by_cases q5 : q = 5
          · subst q5; rw [s2_s, s2_k _ _ _ (by decide)]; exact ⟨a1, a2, h4, h5⟩
          · rw [s2_k _ _ _ (fun z => q4 z.symm), s2_k _ _ _ (fun z => q5 z.symm)]
            exact ⟨a1, a2, a3, a4⟩
    · rw [s2_o _ _ _ (by omega)]; exact hr.2 i hi
theorem rowsOK_0 {k : gC} {g : St} {q : Nat} {v : Int32} (hr : rowsOK k g) : rowsOK k (s2 g 0 q v) :=
  ⟨fun p hp => by rw [s2_o _ _ _ (by omega)]; exact hr.1 p hp, fun j hj => by rw [s2_o _ _ _ (by omega)]; exact hr.2 j hj⟩
theorem s2_0q {g : St} {o q : Nat} {v : Int32} (h : o ≠ 0) (r : Nat) : s2 g o q v 0 r = g 0 r := s2_ok _ _ _ (fun z => h z.symm) r
/-- a jet's row changes -/
theorem jrow_I {k : gC} {g : St} {F : Int} {N j q : Nat} {v : Int32} (hI : Inv k g F N) (hj : j < 8) (h : (q ≠ 4 ∧ q ≠ 5) ∨ (0 ≤ v.toInt ∧ v.toInt ≤ 4)) : Inv k (s2 g (3 + j) q v) F N :=
  Inv_k hI (rowsOK_j hI.1 h) (fun r _ => s2_0q (by omega) r) (fun o ho => s2_o _ _ _ (by omega)) (by rw [s2_0q (by omega)]; exact hI.2.2.2.2.2.2.2.2.2.2.2.2.2.2)
theorem set_I {k : gC} {g : St} {F : Int} {N p : Nat} {v : Int32} (hI : Inv k g F N) (hp : p < 2) (h0 : 0 ≤ v.toInt) (h1 : v.toInt ≤ 10) : Inv k (mSetTo g p v) F N := by
  refine Inv_k hI (mSetTo_k hI.1 hp h0 h1).1 (fun r _ => ?_) (fun o ho => ?_) ?_
  · unfold mSetTo; split
    · exact s2_0q (by omega) r
    · rfl
  · unfold mSetTo; split
    · exact s2_o _ _ _ (by omega)
    · rfl
  · have e : mSetTo g p v 0 12 = g 0 12 := by
      unfold mSetTo; split
      · exact s2_0q (by omega) 12
      · rfl
    rw [e]
    exact hI.2.2.2.2.2.2.2.2.2.2.2.2.2.2
theorem reset_I {k : gC} {g : St} {F : Int} {N p : Nat} (hI : Inv k g F N) (hp : p < 2) : Inv k (s2 g (1 + p) 4 0) F N := by
  refine Inv_k hI ⟨fun i hi => ?_, fun j hj => by rw [s2_o _ _ _ (by omega)]; exact hI.1.2 j hj⟩ (fun r _ => s2_0q (by omega) r) (fun o ho => s2_o _ _ _ (by omega)) (by rw [s2_0q (by omega)]; exact hI.2.2.2.2.2.2.2.2.2.2.2.2.2.2)
  by_cases e : i = p
  · subst e
    obtain ⟨a1, a2, a3, a4, a5⟩ := hI.1.1 i hi
    unfold pOK
    rw [s2_k _ _ _ (by decide), s2_k _ _ _ (by decide), s2_s]
    exact ⟨a1, a2, a3, a4, fun z => absurd bz_0 z⟩
  · rw [s2_o _ _ _ (by omega)]; exact hI.1.1 i hi
theorem wind_I {k : gC} {g : St} {F : Int} {N : Nat} {a b : Int32} (hI : Inv k g F N) (h : a.toInt ≤ 4) : Inv k (s2 (s2 g 0 12 a) 0 13 b) F N :=
  Inv_k hI (rowsOK_0 (rowsOK_0 hI.1)) (fun r hr => by rw [s2_k _ _ _ (by omega), s2_k _ _ _ (by omega)]) (fun o ho => by rw [s2_o _ _ _ (by omega), s2_o _ _ _ (by omega)]) (by rw [s2_k _ _ _ (by decide), s2_s]; exact h)
theorem swim_I {k : gC} {g : St} {F : Int} {N : Nat} {v : Int32} (hI : Inv k g F N) : Inv k (s2 g 0 14 v) F N :=
  Inv_k hI (rowsOK_0 hI.1) (fun r hr => s2_k _ _ _ (by omega)) (fun o ho => s2_o _ _ _ (by omega)) (by rw [s2_k _ _ _ (by decide)]; exact hI.2.2.2.2.2.2.2.2.2.2.2.2.2.2)
theorem fill_I {k : gC} {g : St} {F : Int} {N : Nat} {x : Int32} (hI : Inv k g F N) (h0 : 0 ≤ x.toInt) (h1 : x.toInt ≤ 2000) (hF : F + x.toInt ≤ 500000) : Inv k (mPour g x) (F + x.toInt) N := by
  obtain ⟨i1, i2, i3, i4, i5, i6, i7, i8, i9, i10, i11, i12, i13, i14, i15⟩ := hI
  have hS := SI_0 i2
  obtain ⟨p1, p2, p3, p4⟩ := pour_I (g := g) (x := x) i3 i4 h0 (by omega) i5 (by omega)
  have ha : ∀ o, 20 ≤ o → mPour g x o = g o := fun o ho => pour_o g x (by omega)
  refine ⟨⟨fun p hp => by rw [pour_o g x (by omega)]; exact i1.1 p hp, fun j hj => by rw [pour_o g x (by omega)]; exact i1.2 j hj⟩, aOK_e ha i2, p2, p3, p4, ?_, ?_, ?_, hF, ?_, i11, ?_, ?_, ?_, ?_⟩
  · rw [pour_q g x (by decide) (by decide)]; exact i6
  · rw [pour_q g x (q := 8) (by decide) (by decide), pour_q g x (q := 7) (by decide) (by decide)]; exact i7
  · rw [SI_e ha, pour_q g x (q := 7) (by decide) (by decide)]; omega
  · rw [pour_q g x (by decide) (by decide)]; exact i10
  · rw [pour_q g x (by decide) (by decide)]; exact i12
  · rw [pour_q g x (by decide) (by decide)]; exact i13
  · rw [ha 20 (by decide), ha 21 (by decide), ha 22 (by decide)]; exact i14
  · rw [pour_q g x (by decide) (by decide)]; exact i15
/-- everything shut -/
theorem off_it (g : St) (q : Nat) (v : Int32) : ∀ n, (∀ j, j < n → it (fun j g => s2 g (3 + j) q v) n g (3 + j) q = v) ∧ (∀ o, (o < 3 ∨ 3 + n ≤ o) → it (fun j g => s2 g (3 + j) q v) n g o = g o) ∧ ∀ o r, r ≠ q → it (fun j g => s2 g (3 + j) q v) n g o r = g o r := by
  intro n
  induction n with
  | zero => exact ⟨fun j hj => absurd hj (by omega), fun o _ => rfl, fun o r _ => rfl⟩
  | succ n ih =>
    obtain ⟨h1, h2, h3⟩ := ih
    refine ⟨fun j hj => ?_, fun o ho => ?_, fun o r hr => ?_⟩
    · rw [it_s]
      by_cases e : j = n
      · subst e; rw [s2_s]
      · rw [s2_ok _ _ _ (by omega)]; exact h1 j (by omega)
    · rw [it_s, s2_o _ _ _ (by omega)]; exact h2 o (by omega)
    · rw [it_s]
      by_cases e : o = 3 + n
      · subst e; rw [s2_k _ _ _ hr]; exact h3 _ r hr
      · rw [s2_ok _ _ _ e]; exact h3 o r hr
theorem pset_it (g : St) : ∀ n, n ≤ 2 → (∀ o, (o < 1 ∨ 1 + n ≤ o) → it (fun p g => mSetTo g p 0) n g o = g o) := by
  intro n
  induction n with
  | zero => intro _ o _; rfl
  | succ n ih =>
    intro hn o ho
    rw [it_s]
    have e : mSetTo (it (fun p g => mSetTo g p 0) n g) n 0 o = it (fun p g => mSetTo g p 0) n g o := by
      unfold mSetTo; split
      · exact s2_o _ _ _ (by omega)
      · rfl
    rw [e]
    exact ih (by omega) o (by omega)
theorem shut_x {k : gC} {g : St} {F : Int} {N : Nat} (hI : Inv k g F N) (hJ : k.1 ≤ 8) :
    Inv k (mShut k g) F N ∧ (∀ j, j < k.1 → mShut k g (3 + j) 4 = 0 ∧ mShut k g (3 + j) 7 = 0 ∧ mShut k g (3 + j) 8 = g (3 + j) 8) ∧ ∀ p, p < 2 → mShut k g (1 + p) 2 = 0 := by
  have h1 : Inv k (it (fun p g => mSetTo g p 0) 2 g) F N := set_I (set_I hI (p := 0) (by decide) (by decide) (by decide)) (p := 1) (by decide) (by decide) (by decide)
  have z : ∀ p, p < 2 → it (fun p g => mSetTo g p 0) 2 g (1 + p) 2 = 0 := by
    intro p hp
    have hs : ∀ (g' : St) (p : Nat), pOK (g' (1 + p)) → mSetTo g' p 0 (1 + p) 2 = 0 := by
      intro g' p h
      unfold mSetTo
      by_cases ht : bz (g' (1 + p) 4) = 0
      · rw [if_pos ht, s2_s]
      · rw [if_neg ht]; exact (h.2.2.2.2 ht).1
    have hI0 : Inv k (mSetTo g 0 0) F N := set_I hI (p := 0) (by decide) (by decide) (by decide)
    rcases (show p = 0 ∨ p = 1 by omega) with rfl | rfl
    · show mSetTo (mSetTo g 0 0) 1 0 (1 + 0) 2 = 0
      have e : mSetTo (mSetTo g 0 0) 1 0 (1 + 0) = mSetTo g 0 0 (1 + 0) := by
        generalize mSetTo g 0 0 = g1
        unfold mSetTo; split
        · exact s2_o _ _ _ (by decide)
        · rfl
      rw [e]
      exact hs g 0 (hI.1.1 0 (by decide))
    · exact hs (mSetTo g 0 0) 1 (hI0.1.1 1 (by decide))
  have ao := pset_it g 2 (by decide)
  obtain ⟨a, ha⟩ : ∃ a, a = it (fun p g => mSetTo g p 0) 2 g := ⟨_, rfl⟩
  rw [← ha] at h1 z ao
  obtain ⟨b1, b2, b3⟩ := off_it a 4 0 k.1
  obtain ⟨b, hb⟩ : ∃ b, b = it (fun j g => s2 g (3 + j) 4 0) k.1 a := ⟨_, rfl⟩
  rw [← hb] at b1 b2 b3
  obtain ⟨c1, c2, c3⟩ := off_it b 7 0 k.1
  have hm : mShut k g = it (fun j g => s2 g (3 + j) 7 0) k.1 b := by rw [hb, ha]; rfl
  rw [← hm] at c1 c2 c3
  have hp : ∀ p, p < 2 → mShut k g (1 + p) = a (1 + p) := fun p hp => (c2 _ (by omega)).trans (b2 _ (by omega))
  refine ⟨Inv_k h1 ⟨fun p h9 => by rw [hp p h9]; exact h1.1.1 p h9, fun j hj => ?_⟩ (fun q _ => by rw [c2 0 (by omega), b2 0 (by omega)]) (fun o ho => (c2 o (by omega)).trans (b2 o (by omega))) ?_, fun j hj => ⟨(c3 _ 4 (by decide)).trans (b1 j hj), c1 j hj, (c3 _ 8 (by decide)).trans ((b3 _ 8 (by decide)).trans (by rw [ao _ (by omega)]))⟩, fun p h9 => by rw [hp p h9]; exact z p h9⟩
  · obtain ⟨d1, d2, d3, d4⟩ := h1.1.2 j hj
    unfold jOK
    rw [c3 _ 4 (by decide), b1 j hj, c3 _ 5 (by decide), b3 _ 5 (by decide)]
    exact ⟨by decide, by decide, d3, d4⟩
  · rw [c2 0 (by omega), b2 0 (by omega)]
    exact h1.2.2.2.2.2.2.2.2.2.2.2.2.2.2
theorem lamps_0 {k : gC} {g : St} (h : ∀ j, j < k.1 → g (3 + j) 7 = 0) : mLamps k g = 0 := by
  unfold mLamps
  have key : ∀ n, n ≤ k.1 → it (fun j a => if bz (g (3 + j) 7) = 0 then a else a ||| 1 <<< (nI j &&& 31)) n (0 : Int32) = 0 := by
    intro n
    induction n with
    | zero => intro _; rfl
    | succ n ih => intro hn; rw [it_s, h n (by omega), bz_0, if_pos rfl]; exact ih (by omega)
  exact key k.1 (Nat.le_refl _)
/-- the water, all of it -/
theorem sum_I {k : gC} {g : St} {F : Int} {N : Nat} (hI : Inv k g F N) {f : Int32} (hf : f.toInt = F) : g 0 5 + mAll g + g 0 7 + g 0 6 = f ∧ g 0 8 ≤ g 0 7 := by
  obtain ⟨i1, i2, i3, i4, i5, i6, i7, i8, i9, -⟩ := hI
  have hS := SI_0 i2
  have e := mAll_I i2 (by omega)
  have e1 : (g 0 5 + mAll g).toInt = (g 0 5).toInt + SI g := by rw [i_add (by omega) (by omega), e]
  have e2 : (g 0 5 + mAll g + g 0 7).toInt = (g 0 5).toInt + SI g + (g 0 7).toInt := by rw [i_add (by omega) (by omega), e1]
  have e3 : (g 0 5 + mAll g + g 0 7 + g 0 6).toInt = (g 0 5).toInt + SI g + (g 0 7).toInt + (g 0 6).toInt := by rw [i_add (by omega) (by omega), e2]
  exact ⟨i_eq.mpr (by rw [e3, hf]; exact i8), i_le.mpr i7⟩
theorem callsOK_c {h : gK} {f sh : Nat} {ca : Int32} (hh : callsOK h) (hf : f < 2) : callsOK (mCall h f sh ca) := by
  intro i hi
  by_cases e : i = h.1
  · have v : (mCall h f sh ca).2.1 i = f := if_pos e
    rw [v]; exact hf
  · have v : (mCall h f sh ca).2.1 i = h.2.1 i := if_neg e
    have hi' : i < h.1 + 1 := hi
    rw [v]; exact hh i (by omega)
/-- a call just made: none of its three steps is done -/
theorem open_c {k : gC} {h : gK} {f sh N : Nat} {g : St} {F : Int} (hs : stepOK h) (hf : f < 2) (hI : Inv k g F N) : mOpen (mCall h f sh (g 0 4)) h.1 (g 0 4) = 3 := by
  have hN : g 0 4 = nI N := hI.2.2.2.2.2.2.2.2.2.1
  have hN4 : N ≤ 4000 := hI.2.2.2.2.2.2.2.2.2.2.1
  have v1 : (mCall h f sh (g 0 4)).2.1 h.1 = f := if_pos rfl
  have v3 : (mCall h f sh (g 0 4)).2.2.2.1 h.1 = g 0 4 := if_pos rfl
  have key : ∀ s, s < 3 → ¬ mDue (mCall h f sh (g 0 4)) h.1 (3 * (mCall h f sh (g 0 4)).2.1 h.1 + s) ≤ g 0 4 := by
    intro s h3 q
    unfold mDue at q
    rw [v1, v3] at q
    obtain ⟨a1, a2, -⟩ := hs (3 * f + s) (by omega)
    have e4 : (g 0 4).toInt = N := by rw [hN, nI_t (by omega)]
    have q' := i_le.mp q
    have e1 : (g 0 4 + h.2.2.2.2 (3 * f + s) 0).toInt = N + (h.2.2.2.2 (3 * f + s) 0).toInt := by rw [i_add (by omega) (by omega), e4]
    rw [i_add (by rw [e1, c_1]; omega) (by rw [e1, c_1]; omega), e1, e4, c_1] at q'
    omega
  unfold mOpen
  rw [it_s, it_s, it_s, it_0, if_neg (key 0 (by decide)), if_neg (key 1 (by decide)), if_neg (key 2 (by decide))]
  decide
