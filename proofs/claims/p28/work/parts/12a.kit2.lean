/-! TWO SHOWS: copying, loops with a fact or with a state that is only said to be -/
section MK2
variable {p : Program} {l : Launch} {e : Env} {R : Room} {s : State} {m : MethodId} {args : Array Value} {below : List Frame} {meth : Method} {c0 : Code} {H : Heap} {locs : List Loc} {cells slots : Nat} {Q : State → Prop}
variable {G : gT} {al : Nat → Nat} {c : mC} {pc a0 a1 : Nat} {ls : Array Slot} {st rest : List Value} {own : String} {index nL : Nat} {cc : ByteArray}
theorem m_copy9 (hexec : p.tables.exec = Jvm.exec) (hb : c0.code = cc) (hml : c0.maxLocals = ls.size) (hown : s.vm.findClass own = some m.cls) (hlink : (Cond.methodLink own index arraycopyName).before args s = true) (hnat : (Cond.native arraycopyName).before args s = true) (hstat : (Cond.static arraycopyName).before args s = true) (hini : (Cond.initialized "java/lang/System").before args s = true)
    (hE : gE G s s.heap) (hP : mP G al c H) (hS : va_S (gA G) s.heap H locs) (i j : Nat) (hi : al i = a0) (hj : al j = a1) {f g : Nat → Int32} (hf : c i = some (cArr G f)) (hg : c j = some (cArr G g))
    (hframes : 1 ≤ R.frames) (hlocals : (rest.map fun v => v.category).sum + 18 ≤ R.locals) (hdg : decode cc pc = .ok (.invokestatic index, 3))
    (kk : ∀ (H1 : Heap) (locs1 : List Loc), mP G al (up c j (cArr G f)) H1 → va_S (gA G) s.heap H1 locs1 → W p l e R s m args below meth c0 H1 locs1 cells slots Q (F0 m (pc + 3) ls rest)) : W p l e R s m args below meth c0 H locs cells slots Q (F0 m pc ls (.int 9 :: .int 0 :: .ref a1 :: .int 0 :: .ref a0 :: rest)) := by
  subst hi
  subst hj
  obtain ⟨⟨ws, h1, h2, h3⟩, h4⟩ := hP
  obtain ⟨q0, hq0⟩ := h3 i _ hf
  obtain ⟨q1, hq1⟩ := h3 j _ hg
  refine va_copyi hexec hb hml hown hlink hnat hstat hini hE.1.1.1 h1 h2 hS q0 q1 0 0 hq0 hq1 rfl rfl rfl (by decide) (by decide) (by decide) (by decide) (by decide) (fun _ _ => rfl) hframes (by rw [f_nfw]; exact hlocals) hdg (fun H1 locs1 g1 g2 g3 => kk H1 locs1 (m_set h2 h3 h4 hg hq1 ?_ ?_) g3)
  · have e9 : ∀ n : Nat, vp_cell (gI G) (9, .inl (va_cpy f g (0 : Int32).toNatClampNeg (0 : Int32).toNatClampNeg (9 : Int32).toNatClampNeg)) = vp_cell (gI G) (9, .inl f) := by
      intro n
      rw [vp_cell_i, vp_cell_i]
      unfold arrV
      congr 1
    intro k q hk
    by_cases hkq : k = q1
    · subst hkq
      have hl : k < ws.length := (List.getElem?_eq_some_iff.mp hq1).1
      rw [List.getElem?_set_self hl] at hk
      cases hk
      have h9 := g1 k _ (List.getElem?_set_self hl)
      exact h9.trans (congrArg some (e9 0))
    · rw [List.getElem?_set_ne (fun h => hkq h.symm)] at hk
      exact g1 k q (by rw [List.getElem?_set_ne (fun h => hkq h.symm)]; exact hk)
  · exact h2.set hq1
theorem g_loopI {N head : Nat} {Wi : Nat → mC} {Li : Nat → List (Nat × Value)} (Ii : Nat → Prop) (i0 : Ii 0) (h0 : mP G al (Wi 0) H) (hS0 : va_S (gA G) s.heap H locs) (hl0 : lv_has ls nL (Li 0))
    (step : ∀ i : Nat, i ≤ N → Ii i → (i < N → Ii (i + 1) → ∀ (H : Heap) (locs : List Loc) (ls : Array Slot), mP G al (Wi (i + 1)) H → va_S (gA G) s.heap H locs → lv_has ls nL (Li (i + 1)) → W p l e R s m args below meth c0 H locs cells slots Q (F0 m head ls rest)) →
      ∀ (H : Heap) (locs : List Loc) (ls : Array Slot), mP G al (Wi i) H → va_S (gA G) s.heap H locs → lv_has ls nL (Li i) → W p l e R s m args below meth c0 H locs cells slots Q (F0 m head ls rest)) :
    W p l e R s m args below meth c0 H locs cells slots Q (F0 m head ls rest) := by
  have key : ∀ (n i : Nat), i ≤ N → N + 1 ≤ i + n → Ii i → ∀ (H : Heap) (locs : List Loc) (ls : Array Slot), mP G al (Wi i) H → va_S (gA G) s.heap H locs → lv_has ls nL (Li i) → W p l e R s m args below meth c0 H locs cells slots Q (F0 m head ls rest) := by
    intro n
    induction n with
    | zero => intro i h1 h2; exact absurd h2 (by omega)
    | succ n ih => intro i h1 h2 h3; exact step i h1 h3 (fun h4 h5 => ih (i + 1) (by omega) (by omega) h5)
  exact key (N + 1) 0 (Nat.zero_le _) (by omega) i0 H locs ls h0 hS0 hl0
/-- a loop over states that are only said to be -/
theorem g_loopE {U : Type} {N head : Nat} {Wi : Nat → U → mC} {Ai : Nat → U → Nat → Nat} {Li : Nat → U → List (Nat × Value)} {ce sl : Nat → Nat} (Ii : Nat → U → Prop) (u0 : U) (i0 : Ii 0 u0) (h0 : mP G (Ai 0 u0) (Wi 0 u0) H) (hS0 : va_S (gA G) s.heap H locs) (hl0 : lv_has ls nL (Li 0 u0)) (hce : cells = ce 0) (hsl : slots = sl 0)
    (step : ∀ (i : Nat) (u : U), i ≤ N → Ii i u → (i < N → ∀ (u : U), Ii (i + 1) u → ∀ (H : Heap) (locs : List Loc) (ls : Array Slot), mP G (Ai (i + 1) u) (Wi (i + 1) u) H → va_S (gA G) s.heap H locs → lv_has ls nL (Li (i + 1) u) → W p l e R s m args below meth c0 H locs (ce (i + 1)) (sl (i + 1)) Q (F0 m head ls rest)) →
      ∀ (H : Heap) (locs : List Loc) (ls : Array Slot), mP G (Ai i u) (Wi i u) H → va_S (gA G) s.heap H locs → lv_has ls nL (Li i u) → W p l e R s m args below meth c0 H locs (ce i) (sl i) Q (F0 m head ls rest)) :
    W p l e R s m args below meth c0 H locs cells slots Q (F0 m head ls rest) := by
  subst hce
  subst hsl
  have key : ∀ (n i : Nat), i ≤ N → N + 1 ≤ i + n → ∀ u : U, Ii i u → ∀ (H : Heap) (locs : List Loc) (ls : Array Slot), mP G (Ai i u) (Wi i u) H → va_S (gA G) s.heap H locs → lv_has ls nL (Li i u) → W p l e R s m args below meth c0 H locs (ce i) (sl i) Q (F0 m head ls rest) := by
    intro n
    induction n with
    | zero => intro i h1 h2; exact absurd h2 (by omega)
    | succ n ih => intro i h1 h2 u h3; exact step i u h1 h3 (fun h4 u' h5 => ih (i + 1) (by omega) (by omega) u' h5)
  exact key (N + 1) 0 (Nat.zero_le _) (by omega) u0 i0 H locs ls h0 hS0 hl0
end MK2
def mACopy (g t : St) : St := sr (sr (sr t 20 (g 20)) 21 (g 21)) 22 (g 22)
def mLike (k : gC) (g t : St) : St :=
  s2 (s2 (s2 (s2 (s2 (s2 (s2 (s2 (s2 (s2 (s2 (mACopy g (it (fun j t => mJCopy g t j) k.1 (it (fun p t => mPCopy g t p) 2 t))) 0 4 (g 0 4)) 0 5 (g 0 5)) 0 6 (g 0 6)) 0 7 (g 0 7)) 0 8 (g 0 8)) 0 9 (g 0 9)) 0 10 (g 0 10)) 0 11 (g 0 11)) 0 12 (g 0 12)) 0 13 (g 0 13)) 0 14 (g 0 14)
theorem mJC_r (g t : St) (j : Nat) {o : Nat} (h : o ≠ 3 + j) : mJCopy g t j o = t o := by unfold mJCopy; rw [s2_o _ _ _ h, s2_o _ _ _ h, s2_o _ _ _ h, s2_o _ _ _ h, s2_o _ _ _ h, s2_o _ _ _ h]
theorem mJCs_o (g : St) (n : Nat) (t : St) {o : Nat} (h : o < 3 ∨ 3 + n ≤ o) : it (fun j t => mJCopy g t j) n t o = t o := by
  induction n with
  | zero => rfl
  | succ n ih => rw [it_s, mJC_r _ _ _ (by omega), ih (by omega)]
theorem mJCs_j (g : St) (n : Nat) (t : St) {j : Nat} (h : j < n) : it (fun j t => mJCopy g t j) n t (3 + j) = mJCopy g (it (fun j t => mJCopy g t j) j t) j (3 + j) := by
  induction n with
  | zero => omega
  | succ n ih =>
    rw [it_s]
    by_cases hj : j = n
    · subst hj; rfl
    · rw [mJC_r _ _ _ (by omega), ih (by omega)]
theorem mLike_r (k : gC) (g t : St) {o : Nat} (h : o ≠ 0) : mLike k g t o = mACopy g (it (fun j t => mJCopy g t j) k.1 (it (fun p t => mPCopy g t p) 2 t)) o := by
  unfold mLike
  rw [s2_o _ _ _ h, s2_o _ _ _ h, s2_o _ _ _ h, s2_o _ _ _ h, s2_o _ _ _ h, s2_o _ _ _ h, s2_o _ _ _ h, s2_o _ _ _ h, s2_o _ _ _ h, s2_o _ _ _ h, s2_o _ _ _ h]
theorem mAC_r (g t : St) {o : Nat} (h : o < 20) : mACopy g t o = t o := by unfold mACopy; rw [sr_n _ _ (by omega), sr_n _ _ (by omega), sr_n _ _ (by omega)]
theorem mLike_ov {G : gT} {al : Nat → Nat} {k : gC} {B : Nat} {c : mC} {g t : St} (hJ : k.1 ≤ 8) : ov G al k B c (mLike k g t) = ov G al k B c g := by
  refine ov_eq ?_ ?_ ?_ ?_
  · rfl
  · intro a ha
    rw [mLike_r _ _ _ (by omega)]
    rcases (show a = 0 ∨ a = 1 ∨ a = 2 by omega) with rfl | rfl | rfl <;> rfl
  · intro p hp
    rw [mLike_r _ _ _ (by omega), mAC_r _ _ (by omega), mJCs_o _ _ _ (by omega)]
    rcases (show p = 0 ∨ p = 1 by omega) with rfl | rfl <;> rfl
  · intro j hj
    rw [mLike_r _ _ _ (by omega), mAC_r _ _ (by omega), mJCs_j _ _ _ hj]
    generalize it (fun j t => mJCopy g t j) j (it (fun p t => mPCopy g t p) 2 t) = t'
    have e (q : Nat) (h : q = 4 ∨ q = 5 ∨ q = 6 ∨ q = 7 ∨ q = 8 ∨ q = 9) : mJCopy g t' j (3 + j) q = g (3 + j) q := by
      unfold mJCopy s2
      simp only [sr_s]
      rcases h with rfl | rfl | rfl | rfl | rfl | rfl <;> rfl
    unfold cJet
    rw [e 4 (by simp), e 5 (by simp), e 6 (by simp), e 7 (by simp), e 8 (by simp), e 9 (by simp)]
/-! what one asks, by numbers -/
def mOfP (k : gC) (g : St) (p : Nat) : Nat → Int32
  | 0 => k.2.2 (1 + p) 1
  | 1 => g (1 + p) 2
  | 2 => g (1 + p) 3
  | 3 => mPress k g p
  | 4 => if bz (g (1 + p) 4) = 0 then 0 else 1
  | 5 => mJets k p
  | _ => g (1 + p) 5
def mOfJ (k : gC) (g : St) (j : Nat) : Nat → Int32
  | 0 => nI (k.2.1 j)
  | 1 => k.2.2 (3 + j) 1
  | 2 => k.2.2 (3 + j) 2
  | 3 => k.2.2 (3 + j) 3
  | 4 => g (3 + j) 4
  | 5 => g (3 + j) 5
  | 6 => if bz (g (3 + j) 6) = 0 then 0 else 1
  | 7 => mFlow k g j
  | 8 => mHt k g j
  | 9 => if bz (g (3 + j) 7) = 0 then 0 else 1
  | 10 => g (3 + j) 9
  | _ => mPlace k g j (mHt k g j)
def mMany (k : gC) (h : gK) (g : St) : Nat → Int32
  | 0 => g 0 4
  | 1 => nI 2
  | 2 => nI k.1
  | 3 => nI 2
  | 4 => nI h.1
  | 5 => g 0 5
  | 6 => mAll g
  | 7 => g 0 7
  | 8 => g 0 6
  | 9 => g 0 8
  | 10 => g 0 9
  | 11 => g 0 10
  | 12 => g 0 11
  | 13 => mMaxH k g
  | 14 => mLamps k g
  | _ => if bz (g 0 14) = 0 then 0 else 1
theorem mF_s (f : Nat → Int32) (ht : Int32) {N i : Nat} (h : i < N) : mFirst f ht (N - i) i = if f i < ht then mFirst f ht (N - (i + 1)) (i + 1) else nI i := by
  rw [show N - i = (N - (i + 1)) + 1 by omega]
  rfl
theorem mF_e (f : Nat → Int32) (ht : Int32) (N : Nat) : mFirst f ht (N - N) N = -1 := by rw [Nat.sub_self]; rfl
abbrev mD (d : Int64) (v : Int32) : Int64 := d * 31 + v.toInt64
def mDg1 (k : gC) (h : gK) (g : St) : Int64 := it (fun i d => mD d (mMany k h g i)) 16 9115
def mDg2 (k : gC) (g : St) (d : Int64) : Int64 := it (fun p d => it (fun i d => mD d (mOfP k g p i)) 7 d) 2 d
def mDgJ (k : gC) (h : gK) (g : St) (j : Nat) (d : Int64) : Int64 := mD (mD (mD (it (fun i d => mD d (mOfJ k g j i)) 12 d) (mHt k (mTicks k h 5 g) j)) (mSFor k g j 20)) (mLFor k h g j 20)
def mDg3 (k : gC) (h : gK) (g : St) (d : Int64) : Int64 := it (fun j d => mDgJ k h g j d) k.1 d
def mDg4 (g : St) (d : Int64) : Int64 := it (fun i d => mD d (mFallIn g (g 0 4 + nI (i + 1)))) 8 d
def mDg5 (h : gK) (g : St) (d : Int64) : Int64 := it (fun i d => mD d (mOpen h i (g 0 4))) h.1 d
def mDig (k : gC) (h : gK) (g : St) : Int64 := mD (mD (mDg5 h g (mDg4 g (mDg3 k h g (mDg2 k g (mDg1 k h g))))) (mWould k h g 12 0)) (mWould k h g 12 1)
