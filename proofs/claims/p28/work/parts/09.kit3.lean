/-! LISTS THAT GROW -/
section MK3
variable {p : Program} {l : Launch} {e : Env} {R : Room} {s : State} {m : MethodId} {args : Array Value} {below : List Frame} {meth : Method} {c0 : Code} {H : Heap} {locs : List Loc} {cells slots : Nat} {Q : State → Prop}
variable {G : gT} {al : Nat → Nat} {c : mC} {pc a0 a1 : Nat} {ls : Array Slot} {st rest : List Value} {own : String} {index nL : Nat} {cc : ByteArray}
theorem m_atO (hE : gE G s s.heap) (hP : mP G al c H) {i N : Nat} {f : Nat → Option Nat} (he : c i = some (.inl (gO G, N, .inr (.inr (.inr (.inr f)))))) : ∃ cell : Cell, H[al i]? = some cell ∧ cell.vm.isStatics = false ∧ s.vm.findClass "[Ljava/lang/Object;" = some cell.cls :=
  ⟨_, m_at hP he, rfl, f_nmO hE.1⟩
theorem m_copyQ (hexec : p.tables.exec = Jvm.exec) (hb : c0.code = cc) (hml : c0.maxLocals = ls.size) (hown : s.vm.findClass own = some m.cls) (hlink : (Cond.methodLink own index arraycopyName).before args s = true) (hnat : (Cond.native arraycopyName).before args s = true) (hstat : (Cond.static arraycopyName).before args s = true) (hini : (Cond.initialized "java/lang/System").before args s = true)
    (hE : gE G s s.heap) (hP : mP G al c H) (hS : va_S (gA G) s.heap H locs) (i j : Nat) (hi : al i = a0) (hj : al j = a1) {n0 n1 : Nat} {f g : Nat → Option Nat} (hf : c i = some (.inl (gO G, n0, .inr (.inr (.inr (.inr f)))))) (hg : c j = some (.inl (gO G, n1, .inr (.inr (.inr (.inr g)))))) {n : Int32} {N : Nat} (hn : ¬ n < 0) (hN : n.toNatClampNeg = N) (h0 : N ≤ n0) (h1 : N ≤ n1)
    {ci : Nat} {r : vw_C} (hr : vwCl[ci]? = some r) (hro : r.1 ∈ fObj) (hf0 : Nat → Nat) (hel : ∀ q : Nat, q < N → f q = some (al (hf0 q)) ∧ ∃ vs, c (hf0 q) = some (.inr (ci, vs)))
    (hframes : 1 ≤ R.frames) (hlocals : (rest.map fun v => v.category).sum + 18 ≤ R.locals) (hdg : decode cc pc = .ok (.invokestatic index, 3))
    (kk : ∀ (H1 : Heap) (locs1 : List Loc), mP G al (up c j (.inl (gO G, n1, .inr (.inr (.inr (.inr (va_cpy f g 0 0 N))))))) H1 → va_S (gA G) s.heap H1 locs1 → W p l e R s m args below meth c0 H1 locs1 cells slots Q (F0 m (pc + 3) ls rest)) : W p l e R s m args below meth c0 H locs cells slots Q (F0 m pc ls (.int n :: .int 0 :: .ref a1 :: .int 0 :: .ref a0 :: rest)) := by
  subst hi
  subst hj
  have hPP := hP
  obtain ⟨⟨ws, h1', h2, h3⟩, h4⟩ := hP
  obtain ⟨q0, hq0⟩ := h3 i _ hf
  obtain ⟨q1, hq1⟩ := h3 j _ hg
  have z0 : (0 : Int32).toNatClampNeg = 0 := by decide
  refine va_copyq (C := r.1) hexec hb hml hown hlink hnat hstat hini hE.1.1.1 h1' h2 hS q0 q1 1 1 hq0 hq1 rfl rfl (by decide) (by decide) hn (by rw [z0, hN]; omega) (by rw [z0, hN]; omega) ?_ ?_ hframes (by rw [f_nfw]; exact hlocals) hdg (fun H1 locs1 g1 g2 g3 => ?_)
  · intro q hq y hy
    rw [z0, Nat.zero_add] at hy
    rw [hN] at hq
    obtain ⟨e1, vs, e2⟩ := hel q hq
    rw [e1] at hy
    cases hy
    exact m_recv hE hPP _ e2 hr
  · intro comp c9 hcomp hc9
    obtain ⟨x0, t1, f1, f2, f3⟩ := Cond.castable_spec (va_Nw.use (A := args) rfl (hE.1.1.2.2.2.2.2 _ hro))
    cases hcomp.symm.trans f2
    cases hc9.symm.trans f1
    exact f3
  · rw [z0, hN] at g1 g2
    exact kk H1 locs1 (m_set h2 h3 h4 hg hq1 g1 g2) g3
end MK3
/-- a name that nothing had takes over another's place -/
theorem m_ren {G : gT} {al : Nat → Nat} {c : mC} {H : Heap} {nd di q : Nat} {e : va_E} (hn : c nd = none) (h : mP G (va_up al nd q) (up c nd e) H) : mP G (va_up al di q) (up c di e) H := by
  obtain ⟨⟨ws, hP, hD, hw⟩, hi⟩ := h
  have key : ∀ i f, up c di e i = some f → ∃ j, up c nd e j = some f ∧ va_up al nd q j = va_up al di q i ∧ (i = di → j = nd) ∧ (i ≠ di → j = i) := by
    intro i f hf
    by_cases h1 : i = di
    · subst h1
      rw [up_s] at hf
      exact ⟨nd, by rw [up_s]; exact hf, by rw [au_s, au_s], fun _ => rfl, fun h => absurd rfl h⟩
    · rw [up_n _ _ h1] at hf
      have h2 : i ≠ nd := fun h => by subst h; rw [hn] at hf; cases hf
      exact ⟨i, by rw [up_n _ _ h2]; exact hf, by rw [au_n _ _ h2, au_n _ _ h1], fun h => absurd h h1, fun _ => rfl⟩
  refine ⟨⟨ws, hP, hD, fun i f hf => ?_⟩, fun i j f f2 hf hf2 hh => ?_⟩
  · obtain ⟨j, h1, h2, -⟩ := key i f hf
    obtain ⟨k, hk⟩ := hw j f h1
    exact ⟨k, by rw [← h2]; exact hk⟩
  · obtain ⟨i', h1, h2, h3, h4⟩ := key i f hf
    obtain ⟨j', g1, g2, g3, g4⟩ := key j f2 hf2
    have h5 := hi i' j' f f2 h1 g1 (by rw [h2, g2]; exact hh)
    by_cases hd : i = di
    · by_cases hd2 : j = di
      · rw [hd, hd2]
      · have h6 := h3 hd
        have h7 := g4 hd2
        rw [up_n _ _ hd2] at hf2
        exfalso
        have : j = nd := by rw [← h7, ← h5, h6]
        rw [this, hn] at hf2
        cases hf2
    · by_cases hd2 : j = di
      · have h6 := h4 hd
        have h7 := g3 hd2
        rw [up_n _ _ hd] at hf
        exfalso
        have : i = nd := by rw [← h6, h5, h7]
        rw [this, hn] at hf
        cases hf
      · rw [← h4 hd, ← g4 hd2]; exact h5
/-- what an add leaves behind -/
abbrev addP (G : gT) (al : Nat → Nat) (c : mC) (li di n : Nat) (hf : Nat → Nat) (j : Nat) : (Nat → Nat) × mC → Prop := fun u =>
  gLs G u.1 u.2 li di (n + 1) (va_up hf n j) ∧ (∀ i, i ≠ li → i ≠ di → u.2 i = c i) ∧ ∀ i, i ≠ di → u.1 i = al i
theorem add_post {G : gT} {al al' : Nat → Nat} {c c' : mC} {li di n : Nat} {hf : Nat → Nat} {j x cap : Nat} {mo y : Int32} {f' : Nat → Option Nat} (h1 : c' li = some (.inr (0, [.int mo, .ref x, .int y]))) (hx : al' di = x) (hy : y = nI (n + 1)) (h2 : c' di = some (.inl (gO G, cap, .inr (.inr (.inr (.inr f')))))) (hcap : n + 1 ≤ cap) (hc : cap = 10 ∨ cap = 15 ∨ cap = 22)
    (h3 : f' n = some (al j)) (h4 : ∀ i, i < n → f' i = some (al (hf i))) (ha : ∀ i, i ≠ di → al' i = al i) (hj : j ≠ di) (hh : ∀ i, i < n → hf i ≠ di) (hcf : ∀ i, i ≠ li → i ≠ di → c' i = c i) : addP G al c li di n hf j (al', c') := by
  subst hx
  subst hy
  refine ⟨Or.inr ⟨mo, cap, f', h1, h2, hcap, hc, fun i hi => ?_⟩, hcf, ha⟩
  show f' i = some (al' (va_up hf n j i))
  by_cases hin : i = n
  · subst hin
    rw [h3, show va_up hf i j i = j from if_pos rfl, ha j hj]
  · rw [h4 i (by omega), show va_up hf n j i = hf i from if_neg hin, ha _ (hh i (by omega))]
theorem va_up_s {f : Nat → Option Nat} {n : Nat} {x : Option Nat} : va_up f n x n = x := if_pos rfl
theorem va_up_n {f : Nat → Option Nat} {n i : Nat} {x : Option Nat} (h : i ≠ n) : va_up f n x i = f i := if_neg h
theorem cpy_lt {f g : Nat → Option Nat} {n i : Nat} (h : i < n) : va_cpy f g 0 0 n i = f i := by unfold va_cpy; rw [if_pos (by omega), Nat.zero_add, Nat.sub_zero]
