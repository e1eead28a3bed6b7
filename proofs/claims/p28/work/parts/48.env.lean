/-! THE ENVIRONMENT OUT OF THE START'S WORDS -/
theorem law_arr {s : State} {b : Nat} {ty : FieldType} (h : (Cond.arrayClass ty).before #[Value.ref b] s = true) : ∃ cA, ArrOfT s cA ty ∧ s.vm.findClass ("[" ++ ty.toString) = some cA := by
  obtain ⟨cI, kI, pI, a1, a2, a3⟩ := Cond.arrayClass_spec h
  exact ⟨cI, fun n z => ⟨fun k h => (by cases h), kI, a2, pI, a3⟩, a1⟩
theorem law_obj {s : State} {b : Nat} (h : (Cond.arrayOver (.object "java/lang/Object")).before #[Value.ref b] s = true) : ∃ cA, ArrOfT s cA (.object "java/lang/Object") ∧ va_RA s cA (.object "java/lang/Object") := by
  obtain ⟨pO, cO, kO, b1, b2, b3, b4, b5⟩ := Cond.arrayOver_spec h
  exact ⟨cO, fun n z => ⟨fun k h => (by cases h), kO, b3, pO, b4⟩, kO, pO, b3, b4, b1, b5⟩
set_option maxHeartbeats 4000000 in
set_option maxRecDepth 100000 in
theorem law_cls {s : State} {b : Nat} (hts : ∀ w ∈ fA, w.before #[Value.ref b] s = true) : ∃ (dC : Nat → ClassId) (dI : Nat → Nat → Nat), ∀ (k : Nat) (q : vw_C), vwCl[k]? = some q → u_Kn s q.1 q.2.1 q.2.2 (dC k) (dI k) := by
  obtain ⟨c0, i0, k0⟩ := u_known (C := RJx4a65c) (T := TJx4a65c) (N := 3) (n := 3) hts uJx4a65c (hts _ q78)
  obtain ⟨c1, i1, k1⟩ := u_known (C := RX0) (T := TX0) (N := 3) (n := 3) hts uX0 (hts _ q177)
  obtain ⟨c2, i2, k2⟩ := u_known (C := RX1) (T := TX1) (N := 3) (n := 3) hts uX1 (hts _ q448)
  obtain ⟨c3, i3, k3⟩ := u_known (C := RX2) (T := TX2) (N := 1) (n := 1) hts uX2 (hts _ q399)
  obtain ⟨c4, i4, k4⟩ := u_known (C := RX3) (T := TX3) (N := 10) (n := 10) hts uX3 (hts _ q184)
  obtain ⟨c5, i5, k5⟩ := u_known (C := RX4) (T := TX4) (N := 6) (n := 6) hts uX4 (hts _ q379)
  obtain ⟨c6, i6, k6⟩ := u_known (C := RX5) (T := TX5) (N := 15) (n := 15) hts uX5 (hts _ q367)
  obtain ⟨c7, i7, k7⟩ := u_known (C := RX6) (T := TX6) (N := 3) (n := 3) hts uX6 (hts _ q408)
  obtain ⟨c8, i8, k8⟩ := u_known (C := RX7) (T := TX7) (N := 3) (n := 3) hts uX7 (hts _ q577)
  refine ⟨fun k => [c0, c1, c2, c3, c4, c5, c6, c7, c8].getD k c0, fun k => [i0, i1, i2, i3, i4, i5, i6, i7, i8].getD k i0, ?_⟩
  intro k q hq
  match k, hq with
  | 0, hq => cases hq; exact k0
  | 1, hq => cases hq; exact k1
  | 2, hq => cases hq; exact k2
  | 3, hq => cases hq; exact k3
  | 4, hq => cases hq; exact k4
  | 5, hq => cases hq; exact k5
  | 6, hq => cases hq; exact k6
  | 7, hq => cases hq; exact k7
  | 8, hq => cases hq; exact k8
  | k + 9, hq => simp [vwCl] at hq
abbrev lawT : Term := .static "java/util/ArrayList" "DEFAULTCAPACITY_EMPTY_ELEMENTDATA" "[Ljava/lang/Object;"
set_option maxHeartbeats 4000000 in
set_option maxRecDepth 100000 in
theorem law_env {s : State} {b : Nat} (htb : ∀ w ∈ lw_tbl, w.before #[Value.ref b] s = true) (hgv : (Jvm.Cond.and given_1 narrow_1).before #[Value.ref b] s = true) {A : Nat → Prop} (hA2 : ∀ q, A q → s.heap.size ≤ q) : ∃ (D : va_G) (cI cO cL : ClassId) (E M : Nat), fE D cI cO cL E M A s s.heap := by
  have hs := flat_of_before _ hgv
  have hts : ∀ w ∈ fA, w.before #[Value.ref b] s = true := fun w h => htb w (fA_tbl w h)
  have hA' : ∀ a : Nat, a < s.heap.size → ¬ A a := fun a h h2 => absurd (hA2 a h2) (Nat.not_le.mpr h)
  obtain ⟨dC, dI, hKc⟩ := law_cls hts
  obtain ⟨cI, aI, nI_⟩ := law_arr (ty := .int) (htb _ (List.mem_append_right _ (List.mem_of_getElem? (i := 83) (by decide +kernel))))
  obtain ⟨cL, aL, nL_⟩ := law_arr (ty := .boolean) (htb _ (List.mem_append_right _ (List.mem_of_getElem? (i := 879) (by decide +kernel))))
  obtain ⟨cO, aO, nO_⟩ := law_obj (htb _ (List.mem_append_right _ (List.mem_of_getElem? (i := 329) (by decide +kernel))))
  obtain ⟨M, hM⟩ := va_Mi.of (C := "[Ljava/lang/Object;") (hs _ (by decide +kernel))
  have hex : (Cond.exactly lawT "[Ljava/lang/Object;").before #[Value.ref b] s = true := hs _ (by decide +kernel)
  have har : (Cond.arrayOf lawT (.object "java/lang/Object")).before #[Value.ref b] s = true := hs _ (by decide +kernel)
  have hle : (Cond.eq (.length lawT) (.int 0)).before #[Value.ref b] s = true := hs _ (by decide +kernel)
  obtain ⟨E, cE, cell, kE, e1, e2, e3, e4, e5, e6, -⟩ := Cond.exactly_spec hex
  obtain ⟨E', e7, hT⟩ := va_Tof (N := 0) (f := fun _ => .null) (by decide) har (va_eqt hle) (fun j h => absurd h (Nat.not_lt_zero j)) hA'
  obtain rfl : E = E' := by
    have h := e1.symm.trans e7
    injection h with h
    injection h
  refine ⟨(dC, dI), cI, cO, cL, E, M, ⟨⟨hKc, fun k q hk => ?_⟩, hM, va_Dc.of (htb _ (List.mem_append_right _ (List.mem_of_getElem? (i := 897) (by decide +kernel)))), va_AO.of (htb _ (List.mem_append_right _ (List.mem_of_getElem? (i := 329) (by decide +kernel)))), List.forall_mem_cons.mpr ⟨va_Nw.of rfl (htb _ (List.mem_append_right _ (List.mem_of_getElem? (i := 61) (by decide +kernel)))), List.forall_mem_cons.mpr ⟨va_Nw.of rfl (htb _ (List.mem_append_right _ (List.mem_of_getElem? (i := 69) (by decide +kernel)))), List.forall_mem_cons.mpr ⟨va_Nw.of rfl (htb _ (List.mem_append_right _ (List.mem_of_getElem? (i := 449) (by decide +kernel)))), List.forall_mem_cons.mpr ⟨va_Nw.of rfl (htb _ (List.mem_append_right _ (List.mem_of_getElem? (i := 598) (by decide +kernel)))), List.forall_mem_cons.mpr ⟨va_Nw.of rfl (htb _ (List.mem_append_right _ (List.mem_of_getElem? (i := 616) (by decide +kernel)))), List.forall_mem_cons.mpr ⟨va_Nw.of rfl (htb _ (List.mem_append_right _ (List.mem_of_getElem? (i := 631) (by decide +kernel)))), List.forall_mem_cons.mpr ⟨va_Nw.of rfl (htb _ (List.mem_append_right _ (List.mem_of_getElem? (i := 735) (by decide +kernel)))), List.forall_mem_cons.mpr ⟨va_Nw.of rfl (htb _ (List.mem_append_right _ (List.mem_of_getElem? (i := 742) (by decide +kernel)))), fun q h => by cases h⟩⟩⟩⟩⟩⟩⟩⟩, List.forall_mem_cons.mpr ⟨va_Nw.of rfl (htb _ (List.mem_append_right _ (List.mem_of_getElem? (i := 887) (by decide +kernel)))), List.forall_mem_cons.mpr ⟨va_Nw.of rfl (htb _ (List.mem_append_right _ (List.mem_of_getElem? (i := 888) (by decide +kernel)))), List.forall_mem_cons.mpr ⟨va_Nw.of rfl (htb _ (List.mem_append_right _ (List.mem_of_getElem? (i := 890) (by decide +kernel)))), List.forall_mem_cons.mpr ⟨va_Nw.of rfl (htb _ (List.mem_append_right _ (List.mem_of_getElem? (i := 891) (by decide +kernel)))), List.forall_mem_cons.mpr ⟨va_Nw.of rfl (htb _ (List.mem_append_right _ (List.mem_of_getElem? (i := 892) (by decide +kernel)))), fun q h => by cases h⟩⟩⟩⟩⟩⟩, va_Zof (htb _ (List.mem_append_right _ (List.mem_of_getElem? (i := 46) (by decide +kernel)))) (hts _ q50) e1 hA', hT, ⟨cell, e3, e5, by rw [e2, e6], hA' E (Array.getElem?_eq_some_iff.mp e3).1⟩⟩
  match k, hk with
  | 0, hk => cases hk; exact ⟨aI, nI_⟩
  | 1, hk => cases hk; exact ⟨aO, nO_⟩
  | 2, hk => cases hk; exact ⟨aL, nL_⟩
  | k + 3, hk => simp at hk
