set_option maxHeartbeats 4000000 in
set_option maxRecDepth 100000 in
theorem kX0_init (l : Launch) (D : va_G) (cI cO cL : ClassId) (E M : Nat) (h : Nat)  (sz : Nat) : Met l yX0_init (fW yX0_init cX0_init 1 none) { frames := 1, cells := 3, slots := 27, locals := 12 } (fPre D cI cO cL E M [.ref h] sz [(h, .inr (1, [.null, .null, .null]))]) (va_Qv (fun _ : Nat × Nat × Nat => True) (fB D (va_A [(h, .inr (1, [.null, .null, .null]))] sz) (fun u : Nat × Nat × Nat => [(h, .inr (1, [.ref u.1, .ref u.2.1, .ref u.2.2])), (u.1, .inl (cI, 9, .inl (fun _ => 0))), (u.2.1, .inl (cI, 9, .inl (fun _ => 0))), (u.2.2, .inl (cI, 9, .inl (fun _ => 0)))])) (va_A [(h, .inr (1, [.null, .null, .null]))] sz)) 3 27 (va_A [(h, .inr (1, [.null, .null, .null]))] sz) := by
  refine Met.ofW (cc := cX0_init) (maxL := 1) (ret := none) (by decide) rfl ?_
  intro p e s m args below meth c s₁ B hml hv
  obtain ⟨rfl, hsz, hP, hD0, hE⟩ := hv
  have hx := B.exec
  have hb := B.bytes
  have hr := B.returns
  have hts0 := atoms_spec (ws := (fW yX0_init cX0_init 1 none)) B.pre
  have hts : ∀ w ∈ fA, w.before _ s = true := fun w h => hts0 w (List.mem_cons_of_mem _ h)
  have hown : s.vm.findClass RX0 = some m.cls := findClass_of_methodNamed B.named
  have hlocks := B.notSynchronized
  have hin : meth.name = "<init>" := (name_of_methodNamed B.named B.method).1
  subst hsz
  have hD := hD0.self (sz := s.heap.size)
  generalize hAe : va_A [(h, .inr (1, [.null, .null, .null]))] s.heap.size = A at hD hE ⊢
  have hA : ∀ q : Nat, s.heap.size ≤ q → A q := fun q h => by rw [← hAe]; exact Or.inr h
  have hP : va_P D vwCl [(h, .inr (1, [.null, .null, .null]))] s.heap := hP
  have hl := lv_entry ([.ref h]) (n := 1) (Nat.le_of_ble_eq_true rfl)
  rw [lg_entry_eq]
  generalize (lg_sl ([.ref h]) ++ List.replicate (1 - (lg_sl ([.ref h])).length) Slot.unset).toArray = ls at hl ⊢
  have hl : lv_has ls 1 [(0, .ref h)] := hl
  refine f_start (A := A) hP (fun H hP hS => ?_)
  refine lv_aload_n hx hb dX0_init_0 rfl (lv_at hl 0 rfl) ?_
  refine W.objInit hx hb hown (hts _ q52) (hts _ q11) (hts _ q12) rfl (by rw [hml]; exact hl.1) rfl dX0_init_1 (Nat.le_of_ble_eq_true rfl) (Nat.le_of_ble_eq_true rfl) ?_
  refine W.eq (g2 := F0 m 4 ls []) rfl ?_
  refine lv_aload_n hx hb dX0_init_4 rfl (lv_at hl 0 rfl) ?_
  refine lv_bipush (v := 9) hx hb dX0_init_5 (by decide) ?_
  refine va_newa (atype := .int) (a0 := (9, .inl (fun _ => 0))) (N' := 9) hx hb (hts _ q53) rfl hE.1.1 hP hD hS hA (fun _ => rfl) (by decide) (by decide) (Nat.le_of_ble_eq_true rfl) (Nat.le_of_ble_eq_true rfl) (Nat.le_of_ble_eq_true rfl) dX0_init_7 (fun n_1 cA H hK9 hP hD hS => ?_)
  obtain rfl : cI = cA := f_sameC hK9 (i := 0) (j := 3) rfl rfl (fun C h => by cases h)
  have hP : va_P D vwCl [(h, .inr (1, [.null, .null, .null])), (n_1, .inl (cI, 9, .inl (fun _ => 0)))] H := hP
  have hD : va_D A [(h, .inr (1, [.null, .null, .null])), (n_1, .inl (cI, 9, .inl (fun _ => 0)))] := hD
  refine va_putF (D := D) (ci := 1) (v := .ref n_1) (ty := .array .int) (C := RX0) (T := TX0) (N := 3) hx hb hts uX0 tyX0 tyX0_ok nmX0 hown hE.1.1 hP hD hS 0 rfl rfl 0 (by decide) (hts _ q54) (fun _ h9 => h9) rfl hin rfl (by decide +kernel) rfl rfl (Nat.le_of_ble_eq_true rfl) dX0_init_9 (fun H locs hP hD hS => ?_)
  have hP : va_P D vwCl [(h, .inr (1, [.ref n_1, .null, .null])), (n_1, .inl (cI, 9, .inl (fun _ => 0)))] H := hP
  have hD : va_D A [(h, .inr (1, [.ref n_1, .null, .null])), (n_1, .inl (cI, 9, .inl (fun _ => 0)))] := hD
  refine lv_aload_n hx hb dX0_init_12 rfl (lv_at hl 0 rfl) ?_
  refine lv_bipush (v := 9) hx hb dX0_init_13 (by decide) ?_
  refine va_newa (atype := .int) (a0 := (9, .inl (fun _ => 0))) (N' := 9) hx hb (hts _ q53) rfl hE.1.1 hP hD hS hA (fun _ => rfl) (by decide) (by decide) (Nat.le_of_ble_eq_true rfl) (Nat.le_of_ble_eq_true rfl) (Nat.le_of_ble_eq_true rfl) dX0_init_15 (fun n_2 cA H hK9 hP hD hS => ?_)
  obtain rfl : cI = cA := f_sameC hK9 (i := 0) (j := 3) rfl rfl (fun C h => by cases h)
  have hP : va_P D vwCl [(h, .inr (1, [.ref n_1, .null, .null])), (n_1, .inl (cI, 9, .inl (fun _ => 0))), (n_2, .inl (cI, 9, .inl (fun _ => 0)))] H := hP
  have hD : va_D A [(h, .inr (1, [.ref n_1, .null, .null])), (n_1, .inl (cI, 9, .inl (fun _ => 0))), (n_2, .inl (cI, 9, .inl (fun _ => 0)))] := hD
  refine va_putF (D := D) (ci := 1) (v := .ref n_2) (ty := .array .int) (C := RX0) (T := TX0) (N := 3) hx hb hts uX0 tyX0 tyX0_ok nmX0 hown hE.1.1 hP hD hS 0 rfl rfl 1 (by decide) (hts _ q55) (fun _ h9 => h9) rfl hin rfl (by decide +kernel) rfl rfl (Nat.le_of_ble_eq_true rfl) dX0_init_17 (fun H locs hP hD hS => ?_)
  have hP : va_P D vwCl [(h, .inr (1, [.ref n_1, .ref n_2, .null])), (n_1, .inl (cI, 9, .inl (fun _ => 0))), (n_2, .inl (cI, 9, .inl (fun _ => 0)))] H := hP
  have hD : va_D A [(h, .inr (1, [.ref n_1, .ref n_2, .null])), (n_1, .inl (cI, 9, .inl (fun _ => 0))), (n_2, .inl (cI, 9, .inl (fun _ => 0)))] := hD
  refine lv_aload_n hx hb dX0_init_20 rfl (lv_at hl 0 rfl) ?_
  refine lv_bipush (v := 9) hx hb dX0_init_21 (by decide) ?_
  refine va_newa (atype := .int) (a0 := (9, .inl (fun _ => 0))) (N' := 9) hx hb (hts _ q53) rfl hE.1.1 hP hD hS hA (fun _ => rfl) (by decide) (by decide) (Nat.le_of_ble_eq_true rfl) (Nat.le_of_ble_eq_true rfl) (Nat.le_of_ble_eq_true rfl) dX0_init_23 (fun n_3 cA H hK9 hP hD hS => ?_)
  obtain rfl : cI = cA := f_sameC hK9 (i := 0) (j := 3) rfl rfl (fun C h => by cases h)
  have hP : va_P D vwCl [(h, .inr (1, [.ref n_1, .ref n_2, .null])), (n_1, .inl (cI, 9, .inl (fun _ => 0))), (n_2, .inl (cI, 9, .inl (fun _ => 0))), (n_3, .inl (cI, 9, .inl (fun _ => 0)))] H := hP
  have hD : va_D A [(h, .inr (1, [.ref n_1, .ref n_2, .null])), (n_1, .inl (cI, 9, .inl (fun _ => 0))), (n_2, .inl (cI, 9, .inl (fun _ => 0))), (n_3, .inl (cI, 9, .inl (fun _ => 0)))] := hD
  refine va_putF (D := D) (ci := 1) (v := .ref n_3) (ty := .array .int) (C := RX0) (T := TX0) (N := 3) hx hb hts uX0 tyX0 tyX0_ok nmX0 hown hE.1.1 hP hD hS 0 rfl rfl 2 (by decide) (hts _ q56) (fun _ h9 => h9) rfl hin rfl (by decide +kernel) rfl rfl (Nat.le_of_ble_eq_true rfl) dX0_init_25 (fun H locs hP hD hS => ?_)
  have hP : va_P D vwCl [(h, .inr (1, [.ref n_1, .ref n_2, .ref n_3])), (n_1, .inl (cI, 9, .inl (fun _ => 0))), (n_2, .inl (cI, 9, .inl (fun _ => 0))), (n_3, .inl (cI, 9, .inl (fun _ => 0)))] H := hP
  have hD : va_D A [(h, .inr (1, [.ref n_1, .ref n_2, .ref n_3])), (n_1, .inl (cI, 9, .inl (fun _ => 0))), (n_2, .inl (cI, 9, .inl (fun _ => 0))), (n_3, .inl (cI, 9, .inl (fun _ => 0)))] := hD
  have hP9 := hP.sub (ws' := [(h, .inr (1, [.ref n_1, .ref n_2, .ref n_3])), (n_1, .inl (cI, 9, .inl (fun _ => 0))), (n_2, .inl (cI, 9, .inl (fun _ => 0))), (n_3, .inl (cI, 9, .inl (fun _ => 0)))]) [0, 1, 2, 3] rfl
  have hD9 := hD.sub (ws' := [(h, .inr (1, [.ref n_1, .ref n_2, .ref n_3])), (n_1, .inl (cI, 9, .inl (fun _ => 0))), (n_2, .inl (cI, 9, .inl (fun _ => 0))), (n_3, .inl (cI, 9, .inl (fun _ => 0)))]) [0, 1, 2, 3] (by decide) rfl
  refine W.widen (k := 3) (n := 27) (Nat.le_of_ble_eq_true rfl) (Nat.le_of_ble_eq_true rfl) ?_
  exact W.vret hx hb hr (fun t ht hW => ⟨⟨(n_1, n_2, n_3), rfl, trivial, by rw [ht]; exact hP9, hD9⟩, hS.F ht⟩) hS.2.2 dX0_init_28
set_option maxHeartbeats 4000000 in
set_option maxRecDepth 100000 in
theorem kX0_slotOf (l : Launch) (D : va_G) (cI cO cL : ClassId) (E M : Nat) (k : Nat) (hk : k < 6010) (sz : Nat) : Met l yX0_slotOf (fW yX0_slotOf cX0_slotOf 1 (some .int)) { frames := 1, cells := 0, slots := 0, locals := 22 } (fPre D cI cO cL E M [.int (nI k)] sz []) (va_Qi (fun (r : Int32) (_ : Unit) => r = nI (k % 9)) (fB D (va_A [] sz) (fun u : Unit => [])) (va_A [] sz)) 0 0 (va_A [] sz) := by
  refine Met.ofW (cc := cX0_slotOf) (maxL := 1) (ret := (some .int)) (by decide) rfl ?_
  intro p e s m args below meth c s₁ B hml hv
  obtain ⟨rfl, hsz, hP, hD0, hE⟩ := hv
  have hx := B.exec
  have hb := B.bytes
  have hr := B.returns
  have hts0 := atoms_spec (ws := (fW yX0_slotOf cX0_slotOf 1 (some .int))) B.pre
  have hts : ∀ w ∈ fA, w.before _ s = true := fun w h => hts0 w (List.mem_cons_of_mem _ h)
  have hown : s.vm.findClass RX0 = some m.cls := findClass_of_methodNamed B.named
  have hlocks := B.notSynchronized
  subst hsz
  have hD := hD0.self (sz := s.heap.size)
  generalize hAe : va_A [] s.heap.size = A at hD hE ⊢
  have hA : ∀ q : Nat, s.heap.size ≤ q → A q := fun q h => by rw [← hAe]; exact Or.inr h
  have hP : va_P D vwCl [] s.heap := hP
  have hl := lv_entry ([.int (nI k)]) (n := 1) (Nat.le_of_ble_eq_true rfl)
  rw [lg_entry_eq]
  generalize (lg_sl ([.int (nI k)]) ++ List.replicate (1 - (lg_sl ([.int (nI k)])).length) Slot.unset).toArray = ls at hl ⊢
  have hl : lv_has ls 1 [(0, .int (nI k))] := hl
  refine f_start (A := A) hP (fun H hP hS => ?_)
  refine lv_iload_n hx hb dX0_slotOf_0 rfl (lv_at hl 0 rfl) ?_
  refine lv_bipush (v := 9) hx hb dX0_slotOf_1 (by decide) ?_
  refine f_aft_i (wr := []) (f_runS (As := [.int (nI k), .int 9]) (rest := []) hx hb hml hown hts (kJ9_floorMod_7cf53 l D cI cO cL E M k hk H.size) (fcwS 2 hts q593 q553 q554 q555 rfl rfl (by decide +kernel) ⟨(Nat.le_of_ble_eq_true rfl), (Nat.le_of_ble_eq_true rfl)⟩) hE hP hD hS hA [] rfl (by decide) rfl hl.1 rfl (Nat.le_of_ble_eq_true rfl) dX0_slotOf_3 ⟨(Nat.le_of_ble_eq_true rfl), (Nat.le_of_ble_eq_true rfl)⟩) hP hD hS hA [] [] rfl rfl (by decide) (by decide) (fun r u H locs hr0 hP hD hS => ?_)
  subst hr0
  have hP : va_P D vwCl [] H := hP
  have hD : va_D A [] := hD
  have hP9 := f_P0 (D := D) (H := H)
  have hD9 := f_D0 (A := A)
  refine W.widen (k := 0) (n := 0) (Nat.le_of_ble_eq_true rfl) (Nat.le_of_ble_eq_true rfl) ?_
  exact W.iret (v := nI (k % 9)) hx hb hr (fun t ht hW => ⟨⟨nI (k % 9), (), rfl, rfl, by rw [ht]; exact hP9, hD9⟩, hS.F ht⟩) hS.2.2 dX0_slotOf_6
set_option maxHeartbeats 4000000 in
set_option maxRecDepth 100000 in
theorem kX0_fallingIn (l : Launch) (D : va_G) (cI cO cL : ClassId) (E M : Nat) (sa : Nat) (i1 : Nat) (i2 : Nat) (i3 : Nat) (k : Nat) (hk : k < 6010) (sz : Nat) : Met l yX0_fallingIn (fW yX0_fallingIn cX0_fallingIn 3 (some .int)) { frames := 2, cells := 0, slots := 0, locals := 42 } (fPre D cI cO cL E M [.ref sa, .int (nI k)] sz [(sa, .inr (1, [.ref i1, .ref i2, .ref i3])), (i1, .inl (cI, 9, .inl (fun _ => 0))), (i2, .inl (cI, 9, .inl (fun _ => 0))), (i3, .inl (cI, 9, .inl (fun _ => 0)))]) (va_Qi (fun (r : Int32) (_ : Unit) => r = 0) (fB D (va_A [(sa, .inr (1, [.ref i1, .ref i2, .ref i3])), (i1, .inl (cI, 9, .inl (fun _ => 0))), (i2, .inl (cI, 9, .inl (fun _ => 0))), (i3, .inl (cI, 9, .inl (fun _ => 0)))] sz) (fun u : Unit => [(sa, .inr (1, [.ref i1, .ref i2, .ref i3])), (i1, .inl (cI, 9, .inl (fun _ => 0))), (i2, .inl (cI, 9, .inl (fun _ => 0))), (i3, .inl (cI, 9, .inl (fun _ => 0)))])) (va_A [(sa, .inr (1, [.ref i1, .ref i2, .ref i3])), (i1, .inl (cI, 9, .inl (fun _ => 0))), (i2, .inl (cI, 9, .inl (fun _ => 0))), (i3, .inl (cI, 9, .inl (fun _ => 0)))] sz)) 0 0 (va_A [(sa, .inr (1, [.ref i1, .ref i2, .ref i3])), (i1, .inl (cI, 9, .inl (fun _ => 0))), (i2, .inl (cI, 9, .inl (fun _ => 0))), (i3, .inl (cI, 9, .inl (fun _ => 0)))] sz) := by
  refine Met.ofW (cc := cX0_fallingIn) (maxL := 3) (ret := (some .int)) (by decide) rfl ?_
  intro p e s m args below meth c s₁ B hml hv
  obtain ⟨rfl, hsz, hP, hD0, hE⟩ := hv
  have hx := B.exec
  have hb := B.bytes
  have hr := B.returns
  have hts0 := atoms_spec (ws := (fW yX0_fallingIn cX0_fallingIn 3 (some .int))) B.pre
  have hts : ∀ w ∈ fA, w.before _ s = true := fun w h => hts0 w (List.mem_cons_of_mem _ h)
  have hown : s.vm.findClass RX0 = some m.cls := findClass_of_methodNamed B.named
  have hlocks := B.notSynchronized
  subst hsz
  have hD := hD0.self (sz := s.heap.size)
  generalize hAe : va_A [(sa, .inr (1, [.ref i1, .ref i2, .ref i3])), (i1, .inl (cI, 9, .inl (fun _ => 0))), (i2, .inl (cI, 9, .inl (fun _ => 0))), (i3, .inl (cI, 9, .inl (fun _ => 0)))] s.heap.size = A at hD hE ⊢
  have hA : ∀ q : Nat, s.heap.size ≤ q → A q := fun q h => by rw [← hAe]; exact Or.inr h
  have hP : va_P D vwCl [(sa, .inr (1, [.ref i1, .ref i2, .ref i3])), (i1, .inl (cI, 9, .inl (fun _ => 0))), (i2, .inl (cI, 9, .inl (fun _ => 0))), (i3, .inl (cI, 9, .inl (fun _ => 0)))] s.heap := hP
  have hl := lv_entry ([.ref sa, .int (nI k)]) (n := 3) (Nat.le_of_ble_eq_true rfl)
  rw [lg_entry_eq]
  generalize (lg_sl ([.ref sa, .int (nI k)]) ++ List.replicate (3 - (lg_sl ([.ref sa, .int (nI k)])).length) Slot.unset).toArray = ls at hl ⊢
  have hl : lv_has ls 3 [(0, .ref sa), (1, .int (nI k))] := hl
  refine f_start (A := A) hP (fun H hP hS => ?_)
  refine lv_iload_n hx hb dX0_fallingIn_0 rfl (lv_at hl 1 rfl) ?_
  refine f_aft_i (wr := [(sa, .inr (1, [.ref i1, .ref i2, .ref i3])), (i1, .inl (cI, 9, .inl (fun _ => 0))), (i2, .inl (cI, 9, .inl (fun _ => 0))), (i3, .inl (cI, 9, .inl (fun _ => 0)))]) (f_runS (As := [.int (nI k)]) (rest := []) hx hb hml hown hts (kX0_slotOf l D cI cO cL E M k hk H.size) (fcwS 1 hts q590 q591 q46 q592 rfl rfl (by decide +kernel) ⟨(Nat.le_of_ble_eq_true rfl), (Nat.le_of_ble_eq_true rfl)⟩) hE hP hD hS hA [] rfl (by decide) rfl hl.1 rfl (Nat.le_of_ble_eq_true rfl) dX0_fallingIn_1 ⟨(Nat.le_of_ble_eq_true rfl), (Nat.le_of_ble_eq_true rfl)⟩) hP hD hS hA [] [0, 1, 2, 3] rfl rfl (by decide) (by decide) (fun r u H locs hr0 hP hD hS => ?_)
  subst hr0
  have hP : va_P D vwCl [(sa, .inr (1, [.ref i1, .ref i2, .ref i3])), (i1, .inl (cI, 9, .inl (fun _ => 0))), (i2, .inl (cI, 9, .inl (fun _ => 0))), (i3, .inl (cI, 9, .inl (fun _ => 0)))] H := hP
  have hD : va_D A [(sa, .inr (1, [.ref i1, .ref i2, .ref i3])), (i1, .inl (cI, 9, .inl (fun _ => 0))), (i2, .inl (cI, 9, .inl (fun _ => 0))), (i3, .inl (cI, 9, .inl (fun _ => 0)))] := hD
  refine lv_istore_n (lv' := [(2, .int (nI (k % 9))), (0, .ref sa), (1, .int (nI k))]) hx hb dX0_fallingIn_4 rfl hl (by decide) rfl (fun ls hl => ?_)
  refine lv_aload_n hx hb dX0_fallingIn_5 rfl (lv_at hl 1 rfl) ?_
  refine va_get (D := D) (ci := 1) (v := .ref i1) (C := RX0) (T := TX0) (N := 3) hx hb hts uX0 hown hE.1.1 hP 0 rfl rfl 0 (by decide) (hts _ q54) (fun _ h9 => h9) rfl dX0_fallingIn_6 ?_
  refine lv_iload_n hx hb dX0_fallingIn_9 rfl (lv_at hl 0 rfl) ?_
  refine va_iald hx hb hE.1.1 hP 1 0 rfl rfl (f_in9 k) dX0_fallingIn_10 ?_
  refine f_topi (v := 0) (rfl) ?_
  refine lv_aload_n hx hb dX0_fallingIn_11 rfl (lv_at hl 1 rfl) ?_
  refine va_get (D := D) (ci := 1) (v := .ref i2) (C := RX0) (T := TX0) (N := 3) hx hb hts uX0 hown hE.1.1 hP 0 rfl rfl 1 (by decide) (hts _ q55) (fun _ h9 => h9) rfl dX0_fallingIn_12 ?_
  refine lv_iload_n hx hb dX0_fallingIn_15 rfl (lv_at hl 0 rfl) ?_
  refine va_iald hx hb hE.1.1 hP 2 0 rfl rfl (f_in9 k) dX0_fallingIn_16 ?_
  refine f_topi (v := 0) (rfl) ?_
  refine f_iadd (v := 0) hx hb dX0_fallingIn_17 (by decide) ?_
  refine lv_aload_n hx hb dX0_fallingIn_18 rfl (lv_at hl 1 rfl) ?_
  refine va_get (D := D) (ci := 1) (v := .ref i3) (C := RX0) (T := TX0) (N := 3) hx hb hts uX0 hown hE.1.1 hP 0 rfl rfl 2 (by decide) (hts _ q56) (fun _ h9 => h9) rfl dX0_fallingIn_19 ?_
  refine lv_iload_n hx hb dX0_fallingIn_22 rfl (lv_at hl 0 rfl) ?_
  refine va_iald hx hb hE.1.1 hP 3 0 rfl rfl (f_in9 k) dX0_fallingIn_23 ?_
  refine f_topi (v := 0) (rfl) ?_
  refine f_iadd (v := 0) hx hb dX0_fallingIn_24 (by decide) ?_
  have hP9 := hP.sub (ws' := [(sa, .inr (1, [.ref i1, .ref i2, .ref i3])), (i1, .inl (cI, 9, .inl (fun _ => 0))), (i2, .inl (cI, 9, .inl (fun _ => 0))), (i3, .inl (cI, 9, .inl (fun _ => 0)))]) [0, 1, 2, 3] rfl
  have hD9 := hD.sub (ws' := [(sa, .inr (1, [.ref i1, .ref i2, .ref i3])), (i1, .inl (cI, 9, .inl (fun _ => 0))), (i2, .inl (cI, 9, .inl (fun _ => 0))), (i3, .inl (cI, 9, .inl (fun _ => 0)))]) [0, 1, 2, 3] (by decide) rfl
  refine W.widen (k := 0) (n := 0) (Nat.le_of_ble_eq_true rfl) (Nat.le_of_ble_eq_true rfl) ?_
  exact W.iret (v := 0) hx hb hr (fun t ht hW => ⟨⟨0, (), rfl, rfl, by rw [ht]; exact hP9, hD9⟩, hS.F ht⟩) hS.2.2 dX0_fallingIn_25
set_option maxHeartbeats 4000000 in
set_option maxRecDepth 100000 in
theorem kX0_fallingOnBasin (l : Launch) (D : va_G) (cI cO cL : ClassId) (E M : Nat) (sa : Nat) (i1 : Nat) (i2 : Nat) (i3 : Nat) (k : Nat) (hk : k < 6010) (sz : Nat) : Met l yX0_fallingOnBasin (fW yX0_fallingOnBasin cX0_fallingOnBasin 2 (some .int)) { frames := 2, cells := 0, slots := 0, locals := 42 } (fPre D cI cO cL E M [.ref sa, .int (nI k)] sz [(sa, .inr (1, [.ref i1, .ref i2, .ref i3])), (i1, .inl (cI, 9, .inl (fun _ => 0))), (i2, .inl (cI, 9, .inl (fun _ => 0))), (i3, .inl (cI, 9, .inl (fun _ => 0)))]) (va_Qi (fun (r : Int32) (_ : Unit) => r = 0) (fB D (va_A [(sa, .inr (1, [.ref i1, .ref i2, .ref i3])), (i1, .inl (cI, 9, .inl (fun _ => 0))), (i2, .inl (cI, 9, .inl (fun _ => 0))), (i3, .inl (cI, 9, .inl (fun _ => 0)))] sz) (fun u : Unit => [(sa, .inr (1, [.ref i1, .ref i2, .ref i3])), (i1, .inl (cI, 9, .inl (fun _ => 0))), (i2, .inl (cI, 9, .inl (fun _ => 0))), (i3, .inl (cI, 9, .inl (fun _ => 0)))])) (va_A [(sa, .inr (1, [.ref i1, .ref i2, .ref i3])), (i1, .inl (cI, 9, .inl (fun _ => 0))), (i2, .inl (cI, 9, .inl (fun _ => 0))), (i3, .inl (cI, 9, .inl (fun _ => 0)))] sz)) 0 0 (va_A [(sa, .inr (1, [.ref i1, .ref i2, .ref i3])), (i1, .inl (cI, 9, .inl (fun _ => 0))), (i2, .inl (cI, 9, .inl (fun _ => 0))), (i3, .inl (cI, 9, .inl (fun _ => 0)))] sz) := by
  refine Met.ofW (cc := cX0_fallingOnBasin) (maxL := 2) (ret := (some .int)) (by decide) rfl ?_
  intro p e s m args below meth c s₁ B hml hv
  obtain ⟨rfl, hsz, hP, hD0, hE⟩ := hv
  have hx := B.exec
  have hb := B.bytes
  have hr := B.returns
  have hts0 := atoms_spec (ws := (fW yX0_fallingOnBasin cX0_fallingOnBasin 2 (some .int))) B.pre
  have hts : ∀ w ∈ fA, w.before _ s = true := fun w h => hts0 w (List.mem_cons_of_mem _ h)
  have hown : s.vm.findClass RX0 = some m.cls := findClass_of_methodNamed B.named
  have hlocks := B.notSynchronized
  subst hsz
  have hD := hD0.self (sz := s.heap.size)
  generalize hAe : va_A [(sa, .inr (1, [.ref i1, .ref i2, .ref i3])), (i1, .inl (cI, 9, .inl (fun _ => 0))), (i2, .inl (cI, 9, .inl (fun _ => 0))), (i3, .inl (cI, 9, .inl (fun _ => 0)))] s.heap.size = A at hD hE ⊢
  have hA : ∀ q : Nat, s.heap.size ≤ q → A q := fun q h => by rw [← hAe]; exact Or.inr h
  have hP : va_P D vwCl [(sa, .inr (1, [.ref i1, .ref i2, .ref i3])), (i1, .inl (cI, 9, .inl (fun _ => 0))), (i2, .inl (cI, 9, .inl (fun _ => 0))), (i3, .inl (cI, 9, .inl (fun _ => 0)))] s.heap := hP
  have hl := lv_entry ([.ref sa, .int (nI k)]) (n := 2) (Nat.le_of_ble_eq_true rfl)
  rw [lg_entry_eq]
  generalize (lg_sl ([.ref sa, .int (nI k)]) ++ List.replicate (2 - (lg_sl ([.ref sa, .int (nI k)])).length) Slot.unset).toArray = ls at hl ⊢
  have hl : lv_has ls 2 [(0, .ref sa), (1, .int (nI k))] := hl
  refine f_start (A := A) hP (fun H hP hS => ?_)
  refine lv_aload_n hx hb dX0_fallingOnBasin_0 rfl (lv_at hl 0 rfl) ?_
  refine va_get (D := D) (ci := 1) (v := .ref i1) (C := RX0) (T := TX0) (N := 3) hx hb hts uX0 hown hE.1.1 hP 0 rfl rfl 0 (by decide) (hts _ q54) (fun _ h9 => h9) rfl dX0_fallingOnBasin_1 ?_
  refine lv_iload_n hx hb dX0_fallingOnBasin_4 rfl (lv_at hl 1 rfl) ?_
  refine f_aft_i (wr := [(sa, .inr (1, [.ref i1, .ref i2, .ref i3])), (i1, .inl (cI, 9, .inl (fun _ => 0))), (i2, .inl (cI, 9, .inl (fun _ => 0))), (i3, .inl (cI, 9, .inl (fun _ => 0)))]) (f_runS (As := [.int (nI k)]) (rest := [.ref i1]) hx hb hml hown hts (kX0_slotOf l D cI cO cL E M k hk H.size) (fcwS 1 hts q590 q591 q46 q592 rfl rfl (by decide +kernel) ⟨(Nat.le_of_ble_eq_true rfl), (Nat.le_of_ble_eq_true rfl)⟩) hE hP hD hS hA [] rfl (by decide) rfl hl.1 rfl (Nat.le_of_ble_eq_true rfl) dX0_fallingOnBasin_5 ⟨(Nat.le_of_ble_eq_true rfl), (Nat.le_of_ble_eq_true rfl)⟩) hP hD hS hA [] [0, 1, 2, 3] rfl rfl (by decide) (by decide) (fun r u H locs hr0 hP hD hS => ?_)
  subst hr0
  have hP : va_P D vwCl [(sa, .inr (1, [.ref i1, .ref i2, .ref i3])), (i1, .inl (cI, 9, .inl (fun _ => 0))), (i2, .inl (cI, 9, .inl (fun _ => 0))), (i3, .inl (cI, 9, .inl (fun _ => 0)))] H := hP
  have hD : va_D A [(sa, .inr (1, [.ref i1, .ref i2, .ref i3])), (i1, .inl (cI, 9, .inl (fun _ => 0))), (i2, .inl (cI, 9, .inl (fun _ => 0))), (i3, .inl (cI, 9, .inl (fun _ => 0)))] := hD
  refine va_iald hx hb hE.1.1 hP 1 0 rfl rfl (f_in9 k) dX0_fallingOnBasin_8 ?_
  refine f_topi (v := 0) (rfl) ?_
  have hP9 := hP.sub (ws' := [(sa, .inr (1, [.ref i1, .ref i2, .ref i3])), (i1, .inl (cI, 9, .inl (fun _ => 0))), (i2, .inl (cI, 9, .inl (fun _ => 0))), (i3, .inl (cI, 9, .inl (fun _ => 0)))]) [0, 1, 2, 3] rfl
  have hD9 := hD.sub (ws' := [(sa, .inr (1, [.ref i1, .ref i2, .ref i3])), (i1, .inl (cI, 9, .inl (fun _ => 0))), (i2, .inl (cI, 9, .inl (fun _ => 0))), (i3, .inl (cI, 9, .inl (fun _ => 0)))]) [0, 1, 2, 3] (by decide) rfl
  refine W.widen (k := 0) (n := 0) (Nat.le_of_ble_eq_true rfl) (Nat.le_of_ble_eq_true rfl) ?_
  exact W.iret (v := 0) hx hb hr (fun t ht hW => ⟨⟨0, (), rfl, rfl, by rw [ht]; exact hP9, hD9⟩, hS.F ht⟩) hS.2.2 dX0_fallingOnBasin_9
set_option maxHeartbeats 4000000 in
set_option maxRecDepth 100000 in
theorem kX0_fallingOnCrowd (l : Launch) (D : va_G) (cI cO cL : ClassId) (E M : Nat) (sa : Nat) (i1 : Nat) (i2 : Nat) (i3 : Nat) (k : Nat) (hk : k < 6010) (sz : Nat) : Met l yX0_fallingOnCrowd (fW yX0_fallingOnCrowd cX0_fallingOnCrowd 2 (some .int)) { frames := 2, cells := 0, slots := 0, locals := 42 } (fPre D cI cO cL E M [.ref sa, .int (nI k)] sz [(sa, .inr (1, [.ref i1, .ref i2, .ref i3])), (i1, .inl (cI, 9, .inl (fun _ => 0))), (i2, .inl (cI, 9, .inl (fun _ => 0))), (i3, .inl (cI, 9, .inl (fun _ => 0)))]) (va_Qi (fun (r : Int32) (_ : Unit) => r = 0) (fB D (va_A [(sa, .inr (1, [.ref i1, .ref i2, .ref i3])), (i1, .inl (cI, 9, .inl (fun _ => 0))), (i2, .inl (cI, 9, .inl (fun _ => 0))), (i3, .inl (cI, 9, .inl (fun _ => 0)))] sz) (fun u : Unit => [(sa, .inr (1, [.ref i1, .ref i2, .ref i3])), (i1, .inl (cI, 9, .inl (fun _ => 0))), (i2, .inl (cI, 9, .inl (fun _ => 0))), (i3, .inl (cI, 9, .inl (fun _ => 0)))])) (va_A [(sa, .inr (1, [.ref i1, .ref i2, .ref i3])), (i1, .inl (cI, 9, .inl (fun _ => 0))), (i2, .inl (cI, 9, .inl (fun _ => 0))), (i3, .inl (cI, 9, .inl (fun _ => 0)))] sz)) 0 0 (va_A [(sa, .inr (1, [.ref i1, .ref i2, .ref i3])), (i1, .inl (cI, 9, .inl (fun _ => 0))), (i2, .inl (cI, 9, .inl (fun _ => 0))), (i3, .inl (cI, 9, .inl (fun _ => 0)))] sz) := by
  refine Met.ofW (cc := cX0_fallingOnCrowd) (maxL := 2) (ret := (some .int)) (by decide) rfl ?_
  intro p e s m args below meth c s₁ B hml hv
  obtain ⟨rfl, hsz, hP, hD0, hE⟩ := hv
  have hx := B.exec
  have hb := B.bytes
  have hr := B.returns
  have hts0 := atoms_spec (ws := (fW yX0_fallingOnCrowd cX0_fallingOnCrowd 2 (some .int))) B.pre
  have hts : ∀ w ∈ fA, w.before _ s = true := fun w h => hts0 w (List.mem_cons_of_mem _ h)
  have hown : s.vm.findClass RX0 = some m.cls := findClass_of_methodNamed B.named
  have hlocks := B.notSynchronized
  subst hsz
  have hD := hD0.self (sz := s.heap.size)
  generalize hAe : va_A [(sa, .inr (1, [.ref i1, .ref i2, .ref i3])), (i1, .inl (cI, 9, .inl (fun _ => 0))), (i2, .inl (cI, 9, .inl (fun _ => 0))), (i3, .inl (cI, 9, .inl (fun _ => 0)))] s.heap.size = A at hD hE ⊢
  have hA : ∀ q : Nat, s.heap.size ≤ q → A q := fun q h => by rw [← hAe]; exact Or.inr h
  have hP : va_P D vwCl [(sa, .inr (1, [.ref i1, .ref i2, .ref i3])), (i1, .inl (cI, 9, .inl (fun _ => 0))), (i2, .inl (cI, 9, .inl (fun _ => 0))), (i3, .inl (cI, 9, .inl (fun _ => 0)))] s.heap := hP
  have hl := lv_entry ([.ref sa, .int (nI k)]) (n := 2) (Nat.le_of_ble_eq_true rfl)
  rw [lg_entry_eq]
  generalize (lg_sl ([.ref sa, .int (nI k)]) ++ List.replicate (2 - (lg_sl ([.ref sa, .int (nI k)])).length) Slot.unset).toArray = ls at hl ⊢
  have hl : lv_has ls 2 [(0, .ref sa), (1, .int (nI k))] := hl
  refine f_start (A := A) hP (fun H hP hS => ?_)
  refine lv_aload_n hx hb dX0_fallingOnCrowd_0 rfl (lv_at hl 0 rfl) ?_
  refine va_get (D := D) (ci := 1) (v := .ref i2) (C := RX0) (T := TX0) (N := 3) hx hb hts uX0 hown hE.1.1 hP 0 rfl rfl 1 (by decide) (hts _ q55) (fun _ h9 => h9) rfl dX0_fallingOnCrowd_1 ?_
  refine lv_iload_n hx hb dX0_fallingOnCrowd_4 rfl (lv_at hl 1 rfl) ?_
  refine f_aft_i (wr := [(sa, .inr (1, [.ref i1, .ref i2, .ref i3])), (i1, .inl (cI, 9, .inl (fun _ => 0))), (i2, .inl (cI, 9, .inl (fun _ => 0))), (i3, .inl (cI, 9, .inl (fun _ => 0)))]) (f_runS (As := [.int (nI k)]) (rest := [.ref i2]) hx hb hml hown hts (kX0_slotOf l D cI cO cL E M k hk H.size) (fcwS 1 hts q590 q591 q46 q592 rfl rfl (by decide +kernel) ⟨(Nat.le_of_ble_eq_true rfl), (Nat.le_of_ble_eq_true rfl)⟩) hE hP hD hS hA [] rfl (by decide) rfl hl.1 rfl (Nat.le_of_ble_eq_true rfl) dX0_fallingOnCrowd_5 ⟨(Nat.le_of_ble_eq_true rfl), (Nat.le_of_ble_eq_true rfl)⟩) hP hD hS hA [] [0, 1, 2, 3] rfl rfl (by decide) (by decide) (fun r u H locs hr0 hP hD hS => ?_)
  subst hr0
  have hP : va_P D vwCl [(sa, .inr (1, [.ref i1, .ref i2, .ref i3])), (i1, .inl (cI, 9, .inl (fun _ => 0))), (i2, .inl (cI, 9, .inl (fun _ => 0))), (i3, .inl (cI, 9, .inl (fun _ => 0)))] H := hP
  have hD : va_D A [(sa, .inr (1, [.ref i1, .ref i2, .ref i3])), (i1, .inl (cI, 9, .inl (fun _ => 0))), (i2, .inl (cI, 9, .inl (fun _ => 0))), (i3, .inl (cI, 9, .inl (fun _ => 0)))] := hD
  refine va_iald hx hb hE.1.1 hP 2 0 rfl rfl (f_in9 k) dX0_fallingOnCrowd_8 ?_
  refine f_topi (v := 0) (rfl) ?_
  have hP9 := hP.sub (ws' := [(sa, .inr (1, [.ref i1, .ref i2, .ref i3])), (i1, .inl (cI, 9, .inl (fun _ => 0))), (i2, .inl (cI, 9, .inl (fun _ => 0))), (i3, .inl (cI, 9, .inl (fun _ => 0)))]) [0, 1, 2, 3] rfl
  have hD9 := hD.sub (ws' := [(sa, .inr (1, [.ref i1, .ref i2, .ref i3])), (i1, .inl (cI, 9, .inl (fun _ => 0))), (i2, .inl (cI, 9, .inl (fun _ => 0))), (i3, .inl (cI, 9, .inl (fun _ => 0)))]) [0, 1, 2, 3] (by decide) rfl
  refine W.widen (k := 0) (n := 0) (Nat.le_of_ble_eq_true rfl) (Nat.le_of_ble_eq_true rfl) ?_
  exact W.iret (v := 0) hx hb hr (fun t ht hW => ⟨⟨0, (), rfl, rfl, by rw [ht]; exact hP9, hD9⟩, hS.F ht⟩) hS.2.2 dX0_fallingOnCrowd_9
set_option maxHeartbeats 4000000 in
set_option maxRecDepth 100000 in
theorem kX0_clear (l : Launch) (D : va_G) (cI cO cL : ClassId) (E M : Nat) (sa : Nat) (i1 : Nat) (i2 : Nat) (i3 : Nat) (k : Nat) (hk : k < 6010) (sz : Nat) : Met l yX0_clear (fW yX0_clear cX0_clear 3 none) { frames := 2, cells := 0, slots := 0, locals := 42 } (fPre D cI cO cL E M [.ref sa, .int (nI k)] sz [(sa, .inr (1, [.ref i1, .ref i2, .ref i3])), (i1, .inl (cI, 9, .inl (fun _ => 0))), (i2, .inl (cI, 9, .inl (fun _ => 0))), (i3, .inl (cI, 9, .inl (fun _ => 0)))]) (va_Qv (fun _ : Unit => True) (fB D (va_A [(sa, .inr (1, [.ref i1, .ref i2, .ref i3])), (i1, .inl (cI, 9, .inl (fun _ => 0))), (i2, .inl (cI, 9, .inl (fun _ => 0))), (i3, .inl (cI, 9, .inl (fun _ => 0)))] sz) (fun u : Unit => [(sa, .inr (1, [.ref i1, .ref i2, .ref i3])), (i1, .inl (cI, 9, .inl (fun _ => 0))), (i2, .inl (cI, 9, .inl (fun _ => 0))), (i3, .inl (cI, 9, .inl (fun _ => 0)))])) (va_A [(sa, .inr (1, [.ref i1, .ref i2, .ref i3])), (i1, .inl (cI, 9, .inl (fun _ => 0))), (i2, .inl (cI, 9, .inl (fun _ => 0))), (i3, .inl (cI, 9, .inl (fun _ => 0)))] sz)) 0 0 (va_A [(sa, .inr (1, [.ref i1, .ref i2, .ref i3])), (i1, .inl (cI, 9, .inl (fun _ => 0))), (i2, .inl (cI, 9, .inl (fun _ => 0))), (i3, .inl (cI, 9, .inl (fun _ => 0)))] sz) := by
  refine Met.ofW (cc := cX0_clear) (maxL := 3) (ret := none) (by decide) rfl ?_
  intro p e s m args below meth c s₁ B hml hv
  obtain ⟨rfl, hsz, hP, hD0, hE⟩ := hv
  have hx := B.exec
  have hb := B.bytes
  have hr := B.returns
  have hts0 := atoms_spec (ws := (fW yX0_clear cX0_clear 3 none)) B.pre
  have hts : ∀ w ∈ fA, w.before _ s = true := fun w h => hts0 w (List.mem_cons_of_mem _ h)
  have hown : s.vm.findClass RX0 = some m.cls := findClass_of_methodNamed B.named
  have hlocks := B.notSynchronized
  subst hsz
  have hD := hD0.self (sz := s.heap.size)
  generalize hAe : va_A [(sa, .inr (1, [.ref i1, .ref i2, .ref i3])), (i1, .inl (cI, 9, .inl (fun _ => 0))), (i2, .inl (cI, 9, .inl (fun _ => 0))), (i3, .inl (cI, 9, .inl (fun _ => 0)))] s.heap.size = A at hD hE ⊢
  have hA : ∀ q : Nat, s.heap.size ≤ q → A q := fun q h => by rw [← hAe]; exact Or.inr h
  have hP : va_P D vwCl [(sa, .inr (1, [.ref i1, .ref i2, .ref i3])), (i1, .inl (cI, 9, .inl (fun _ => 0))), (i2, .inl (cI, 9, .inl (fun _ => 0))), (i3, .inl (cI, 9, .inl (fun _ => 0)))] s.heap := hP
  have hl := lv_entry ([.ref sa, .int (nI k)]) (n := 3) (Nat.le_of_ble_eq_true rfl)
  rw [lg_entry_eq]
  generalize (lg_sl ([.ref sa, .int (nI k)]) ++ List.replicate (3 - (lg_sl ([.ref sa, .int (nI k)])).length) Slot.unset).toArray = ls at hl ⊢
  have hl : lv_has ls 3 [(0, .ref sa), (1, .int (nI k))] := hl
  refine f_start (A := A) hP (fun H hP hS => ?_)
  refine lv_iload_n hx hb dX0_clear_0 rfl (lv_at hl 1 rfl) ?_
  refine f_aft_i (wr := [(sa, .inr (1, [.ref i1, .ref i2, .ref i3])), (i1, .inl (cI, 9, .inl (fun _ => 0))), (i2, .inl (cI, 9, .inl (fun _ => 0))), (i3, .inl (cI, 9, .inl (fun _ => 0)))]) (f_runS (As := [.int (nI k)]) (rest := []) hx hb hml hown hts (kX0_slotOf l D cI cO cL E M k hk H.size) (fcwS 1 hts q590 q591 q46 q592 rfl rfl (by decide +kernel) ⟨(Nat.le_of_ble_eq_true rfl), (Nat.le_of_ble_eq_true rfl)⟩) hE hP hD hS hA [] rfl (by decide) rfl hl.1 rfl (Nat.le_of_ble_eq_true rfl) dX0_clear_1 ⟨(Nat.le_of_ble_eq_true rfl), (Nat.le_of_ble_eq_true rfl)⟩) hP hD hS hA [] [0, 1, 2, 3] rfl rfl (by decide) (by decide) (fun r u H locs hr0 hP hD hS => ?_)
  subst hr0
  have hP : va_P D vwCl [(sa, .inr (1, [.ref i1, .ref i2, .ref i3])), (i1, .inl (cI, 9, .inl (fun _ => 0))), (i2, .inl (cI, 9, .inl (fun _ => 0))), (i3, .inl (cI, 9, .inl (fun _ => 0)))] H := hP
  have hD : va_D A [(sa, .inr (1, [.ref i1, .ref i2, .ref i3])), (i1, .inl (cI, 9, .inl (fun _ => 0))), (i2, .inl (cI, 9, .inl (fun _ => 0))), (i3, .inl (cI, 9, .inl (fun _ => 0)))] := hD
  refine lv_istore_n (lv' := [(2, .int (nI (k % 9))), (0, .ref sa), (1, .int (nI k))]) hx hb dX0_clear_4 rfl hl (by decide) rfl (fun ls hl => ?_)
  refine lv_aload_n hx hb dX0_clear_5 rfl (lv_at hl 1 rfl) ?_
  refine va_get (D := D) (ci := 1) (v := .ref i1) (C := RX0) (T := TX0) (N := 3) hx hb hts uX0 hown hE.1.1 hP 0 rfl rfl 0 (by decide) (hts _ q54) (fun _ h9 => h9) rfl dX0_clear_6 ?_
  refine lv_iload_n hx hb dX0_clear_9 rfl (lv_at hl 0 rfl) ?_
  refine lv_iconst (v := 0) hx hb dX0_clear_10 (by decide) ?_
  refine va_iast hx hb hE.1.1 hP hD hS 1 0 rfl rfl (f_in9 k) dX0_clear_11 (fun H locs hP hD hS => ?_)
  rw [f_up0] at hP hD
  have hP : va_P D vwCl [(sa, .inr (1, [.ref i1, .ref i2, .ref i3])), (i1, .inl (cI, 9, .inl (fun _ => 0))), (i2, .inl (cI, 9, .inl (fun _ => 0))), (i3, .inl (cI, 9, .inl (fun _ => 0)))] H := hP
  have hD : va_D A [(sa, .inr (1, [.ref i1, .ref i2, .ref i3])), (i1, .inl (cI, 9, .inl (fun _ => 0))), (i2, .inl (cI, 9, .inl (fun _ => 0))), (i3, .inl (cI, 9, .inl (fun _ => 0)))] := hD
  refine lv_aload_n hx hb dX0_clear_12 rfl (lv_at hl 1 rfl) ?_
  refine va_get (D := D) (ci := 1) (v := .ref i2) (C := RX0) (T := TX0) (N := 3) hx hb hts uX0 hown hE.1.1 hP 0 rfl rfl 1 (by decide) (hts _ q55) (fun _ h9 => h9) rfl dX0_clear_13 ?_
  refine lv_iload_n hx hb dX0_clear_16 rfl (lv_at hl 0 rfl) ?_
  refine lv_iconst (v := 0) hx hb dX0_clear_17 (by decide) ?_
  refine va_iast hx hb hE.1.1 hP hD hS 2 0 rfl rfl (f_in9 k) dX0_clear_18 (fun H locs hP hD hS => ?_)
  rw [f_up0] at hP hD
  have hP : va_P D vwCl [(sa, .inr (1, [.ref i1, .ref i2, .ref i3])), (i1, .inl (cI, 9, .inl (fun _ => 0))), (i2, .inl (cI, 9, .inl (fun _ => 0))), (i3, .inl (cI, 9, .inl (fun _ => 0)))] H := hP
  have hD : va_D A [(sa, .inr (1, [.ref i1, .ref i2, .ref i3])), (i1, .inl (cI, 9, .inl (fun _ => 0))), (i2, .inl (cI, 9, .inl (fun _ => 0))), (i3, .inl (cI, 9, .inl (fun _ => 0)))] := hD
  refine lv_aload_n hx hb dX0_clear_19 rfl (lv_at hl 1 rfl) ?_
  refine va_get (D := D) (ci := 1) (v := .ref i3) (C := RX0) (T := TX0) (N := 3) hx hb hts uX0 hown hE.1.1 hP 0 rfl rfl 2 (by decide) (hts _ q56) (fun _ h9 => h9) rfl dX0_clear_20 ?_
  refine lv_iload_n hx hb dX0_clear_23 rfl (lv_at hl 0 rfl) ?_
  refine lv_iconst (v := 0) hx hb dX0_clear_24 (by decide) ?_
  refine va_iast hx hb hE.1.1 hP hD hS 3 0 rfl rfl (f_in9 k) dX0_clear_25 (fun H locs hP hD hS => ?_)
  rw [f_up0] at hP hD
  have hP : va_P D vwCl [(sa, .inr (1, [.ref i1, .ref i2, .ref i3])), (i1, .inl (cI, 9, .inl (fun _ => 0))), (i2, .inl (cI, 9, .inl (fun _ => 0))), (i3, .inl (cI, 9, .inl (fun _ => 0)))] H := hP
  have hD : va_D A [(sa, .inr (1, [.ref i1, .ref i2, .ref i3])), (i1, .inl (cI, 9, .inl (fun _ => 0))), (i2, .inl (cI, 9, .inl (fun _ => 0))), (i3, .inl (cI, 9, .inl (fun _ => 0)))] := hD
  have hP9 := hP.sub (ws' := [(sa, .inr (1, [.ref i1, .ref i2, .ref i3])), (i1, .inl (cI, 9, .inl (fun _ => 0))), (i2, .inl (cI, 9, .inl (fun _ => 0))), (i3, .inl (cI, 9, .inl (fun _ => 0)))]) [0, 1, 2, 3] rfl
  have hD9 := hD.sub (ws' := [(sa, .inr (1, [.ref i1, .ref i2, .ref i3])), (i1, .inl (cI, 9, .inl (fun _ => 0))), (i2, .inl (cI, 9, .inl (fun _ => 0))), (i3, .inl (cI, 9, .inl (fun _ => 0)))]) [0, 1, 2, 3] (by decide) rfl
  refine W.widen (k := 0) (n := 0) (Nat.le_of_ble_eq_true rfl) (Nat.le_of_ble_eq_true rfl) ?_
  exact W.vret hx hb hr (fun t ht hW => ⟨⟨(), rfl, trivial, by rw [ht]; exact hP9, hD9⟩, hS.F ht⟩) hS.2.2 dX0_clear_26
set_option maxHeartbeats 4000000 in
set_option maxRecDepth 100000 in
theorem kX0_all (l : Launch) (D : va_G) (cI cO cL : ClassId) (E M : Nat) (sa : Nat) (i1 : Nat) (i2 : Nat) (i3 : Nat)  (sz : Nat) : Met l yX0_all (fW yX0_all cX0_all 3 (some .int)) { frames := 0, cells := 0, slots := 0, locals := 0 } (fPre D cI cO cL E M [.ref sa] sz [(sa, .inr (1, [.ref i1, .ref i2, .ref i3])), (i1, .inl (cI, 9, .inl (fun _ => 0))), (i2, .inl (cI, 9, .inl (fun _ => 0))), (i3, .inl (cI, 9, .inl (fun _ => 0)))]) (va_Qi (fun (r : Int32) (_ : Unit) => r = 0) (fB D (va_A [(sa, .inr (1, [.ref i1, .ref i2, .ref i3])), (i1, .inl (cI, 9, .inl (fun _ => 0))), (i2, .inl (cI, 9, .inl (fun _ => 0))), (i3, .inl (cI, 9, .inl (fun _ => 0)))] sz) (fun u : Unit => [(sa, .inr (1, [.ref i1, .ref i2, .ref i3])), (i1, .inl (cI, 9, .inl (fun _ => 0))), (i2, .inl (cI, 9, .inl (fun _ => 0))), (i3, .inl (cI, 9, .inl (fun _ => 0)))])) (va_A [(sa, .inr (1, [.ref i1, .ref i2, .ref i3])), (i1, .inl (cI, 9, .inl (fun _ => 0))), (i2, .inl (cI, 9, .inl (fun _ => 0))), (i3, .inl (cI, 9, .inl (fun _ => 0)))] sz)) 0 0 (va_A [(sa, .inr (1, [.ref i1, .ref i2, .ref i3])), (i1, .inl (cI, 9, .inl (fun _ => 0))), (i2, .inl (cI, 9, .inl (fun _ => 0))), (i3, .inl (cI, 9, .inl (fun _ => 0)))] sz) := by
  refine Met.ofW (cc := cX0_all) (maxL := 3) (ret := (some .int)) (by decide) rfl ?_
  intro p e s m args below meth c s₁ B hml hv
  obtain ⟨rfl, hsz, hP, hD0, hE⟩ := hv
  have hx := B.exec
  have hb := B.bytes
  have hr := B.returns
  have hts0 := atoms_spec (ws := (fW yX0_all cX0_all 3 (some .int))) B.pre
  have hts : ∀ w ∈ fA, w.before _ s = true := fun w h => hts0 w (List.mem_cons_of_mem _ h)
  have hown : s.vm.findClass RX0 = some m.cls := findClass_of_methodNamed B.named
  have hlocks := B.notSynchronized
  subst hsz
  have hD := hD0.self (sz := s.heap.size)
  generalize hAe : va_A [(sa, .inr (1, [.ref i1, .ref i2, .ref i3])), (i1, .inl (cI, 9, .inl (fun _ => 0))), (i2, .inl (cI, 9, .inl (fun _ => 0))), (i3, .inl (cI, 9, .inl (fun _ => 0)))] s.heap.size = A at hD hE ⊢
  have hA : ∀ q : Nat, s.heap.size ≤ q → A q := fun q h => by rw [← hAe]; exact Or.inr h
  have hP : va_P D vwCl [(sa, .inr (1, [.ref i1, .ref i2, .ref i3])), (i1, .inl (cI, 9, .inl (fun _ => 0))), (i2, .inl (cI, 9, .inl (fun _ => 0))), (i3, .inl (cI, 9, .inl (fun _ => 0)))] s.heap := hP
  have hl := lv_entry ([.ref sa]) (n := 3) (Nat.le_of_ble_eq_true rfl)
  rw [lg_entry_eq]
  generalize (lg_sl ([.ref sa]) ++ List.replicate (3 - (lg_sl ([.ref sa])).length) Slot.unset).toArray = ls at hl ⊢
  have hl : lv_has ls 3 [(0, .ref sa)] := hl
  refine f_start (A := A) hP (fun H hP hS => ?_)
  refine lv_iconst (v := 0) hx hb dX0_all_0 (by decide) ?_
  refine lv_istore_n (lv' := [(1, .int 0), (0, .ref sa)]) hx hb dX0_all_1 rfl hl (by decide) rfl (fun ls hl => ?_)
  refine lv_iconst (v := 0) hx hb dX0_all_2 (by decide) ?_
  refine lv_istore_n (lv' := [(2, .int 0), (1, .int 0), (0, .ref sa)]) hx hb dX0_all_3 rfl hl (by decide) rfl (fun ls hl => ?_)
  refine lv_iload_n hx hb dX0_all_4 rfl (lv_at hl 0 rfl) ?_
  refine lv_bipush (v := 9) hx hb dX0_all_5 (by decide) ?_
  refine lv_icmp_ge (tgt := 39) hx hb dX0_all_7 (by decide) (fun h => absurd h (by decide)) (fun _ => ?_)
  refine lv_iload_n hx hb dX0_all_10 rfl (lv_at hl 1 rfl) ?_
  refine lv_aload_n hx hb dX0_all_11 rfl (lv_at hl 2 rfl) ?_
  refine va_get (D := D) (ci := 1) (v := .ref i1) (C := RX0) (T := TX0) (N := 3) hx hb hts uX0 hown hE.1.1 hP 0 rfl rfl 0 (by decide) (hts _ q54) (fun _ h9 => h9) rfl dX0_all_12 ?_
  refine lv_iload_n hx hb dX0_all_15 rfl (lv_at hl 0 rfl) ?_
  refine va_iald hx hb hE.1.1 hP 1 0 rfl rfl (by unfold vp_in; decide) dX0_all_16 ?_
  refine f_topi (v := 0) (rfl) ?_
  refine lv_aload_n hx hb dX0_all_17 rfl (lv_at hl 2 rfl) ?_
  refine va_get (D := D) (ci := 1) (v := .ref i2) (C := RX0) (T := TX0) (N := 3) hx hb hts uX0 hown hE.1.1 hP 0 rfl rfl 1 (by decide) (hts _ q55) (fun _ h9 => h9) rfl dX0_all_18 ?_
  refine lv_iload_n hx hb dX0_all_21 rfl (lv_at hl 0 rfl) ?_
  refine va_iald hx hb hE.1.1 hP 2 0 rfl rfl (by unfold vp_in; decide) dX0_all_22 ?_
  refine f_topi (v := 0) (rfl) ?_
  refine f_iadd (v := 0) hx hb dX0_all_23 (by decide) ?_
  refine lv_aload_n hx hb dX0_all_24 rfl (lv_at hl 2 rfl) ?_
  refine va_get (D := D) (ci := 1) (v := .ref i3) (C := RX0) (T := TX0) (N := 3) hx hb hts uX0 hown hE.1.1 hP 0 rfl rfl 2 (by decide) (hts _ q56) (fun _ h9 => h9) rfl dX0_all_25 ?_
  refine lv_iload_n hx hb dX0_all_28 rfl (lv_at hl 0 rfl) ?_
  refine va_iald hx hb hE.1.1 hP 3 0 rfl rfl (by unfold vp_in; decide) dX0_all_29 ?_
  refine f_topi (v := 0) (rfl) ?_
  refine f_iadd (v := 0) hx hb dX0_all_30 (by decide) ?_
  refine f_iadd (v := 0) hx hb dX0_all_31 (by decide) ?_
  refine lv_istore_n (lv' := [(1, .int 0), (2, .int 0), (0, .ref sa)]) hx hb dX0_all_32 rfl hl (by decide) rfl (fun ls hl => ?_)
  refine lv_iinc (v := 1) (lv' := [(2, .int 1), (1, .int 0), (0, .ref sa)]) hx hb dX0_all_33 hl (k := 1) rfl (by decide) (by decide) rfl (fun ls hl => ?_)
  refine lv_goto (tgt := 4) hx hb dX0_all_36 (by decide) ?_
  refine lv_iload_n hx hb dX0_all_4 rfl (lv_at hl 0 rfl) ?_
  refine lv_bipush (v := 9) hx hb dX0_all_5 (by decide) ?_
  refine lv_icmp_ge (tgt := 39) hx hb dX0_all_7 (by decide) (fun h => absurd h (by decide)) (fun _ => ?_)
  refine lv_iload_n hx hb dX0_all_10 rfl (lv_at hl 1 rfl) ?_
  refine lv_aload_n hx hb dX0_all_11 rfl (lv_at hl 2 rfl) ?_
  refine va_get (D := D) (ci := 1) (v := .ref i1) (C := RX0) (T := TX0) (N := 3) hx hb hts uX0 hown hE.1.1 hP 0 rfl rfl 0 (by decide) (hts _ q54) (fun _ h9 => h9) rfl dX0_all_12 ?_
  refine lv_iload_n hx hb dX0_all_15 rfl (lv_at hl 0 rfl) ?_
  refine va_iald hx hb hE.1.1 hP 1 0 rfl rfl (by unfold vp_in; decide) dX0_all_16 ?_
  refine f_topi (v := 0) (rfl) ?_
  refine lv_aload_n hx hb dX0_all_17 rfl (lv_at hl 2 rfl) ?_
  refine va_get (D := D) (ci := 1) (v := .ref i2) (C := RX0) (T := TX0) (N := 3) hx hb hts uX0 hown hE.1.1 hP 0 rfl rfl 1 (by decide) (hts _ q55) (fun _ h9 => h9) rfl dX0_all_18 ?_
  refine lv_iload_n hx hb dX0_all_21 rfl (lv_at hl 0 rfl) ?_
  refine va_iald hx hb hE.1.1 hP 2 0 rfl rfl (by unfold vp_in; decide) dX0_all_22 ?_
  refine f_topi (v := 0) (rfl) ?_
  refine f_iadd (v := 0) hx hb dX0_all_23 (by decide) ?_
  refine lv_aload_n hx hb dX0_all_24 rfl (lv_at hl 2 rfl) ?_
  refine va_get (D := D) (ci := 1) (v := .ref i3) (C := RX0) (T := TX0) (N := 3) hx hb hts uX0 hown hE.1.1 hP 0 rfl rfl 2 (by decide) (hts _ q56) (fun _ h9 => h9) rfl dX0_all_25 ?_
  refine lv_iload_n hx hb dX0_all_28 rfl (lv_at hl 0 rfl) ?_
  refine va_iald hx hb hE.1.1 hP 3 0 rfl rfl (by unfold vp_in; decide) dX0_all_29 ?_
  refine f_topi (v := 0) (rfl) ?_
  refine f_iadd (v := 0) hx hb dX0_all_30 (by decide) ?_
  refine f_iadd (v := 0) hx hb dX0_all_31 (by decide) ?_
  refine lv_istore_n (lv' := [(1, .int 0), (2, .int 1), (0, .ref sa)]) hx hb dX0_all_32 rfl hl (by decide) rfl (fun ls hl => ?_)
  refine lv_iinc (v := 2) (lv' := [(2, .int 2), (1, .int 0), (0, .ref sa)]) hx hb dX0_all_33 hl (k := 1) rfl (by decide) (by decide) rfl (fun ls hl => ?_)
  refine lv_goto (tgt := 4) hx hb dX0_all_36 (by decide) ?_
  refine lv_iload_n hx hb dX0_all_4 rfl (lv_at hl 0 rfl) ?_
  refine lv_bipush (v := 9) hx hb dX0_all_5 (by decide) ?_
  refine lv_icmp_ge (tgt := 39) hx hb dX0_all_7 (by decide) (fun h => absurd h (by decide)) (fun _ => ?_)
  refine lv_iload_n hx hb dX0_all_10 rfl (lv_at hl 1 rfl) ?_
  refine lv_aload_n hx hb dX0_all_11 rfl (lv_at hl 2 rfl) ?_
  refine va_get (D := D) (ci := 1) (v := .ref i1) (C := RX0) (T := TX0) (N := 3) hx hb hts uX0 hown hE.1.1 hP 0 rfl rfl 0 (by decide) (hts _ q54) (fun _ h9 => h9) rfl dX0_all_12 ?_
  refine lv_iload_n hx hb dX0_all_15 rfl (lv_at hl 0 rfl) ?_
  refine va_iald hx hb hE.1.1 hP 1 0 rfl rfl (by unfold vp_in; decide) dX0_all_16 ?_
  refine f_topi (v := 0) (rfl) ?_
  refine lv_aload_n hx hb dX0_all_17 rfl (lv_at hl 2 rfl) ?_
  refine va_get (D := D) (ci := 1) (v := .ref i2) (C := RX0) (T := TX0) (N := 3) hx hb hts uX0 hown hE.1.1 hP 0 rfl rfl 1 (by decide) (hts _ q55) (fun _ h9 => h9) rfl dX0_all_18 ?_
  refine lv_iload_n hx hb dX0_all_21 rfl (lv_at hl 0 rfl) ?_
  refine va_iald hx hb hE.1.1 hP 2 0 rfl rfl (by unfold vp_in; decide) dX0_all_22 ?_
  refine f_topi (v := 0) (rfl) ?_
  refine f_iadd (v := 0) hx hb dX0_all_23 (by decide) ?_
  refine lv_aload_n hx hb dX0_all_24 rfl (lv_at hl 2 rfl) ?_
  refine va_get (D := D) (ci := 1) (v := .ref i3) (C := RX0) (T := TX0) (N := 3) hx hb hts uX0 hown hE.1.1 hP 0 rfl rfl 2 (by decide) (hts _ q56) (fun _ h9 => h9) rfl dX0_all_25 ?_
  refine lv_iload_n hx hb dX0_all_28 rfl (lv_at hl 0 rfl) ?_
  refine va_iald hx hb hE.1.1 hP 3 0 rfl rfl (by unfold vp_in; decide) dX0_all_29 ?_
  refine f_topi (v := 0) (rfl) ?_
  refine f_iadd (v := 0) hx hb dX0_all_30 (by decide) ?_
  refine f_iadd (v := 0) hx hb dX0_all_31 (by decide) ?_
  refine lv_istore_n (lv' := [(1, .int 0), (2, .int 2), (0, .ref sa)]) hx hb dX0_all_32 rfl hl (by decide) rfl (fun ls hl => ?_)
  refine lv_iinc (v := 3) (lv' := [(2, .int 3), (1, .int 0), (0, .ref sa)]) hx hb dX0_all_33 hl (k := 1) rfl (by decide) (by decide) rfl (fun ls hl => ?_)
  refine lv_goto (tgt := 4) hx hb dX0_all_36 (by decide) ?_
  refine lv_iload_n hx hb dX0_all_4 rfl (lv_at hl 0 rfl) ?_
  refine lv_bipush (v := 9) hx hb dX0_all_5 (by decide) ?_
  refine lv_icmp_ge (tgt := 39) hx hb dX0_all_7 (by decide) (fun h => absurd h (by decide)) (fun _ => ?_)
  refine lv_iload_n hx hb dX0_all_10 rfl (lv_at hl 1 rfl) ?_
  refine lv_aload_n hx hb dX0_all_11 rfl (lv_at hl 2 rfl) ?_
  refine va_get (D := D) (ci := 1) (v := .ref i1) (C := RX0) (T := TX0) (N := 3) hx hb hts uX0 hown hE.1.1 hP 0 rfl rfl 0 (by decide) (hts _ q54) (fun _ h9 => h9) rfl dX0_all_12 ?_
  refine lv_iload_n hx hb dX0_all_15 rfl (lv_at hl 0 rfl) ?_
  refine va_iald hx hb hE.1.1 hP 1 0 rfl rfl (by unfold vp_in; decide) dX0_all_16 ?_
  refine f_topi (v := 0) (rfl) ?_
  refine lv_aload_n hx hb dX0_all_17 rfl (lv_at hl 2 rfl) ?_
  refine va_get (D := D) (ci := 1) (v := .ref i2) (C := RX0) (T := TX0) (N := 3) hx hb hts uX0 hown hE.1.1 hP 0 rfl rfl 1 (by decide) (hts _ q55) (fun _ h9 => h9) rfl dX0_all_18 ?_
  refine lv_iload_n hx hb dX0_all_21 rfl (lv_at hl 0 rfl) ?_
  refine va_iald hx hb hE.1.1 hP 2 0 rfl rfl (by unfold vp_in; decide) dX0_all_22 ?_
  refine f_topi (v := 0) (rfl) ?_
  refine f_iadd (v := 0) hx hb dX0_all_23 (by decide) ?_
  refine lv_aload_n hx hb dX0_all_24 rfl (lv_at hl 2 rfl) ?_
  refine va_get (D := D) (ci := 1) (v := .ref i3) (C := RX0) (T := TX0) (N := 3) hx hb hts uX0 hown hE.1.1 hP 0 rfl rfl 2 (by decide) (hts _ q56) (fun _ h9 => h9) rfl dX0_all_25 ?_
  refine lv_iload_n hx hb dX0_all_28 rfl (lv_at hl 0 rfl) ?_
  refine va_iald hx hb hE.1.1 hP 3 0 rfl rfl (by unfold vp_in; decide) dX0_all_29 ?_
  refine f_topi (v := 0) (rfl) ?_
  refine f_iadd (v := 0) hx hb dX0_all_30 (by decide) ?_
  refine f_iadd (v := 0) hx hb dX0_all_31 (by decide) ?_
  refine lv_istore_n (lv' := [(1, .int 0), (2, .int 3), (0, .ref sa)]) hx hb dX0_all_32 rfl hl (by decide) rfl (fun ls hl => ?_)
  refine lv_iinc (v := 4) (lv' := [(2, .int 4), (1, .int 0), (0, .ref sa)]) hx hb dX0_all_33 hl (k := 1) rfl (by decide) (by decide) rfl (fun ls hl => ?_)
  refine lv_goto (tgt := 4) hx hb dX0_all_36 (by decide) ?_
  refine lv_iload_n hx hb dX0_all_4 rfl (lv_at hl 0 rfl) ?_
  refine lv_bipush (v := 9) hx hb dX0_all_5 (by decide) ?_
  refine lv_icmp_ge (tgt := 39) hx hb dX0_all_7 (by decide) (fun h => absurd h (by decide)) (fun _ => ?_)
  refine lv_iload_n hx hb dX0_all_10 rfl (lv_at hl 1 rfl) ?_
  refine lv_aload_n hx hb dX0_all_11 rfl (lv_at hl 2 rfl) ?_
  refine va_get (D := D) (ci := 1) (v := .ref i1) (C := RX0) (T := TX0) (N := 3) hx hb hts uX0 hown hE.1.1 hP 0 rfl rfl 0 (by decide) (hts _ q54) (fun _ h9 => h9) rfl dX0_all_12 ?_
  refine lv_iload_n hx hb dX0_all_15 rfl (lv_at hl 0 rfl) ?_
  refine va_iald hx hb hE.1.1 hP 1 0 rfl rfl (by unfold vp_in; decide) dX0_all_16 ?_
  refine f_topi (v := 0) (rfl) ?_
  refine lv_aload_n hx hb dX0_all_17 rfl (lv_at hl 2 rfl) ?_
  refine va_get (D := D) (ci := 1) (v := .ref i2) (C := RX0) (T := TX0) (N := 3) hx hb hts uX0 hown hE.1.1 hP 0 rfl rfl 1 (by decide) (hts _ q55) (fun _ h9 => h9) rfl dX0_all_18 ?_
  refine lv_iload_n hx hb dX0_all_21 rfl (lv_at hl 0 rfl) ?_
  refine va_iald hx hb hE.1.1 hP 2 0 rfl rfl (by unfold vp_in; decide) dX0_all_22 ?_
  refine f_topi (v := 0) (rfl) ?_
  refine f_iadd (v := 0) hx hb dX0_all_23 (by decide) ?_
  refine lv_aload_n hx hb dX0_all_24 rfl (lv_at hl 2 rfl) ?_
  refine va_get (D := D) (ci := 1) (v := .ref i3) (C := RX0) (T := TX0) (N := 3) hx hb hts uX0 hown hE.1.1 hP 0 rfl rfl 2 (by decide) (hts _ q56) (fun _ h9 => h9) rfl dX0_all_25 ?_
  refine lv_iload_n hx hb dX0_all_28 rfl (lv_at hl 0 rfl) ?_
  refine va_iald hx hb hE.1.1 hP 3 0 rfl rfl (by unfold vp_in; decide) dX0_all_29 ?_
  refine f_topi (v := 0) (rfl) ?_
  refine f_iadd (v := 0) hx hb dX0_all_30 (by decide) ?_
  refine f_iadd (v := 0) hx hb dX0_all_31 (by decide) ?_
  refine lv_istore_n (lv' := [(1, .int 0), (2, .int 4), (0, .ref sa)]) hx hb dX0_all_32 rfl hl (by decide) rfl (fun ls hl => ?_)
  refine lv_iinc (v := 5) (lv' := [(2, .int 5), (1, .int 0), (0, .ref sa)]) hx hb dX0_all_33 hl (k := 1) rfl (by decide) (by decide) rfl (fun ls hl => ?_)
  refine lv_goto (tgt := 4) hx hb dX0_all_36 (by decide) ?_
  refine lv_iload_n hx hb dX0_all_4 rfl (lv_at hl 0 rfl) ?_
  refine lv_bipush (v := 9) hx hb dX0_all_5 (by decide) ?_
  refine lv_icmp_ge (tgt := 39) hx hb dX0_all_7 (by decide) (fun h => absurd h (by decide)) (fun _ => ?_)
  refine lv_iload_n hx hb dX0_all_10 rfl (lv_at hl 1 rfl) ?_
  refine lv_aload_n hx hb dX0_all_11 rfl (lv_at hl 2 rfl) ?_
  refine va_get (D := D) (ci := 1) (v := .ref i1) (C := RX0) (T := TX0) (N := 3) hx hb hts uX0 hown hE.1.1 hP 0 rfl rfl 0 (by decide) (hts _ q54) (fun _ h9 => h9) rfl dX0_all_12 ?_
  refine lv_iload_n hx hb dX0_all_15 rfl (lv_at hl 0 rfl) ?_
  refine va_iald hx hb hE.1.1 hP 1 0 rfl rfl (by unfold vp_in; decide) dX0_all_16 ?_
  refine f_topi (v := 0) (rfl) ?_
  refine lv_aload_n hx hb dX0_all_17 rfl (lv_at hl 2 rfl) ?_
  refine va_get (D := D) (ci := 1) (v := .ref i2) (C := RX0) (T := TX0) (N := 3) hx hb hts uX0 hown hE.1.1 hP 0 rfl rfl 1 (by decide) (hts _ q55) (fun _ h9 => h9) rfl dX0_all_18 ?_
  refine lv_iload_n hx hb dX0_all_21 rfl (lv_at hl 0 rfl) ?_
  refine va_iald hx hb hE.1.1 hP 2 0 rfl rfl (by unfold vp_in; decide) dX0_all_22 ?_
  refine f_topi (v := 0) (rfl) ?_
  refine f_iadd (v := 0) hx hb dX0_all_23 (by decide) ?_
  refine lv_aload_n hx hb dX0_all_24 rfl (lv_at hl 2 rfl) ?_
  refine va_get (D := D) (ci := 1) (v := .ref i3) (C := RX0) (T := TX0) (N := 3) hx hb hts uX0 hown hE.1.1 hP 0 rfl rfl 2 (by decide) (hts _ q56) (fun _ h9 => h9) rfl dX0_all_25 ?_
  refine lv_iload_n hx hb dX0_all_28 rfl (lv_at hl 0 rfl) ?_
  refine va_iald hx hb hE.1.1 hP 3 0 rfl rfl (by unfold vp_in; decide) dX0_all_29 ?_
  refine f_topi (v := 0) (rfl) ?_
  refine f_iadd (v := 0) hx hb dX0_all_30 (by decide) ?_
  refine f_iadd (v := 0) hx hb dX0_all_31 (by decide) ?_
  refine lv_istore_n (lv' := [(1, .int 0), (2, .int 5), (0, .ref sa)]) hx hb dX0_all_32 rfl hl (by decide) rfl (fun ls hl => ?_)
  refine lv_iinc (v := 6) (lv' := [(2, .int 6), (1, .int 0), (0, .ref sa)]) hx hb dX0_all_33 hl (k := 1) rfl (by decide) (by decide) rfl (fun ls hl => ?_)
  refine lv_goto (tgt := 4) hx hb dX0_all_36 (by decide) ?_
  refine lv_iload_n hx hb dX0_all_4 rfl (lv_at hl 0 rfl) ?_
  refine lv_bipush (v := 9) hx hb dX0_all_5 (by decide) ?_
  refine lv_icmp_ge (tgt := 39) hx hb dX0_all_7 (by decide) (fun h => absurd h (by decide)) (fun _ => ?_)
  refine lv_iload_n hx hb dX0_all_10 rfl (lv_at hl 1 rfl) ?_
  refine lv_aload_n hx hb dX0_all_11 rfl (lv_at hl 2 rfl) ?_
  refine va_get (D := D) (ci := 1) (v := .ref i1) (C := RX0) (T := TX0) (N := 3) hx hb hts uX0 hown hE.1.1 hP 0 rfl rfl 0 (by decide) (hts _ q54) (fun _ h9 => h9) rfl dX0_all_12 ?_
  refine lv_iload_n hx hb dX0_all_15 rfl (lv_at hl 0 rfl) ?_
  refine va_iald hx hb hE.1.1 hP 1 0 rfl rfl (by unfold vp_in; decide) dX0_all_16 ?_
  refine f_topi (v := 0) (rfl) ?_
  refine lv_aload_n hx hb dX0_all_17 rfl (lv_at hl 2 rfl) ?_
  refine va_get (D := D) (ci := 1) (v := .ref i2) (C := RX0) (T := TX0) (N := 3) hx hb hts uX0 hown hE.1.1 hP 0 rfl rfl 1 (by decide) (hts _ q55) (fun _ h9 => h9) rfl dX0_all_18 ?_
  refine lv_iload_n hx hb dX0_all_21 rfl (lv_at hl 0 rfl) ?_
  refine va_iald hx hb hE.1.1 hP 2 0 rfl rfl (by unfold vp_in; decide) dX0_all_22 ?_
  refine f_topi (v := 0) (rfl) ?_
  refine f_iadd (v := 0) hx hb dX0_all_23 (by decide) ?_
  refine lv_aload_n hx hb dX0_all_24 rfl (lv_at hl 2 rfl) ?_
  refine va_get (D := D) (ci := 1) (v := .ref i3) (C := RX0) (T := TX0) (N := 3) hx hb hts uX0 hown hE.1.1 hP 0 rfl rfl 2 (by decide) (hts _ q56) (fun _ h9 => h9) rfl dX0_all_25 ?_
  refine lv_iload_n hx hb dX0_all_28 rfl (lv_at hl 0 rfl) ?_
  refine va_iald hx hb hE.1.1 hP 3 0 rfl rfl (by unfold vp_in; decide) dX0_all_29 ?_
  refine f_topi (v := 0) (rfl) ?_
  refine f_iadd (v := 0) hx hb dX0_all_30 (by decide) ?_
  refine f_iadd (v := 0) hx hb dX0_all_31 (by decide) ?_
  refine lv_istore_n (lv' := [(1, .int 0), (2, .int 6), (0, .ref sa)]) hx hb dX0_all_32 rfl hl (by decide) rfl (fun ls hl => ?_)
  refine lv_iinc (v := 7) (lv' := [(2, .int 7), (1, .int 0), (0, .ref sa)]) hx hb dX0_all_33 hl (k := 1) rfl (by decide) (by decide) rfl (fun ls hl => ?_)
  refine lv_goto (tgt := 4) hx hb dX0_all_36 (by decide) ?_
  refine lv_iload_n hx hb dX0_all_4 rfl (lv_at hl 0 rfl) ?_
  refine lv_bipush (v := 9) hx hb dX0_all_5 (by decide) ?_
  refine lv_icmp_ge (tgt := 39) hx hb dX0_all_7 (by decide) (fun h => absurd h (by decide)) (fun _ => ?_)
  refine lv_iload_n hx hb dX0_all_10 rfl (lv_at hl 1 rfl) ?_
  refine lv_aload_n hx hb dX0_all_11 rfl (lv_at hl 2 rfl) ?_
  refine va_get (D := D) (ci := 1) (v := .ref i1) (C := RX0) (T := TX0) (N := 3) hx hb hts uX0 hown hE.1.1 hP 0 rfl rfl 0 (by decide) (hts _ q54) (fun _ h9 => h9) rfl dX0_all_12 ?_
  refine lv_iload_n hx hb dX0_all_15 rfl (lv_at hl 0 rfl) ?_
  refine va_iald hx hb hE.1.1 hP 1 0 rfl rfl (by unfold vp_in; decide) dX0_all_16 ?_
  refine f_topi (v := 0) (rfl) ?_
  refine lv_aload_n hx hb dX0_all_17 rfl (lv_at hl 2 rfl) ?_
  refine va_get (D := D) (ci := 1) (v := .ref i2) (C := RX0) (T := TX0) (N := 3) hx hb hts uX0 hown hE.1.1 hP 0 rfl rfl 1 (by decide) (hts _ q55) (fun _ h9 => h9) rfl dX0_all_18 ?_
  refine lv_iload_n hx hb dX0_all_21 rfl (lv_at hl 0 rfl) ?_
  refine va_iald hx hb hE.1.1 hP 2 0 rfl rfl (by unfold vp_in; decide) dX0_all_22 ?_
  refine f_topi (v := 0) (rfl) ?_
  refine f_iadd (v := 0) hx hb dX0_all_23 (by decide) ?_
  refine lv_aload_n hx hb dX0_all_24 rfl (lv_at hl 2 rfl) ?_
  refine va_get (D := D) (ci := 1) (v := .ref i3) (C := RX0) (T := TX0) (N := 3) hx hb hts uX0 hown hE.1.1 hP 0 rfl rfl 2 (by decide) (hts _ q56) (fun _ h9 => h9) rfl dX0_all_25 ?_
  refine lv_iload_n hx hb dX0_all_28 rfl (lv_at hl 0 rfl) ?_
  refine va_iald hx hb hE.1.1 hP 3 0 rfl rfl (by unfold vp_in; decide) dX0_all_29 ?_
  refine f_topi (v := 0) (rfl) ?_
  refine f_iadd (v := 0) hx hb dX0_all_30 (by decide) ?_
  refine f_iadd (v := 0) hx hb dX0_all_31 (by decide) ?_
  refine lv_istore_n (lv' := [(1, .int 0), (2, .int 7), (0, .ref sa)]) hx hb dX0_all_32 rfl hl (by decide) rfl (fun ls hl => ?_)
  refine lv_iinc (v := 8) (lv' := [(2, .int 8), (1, .int 0), (0, .ref sa)]) hx hb dX0_all_33 hl (k := 1) rfl (by decide) (by decide) rfl (fun ls hl => ?_)
  refine lv_goto (tgt := 4) hx hb dX0_all_36 (by decide) ?_
  refine lv_iload_n hx hb dX0_all_4 rfl (lv_at hl 0 rfl) ?_
  refine lv_bipush (v := 9) hx hb dX0_all_5 (by decide) ?_
  refine lv_icmp_ge (tgt := 39) hx hb dX0_all_7 (by decide) (fun h => absurd h (by decide)) (fun _ => ?_)
  refine lv_iload_n hx hb dX0_all_10 rfl (lv_at hl 1 rfl) ?_
  refine lv_aload_n hx hb dX0_all_11 rfl (lv_at hl 2 rfl) ?_
  refine va_get (D := D) (ci := 1) (v := .ref i1) (C := RX0) (T := TX0) (N := 3) hx hb hts uX0 hown hE.1.1 hP 0 rfl rfl 0 (by decide) (hts _ q54) (fun _ h9 => h9) rfl dX0_all_12 ?_
  refine lv_iload_n hx hb dX0_all_15 rfl (lv_at hl 0 rfl) ?_
  refine va_iald hx hb hE.1.1 hP 1 0 rfl rfl (by unfold vp_in; decide) dX0_all_16 ?_
  refine f_topi (v := 0) (rfl) ?_
  refine lv_aload_n hx hb dX0_all_17 rfl (lv_at hl 2 rfl) ?_
  refine va_get (D := D) (ci := 1) (v := .ref i2) (C := RX0) (T := TX0) (N := 3) hx hb hts uX0 hown hE.1.1 hP 0 rfl rfl 1 (by decide) (hts _ q55) (fun _ h9 => h9) rfl dX0_all_18 ?_
  refine lv_iload_n hx hb dX0_all_21 rfl (lv_at hl 0 rfl) ?_
  refine va_iald hx hb hE.1.1 hP 2 0 rfl rfl (by unfold vp_in; decide) dX0_all_22 ?_
  refine f_topi (v := 0) (rfl) ?_
  refine f_iadd (v := 0) hx hb dX0_all_23 (by decide) ?_
  refine lv_aload_n hx hb dX0_all_24 rfl (lv_at hl 2 rfl) ?_
  refine va_get (D := D) (ci := 1) (v := .ref i3) (C := RX0) (T := TX0) (N := 3) hx hb hts uX0 hown hE.1.1 hP 0 rfl rfl 2 (by decide) (hts _ q56) (fun _ h9 => h9) rfl dX0_all_25 ?_
  refine lv_iload_n hx hb dX0_all_28 rfl (lv_at hl 0 rfl) ?_
  refine va_iald hx hb hE.1.1 hP 3 0 rfl rfl (by unfold vp_in; decide) dX0_all_29 ?_
  refine f_topi (v := 0) (rfl) ?_
  refine f_iadd (v := 0) hx hb dX0_all_30 (by decide) ?_
  refine f_iadd (v := 0) hx hb dX0_all_31 (by decide) ?_
  refine lv_istore_n (lv' := [(1, .int 0), (2, .int 8), (0, .ref sa)]) hx hb dX0_all_32 rfl hl (by decide) rfl (fun ls hl => ?_)
  refine lv_iinc (v := 9) (lv' := [(2, .int 9), (1, .int 0), (0, .ref sa)]) hx hb dX0_all_33 hl (k := 1) rfl (by decide) (by decide) rfl (fun ls hl => ?_)
  refine lv_goto (tgt := 4) hx hb dX0_all_36 (by decide) ?_
  refine lv_iload_n hx hb dX0_all_4 rfl (lv_at hl 0 rfl) ?_
  refine lv_bipush (v := 9) hx hb dX0_all_5 (by decide) ?_
  refine lv_icmp_ge (tgt := 39) hx hb dX0_all_7 (by decide) (fun _ => ?_) (fun h => absurd (by decide) h)
  refine lv_iload_n hx hb dX0_all_39 rfl (lv_at hl 1 rfl) ?_
  have hP9 := hP.sub (ws' := [(sa, .inr (1, [.ref i1, .ref i2, .ref i3])), (i1, .inl (cI, 9, .inl (fun _ => 0))), (i2, .inl (cI, 9, .inl (fun _ => 0))), (i3, .inl (cI, 9, .inl (fun _ => 0)))]) [0, 1, 2, 3] rfl
  have hD9 := hD.sub (ws' := [(sa, .inr (1, [.ref i1, .ref i2, .ref i3])), (i1, .inl (cI, 9, .inl (fun _ => 0))), (i2, .inl (cI, 9, .inl (fun _ => 0))), (i3, .inl (cI, 9, .inl (fun _ => 0)))]) [0, 1, 2, 3] (by decide) rfl
  refine W.widen (k := 0) (n := 0) (Nat.le_of_ble_eq_true rfl) (Nat.le_of_ble_eq_true rfl) ?_
  exact W.iret (v := 0) hx hb hr (fun t ht hW => ⟨⟨0, (), rfl, rfl, by rw [ht]; exact hP9, hD9⟩, hS.F ht⟩) hS.2.2 dX0_all_40
set_option maxHeartbeats 4000000 in
set_option maxRecDepth 100000 in
theorem kX0_becomeLike (l : Launch) (D : va_G) (cI cO cL : ClassId) (E M : Nat) (ta : Nat) (j1 : Nat) (j2 : Nat) (j3 : Nat) (sa : Nat) (i1 : Nat) (i2 : Nat) (i3 : Nat)  (sz : Nat) : Met l yX0_becomeLike (fW yX0_becomeLike cX0_becomeLike 2 none) { frames := 1, cells := 0, slots := 0, locals := 18 } (fPre D cI cO cL E M [.ref ta, .ref sa] sz [(ta, .inr (1, [.ref j1, .ref j2, .ref j3])), (j1, .inl (cI, 9, .inl (fun _ => 0))), (j2, .inl (cI, 9, .inl (fun _ => 0))), (j3, .inl (cI, 9, .inl (fun _ => 0))), (sa, .inr (1, [.ref i1, .ref i2, .ref i3])), (i1, .inl (cI, 9, .inl (fun _ => 0))), (i2, .inl (cI, 9, .inl (fun _ => 0))), (i3, .inl (cI, 9, .inl (fun _ => 0)))]) (va_Qv (fun _ : Unit => True) (fB D (va_A [(ta, .inr (1, [.ref j1, .ref j2, .ref j3])), (j1, .inl (cI, 9, .inl (fun _ => 0))), (j2, .inl (cI, 9, .inl (fun _ => 0))), (j3, .inl (cI, 9, .inl (fun _ => 0))), (sa, .inr (1, [.ref i1, .ref i2, .ref i3])), (i1, .inl (cI, 9, .inl (fun _ => 0))), (i2, .inl (cI, 9, .inl (fun _ => 0))), (i3, .inl (cI, 9, .inl (fun _ => 0)))] sz) (fun u : Unit => [(ta, .inr (1, [.ref j1, .ref j2, .ref j3])), (j1, .inl (cI, 9, .inl (fun _ => 0))), (j2, .inl (cI, 9, .inl (fun _ => 0))), (j3, .inl (cI, 9, .inl (fun _ => 0))), (sa, .inr (1, [.ref i1, .ref i2, .ref i3])), (i1, .inl (cI, 9, .inl (fun _ => 0))), (i2, .inl (cI, 9, .inl (fun _ => 0))), (i3, .inl (cI, 9, .inl (fun _ => 0)))])) (va_A [(ta, .inr (1, [.ref j1, .ref j2, .ref j3])), (j1, .inl (cI, 9, .inl (fun _ => 0))), (j2, .inl (cI, 9, .inl (fun _ => 0))), (j3, .inl (cI, 9, .inl (fun _ => 0))), (sa, .inr (1, [.ref i1, .ref i2, .ref i3])), (i1, .inl (cI, 9, .inl (fun _ => 0))), (i2, .inl (cI, 9, .inl (fun _ => 0))), (i3, .inl (cI, 9, .inl (fun _ => 0)))] sz)) 0 0 (va_A [(ta, .inr (1, [.ref j1, .ref j2, .ref j3])), (j1, .inl (cI, 9, .inl (fun _ => 0))), (j2, .inl (cI, 9, .inl (fun _ => 0))), (j3, .inl (cI, 9, .inl (fun _ => 0))), (sa, .inr (1, [.ref i1, .ref i2, .ref i3])), (i1, .inl (cI, 9, .inl (fun _ => 0))), (i2, .inl (cI, 9, .inl (fun _ => 0))), (i3, .inl (cI, 9, .inl (fun _ => 0)))] sz) := by
  refine Met.ofW (cc := cX0_becomeLike) (maxL := 2) (ret := none) (by decide) rfl ?_
  intro p e s m args below meth c s₁ B hml hv
  obtain ⟨rfl, hsz, hP, hD0, hE⟩ := hv
  have hx := B.exec
  have hb := B.bytes
  have hr := B.returns
  have hts0 := atoms_spec (ws := (fW yX0_becomeLike cX0_becomeLike 2 none)) B.pre
  have hts : ∀ w ∈ fA, w.before _ s = true := fun w h => hts0 w (List.mem_cons_of_mem _ h)
  have hown : s.vm.findClass RX0 = some m.cls := findClass_of_methodNamed B.named
  have hlocks := B.notSynchronized
  subst hsz
  have hD := hD0.self (sz := s.heap.size)
  generalize hAe : va_A [(ta, .inr (1, [.ref j1, .ref j2, .ref j3])), (j1, .inl (cI, 9, .inl (fun _ => 0))), (j2, .inl (cI, 9, .inl (fun _ => 0))), (j3, .inl (cI, 9, .inl (fun _ => 0))), (sa, .inr (1, [.ref i1, .ref i2, .ref i3])), (i1, .inl (cI, 9, .inl (fun _ => 0))), (i2, .inl (cI, 9, .inl (fun _ => 0))), (i3, .inl (cI, 9, .inl (fun _ => 0)))] s.heap.size = A at hD hE ⊢
  have hA : ∀ q : Nat, s.heap.size ≤ q → A q := fun q h => by rw [← hAe]; exact Or.inr h
  have hP : va_P D vwCl [(ta, .inr (1, [.ref j1, .ref j2, .ref j3])), (j1, .inl (cI, 9, .inl (fun _ => 0))), (j2, .inl (cI, 9, .inl (fun _ => 0))), (j3, .inl (cI, 9, .inl (fun _ => 0))), (sa, .inr (1, [.ref i1, .ref i2, .ref i3])), (i1, .inl (cI, 9, .inl (fun _ => 0))), (i2, .inl (cI, 9, .inl (fun _ => 0))), (i3, .inl (cI, 9, .inl (fun _ => 0)))] s.heap := hP
  have hl := lv_entry ([.ref ta, .ref sa]) (n := 2) (Nat.le_of_ble_eq_true rfl)
  rw [lg_entry_eq]
  generalize (lg_sl ([.ref ta, .ref sa]) ++ List.replicate (2 - (lg_sl ([.ref ta, .ref sa])).length) Slot.unset).toArray = ls at hl ⊢
  have hl : lv_has ls 2 [(0, .ref ta), (1, .ref sa)] := hl
  refine f_start (A := A) hP (fun H hP hS => ?_)
  refine lv_aload_n hx hb dX0_becomeLike_0 rfl (lv_at hl 1 rfl) ?_
  refine va_get (D := D) (ci := 1) (v := .ref i1) (C := RX0) (T := TX0) (N := 3) hx hb hts uX0 hown hE.1.1 hP 4 rfl rfl 0 (by decide) (hts _ q54) (fun _ h9 => h9) rfl dX0_becomeLike_1 ?_
  refine lv_iconst (v := 0) hx hb dX0_becomeLike_4 (by decide) ?_
  refine lv_aload_n hx hb dX0_becomeLike_5 rfl (lv_at hl 0 rfl) ?_
  refine va_get (D := D) (ci := 1) (v := .ref j1) (C := RX0) (T := TX0) (N := 3) hx hb hts uX0 hown hE.1.1 hP 0 rfl rfl 0 (by decide) (hts _ q54) (fun _ h9 => h9) rfl dX0_becomeLike_6 ?_
  refine lv_iconst (v := 0) hx hb dX0_becomeLike_9 (by decide) ?_
  refine lv_bipush (v := 9) hx hb dX0_becomeLike_10 (by decide) ?_
  refine va_copyi hx hb (hml.trans hl.1.symm) hown (hts _ q993) (hts _ q156) (hts _ q157) (hts _ q158) hE.1.1 hP hD hS 5 1 0 0 rfl rfl rfl rfl rfl (by decide) (by decide) (by decide) (by decide) (by decide) (fun _ _ => rfl) (Nat.le_of_ble_eq_true rfl) (by rw [f_nfw]; exact Nat.le_of_ble_eq_true rfl) dX0_becomeLike_12 (fun H locs hP hD hS => ?_)
  rw [f_cpy9] at hP hD
  have hP : va_P D vwCl [(ta, .inr (1, [.ref j1, .ref j2, .ref j3])), (j1, .inl (cI, 9, .inl (fun _ => 0))), (j2, .inl (cI, 9, .inl (fun _ => 0))), (j3, .inl (cI, 9, .inl (fun _ => 0))), (sa, .inr (1, [.ref i1, .ref i2, .ref i3])), (i1, .inl (cI, 9, .inl (fun _ => 0))), (i2, .inl (cI, 9, .inl (fun _ => 0))), (i3, .inl (cI, 9, .inl (fun _ => 0)))] H := hP
  have hD : va_D A [(ta, .inr (1, [.ref j1, .ref j2, .ref j3])), (j1, .inl (cI, 9, .inl (fun _ => 0))), (j2, .inl (cI, 9, .inl (fun _ => 0))), (j3, .inl (cI, 9, .inl (fun _ => 0))), (sa, .inr (1, [.ref i1, .ref i2, .ref i3])), (i1, .inl (cI, 9, .inl (fun _ => 0))), (i2, .inl (cI, 9, .inl (fun _ => 0))), (i3, .inl (cI, 9, .inl (fun _ => 0)))] := hD
  refine lv_aload_n hx hb dX0_becomeLike_15 rfl (lv_at hl 1 rfl) ?_
  refine va_get (D := D) (ci := 1) (v := .ref i2) (C := RX0) (T := TX0) (N := 3) hx hb hts uX0 hown hE.1.1 hP 4 rfl rfl 1 (by decide) (hts _ q55) (fun _ h9 => h9) rfl dX0_becomeLike_16 ?_
  refine lv_iconst (v := 0) hx hb dX0_becomeLike_19 (by decide) ?_
  refine lv_aload_n hx hb dX0_becomeLike_20 rfl (lv_at hl 0 rfl) ?_
  refine va_get (D := D) (ci := 1) (v := .ref j2) (C := RX0) (T := TX0) (N := 3) hx hb hts uX0 hown hE.1.1 hP 0 rfl rfl 1 (by decide) (hts _ q55) (fun _ h9 => h9) rfl dX0_becomeLike_21 ?_
  refine lv_iconst (v := 0) hx hb dX0_becomeLike_24 (by decide) ?_
  refine lv_bipush (v := 9) hx hb dX0_becomeLike_25 (by decide) ?_
  refine va_copyi hx hb (hml.trans hl.1.symm) hown (hts _ q993) (hts _ q156) (hts _ q157) (hts _ q158) hE.1.1 hP hD hS 6 2 0 0 rfl rfl rfl rfl rfl (by decide) (by decide) (by decide) (by decide) (by decide) (fun _ _ => rfl) (Nat.le_of_ble_eq_true rfl) (by rw [f_nfw]; exact Nat.le_of_ble_eq_true rfl) dX0_becomeLike_27 (fun H locs hP hD hS => ?_)
  rw [f_cpy9] at hP hD
  have hP : va_P D vwCl [(ta, .inr (1, [.ref j1, .ref j2, .ref j3])), (j1, .inl (cI, 9, .inl (fun _ => 0))), (j2, .inl (cI, 9, .inl (fun _ => 0))), (j3, .inl (cI, 9, .inl (fun _ => 0))), (sa, .inr (1, [.ref i1, .ref i2, .ref i3])), (i1, .inl (cI, 9, .inl (fun _ => 0))), (i2, .inl (cI, 9, .inl (fun _ => 0))), (i3, .inl (cI, 9, .inl (fun _ => 0)))] H := hP
  have hD : va_D A [(ta, .inr (1, [.ref j1, .ref j2, .ref j3])), (j1, .inl (cI, 9, .inl (fun _ => 0))), (j2, .inl (cI, 9, .inl (fun _ => 0))), (j3, .inl (cI, 9, .inl (fun _ => 0))), (sa, .inr (1, [.ref i1, .ref i2, .ref i3])), (i1, .inl (cI, 9, .inl (fun _ => 0))), (i2, .inl (cI, 9, .inl (fun _ => 0))), (i3, .inl (cI, 9, .inl (fun _ => 0)))] := hD
  refine lv_aload_n hx hb dX0_becomeLike_30 rfl (lv_at hl 1 rfl) ?_
  refine va_get (D := D) (ci := 1) (v := .ref i3) (C := RX0) (T := TX0) (N := 3) hx hb hts uX0 hown hE.1.1 hP 4 rfl rfl 2 (by decide) (hts _ q56) (fun _ h9 => h9) rfl dX0_becomeLike_31 ?_
  refine lv_iconst (v := 0) hx hb dX0_becomeLike_34 (by decide) ?_
  refine lv_aload_n hx hb dX0_becomeLike_35 rfl (lv_at hl 0 rfl) ?_
  refine va_get (D := D) (ci := 1) (v := .ref j3) (C := RX0) (T := TX0) (N := 3) hx hb hts uX0 hown hE.1.1 hP 0 rfl rfl 2 (by decide) (hts _ q56) (fun _ h9 => h9) rfl dX0_becomeLike_36 ?_
  refine lv_iconst (v := 0) hx hb dX0_becomeLike_39 (by decide) ?_
  refine lv_bipush (v := 9) hx hb dX0_becomeLike_40 (by decide) ?_
  refine va_copyi hx hb (hml.trans hl.1.symm) hown (hts _ q993) (hts _ q156) (hts _ q157) (hts _ q158) hE.1.1 hP hD hS 7 3 0 0 rfl rfl rfl rfl rfl (by decide) (by decide) (by decide) (by decide) (by decide) (fun _ _ => rfl) (Nat.le_of_ble_eq_true rfl) (by rw [f_nfw]; exact Nat.le_of_ble_eq_true rfl) dX0_becomeLike_42 (fun H locs hP hD hS => ?_)
  rw [f_cpy9] at hP hD
  have hP : va_P D vwCl [(ta, .inr (1, [.ref j1, .ref j2, .ref j3])), (j1, .inl (cI, 9, .inl (fun _ => 0))), (j2, .inl (cI, 9, .inl (fun _ => 0))), (j3, .inl (cI, 9, .inl (fun _ => 0))), (sa, .inr (1, [.ref i1, .ref i2, .ref i3])), (i1, .inl (cI, 9, .inl (fun _ => 0))), (i2, .inl (cI, 9, .inl (fun _ => 0))), (i3, .inl (cI, 9, .inl (fun _ => 0)))] H := hP
  have hD : va_D A [(ta, .inr (1, [.ref j1, .ref j2, .ref j3])), (j1, .inl (cI, 9, .inl (fun _ => 0))), (j2, .inl (cI, 9, .inl (fun _ => 0))), (j3, .inl (cI, 9, .inl (fun _ => 0))), (sa, .inr (1, [.ref i1, .ref i2, .ref i3])), (i1, .inl (cI, 9, .inl (fun _ => 0))), (i2, .inl (cI, 9, .inl (fun _ => 0))), (i3, .inl (cI, 9, .inl (fun _ => 0)))] := hD
  have hP9 := hP.sub (ws' := [(ta, .inr (1, [.ref j1, .ref j2, .ref j3])), (j1, .inl (cI, 9, .inl (fun _ => 0))), (j2, .inl (cI, 9, .inl (fun _ => 0))), (j3, .inl (cI, 9, .inl (fun _ => 0))), (sa, .inr (1, [.ref i1, .ref i2, .ref i3])), (i1, .inl (cI, 9, .inl (fun _ => 0))), (i2, .inl (cI, 9, .inl (fun _ => 0))), (i3, .inl (cI, 9, .inl (fun _ => 0)))]) [0, 1, 2, 3, 4, 5, 6, 7] rfl
  have hD9 := hD.sub (ws' := [(ta, .inr (1, [.ref j1, .ref j2, .ref j3])), (j1, .inl (cI, 9, .inl (fun _ => 0))), (j2, .inl (cI, 9, .inl (fun _ => 0))), (j3, .inl (cI, 9, .inl (fun _ => 0))), (sa, .inr (1, [.ref i1, .ref i2, .ref i3])), (i1, .inl (cI, 9, .inl (fun _ => 0))), (i2, .inl (cI, 9, .inl (fun _ => 0))), (i3, .inl (cI, 9, .inl (fun _ => 0)))]) [0, 1, 2, 3, 4, 5, 6, 7] (by decide) rfl
  refine W.widen (k := 0) (n := 0) (Nat.le_of_ble_eq_true rfl) (Nat.le_of_ble_eq_true rfl) ?_
  exact W.vret hx hb hr (fun t ht hW => ⟨⟨(), rfl, trivial, by rw [ht]; exact hP9, hD9⟩, hS.F ht⟩) hS.2.2 dX0_becomeLike_45
set_option maxHeartbeats 4000000 in
set_option maxRecDepth 100000 in
theorem kX4_init (l : Launch) (D : va_G) (cI cO cL : ClassId) (E M : Nat) (h : Nat) (x0 : Int32) (x1 : Int32)  (sz : Nat) : Met l yX4_init (fW yX4_init cX4_init 3 none) { frames := 1, cells := 0, slots := 0, locals := 12 } (fPre D cI cO cL E M [.ref h, .int x0, .int x1] sz [(h, .inr (5, [.int 0, .int 0, .int 0, .int 0, .int 0, .int 0]))]) (va_Qv (fun _ : Unit => True) (fB D (va_A [(h, .inr (5, [.int 0, .int 0, .int 0, .int 0, .int 0, .int 0]))] sz) (fun u : Unit => [(h, .inr (5, [.int x0, .int x1, .int 0, .int 0, .int 0, .int 0]))])) (va_A [(h, .inr (5, [.int 0, .int 0, .int 0, .int 0, .int 0, .int 0]))] sz)) 0 0 (va_A [(h, .inr (5, [.int 0, .int 0, .int 0, .int 0, .int 0, .int 0]))] sz) := by
  refine Met.ofW (cc := cX4_init) (maxL := 3) (ret := none) (by decide) rfl ?_
  intro p e s m args below meth c s₁ B hml hv
  obtain ⟨rfl, hsz, hP, hD0, hE⟩ := hv
  have hx := B.exec
  have hb := B.bytes
  have hr := B.returns
  have hts0 := atoms_spec (ws := (fW yX4_init cX4_init 3 none)) B.pre
  have hts : ∀ w ∈ fA, w.before _ s = true := fun w h => hts0 w (List.mem_cons_of_mem _ h)
  have hown : s.vm.findClass RX4 = some m.cls := findClass_of_methodNamed B.named
  have hlocks := B.notSynchronized
  have hin : meth.name = "<init>" := (name_of_methodNamed B.named B.method).1
  subst hsz
  have hD := hD0.self (sz := s.heap.size)
  generalize hAe : va_A [(h, .inr (5, [.int 0, .int 0, .int 0, .int 0, .int 0, .int 0]))] s.heap.size = A at hD hE ⊢
  have hA : ∀ q : Nat, s.heap.size ≤ q → A q := fun q h => by rw [← hAe]; exact Or.inr h
  have hP : va_P D vwCl [(h, .inr (5, [.int 0, .int 0, .int 0, .int 0, .int 0, .int 0]))] s.heap := hP
  have hl := lv_entry ([.ref h, .int x0, .int x1]) (n := 3) (Nat.le_of_ble_eq_true rfl)
  rw [lg_entry_eq]
  generalize (lg_sl ([.ref h, .int x0, .int x1]) ++ List.replicate (3 - (lg_sl ([.ref h, .int x0, .int x1])).length) Slot.unset).toArray = ls at hl ⊢
  have hl : lv_has ls 3 [(0, .ref h), (1, .int x0), (2, .int x1)] := hl
  refine f_start (A := A) hP (fun H hP hS => ?_)
  refine lv_aload_n hx hb dX4_init_0 rfl (lv_at hl 0 rfl) ?_
  refine W.objInit hx hb hown (hts _ q104) (hts _ q11) (hts _ q12) rfl (by rw [hml]; exact hl.1) rfl dX4_init_1 (Nat.le_of_ble_eq_true rfl) (Nat.le_of_ble_eq_true rfl) ?_
  refine W.eq (g2 := F0 m 4 ls []) rfl ?_
  refine lv_aload_n hx hb dX4_init_4 rfl (lv_at hl 0 rfl) ?_
  refine lv_iload_n hx hb dX4_init_5 rfl (lv_at hl 1 rfl) ?_
  refine va_putF (D := D) (ci := 5) (v := .int x0) (ty := .int) (C := RX4) (T := TX4) (N := 6) hx hb hts uX4 tyX4 tyX4_ok nmX4 hown hE.1.1 hP hD hS 0 rfl rfl 0 (by decide) (hts _ q105) (fun _ h9 => h9) rfl hin rfl (by decide +kernel) rfl rfl (Nat.le_of_ble_eq_true rfl) dX4_init_6 (fun H locs hP hD hS => ?_)
  have hP : va_P D vwCl [(h, .inr (5, [.int x0, .int 0, .int 0, .int 0, .int 0, .int 0]))] H := hP
  have hD : va_D A [(h, .inr (5, [.int x0, .int 0, .int 0, .int 0, .int 0, .int 0]))] := hD
  refine lv_aload_n hx hb dX4_init_9 rfl (lv_at hl 0 rfl) ?_
  refine lv_iload_n hx hb dX4_init_10 rfl (lv_at hl 2 rfl) ?_
  refine va_putF (D := D) (ci := 5) (v := .int x1) (ty := .int) (C := RX4) (T := TX4) (N := 6) hx hb hts uX4 tyX4 tyX4_ok nmX4 hown hE.1.1 hP hD hS 0 rfl rfl 1 (by decide) (hts _ q106) (fun _ h9 => h9) rfl hin rfl (by decide +kernel) rfl rfl (Nat.le_of_ble_eq_true rfl) dX4_init_11 (fun H locs hP hD hS => ?_)
  have hP : va_P D vwCl [(h, .inr (5, [.int x0, .int x1, .int 0, .int 0, .int 0, .int 0]))] H := hP
  have hD : va_D A [(h, .inr (5, [.int x0, .int x1, .int 0, .int 0, .int 0, .int 0]))] := hD
  have hP9 := hP.sub (ws' := [(h, .inr (5, [.int x0, .int x1, .int 0, .int 0, .int 0, .int 0]))]) [0] rfl
  have hD9 := hD.sub (ws' := [(h, .inr (5, [.int x0, .int x1, .int 0, .int 0, .int 0, .int 0]))]) [0] (by decide) rfl
  refine W.widen (k := 0) (n := 0) (Nat.le_of_ble_eq_true rfl) (Nat.le_of_ble_eq_true rfl) ?_
  exact W.vret hx hb hr (fun t ht hW => ⟨⟨(), rfl, trivial, by rw [ht]; exact hP9, hD9⟩, hS.F ht⟩) hS.2.2 dX4_init_14
set_option maxHeartbeats 4000000 in
set_option maxRecDepth 100000 in
theorem kX2_init (l : Launch) (D : va_G) (cI cO cL : ClassId) (E M : Nat) (h : Nat)  (sz : Nat) : Met l yX2_init (fW yX2_init cX2_init 1 none) { frames := 4, cells := 1, slots := 3, locals := 72 } (fPre D cI cO cL E M [.ref h] sz [(h, .inr (3, [.null]))]) (va_Qv (fun _ : Nat => True) (fB D (va_A [(h, .inr (3, [.null]))] sz) (fun u : Nat => [(h, .inr (3, [.ref u])), (u, .inr (0, [.int 0, .ref E, .int 0]))])) (va_A [(h, .inr (3, [.null]))] sz)) 1 3 (va_A [(h, .inr (3, [.null]))] sz) := by
  refine Met.ofW (cc := cX2_init) (maxL := 1) (ret := none) (by decide) rfl ?_
  intro p e s m args below meth c s₁ B hml hv
  obtain ⟨rfl, hsz, hP, hD0, hE⟩ := hv
  have hx := B.exec
  have hb := B.bytes
  have hr := B.returns
  have hts0 := atoms_spec (ws := (fW yX2_init cX2_init 1 none)) B.pre
  have hts : ∀ w ∈ fA, w.before _ s = true := fun w h => hts0 w (List.mem_cons_of_mem _ h)
  have hown : s.vm.findClass RX2 = some m.cls := findClass_of_methodNamed B.named
  have hlocks := B.notSynchronized
  have hin : meth.name = "<init>" := (name_of_methodNamed B.named B.method).1
  subst hsz
  have hD := hD0.self (sz := s.heap.size)
  generalize hAe : va_A [(h, .inr (3, [.null]))] s.heap.size = A at hD hE ⊢
  have hA : ∀ q : Nat, s.heap.size ≤ q → A q := fun q h => by rw [← hAe]; exact Or.inr h
  have hP : va_P D vwCl [(h, .inr (3, [.null]))] s.heap := hP
  have hl := lv_entry ([.ref h]) (n := 1) (Nat.le_of_ble_eq_true rfl)
  rw [lg_entry_eq]
  generalize (lg_sl ([.ref h]) ++ List.replicate (1 - (lg_sl ([.ref h])).length) Slot.unset).toArray = ls at hl ⊢
  have hl : lv_has ls 1 [(0, .ref h)] := hl
  refine f_start (A := A) hP (fun H hP hS => ?_)
  refine lv_aload_n hx hb dX2_init_0 rfl (lv_at hl 0 rfl) ?_
  refine W.objInit hx hb hown (hts _ q273) (hts _ q11) (hts _ q12) rfl (by rw [hml]; exact hl.1) rfl dX2_init_1 (Nat.le_of_ble_eq_true rfl) (Nat.le_of_ble_eq_true rfl) ?_
  refine W.eq (g2 := F0 m 4 ls []) rfl ?_
  refine lv_aload_n hx hb dX2_init_4 rfl (lv_at hl 0 rfl) ?_
  refine va_new (ci := 0) (fs := [.int 0, .null, .int 0]) (C := RJx4a65c) (T := TJx4a65c) (N := 3) hx hb hts uJx4a65c tyJx4a65c tyJx4a65c_ok hown (hts _ q274) (hts _ q14) (hts _ q15) hE.1.1 hP hD hS hA rfl (fun j hj => by rcases f_lt3 hj with rfl | rfl | rfl <;> rfl) (Nat.le_of_ble_eq_true rfl) (Nat.le_of_ble_eq_true rfl) dX2_init_5 (fun n_1 H hP hD hS => ?_)
  have hP : va_P D vwCl [(h, .inr (3, [.null])), (n_1, .inr (0, [.int 0, .null, .int 0]))] H := hP
  have hD : va_D A [(h, .inr (3, [.null])), (n_1, .inr (0, [.int 0, .null, .int 0]))] := hD
  refine lv_dup hx hb dX2_init_8 rfl ?_
  refine f_aft_v (wr := [(h, .inr (3, [.null]))]) (f_runI (As := []) (rest := [.ref n_1, .ref h]) hx hb hml hown hts (kJx4a65c_init_da8c8 l D cI cO cL E M n_1 0 (.null) 0 H.size) (fcwI 0 hts q276 q23 q15 q24 rfl rfl rfl (by decide +kernel) ⟨(Nat.le_of_ble_eq_true rfl), (Nat.le_of_ble_eq_true rfl)⟩) hE hP hD hS hA [1] rfl (by decide) rfl hl.1 rfl (Nat.le_of_ble_eq_true rfl) dX2_init_9 ⟨(Nat.le_of_ble_eq_true rfl), (Nat.le_of_ble_eq_true rfl)⟩) hP hD hS hA [1] [0] rfl rfl (by decide) (by decide) (fun u H locs hr0 hP hD hS => ?_)
  have hP : va_P D vwCl [(h, .inr (3, [.null])), (n_1, .inr (0, [.int 0, .ref E, .int 0]))] H := hP
  have hD : va_D A [(h, .inr (3, [.null])), (n_1, .inr (0, [.int 0, .ref E, .int 0]))] := hD
  refine va_putF (D := D) (ci := 3) (v := .ref n_1) (ty := .object "java/util/ArrayList") (C := RX2) (T := TX2) (N := 1) hx hb hts uX2 tyX2 tyX2_ok nmX2 hown hE.1.1 hP hD hS 0 rfl rfl 0 (by decide) (hts _ q275) (fun _ h9 => h9) rfl hin rfl (by decide +kernel) rfl rfl (Nat.le_of_ble_eq_true rfl) dX2_init_12 (fun H locs hP hD hS => ?_)
  have hP : va_P D vwCl [(h, .inr (3, [.ref n_1])), (n_1, .inr (0, [.int 0, .ref E, .int 0]))] H := hP
  have hD : va_D A [(h, .inr (3, [.ref n_1])), (n_1, .inr (0, [.int 0, .ref E, .int 0]))] := hD
  have hP9 := hP.sub (ws' := [(h, .inr (3, [.ref n_1])), (n_1, .inr (0, [.int 0, .ref E, .int 0]))]) [0, 1] rfl
  have hD9 := hD.sub (ws' := [(h, .inr (3, [.ref n_1])), (n_1, .inr (0, [.int 0, .ref E, .int 0]))]) [0, 1] (by decide) rfl
  refine W.widen (k := 1) (n := 3) (Nat.le_of_ble_eq_true rfl) (Nat.le_of_ble_eq_true rfl) ?_
  exact W.vret hx hb hr (fun t ht hW => ⟨⟨n_1, rfl, trivial, by rw [ht]; exact hP9, hD9⟩, hS.F ht⟩) hS.2.2 dX2_init_15
set_option maxHeartbeats 4000000 in
set_option maxRecDepth 100000 in
theorem kX5_init (l : Launch) (D : va_G) (cI cO cL : ClassId) (E M : Nat) (h : Nat)  (sz : Nat) : Met l yX5_init (fW yX5_init cX5_init 1 none) { frames := 4, cells := 7, slots := 39, locals := 72 } (fPre D cI cO cL E M [.ref h] sz [(h, .inr (6, [.null, .null, .null, .null, .int 0, .int 0, .int 0, .int 0, .int 0, .int 0, .int 0, .int 0, .int 0, .int 0, .int 0]))]) (va_Qv (fun _ : Nat × Nat × Nat × Nat × Nat × Nat × Nat => True) (fB D (va_A [(h, .inr (6, [.null, .null, .null, .null, .int 0, .int 0, .int 0, .int 0, .int 0, .int 0, .int 0, .int 0, .int 0, .int 0, .int 0]))] sz) (fun u : Nat × Nat × Nat × Nat × Nat × Nat × Nat => [(h, .inr (6, [.ref u.1, .ref u.2.1, .ref u.2.2.1, .ref u.2.2.2.1, .int 0, .int 3000, .int 0, .int 0, .int 0, .int 0, .int 0, .int 0, .int 0, .int 0, .int 0])), (u.1, .inr (0, [.int 0, .ref E, .int 0])), (u.2.1, .inr (0, [.int 0, .ref E, .int 0])), (u.2.2.1, .inr (0, [.int 0, .ref E, .int 0])), (u.2.2.2.1, .inr (1, [.ref u.2.2.2.2.1, .ref u.2.2.2.2.2.1, .ref u.2.2.2.2.2.2])), (u.2.2.2.2.1, .inl (cI, 9, .inl (fun _ => 0))), (u.2.2.2.2.2.1, .inl (cI, 9, .inl (fun _ => 0))), (u.2.2.2.2.2.2, .inl (cI, 9, .inl (fun _ => 0)))])) (va_A [(h, .inr (6, [.null, .null, .null, .null, .int 0, .int 0, .int 0, .int 0, .int 0, .int 0, .int 0, .int 0, .int 0, .int 0, .int 0]))] sz)) 7 39 (va_A [(h, .inr (6, [.null, .null, .null, .null, .int 0, .int 0, .int 0, .int 0, .int 0, .int 0, .int 0, .int 0, .int 0, .int 0, .int 0]))] sz) := by
  refine Met.ofW (cc := cX5_init) (maxL := 1) (ret := none) (by decide) rfl ?_
  intro p e s m args below meth c s₁ B hml hv
  obtain ⟨rfl, hsz, hP, hD0, hE⟩ := hv
  have hx := B.exec
  have hb := B.bytes
  have hr := B.returns
  have hts0 := atoms_spec (ws := (fW yX5_init cX5_init 1 none)) B.pre
  have hts : ∀ w ∈ fA, w.before _ s = true := fun w h => hts0 w (List.mem_cons_of_mem _ h)
  have hown : s.vm.findClass RX5 = some m.cls := findClass_of_methodNamed B.named
  have hlocks := B.notSynchronized
  have hin : meth.name = "<init>" := (name_of_methodNamed B.named B.method).1
  subst hsz
  have hD := hD0.self (sz := s.heap.size)
  generalize hAe : va_A [(h, .inr (6, [.null, .null, .null, .null, .int 0, .int 0, .int 0, .int 0, .int 0, .int 0, .int 0, .int 0, .int 0, .int 0, .int 0]))] s.heap.size = A at hD hE ⊢
  have hA : ∀ q : Nat, s.heap.size ≤ q → A q := fun q h => by rw [← hAe]; exact Or.inr h
  have hP : va_P D vwCl [(h, .inr (6, [.null, .null, .null, .null, .int 0, .int 0, .int 0, .int 0, .int 0, .int 0, .int 0, .int 0, .int 0, .int 0, .int 0]))] s.heap := hP
  have hl := lv_entry ([.ref h]) (n := 1) (Nat.le_of_ble_eq_true rfl)
  rw [lg_entry_eq]
  generalize (lg_sl ([.ref h]) ++ List.replicate (1 - (lg_sl ([.ref h])).length) Slot.unset).toArray = ls at hl ⊢
  have hl : lv_has ls 1 [(0, .ref h)] := hl
  refine f_start (A := A) hP (fun H hP hS => ?_)
  refine lv_aload_n hx hb dX5_init_0 rfl (lv_at hl 0 rfl) ?_
  refine W.objInit hx hb hown (hts _ q39) (hts _ q11) (hts _ q12) rfl (by rw [hml]; exact hl.1) rfl dX5_init_1 (Nat.le_of_ble_eq_true rfl) (Nat.le_of_ble_eq_true rfl) ?_
  refine W.eq (g2 := F0 m 4 ls []) rfl ?_
  refine lv_aload_n hx hb dX5_init_4 rfl (lv_at hl 0 rfl) ?_
  refine va_new (ci := 0) (fs := [.int 0, .null, .int 0]) (C := RJx4a65c) (T := TJx4a65c) (N := 3) hx hb hts uJx4a65c tyJx4a65c tyJx4a65c_ok hown (hts _ q40) (hts _ q14) (hts _ q15) hE.1.1 hP hD hS hA rfl (fun j hj => by rcases f_lt3 hj with rfl | rfl | rfl <;> rfl) (Nat.le_of_ble_eq_true rfl) (Nat.le_of_ble_eq_true rfl) dX5_init_5 (fun n_1 H hP hD hS => ?_)
  have hP : va_P D vwCl [(h, .inr (6, [.null, .null, .null, .null, .int 0, .int 0, .int 0, .int 0, .int 0, .int 0, .int 0, .int 0, .int 0, .int 0, .int 0])), (n_1, .inr (0, [.int 0, .null, .int 0]))] H := hP
  have hD : va_D A [(h, .inr (6, [.null, .null, .null, .null, .int 0, .int 0, .int 0, .int 0, .int 0, .int 0, .int 0, .int 0, .int 0, .int 0, .int 0])), (n_1, .inr (0, [.int 0, .null, .int 0]))] := hD
  refine lv_dup hx hb dX5_init_8 rfl ?_
  refine f_aft_v (wr := [(h, .inr (6, [.null, .null, .null, .null, .int 0, .int 0, .int 0, .int 0, .int 0, .int 0, .int 0, .int 0, .int 0, .int 0, .int 0]))]) (f_runI (As := []) (rest := [.ref n_1, .ref h]) hx hb hml hown hts (kJx4a65c_init_da8c8 l D cI cO cL E M n_1 0 (.null) 0 H.size) (fcwI 0 hts q49 q23 q15 q24 rfl rfl rfl (by decide +kernel) ⟨(Nat.le_of_ble_eq_true rfl), (Nat.le_of_ble_eq_true rfl)⟩) hE hP hD hS hA [1] rfl (by decide) rfl hl.1 rfl (Nat.le_of_ble_eq_true rfl) dX5_init_9 ⟨(Nat.le_of_ble_eq_true rfl), (Nat.le_of_ble_eq_true rfl)⟩) hP hD hS hA [1] [0] rfl rfl (by decide) (by decide) (fun u H locs hr0 hP hD hS => ?_)
  have hP : va_P D vwCl [(h, .inr (6, [.null, .null, .null, .null, .int 0, .int 0, .int 0, .int 0, .int 0, .int 0, .int 0, .int 0, .int 0, .int 0, .int 0])), (n_1, .inr (0, [.int 0, .ref E, .int 0]))] H := hP
  have hD : va_D A [(h, .inr (6, [.null, .null, .null, .null, .int 0, .int 0, .int 0, .int 0, .int 0, .int 0, .int 0, .int 0, .int 0, .int 0, .int 0])), (n_1, .inr (0, [.int 0, .ref E, .int 0]))] := hD
  refine va_putF (D := D) (ci := 6) (v := .ref n_1) (ty := .object "java/util/ArrayList") (C := RX5) (T := TX5) (N := 15) hx hb hts uX5 tyX5 tyX5_ok nmX5 hown hE.1.1 hP hD hS 0 rfl rfl 0 (by decide) (hts _ q41) (fun _ h9 => h9) rfl hin rfl (by decide +kernel) rfl rfl (Nat.le_of_ble_eq_true rfl) dX5_init_12 (fun H locs hP hD hS => ?_)
  have hP : va_P D vwCl [(h, .inr (6, [.ref n_1, .null, .null, .null, .int 0, .int 0, .int 0, .int 0, .int 0, .int 0, .int 0, .int 0, .int 0, .int 0, .int 0])), (n_1, .inr (0, [.int 0, .ref E, .int 0]))] H := hP
  have hD : va_D A [(h, .inr (6, [.ref n_1, .null, .null, .null, .int 0, .int 0, .int 0, .int 0, .int 0, .int 0, .int 0, .int 0, .int 0, .int 0, .int 0])), (n_1, .inr (0, [.int 0, .ref E, .int 0]))] := hD
  refine lv_aload_n hx hb dX5_init_15 rfl (lv_at hl 0 rfl) ?_
  refine va_new (ci := 0) (fs := [.int 0, .null, .int 0]) (C := RJx4a65c) (T := TJx4a65c) (N := 3) hx hb hts uJx4a65c tyJx4a65c tyJx4a65c_ok hown (hts _ q40) (hts _ q14) (hts _ q15) hE.1.1 hP hD hS hA rfl (fun j hj => by rcases f_lt3 hj with rfl | rfl | rfl <;> rfl) (Nat.le_of_ble_eq_true rfl) (Nat.le_of_ble_eq_true rfl) dX5_init_16 (fun n_2 H hP hD hS => ?_)
  have hP : va_P D vwCl [(h, .inr (6, [.ref n_1, .null, .null, .null, .int 0, .int 0, .int 0, .int 0, .int 0, .int 0, .int 0, .int 0, .int 0, .int 0, .int 0])), (n_1, .inr (0, [.int 0, .ref E, .int 0])), (n_2, .inr (0, [.int 0, .null, .int 0]))] H := hP
  have hD : va_D A [(h, .inr (6, [.ref n_1, .null, .null, .null, .int 0, .int 0, .int 0, .int 0, .int 0, .int 0, .int 0, .int 0, .int 0, .int 0, .int 0])), (n_1, .inr (0, [.int 0, .ref E, .int 0])), (n_2, .inr (0, [.int 0, .null, .int 0]))] := hD
  refine lv_dup hx hb dX5_init_19 rfl ?_
  refine f_aft_v (wr := [(h, .inr (6, [.ref n_1, .null, .null, .null, .int 0, .int 0, .int 0, .int 0, .int 0, .int 0, .int 0, .int 0, .int 0, .int 0, .int 0])), (n_1, .inr (0, [.int 0, .ref E, .int 0]))]) (f_runI (As := []) (rest := [.ref n_2, .ref h]) hx hb hml hown hts (kJx4a65c_init_da8c8 l D cI cO cL E M n_2 0 (.null) 0 H.size) (fcwI 0 hts q49 q23 q15 q24 rfl rfl rfl (by decide +kernel) ⟨(Nat.le_of_ble_eq_true rfl), (Nat.le_of_ble_eq_true rfl)⟩) hE hP hD hS hA [2] rfl (by decide) rfl hl.1 rfl (Nat.le_of_ble_eq_true rfl) dX5_init_20 ⟨(Nat.le_of_ble_eq_true rfl), (Nat.le_of_ble_eq_true rfl)⟩) hP hD hS hA [2] [0, 1] rfl rfl (by decide) (by decide) (fun u H locs hr0 hP hD hS => ?_)
  have hP : va_P D vwCl [(h, .inr (6, [.ref n_1, .null, .null, .null, .int 0, .int 0, .int 0, .int 0, .int 0, .int 0, .int 0, .int 0, .int 0, .int 0, .int 0])), (n_1, .inr (0, [.int 0, .ref E, .int 0])), (n_2, .inr (0, [.int 0, .ref E, .int 0]))] H := hP
  have hD : va_D A [(h, .inr (6, [.ref n_1, .null, .null, .null, .int 0, .int 0, .int 0, .int 0, .int 0, .int 0, .int 0, .int 0, .int 0, .int 0, .int 0])), (n_1, .inr (0, [.int 0, .ref E, .int 0])), (n_2, .inr (0, [.int 0, .ref E, .int 0]))] := hD
  refine va_putF (D := D) (ci := 6) (v := .ref n_2) (ty := .object "java/util/ArrayList") (C := RX5) (T := TX5) (N := 15) hx hb hts uX5 tyX5 tyX5_ok nmX5 hown hE.1.1 hP hD hS 0 rfl rfl 1 (by decide) (hts _ q42) (fun _ h9 => h9) rfl hin rfl (by decide +kernel) rfl rfl (Nat.le_of_ble_eq_true rfl) dX5_init_23 (fun H locs hP hD hS => ?_)
  have hP : va_P D vwCl [(h, .inr (6, [.ref n_1, .ref n_2, .null, .null, .int 0, .int 0, .int 0, .int 0, .int 0, .int 0, .int 0, .int 0, .int 0, .int 0, .int 0])), (n_1, .inr (0, [.int 0, .ref E, .int 0])), (n_2, .inr (0, [.int 0, .ref E, .int 0]))] H := hP
  have hD : va_D A [(h, .inr (6, [.ref n_1, .ref n_2, .null, .null, .int 0, .int 0, .int 0, .int 0, .int 0, .int 0, .int 0, .int 0, .int 0, .int 0, .int 0])), (n_1, .inr (0, [.int 0, .ref E, .int 0])), (n_2, .inr (0, [.int 0, .ref E, .int 0]))] := hD
  refine lv_aload_n hx hb dX5_init_26 rfl (lv_at hl 0 rfl) ?_
  refine va_new (ci := 0) (fs := [.int 0, .null, .int 0]) (C := RJx4a65c) (T := TJx4a65c) (N := 3) hx hb hts uJx4a65c tyJx4a65c tyJx4a65c_ok hown (hts _ q40) (hts _ q14) (hts _ q15) hE.1.1 hP hD hS hA rfl (fun j hj => by rcases f_lt3 hj with rfl | rfl | rfl <;> rfl) (Nat.le_of_ble_eq_true rfl) (Nat.le_of_ble_eq_true rfl) dX5_init_27 (fun n_3 H hP hD hS => ?_)
  have hP : va_P D vwCl [(h, .inr (6, [.ref n_1, .ref n_2, .null, .null, .int 0, .int 0, .int 0, .int 0, .int 0, .int 0, .int 0, .int 0, .int 0, .int 0, .int 0])), (n_1, .inr (0, [.int 0, .ref E, .int 0])), (n_2, .inr (0, [.int 0, .ref E, .int 0])), (n_3, .inr (0, [.int 0, .null, .int 0]))] H := hP
  have hD : va_D A [(h, .inr (6, [.ref n_1, .ref n_2, .null, .null, .int 0, .int 0, .int 0, .int 0, .int 0, .int 0, .int 0, .int 0, .int 0, .int 0, .int 0])), (n_1, .inr (0, [.int 0, .ref E, .int 0])), (n_2, .inr (0, [.int 0, .ref E, .int 0])), (n_3, .inr (0, [.int 0, .null, .int 0]))] := hD
  refine lv_dup hx hb dX5_init_30 rfl ?_
  refine f_aft_v (wr := [(h, .inr (6, [.ref n_1, .ref n_2, .null, .null, .int 0, .int 0, .int 0, .int 0, .int 0, .int 0, .int 0, .int 0, .int 0, .int 0, .int 0])), (n_1, .inr (0, [.int 0, .ref E, .int 0])), (n_2, .inr (0, [.int 0, .ref E, .int 0]))]) (f_runI (As := []) (rest := [.ref n_3, .ref h]) hx hb hml hown hts (kJx4a65c_init_da8c8 l D cI cO cL E M n_3 0 (.null) 0 H.size) (fcwI 0 hts q49 q23 q15 q24 rfl rfl rfl (by decide +kernel) ⟨(Nat.le_of_ble_eq_true rfl), (Nat.le_of_ble_eq_true rfl)⟩) hE hP hD hS hA [3] rfl (by decide) rfl hl.1 rfl (Nat.le_of_ble_eq_true rfl) dX5_init_31 ⟨(Nat.le_of_ble_eq_true rfl), (Nat.le_of_ble_eq_true rfl)⟩) hP hD hS hA [3] [0, 1, 2] rfl rfl (by decide) (by decide) (fun u H locs hr0 hP hD hS => ?_)
  have hP : va_P D vwCl [(h, .inr (6, [.ref n_1, .ref n_2, .null, .null, .int 0, .int 0, .int 0, .int 0, .int 0, .int 0, .int 0, .int 0, .int 0, .int 0, .int 0])), (n_1, .inr (0, [.int 0, .ref E, .int 0])), (n_2, .inr (0, [.int 0, .ref E, .int 0])), (n_3, .inr (0, [.int 0, .ref E, .int 0]))] H := hP
  have hD : va_D A [(h, .inr (6, [.ref n_1, .ref n_2, .null, .null, .int 0, .int 0, .int 0, .int 0, .int 0, .int 0, .int 0, .int 0, .int 0, .int 0, .int 0])), (n_1, .inr (0, [.int 0, .ref E, .int 0])), (n_2, .inr (0, [.int 0, .ref E, .int 0])), (n_3, .inr (0, [.int 0, .ref E, .int 0]))] := hD
  refine va_putF (D := D) (ci := 6) (v := .ref n_3) (ty := .object "java/util/ArrayList") (C := RX5) (T := TX5) (N := 15) hx hb hts uX5 tyX5 tyX5_ok nmX5 hown hE.1.1 hP hD hS 0 rfl rfl 2 (by decide) (hts _ q43) (fun _ h9 => h9) rfl hin rfl (by decide +kernel) rfl rfl (Nat.le_of_ble_eq_true rfl) dX5_init_34 (fun H locs hP hD hS => ?_)
  have hP : va_P D vwCl [(h, .inr (6, [.ref n_1, .ref n_2, .ref n_3, .null, .int 0, .int 0, .int 0, .int 0, .int 0, .int 0, .int 0, .int 0, .int 0, .int 0, .int 0])), (n_1, .inr (0, [.int 0, .ref E, .int 0])), (n_2, .inr (0, [.int 0, .ref E, .int 0])), (n_3, .inr (0, [.int 0, .ref E, .int 0]))] H := hP
  have hD : va_D A [(h, .inr (6, [.ref n_1, .ref n_2, .ref n_3, .null, .int 0, .int 0, .int 0, .int 0, .int 0, .int 0, .int 0, .int 0, .int 0, .int 0, .int 0])), (n_1, .inr (0, [.int 0, .ref E, .int 0])), (n_2, .inr (0, [.int 0, .ref E, .int 0])), (n_3, .inr (0, [.int 0, .ref E, .int 0]))] := hD
  refine lv_aload_n hx hb dX5_init_37 rfl (lv_at hl 0 rfl) ?_
  refine va_new (ci := 1) (fs := [.null, .null, .null]) (C := RX0) (T := TX0) (N := 3) hx hb hts uX0 tyX0 tyX0_ok hown (hts _ q44) (hts _ q45) (hts _ q46) hE.1.1 hP hD hS hA rfl (fun j hj => by rcases f_lt3 hj with rfl | rfl | rfl <;> rfl) (Nat.le_of_ble_eq_true rfl) (Nat.le_of_ble_eq_true rfl) dX5_init_38 (fun n_4 H hP hD hS => ?_)
  have hP : va_P D vwCl [(h, .inr (6, [.ref n_1, .ref n_2, .ref n_3, .null, .int 0, .int 0, .int 0, .int 0, .int 0, .int 0, .int 0, .int 0, .int 0, .int 0, .int 0])), (n_1, .inr (0, [.int 0, .ref E, .int 0])), (n_2, .inr (0, [.int 0, .ref E, .int 0])), (n_3, .inr (0, [.int 0, .ref E, .int 0])), (n_4, .inr (1, [.null, .null, .null]))] H := hP
  have hD : va_D A [(h, .inr (6, [.ref n_1, .ref n_2, .ref n_3, .null, .int 0, .int 0, .int 0, .int 0, .int 0, .int 0, .int 0, .int 0, .int 0, .int 0, .int 0])), (n_1, .inr (0, [.int 0, .ref E, .int 0])), (n_2, .inr (0, [.int 0, .ref E, .int 0])), (n_3, .inr (0, [.int 0, .ref E, .int 0])), (n_4, .inr (1, [.null, .null, .null]))] := hD
  refine lv_dup hx hb dX5_init_41 rfl ?_
  refine f_aft_v (wr := [(h, .inr (6, [.ref n_1, .ref n_2, .ref n_3, .null, .int 0, .int 0, .int 0, .int 0, .int 0, .int 0, .int 0, .int 0, .int 0, .int 0, .int 0])), (n_1, .inr (0, [.int 0, .ref E, .int 0])), (n_2, .inr (0, [.int 0, .ref E, .int 0])), (n_3, .inr (0, [.int 0, .ref E, .int 0]))]) (f_runIN (As := []) (rest := [.ref n_4, .ref h]) hx hb hml hown hts (kX0_init l D cI cO cL E M n_4 H.size) (fcwIN 0 hts (hE.1.2.2.2.2.2.2.2.1 (RX5, 26, yX0_init, RX7) (by decide +kernel)) q50 q46 q51 rfl rfl rfl (by decide +kernel) ⟨(Nat.le_of_ble_eq_true rfl), (Nat.le_of_ble_eq_true rfl)⟩) hE hP hD hS hA [4] rfl (by decide) rfl hl.1 rfl (Nat.le_of_ble_eq_true rfl) dX5_init_42 ⟨(Nat.le_of_ble_eq_true rfl), (Nat.le_of_ble_eq_true rfl)⟩) hP hD hS hA [4] [0, 1, 2, 3] rfl rfl (by decide) (by decide) (fun u H locs hr0 hP hD hS => ?_)
  obtain ⟨n_5, n_6, n_7⟩ := u
  have hP : va_P D vwCl [(h, .inr (6, [.ref n_1, .ref n_2, .ref n_3, .null, .int 0, .int 0, .int 0, .int 0, .int 0, .int 0, .int 0, .int 0, .int 0, .int 0, .int 0])), (n_1, .inr (0, [.int 0, .ref E, .int 0])), (n_2, .inr (0, [.int 0, .ref E, .int 0])), (n_3, .inr (0, [.int 0, .ref E, .int 0])), (n_4, .inr (1, [.ref n_5, .ref n_6, .ref n_7])), (n_5, .inl (cI, 9, .inl (fun _ => 0))), (n_6, .inl (cI, 9, .inl (fun _ => 0))), (n_7, .inl (cI, 9, .inl (fun _ => 0)))] H := hP
  have hD : va_D A [(h, .inr (6, [.ref n_1, .ref n_2, .ref n_3, .null, .int 0, .int 0, .int 0, .int 0, .int 0, .int 0, .int 0, .int 0, .int 0, .int 0, .int 0])), (n_1, .inr (0, [.int 0, .ref E, .int 0])), (n_2, .inr (0, [.int 0, .ref E, .int 0])), (n_3, .inr (0, [.int 0, .ref E, .int 0])), (n_4, .inr (1, [.ref n_5, .ref n_6, .ref n_7])), (n_5, .inl (cI, 9, .inl (fun _ => 0))), (n_6, .inl (cI, 9, .inl (fun _ => 0))), (n_7, .inl (cI, 9, .inl (fun _ => 0)))] := hD
  refine va_putF (D := D) (ci := 6) (v := .ref n_4) (ty := .object "JetWaltz$Air") (C := RX5) (T := TX5) (N := 15) hx hb hts uX5 tyX5 tyX5_ok nmX5 hown hE.1.1 hP hD hS 0 rfl rfl 3 (by decide) (hts _ q47) (fun _ h9 => h9) rfl hin rfl (by decide +kernel) rfl rfl (Nat.le_of_ble_eq_true rfl) dX5_init_45 (fun H locs hP hD hS => ?_)
  have hP : va_P D vwCl [(h, .inr (6, [.ref n_1, .ref n_2, .ref n_3, .ref n_4, .int 0, .int 0, .int 0, .int 0, .int 0, .int 0, .int 0, .int 0, .int 0, .int 0, .int 0])), (n_1, .inr (0, [.int 0, .ref E, .int 0])), (n_2, .inr (0, [.int 0, .ref E, .int 0])), (n_3, .inr (0, [.int 0, .ref E, .int 0])), (n_4, .inr (1, [.ref n_5, .ref n_6, .ref n_7])), (n_5, .inl (cI, 9, .inl (fun _ => 0))), (n_6, .inl (cI, 9, .inl (fun _ => 0))), (n_7, .inl (cI, 9, .inl (fun _ => 0)))] H := hP
  have hD : va_D A [(h, .inr (6, [.ref n_1, .ref n_2, .ref n_3, .ref n_4, .int 0, .int 0, .int 0, .int 0, .int 0, .int 0, .int 0, .int 0, .int 0, .int 0, .int 0])), (n_1, .inr (0, [.int 0, .ref E, .int 0])), (n_2, .inr (0, [.int 0, .ref E, .int 0])), (n_3, .inr (0, [.int 0, .ref E, .int 0])), (n_4, .inr (1, [.ref n_5, .ref n_6, .ref n_7])), (n_5, .inl (cI, 9, .inl (fun _ => 0))), (n_6, .inl (cI, 9, .inl (fun _ => 0))), (n_7, .inl (cI, 9, .inl (fun _ => 0)))] := hD
  refine lv_aload_n hx hb dX5_init_48 rfl (lv_at hl 0 rfl) ?_
  refine lv_sipush (v := 3000) hx hb dX5_init_49 (by decide) ?_
  refine va_put (D := D) (ci := 6) (v := .int 3000) (ty := .int) (C := RX5) (T := TX5) (N := 15) hx hb hts uX5 tyX5 tyX5_ok nmX5 hown hE.1.1 hP hD hS 0 rfl rfl 5 (by decide) (hts _ q48) (fun _ h9 => h9) rfl (by decide +kernel) rfl rfl (Nat.le_of_ble_eq_true rfl) dX5_init_52 (fun H locs hP hD hS => ?_)
  have hP : va_P D vwCl [(h, .inr (6, [.ref n_1, .ref n_2, .ref n_3, .ref n_4, .int 0, .int 3000, .int 0, .int 0, .int 0, .int 0, .int 0, .int 0, .int 0, .int 0, .int 0])), (n_1, .inr (0, [.int 0, .ref E, .int 0])), (n_2, .inr (0, [.int 0, .ref E, .int 0])), (n_3, .inr (0, [.int 0, .ref E, .int 0])), (n_4, .inr (1, [.ref n_5, .ref n_6, .ref n_7])), (n_5, .inl (cI, 9, .inl (fun _ => 0))), (n_6, .inl (cI, 9, .inl (fun _ => 0))), (n_7, .inl (cI, 9, .inl (fun _ => 0)))] H := hP
  have hD : va_D A [(h, .inr (6, [.ref n_1, .ref n_2, .ref n_3, .ref n_4, .int 0, .int 3000, .int 0, .int 0, .int 0, .int 0, .int 0, .int 0, .int 0, .int 0, .int 0])), (n_1, .inr (0, [.int 0, .ref E, .int 0])), (n_2, .inr (0, [.int 0, .ref E, .int 0])), (n_3, .inr (0, [.int 0, .ref E, .int 0])), (n_4, .inr (1, [.ref n_5, .ref n_6, .ref n_7])), (n_5, .inl (cI, 9, .inl (fun _ => 0))), (n_6, .inl (cI, 9, .inl (fun _ => 0))), (n_7, .inl (cI, 9, .inl (fun _ => 0)))] := hD
  have hP9 := hP.sub (ws' := [(h, .inr (6, [.ref n_1, .ref n_2, .ref n_3, .ref n_4, .int 0, .int 3000, .int 0, .int 0, .int 0, .int 0, .int 0, .int 0, .int 0, .int 0, .int 0])), (n_1, .inr (0, [.int 0, .ref E, .int 0])), (n_2, .inr (0, [.int 0, .ref E, .int 0])), (n_3, .inr (0, [.int 0, .ref E, .int 0])), (n_4, .inr (1, [.ref n_5, .ref n_6, .ref n_7])), (n_5, .inl (cI, 9, .inl (fun _ => 0))), (n_6, .inl (cI, 9, .inl (fun _ => 0))), (n_7, .inl (cI, 9, .inl (fun _ => 0)))]) [0, 1, 2, 3, 4, 5, 6, 7] rfl
  have hD9 := hD.sub (ws' := [(h, .inr (6, [.ref n_1, .ref n_2, .ref n_3, .ref n_4, .int 0, .int 3000, .int 0, .int 0, .int 0, .int 0, .int 0, .int 0, .int 0, .int 0, .int 0])), (n_1, .inr (0, [.int 0, .ref E, .int 0])), (n_2, .inr (0, [.int 0, .ref E, .int 0])), (n_3, .inr (0, [.int 0, .ref E, .int 0])), (n_4, .inr (1, [.ref n_5, .ref n_6, .ref n_7])), (n_5, .inl (cI, 9, .inl (fun _ => 0))), (n_6, .inl (cI, 9, .inl (fun _ => 0))), (n_7, .inl (cI, 9, .inl (fun _ => 0)))]) [0, 1, 2, 3, 4, 5, 6, 7] (by decide) rfl
  refine W.widen (k := 7) (n := 39) (Nat.le_of_ble_eq_true rfl) (Nat.le_of_ble_eq_true rfl) ?_
  exact W.vret hx hb hr (fun t ht hW => ⟨⟨(n_1, n_2, n_3, n_4, n_5, n_6, n_7), rfl, trivial, by rw [ht]; exact hP9, hD9⟩, hS.F ht⟩) hS.2.2 dX5_init_55
set_option maxHeartbeats 4000000 in
set_option maxRecDepth 100000 in
theorem kX5_doStepsDue (l : Launch) (D : va_G) (cI cO cL : ClassId) (E M : Nat) (sh : Nat) (sp : Nat) (sj : Nat) (sc : Nat) (sa : Nat) (nw : Int32)  (sz : Nat) : Met l yX5_doStepsDue (fW yX5_doStepsDue cX5_doStepsDue 5 none) { frames := 1, cells := 0, slots := 0, locals := 20 } (fPre D cI cO cL E M [.ref sh] sz [(sh, .inr (6, [.ref sp, .ref sj, .ref sc, .ref sa, .int nw, .int 3000, .int 0, .int 0, .int 0, .int 0, .int 0, .int 0, .int 0, .int 0, .int 0])), (sc, .inr (0, [.int 0, .ref E, .int 0]))]) (va_Qv (fun _ : Unit => True) (fB D (va_A [(sh, .inr (6, [.ref sp, .ref sj, .ref sc, .ref sa, .int nw, .int 3000, .int 0, .int 0, .int 0, .int 0, .int 0, .int 0, .int 0, .int 0, .int 0])), (sc, .inr (0, [.int 0, .ref E, .int 0]))] sz) (fun u : Unit => [(sh, .inr (6, [.ref sp, .ref sj, .ref sc, .ref sa, .int nw, .int 3000, .int 0, .int 0, .int 0, .int 0, .int 0, .int 0, .int 0, .int 0, .int 0])), (sc, .inr (0, [.int 0, .ref E, .int 0]))])) (va_A [(sh, .inr (6, [.ref sp, .ref sj, .ref sc, .ref sa, .int nw, .int 3000, .int 0, .int 0, .int 0, .int 0, .int 0, .int 0, .int 0, .int 0, .int 0])), (sc, .inr (0, [.int 0, .ref E, .int 0]))] sz)) 0 0 (va_A [(sh, .inr (6, [.ref sp, .ref sj, .ref sc, .ref sa, .int nw, .int 3000, .int 0, .int 0, .int 0, .int 0, .int 0, .int 0, .int 0, .int 0, .int 0])), (sc, .inr (0, [.int 0, .ref E, .int 0]))] sz) := by
  refine Met.ofW (cc := cX5_doStepsDue) (maxL := 5) (ret := none) (by decide) rfl ?_
  intro p e s m args below meth c s₁ B hml hv
  obtain ⟨rfl, hsz, hP, hD0, hE⟩ := hv
  have hx := B.exec
  have hb := B.bytes
  have hr := B.returns
  have hts0 := atoms_spec (ws := (fW yX5_doStepsDue cX5_doStepsDue 5 none)) B.pre
  have hts : ∀ w ∈ fA, w.before _ s = true := fun w h => hts0 w (List.mem_cons_of_mem _ h)
  have hown : s.vm.findClass RX5 = some m.cls := findClass_of_methodNamed B.named
  have hlocks := B.notSynchronized
  subst hsz
  have hD := hD0.self (sz := s.heap.size)
  generalize hAe : va_A [(sh, .inr (6, [.ref sp, .ref sj, .ref sc, .ref sa, .int nw, .int 3000, .int 0, .int 0, .int 0, .int 0, .int 0, .int 0, .int 0, .int 0, .int 0])), (sc, .inr (0, [.int 0, .ref E, .int 0]))] s.heap.size = A at hD hE ⊢
  have hA : ∀ q : Nat, s.heap.size ≤ q → A q := fun q h => by rw [← hAe]; exact Or.inr h
  have hP : va_P D vwCl [(sh, .inr (6, [.ref sp, .ref sj, .ref sc, .ref sa, .int nw, .int 3000, .int 0, .int 0, .int 0, .int 0, .int 0, .int 0, .int 0, .int 0, .int 0])), (sc, .inr (0, [.int 0, .ref E, .int 0]))] s.heap := hP
  have hl := lv_entry ([.ref sh]) (n := 5) (Nat.le_of_ble_eq_true rfl)
  rw [lg_entry_eq]
  generalize (lg_sl ([.ref sh]) ++ List.replicate (5 - (lg_sl ([.ref sh])).length) Slot.unset).toArray = ls at hl ⊢
  have hl : lv_has ls 5 [(0, .ref sh)] := hl
  refine f_start (A := A) hP (fun H hP hS => ?_)
  refine lv_iconst (v := 0) hx hb dX5_doStepsDue_0 (by decide) ?_
  refine lv_istore_n (lv' := [(1, .int 0), (0, .ref sh)]) hx hb dX5_doStepsDue_1 rfl hl (by decide) rfl (fun ls hl => ?_)
  refine lv_iload_n hx hb dX5_doStepsDue_2 rfl (lv_at hl 0 rfl) ?_
  refine lv_aload_n hx hb dX5_doStepsDue_3 rfl (lv_at hl 1 rfl) ?_
  refine va_get (D := D) (ci := 6) (v := .ref sc) (C := RX5) (T := TX5) (N := 15) hx hb hts uX5 hown hE.1.1 hP 0 rfl rfl 2 (by decide) (hts _ q43) (fun _ h9 => h9) rfl dX5_doStepsDue_4 ?_
  refine f_aft_i (wr := [(sh, .inr (6, [.ref sp, .ref sj, .ref sc, .ref sa, .int nw, .int 3000, .int 0, .int 0, .int 0, .int 0, .int 0, .int 0, .int 0, .int 0, .int 0]))]) (f_runV (As := []) (rest := [.int 0]) hx hb hml hown hts (kJx4a65c_size_8abf5 l D cI cO cL E M sc 0 (.ref E) 0 H.size) (fcwV 0 hts q230 q97 q98 q15 q99 rfl rfl (by decide +kernel) ⟨(Nat.le_of_ble_eq_true rfl), (Nat.le_of_ble_eq_true rfl)⟩) hE hP hD hS hA [1] rfl (by decide) (q0 := 1) (ci := 0) rfl rfl rfl rfl hl.1 rfl (Nat.le_of_ble_eq_true rfl) dX5_doStepsDue_7 ⟨(Nat.le_of_ble_eq_true rfl), (Nat.le_of_ble_eq_true rfl)⟩) hP hD hS hA [1] [0] rfl rfl (by decide) (by decide) (fun r u H locs hr0 hP hD hS => ?_)
  subst hr0
  have hP : va_P D vwCl [(sh, .inr (6, [.ref sp, .ref sj, .ref sc, .ref sa, .int nw, .int 3000, .int 0, .int 0, .int 0, .int 0, .int 0, .int 0, .int 0, .int 0, .int 0])), (sc, .inr (0, [.int 0, .ref E, .int 0]))] H := hP
  have hD : va_D A [(sh, .inr (6, [.ref sp, .ref sj, .ref sc, .ref sa, .int nw, .int 3000, .int 0, .int 0, .int 0, .int 0, .int 0, .int 0, .int 0, .int 0, .int 0])), (sc, .inr (0, [.int 0, .ref E, .int 0]))] := hD
  refine lv_icmp_ge (tgt := 86) hx hb dX5_doStepsDue_10 (by decide) (fun _ => ?_) (fun h => absurd (by decide) h)
  have hP9 := hP.sub (ws' := [(sh, .inr (6, [.ref sp, .ref sj, .ref sc, .ref sa, .int nw, .int 3000, .int 0, .int 0, .int 0, .int 0, .int 0, .int 0, .int 0, .int 0, .int 0])), (sc, .inr (0, [.int 0, .ref E, .int 0]))]) [0, 1] rfl
  have hD9 := hD.sub (ws' := [(sh, .inr (6, [.ref sp, .ref sj, .ref sc, .ref sa, .int nw, .int 3000, .int 0, .int 0, .int 0, .int 0, .int 0, .int 0, .int 0, .int 0, .int 0])), (sc, .inr (0, [.int 0, .ref E, .int 0]))]) [0, 1] (by decide) rfl
  refine W.widen (k := 0) (n := 0) (Nat.le_of_ble_eq_true rfl) (Nat.le_of_ble_eq_true rfl) ?_
  exact W.vret hx hb hr (fun t ht hW => ⟨⟨(), rfl, trivial, by rw [ht]; exact hP9, hD9⟩, hS.F ht⟩) hS.2.2 dX5_doStepsDue_86
set_option maxHeartbeats 4000000 in
set_option maxRecDepth 100000 in
theorem kX5_turnDrivesAndValves (l : Launch) (D : va_G) (cI cO cL : ClassId) (E M : Nat) (sh : Nat) (sp : Nat) (sj : Nat) (sc : Nat) (sa : Nat) (nw : Int32)  (sz : Nat) : Met l yX5_turnDrivesAndValves (fW yX5_turnDrivesAndValves cX5_turnDrivesAndValves 2 none) { frames := 1, cells := 0, slots := 0, locals := 20 } (fPre D cI cO cL E M [.ref sh] sz [(sh, .inr (6, [.ref sp, .ref sj, .ref sc, .ref sa, .int nw, .int 3000, .int 0, .int 0, .int 0, .int 0, .int 0, .int 0, .int 0, .int 0, .int 0])), (sp, .inr (0, [.int 0, .ref E, .int 0])), (sj, .inr (0, [.int 0, .ref E, .int 0]))]) (va_Qv (fun _ : Unit => True) (fB D (va_A [(sh, .inr (6, [.ref sp, .ref sj, .ref sc, .ref sa, .int nw, .int 3000, .int 0, .int 0, .int 0, .int 0, .int 0, .int 0, .int 0, .int 0, .int 0])), (sp, .inr (0, [.int 0, .ref E, .int 0])), (sj, .inr (0, [.int 0, .ref E, .int 0]))] sz) (fun u : Unit => [(sh, .inr (6, [.ref sp, .ref sj, .ref sc, .ref sa, .int nw, .int 3000, .int 0, .int 0, .int 0, .int 0, .int 0, .int 0, .int 0, .int 0, .int 0])), (sp, .inr (0, [.int 0, .ref E, .int 0])), (sj, .inr (0, [.int 0, .ref E, .int 0]))])) (va_A [(sh, .inr (6, [.ref sp, .ref sj, .ref sc, .ref sa, .int nw, .int 3000, .int 0, .int 0, .int 0, .int 0, .int 0, .int 0, .int 0, .int 0, .int 0])), (sp, .inr (0, [.int 0, .ref E, .int 0])), (sj, .inr (0, [.int 0, .ref E, .int 0]))] sz)) 0 0 (va_A [(sh, .inr (6, [.ref sp, .ref sj, .ref sc, .ref sa, .int nw, .int 3000, .int 0, .int 0, .int 0, .int 0, .int 0, .int 0, .int 0, .int 0, .int 0])), (sp, .inr (0, [.int 0, .ref E, .int 0])), (sj, .inr (0, [.int 0, .ref E, .int 0]))] sz) := by
  refine Met.ofW (cc := cX5_turnDrivesAndValves) (maxL := 2) (ret := none) (by decide) rfl ?_
  intro p e s m args below meth c s₁ B hml hv
  obtain ⟨rfl, hsz, hP, hD0, hE⟩ := hv
  have hx := B.exec
  have hb := B.bytes
  have hr := B.returns
  have hts0 := atoms_spec (ws := (fW yX5_turnDrivesAndValves cX5_turnDrivesAndValves 2 none)) B.pre
  have hts : ∀ w ∈ fA, w.before _ s = true := fun w h => hts0 w (List.mem_cons_of_mem _ h)
  have hown : s.vm.findClass RX5 = some m.cls := findClass_of_methodNamed B.named
  have hlocks := B.notSynchronized
  subst hsz
  have hD := hD0.self (sz := s.heap.size)
  generalize hAe : va_A [(sh, .inr (6, [.ref sp, .ref sj, .ref sc, .ref sa, .int nw, .int 3000, .int 0, .int 0, .int 0, .int 0, .int 0, .int 0, .int 0, .int 0, .int 0])), (sp, .inr (0, [.int 0, .ref E, .int 0])), (sj, .inr (0, [.int 0, .ref E, .int 0]))] s.heap.size = A at hD hE ⊢
  have hA : ∀ q : Nat, s.heap.size ≤ q → A q := fun q h => by rw [← hAe]; exact Or.inr h
  have hP : va_P D vwCl [(sh, .inr (6, [.ref sp, .ref sj, .ref sc, .ref sa, .int nw, .int 3000, .int 0, .int 0, .int 0, .int 0, .int 0, .int 0, .int 0, .int 0, .int 0])), (sp, .inr (0, [.int 0, .ref E, .int 0])), (sj, .inr (0, [.int 0, .ref E, .int 0]))] s.heap := hP
  have hl := lv_entry ([.ref sh]) (n := 2) (Nat.le_of_ble_eq_true rfl)
  rw [lg_entry_eq]
  generalize (lg_sl ([.ref sh]) ++ List.replicate (2 - (lg_sl ([.ref sh])).length) Slot.unset).toArray = ls at hl ⊢
  have hl : lv_has ls 2 [(0, .ref sh)] := hl
  refine f_start (A := A) hP (fun H hP hS => ?_)
  refine lv_iconst (v := 0) hx hb dX5_turnDrivesAndValves_0 (by decide) ?_
  refine lv_istore_n (lv' := [(1, .int 0), (0, .ref sh)]) hx hb dX5_turnDrivesAndValves_1 rfl hl (by decide) rfl (fun ls hl => ?_)
  refine lv_iload_n hx hb dX5_turnDrivesAndValves_2 rfl (lv_at hl 0 rfl) ?_
  refine lv_aload_n hx hb dX5_turnDrivesAndValves_3 rfl (lv_at hl 1 rfl) ?_
  refine va_get (D := D) (ci := 6) (v := .ref sp) (C := RX5) (T := TX5) (N := 15) hx hb hts uX5 hown hE.1.1 hP 0 rfl rfl 0 (by decide) (hts _ q41) (fun _ h9 => h9) rfl dX5_turnDrivesAndValves_4 ?_
  refine f_aft_i (wr := [(sh, .inr (6, [.ref sp, .ref sj, .ref sc, .ref sa, .int nw, .int 3000, .int 0, .int 0, .int 0, .int 0, .int 0, .int 0, .int 0, .int 0, .int 0])), (sj, .inr (0, [.int 0, .ref E, .int 0]))]) (f_runV (As := []) (rest := [.int 0]) hx hb hml hown hts (kJx4a65c_size_8abf5 l D cI cO cL E M sp 0 (.ref E) 0 H.size) (fcwV 0 hts q230 q97 q98 q15 q99 rfl rfl (by decide +kernel) ⟨(Nat.le_of_ble_eq_true rfl), (Nat.le_of_ble_eq_true rfl)⟩) hE hP hD hS hA [1] rfl (by decide) (q0 := 1) (ci := 0) rfl rfl rfl rfl hl.1 rfl (Nat.le_of_ble_eq_true rfl) dX5_turnDrivesAndValves_7 ⟨(Nat.le_of_ble_eq_true rfl), (Nat.le_of_ble_eq_true rfl)⟩) hP hD hS hA [1] [0, 2] rfl rfl (by decide) (by decide) (fun r u H locs hr0 hP hD hS => ?_)
  subst hr0
  have hP : va_P D vwCl [(sh, .inr (6, [.ref sp, .ref sj, .ref sc, .ref sa, .int nw, .int 3000, .int 0, .int 0, .int 0, .int 0, .int 0, .int 0, .int 0, .int 0, .int 0])), (sj, .inr (0, [.int 0, .ref E, .int 0])), (sp, .inr (0, [.int 0, .ref E, .int 0]))] H := hP
  have hD : va_D A [(sh, .inr (6, [.ref sp, .ref sj, .ref sc, .ref sa, .int nw, .int 3000, .int 0, .int 0, .int 0, .int 0, .int 0, .int 0, .int 0, .int 0, .int 0])), (sj, .inr (0, [.int 0, .ref E, .int 0])), (sp, .inr (0, [.int 0, .ref E, .int 0]))] := hD
  refine lv_icmp_ge (tgt := 33) hx hb dX5_turnDrivesAndValves_10 (by decide) (fun _ => ?_) (fun h => absurd (by decide) h)
  refine lv_iconst (v := 0) hx hb dX5_turnDrivesAndValves_33 (by decide) ?_
  refine lv_istore_n (lv' := [(1, .int 0), (0, .ref sh)]) hx hb dX5_turnDrivesAndValves_34 rfl hl (by decide) rfl (fun ls hl => ?_)
  refine lv_iload_n hx hb dX5_turnDrivesAndValves_35 rfl (lv_at hl 0 rfl) ?_
  refine lv_aload_n hx hb dX5_turnDrivesAndValves_36 rfl (lv_at hl 1 rfl) ?_
  refine va_get (D := D) (ci := 6) (v := .ref sj) (C := RX5) (T := TX5) (N := 15) hx hb hts uX5 hown hE.1.1 hP 0 rfl rfl 1 (by decide) (hts _ q42) (fun _ h9 => h9) rfl dX5_turnDrivesAndValves_37 ?_
  refine f_aft_i (wr := [(sh, .inr (6, [.ref sp, .ref sj, .ref sc, .ref sa, .int nw, .int 3000, .int 0, .int 0, .int 0, .int 0, .int 0, .int 0, .int 0, .int 0, .int 0])), (sp, .inr (0, [.int 0, .ref E, .int 0]))]) (f_runV (As := []) (rest := [.int 0]) hx hb hml hown hts (kJx4a65c_size_8abf5 l D cI cO cL E M sj 0 (.ref E) 0 H.size) (fcwV 0 hts q230 q97 q98 q15 q99 rfl rfl (by decide +kernel) ⟨(Nat.le_of_ble_eq_true rfl), (Nat.le_of_ble_eq_true rfl)⟩) hE hP hD hS hA [1] rfl (by decide) (q0 := 1) (ci := 0) rfl rfl rfl rfl hl.1 rfl (Nat.le_of_ble_eq_true rfl) dX5_turnDrivesAndValves_40 ⟨(Nat.le_of_ble_eq_true rfl), (Nat.le_of_ble_eq_true rfl)⟩) hP hD hS hA [1] [0, 2] rfl rfl (by decide) (by decide) (fun r u H locs hr0 hP hD hS => ?_)
  subst hr0
  have hP : va_P D vwCl [(sh, .inr (6, [.ref sp, .ref sj, .ref sc, .ref sa, .int nw, .int 3000, .int 0, .int 0, .int 0, .int 0, .int 0, .int 0, .int 0, .int 0, .int 0])), (sp, .inr (0, [.int 0, .ref E, .int 0])), (sj, .inr (0, [.int 0, .ref E, .int 0]))] H := hP
  have hD : va_D A [(sh, .inr (6, [.ref sp, .ref sj, .ref sc, .ref sa, .int nw, .int 3000, .int 0, .int 0, .int 0, .int 0, .int 0, .int 0, .int 0, .int 0, .int 0])), (sp, .inr (0, [.int 0, .ref E, .int 0])), (sj, .inr (0, [.int 0, .ref E, .int 0]))] := hD
  refine lv_icmp_ge (tgt := 66) hx hb dX5_turnDrivesAndValves_43 (by decide) (fun _ => ?_) (fun h => absurd (by decide) h)
  have hP9 := hP.sub (ws' := [(sh, .inr (6, [.ref sp, .ref sj, .ref sc, .ref sa, .int nw, .int 3000, .int 0, .int 0, .int 0, .int 0, .int 0, .int 0, .int 0, .int 0, .int 0])), (sp, .inr (0, [.int 0, .ref E, .int 0])), (sj, .inr (0, [.int 0, .ref E, .int 0]))]) [0, 1, 2] rfl
  have hD9 := hD.sub (ws' := [(sh, .inr (6, [.ref sp, .ref sj, .ref sc, .ref sa, .int nw, .int 3000, .int 0, .int 0, .int 0, .int 0, .int 0, .int 0, .int 0, .int 0, .int 0])), (sp, .inr (0, [.int 0, .ref E, .int 0])), (sj, .inr (0, [.int 0, .ref E, .int 0]))]) [0, 1, 2] (by decide) rfl
  refine W.widen (k := 0) (n := 0) (Nat.le_of_ble_eq_true rfl) (Nat.le_of_ble_eq_true rfl) ?_
  exact W.vret hx hb hr (fun t ht hW => ⟨⟨(), rfl, trivial, by rw [ht]; exact hP9, hD9⟩, hS.F ht⟩) hS.2.2 dX5_turnDrivesAndValves_66
set_option maxHeartbeats 4000000 in
set_option maxRecDepth 100000 in
theorem kX5_pour_0 (l : Launch) (D : va_G) (cI cO cL : ClassId) (E M : Nat) (sh : Nat) (sp : Nat) (sj : Nat) (sc : Nat) (sa : Nat) (nw : Int32)  (sz : Nat) : Met l yX5_pour (fW yX5_pour cX5_pour 2 none) { frames := 0, cells := 0, slots := 0, locals := 0 } (fPre D cI cO cL E M [.ref sh, .int 0] sz [(sh, .inr (6, [.ref sp, .ref sj, .ref sc, .ref sa, .int nw, .int 3000, .int 0, .int 0, .int 0, .int 0, .int 0, .int 0, .int 0, .int 0, .int 0]))]) (va_Qv (fun _ : Unit => True) (fB D (va_A [(sh, .inr (6, [.ref sp, .ref sj, .ref sc, .ref sa, .int nw, .int 3000, .int 0, .int 0, .int 0, .int 0, .int 0, .int 0, .int 0, .int 0, .int 0]))] sz) (fun u : Unit => [(sh, .inr (6, [.ref sp, .ref sj, .ref sc, .ref sa, .int nw, .int 3000, .int 0, .int 0, .int 0, .int 0, .int 0, .int 0, .int 0, .int 0, .int 0]))])) (va_A [(sh, .inr (6, [.ref sp, .ref sj, .ref sc, .ref sa, .int nw, .int 3000, .int 0, .int 0, .int 0, .int 0, .int 0, .int 0, .int 0, .int 0, .int 0]))] sz)) 0 0 (va_A [(sh, .inr (6, [.ref sp, .ref sj, .ref sc, .ref sa, .int nw, .int 3000, .int 0, .int 0, .int 0, .int 0, .int 0, .int 0, .int 0, .int 0, .int 0]))] sz) := by
  refine Met.ofW (cc := cX5_pour) (maxL := 2) (ret := none) (by decide) rfl ?_
  intro p e s m args below meth c s₁ B hml hv
  obtain ⟨rfl, hsz, hP, hD0, hE⟩ := hv
  have hx := B.exec
  have hb := B.bytes
  have hr := B.returns
  have hts0 := atoms_spec (ws := (fW yX5_pour cX5_pour 2 none)) B.pre
  have hts : ∀ w ∈ fA, w.before _ s = true := fun w h => hts0 w (List.mem_cons_of_mem _ h)
  have hown : s.vm.findClass RX5 = some m.cls := findClass_of_methodNamed B.named
  have hlocks := B.notSynchronized
  subst hsz
  have hD := hD0.self (sz := s.heap.size)
  generalize hAe : va_A [(sh, .inr (6, [.ref sp, .ref sj, .ref sc, .ref sa, .int nw, .int 3000, .int 0, .int 0, .int 0, .int 0, .int 0, .int 0, .int 0, .int 0, .int 0]))] s.heap.size = A at hD hE ⊢
  have hA : ∀ q : Nat, s.heap.size ≤ q → A q := fun q h => by rw [← hAe]; exact Or.inr h
  have hP : va_P D vwCl [(sh, .inr (6, [.ref sp, .ref sj, .ref sc, .ref sa, .int nw, .int 3000, .int 0, .int 0, .int 0, .int 0, .int 0, .int 0, .int 0, .int 0, .int 0]))] s.heap := hP
  have hl := lv_entry ([.ref sh, .int 0]) (n := 2) (Nat.le_of_ble_eq_true rfl)
  rw [lg_entry_eq]
  generalize (lg_sl ([.ref sh, .int 0]) ++ List.replicate (2 - (lg_sl ([.ref sh, .int 0])).length) Slot.unset).toArray = ls at hl ⊢
  have hl : lv_has ls 2 [(0, .ref sh), (1, .int 0)] := hl
  refine f_start (A := A) hP (fun H hP hS => ?_)
  refine lv_aload_n hx hb dX5_pour_0 rfl (lv_at hl 0 rfl) ?_
  refine lv_dup hx hb dX5_pour_1 rfl ?_
  refine va_get (D := D) (ci := 6) (v := .int 3000) (C := RX5) (T := TX5) (N := 15) hx hb hts uX5 hown hE.1.1 hP 0 rfl rfl 5 (by decide) (hts _ q48) (fun _ h9 => h9) rfl dX5_pour_2 ?_
  refine lv_iload_n hx hb dX5_pour_5 rfl (lv_at hl 1 rfl) ?_
  refine f_iadd (v := 3000) hx hb dX5_pour_6 (by decide) ?_
  refine va_put (D := D) (ci := 6) (v := .int 3000) (ty := .int) (C := RX5) (T := TX5) (N := 15) hx hb hts uX5 tyX5 tyX5_ok nmX5 hown hE.1.1 hP hD hS 0 rfl rfl 5 (by decide) (hts _ q48) (fun _ h9 => h9) rfl (by decide +kernel) rfl rfl (Nat.le_of_ble_eq_true rfl) dX5_pour_7 (fun H locs hP hD hS => ?_)
  have hP : va_P D vwCl [(sh, .inr (6, [.ref sp, .ref sj, .ref sc, .ref sa, .int nw, .int 3000, .int 0, .int 0, .int 0, .int 0, .int 0, .int 0, .int 0, .int 0, .int 0]))] H := hP
  have hD : va_D A [(sh, .inr (6, [.ref sp, .ref sj, .ref sc, .ref sa, .int nw, .int 3000, .int 0, .int 0, .int 0, .int 0, .int 0, .int 0, .int 0, .int 0, .int 0]))] := hD
  refine lv_aload_n hx hb dX5_pour_10 rfl (lv_at hl 0 rfl) ?_
  refine va_get (D := D) (ci := 6) (v := .int 3000) (C := RX5) (T := TX5) (N := 15) hx hb hts uX5 hown hE.1.1 hP 0 rfl rfl 5 (by decide) (hts _ q48) (fun _ h9 => h9) rfl dX5_pour_11 ?_
  refine lv_sipush (v := 9000) hx hb dX5_pour_14 (by decide) ?_
  refine lv_icmp_le (tgt := 44) hx hb dX5_pour_17 (by decide) (fun _ => ?_) (fun h => absurd (by decide) h)
  have hP9 := hP.sub (ws' := [(sh, .inr (6, [.ref sp, .ref sj, .ref sc, .ref sa, .int nw, .int 3000, .int 0, .int 0, .int 0, .int 0, .int 0, .int 0, .int 0, .int 0, .int 0]))]) [0] rfl
  have hD9 := hD.sub (ws' := [(sh, .inr (6, [.ref sp, .ref sj, .ref sc, .ref sa, .int nw, .int 3000, .int 0, .int 0, .int 0, .int 0, .int 0, .int 0, .int 0, .int 0, .int 0]))]) [0] (by decide) rfl
  refine W.widen (k := 0) (n := 0) (Nat.le_of_ble_eq_true rfl) (Nat.le_of_ble_eq_true rfl) ?_
  exact W.vret hx hb hr (fun t ht hW => ⟨⟨(), rfl, trivial, by rw [ht]; exact hP9, hD9⟩, hS.F ht⟩) hS.2.2 dX5_pour_44
set_option maxHeartbeats 4000000 in
set_option maxRecDepth 100000 in
theorem kX5_pour_m (l : Launch) (D : va_G) (cI cO cL : ClassId) (E M : Nat) (sh : Nat) (sp : Nat) (sj : Nat) (sc : Nat) (sa : Nat) (nw : Int32) (mu : Int32) (hm : ¬ 9000 < 3000 + mu) (sz : Nat) : Met l yX5_pour (fW yX5_pour cX5_pour 2 none) { frames := 0, cells := 0, slots := 0, locals := 0 } (fPre D cI cO cL E M [.ref sh, .int mu] sz [(sh, .inr (6, [.ref sp, .ref sj, .ref sc, .ref sa, .int nw, .int 3000, .int 0, .int 0, .int 0, .int 0, .int 0, .int 0, .int 0, .int 0, .int 0]))]) (va_Qv (fun _ : Unit => True) (fB D (va_A [(sh, .inr (6, [.ref sp, .ref sj, .ref sc, .ref sa, .int nw, .int 3000, .int 0, .int 0, .int 0, .int 0, .int 0, .int 0, .int 0, .int 0, .int 0]))] sz) (fun u : Unit => [(sh, .inr (6, [.ref sp, .ref sj, .ref sc, .ref sa, .int nw, .int (3000 + mu), .int 0, .int 0, .int 0, .int 0, .int 0, .int 0, .int 0, .int 0, .int 0]))])) (va_A [(sh, .inr (6, [.ref sp, .ref sj, .ref sc, .ref sa, .int nw, .int 3000, .int 0, .int 0, .int 0, .int 0, .int 0, .int 0, .int 0, .int 0, .int 0]))] sz)) 0 0 (va_A [(sh, .inr (6, [.ref sp, .ref sj, .ref sc, .ref sa, .int nw, .int 3000, .int 0, .int 0, .int 0, .int 0, .int 0, .int 0, .int 0, .int 0, .int 0]))] sz) := by
  refine Met.ofW (cc := cX5_pour) (maxL := 2) (ret := none) (by decide) rfl ?_
  intro p e s m args below meth c s₁ B hml hv
  obtain ⟨rfl, hsz, hP, hD0, hE⟩ := hv
  have hx := B.exec
  have hb := B.bytes
  have hr := B.returns
  have hts0 := atoms_spec (ws := (fW yX5_pour cX5_pour 2 none)) B.pre
  have hts : ∀ w ∈ fA, w.before _ s = true := fun w h => hts0 w (List.mem_cons_of_mem _ h)
  have hown : s.vm.findClass RX5 = some m.cls := findClass_of_methodNamed B.named
  have hlocks := B.notSynchronized
  subst hsz
  have hD := hD0.self (sz := s.heap.size)
  generalize hAe : va_A [(sh, .inr (6, [.ref sp, .ref sj, .ref sc, .ref sa, .int nw, .int 3000, .int 0, .int 0, .int 0, .int 0, .int 0, .int 0, .int 0, .int 0, .int 0]))] s.heap.size = A at hD hE ⊢
  have hA : ∀ q : Nat, s.heap.size ≤ q → A q := fun q h => by rw [← hAe]; exact Or.inr h
  have hP : va_P D vwCl [(sh, .inr (6, [.ref sp, .ref sj, .ref sc, .ref sa, .int nw, .int 3000, .int 0, .int 0, .int 0, .int 0, .int 0, .int 0, .int 0, .int 0, .int 0]))] s.heap := hP
  have hl := lv_entry ([.ref sh, .int mu]) (n := 2) (Nat.le_of_ble_eq_true rfl)
  rw [lg_entry_eq]
  generalize (lg_sl ([.ref sh, .int mu]) ++ List.replicate (2 - (lg_sl ([.ref sh, .int mu])).length) Slot.unset).toArray = ls at hl ⊢
  have hl : lv_has ls 2 [(0, .ref sh), (1, .int mu)] := hl
  refine f_start (A := A) hP (fun H hP hS => ?_)
  refine lv_aload_n hx hb dX5_pour_0 rfl (lv_at hl 0 rfl) ?_
  refine lv_dup hx hb dX5_pour_1 rfl ?_
  refine va_get (D := D) (ci := 6) (v := .int 3000) (C := RX5) (T := TX5) (N := 15) hx hb hts uX5 hown hE.1.1 hP 0 rfl rfl 5 (by decide) (hts _ q48) (fun _ h9 => h9) rfl dX5_pour_2 ?_
  refine lv_iload_n hx hb dX5_pour_5 rfl (lv_at hl 1 rfl) ?_
  refine f_iadd (v := 3000 + mu) hx hb dX5_pour_6 rfl ?_
  refine va_put (D := D) (ci := 6) (v := .int (3000 + mu)) (ty := .int) (C := RX5) (T := TX5) (N := 15) hx hb hts uX5 tyX5 tyX5_ok nmX5 hown hE.1.1 hP hD hS 0 rfl rfl 5 (by decide) (hts _ q48) (fun _ h9 => h9) rfl (by decide +kernel) rfl rfl (Nat.le_of_ble_eq_true rfl) dX5_pour_7 (fun H locs hP hD hS => ?_)
  have hP : va_P D vwCl [(sh, .inr (6, [.ref sp, .ref sj, .ref sc, .ref sa, .int nw, .int (3000 + mu), .int 0, .int 0, .int 0, .int 0, .int 0, .int 0, .int 0, .int 0, .int 0]))] H := hP
  have hD : va_D A [(sh, .inr (6, [.ref sp, .ref sj, .ref sc, .ref sa, .int nw, .int (3000 + mu), .int 0, .int 0, .int 0, .int 0, .int 0, .int 0, .int 0, .int 0, .int 0]))] := hD
  refine lv_aload_n hx hb dX5_pour_10 rfl (lv_at hl 0 rfl) ?_
  refine va_get (D := D) (ci := 6) (v := .int (3000 + mu)) (C := RX5) (T := TX5) (N := 15) hx hb hts uX5 hown hE.1.1 hP 0 rfl rfl 5 (by decide) (hts _ q48) (fun _ h9 => h9) rfl dX5_pour_11 ?_
  refine lv_sipush (v := 9000) hx hb dX5_pour_14 (by decide) ?_
  refine lv_icmp_le (tgt := 44) hx hb dX5_pour_17 (by decide) (fun _ => ?_) (fun h => absurd (f_of_nlt hm) h)
  have hP9 := hP.sub (ws' := [(sh, .inr (6, [.ref sp, .ref sj, .ref sc, .ref sa, .int nw, .int (3000 + mu), .int 0, .int 0, .int 0, .int 0, .int 0, .int 0, .int 0, .int 0, .int 0]))]) [0] rfl
  have hD9 := hD.sub (ws' := [(sh, .inr (6, [.ref sp, .ref sj, .ref sc, .ref sa, .int nw, .int (3000 + mu), .int 0, .int 0, .int 0, .int 0, .int 0, .int 0, .int 0, .int 0, .int 0]))]) [0] (by decide) rfl
  refine W.widen (k := 0) (n := 0) (Nat.le_of_ble_eq_true rfl) (Nat.le_of_ble_eq_true rfl) ?_
  exact W.vret hx hb hr (fun t ht hW => ⟨⟨(), rfl, trivial, by rw [ht]; exact hP9, hD9⟩, hS.F ht⟩) hS.2.2 dX5_pour_44
set_option maxHeartbeats 4000000 in
set_option maxRecDepth 100000 in
theorem kX5_letFall (l : Launch) (D : va_G) (cI cO cL : ClassId) (E M : Nat) (sh : Nat) (sp : Nat) (sj : Nat) (sc : Nat) (sa : Nat) (i1 : Nat) (i2 : Nat) (i3 : Nat) (k : Nat) (hk : k < 6010) (sz : Nat) : Met l yX5_letFall (fW yX5_letFall cX5_letFall 3 (some .int)) { frames := 3, cells := 0, slots := 0, locals := 64 } (fPre D cI cO cL E M [.ref sh] sz [(sh, .inr (6, [.ref sp, .ref sj, .ref sc, .ref sa, .int (nI k), .int 3000, .int 0, .int 0, .int 0, .int 0, .int 0, .int 0, .int 0, .int 0, .int 0])), (sa, .inr (1, [.ref i1, .ref i2, .ref i3])), (i1, .inl (cI, 9, .inl (fun _ => 0))), (i2, .inl (cI, 9, .inl (fun _ => 0))), (i3, .inl (cI, 9, .inl (fun _ => 0)))]) (va_Qi (fun (r : Int32) (_ : Unit) => r = 0) (fB D (va_A [(sh, .inr (6, [.ref sp, .ref sj, .ref sc, .ref sa, .int (nI k), .int 3000, .int 0, .int 0, .int 0, .int 0, .int 0, .int 0, .int 0, .int 0, .int 0])), (sa, .inr (1, [.ref i1, .ref i2, .ref i3])), (i1, .inl (cI, 9, .inl (fun _ => 0))), (i2, .inl (cI, 9, .inl (fun _ => 0))), (i3, .inl (cI, 9, .inl (fun _ => 0)))] sz) (fun u : Unit => [(sh, .inr (6, [.ref sp, .ref sj, .ref sc, .ref sa, .int (nI k), .int 3000, .int 0, .int 0, .int 0, .int 0, .int 0, .int 0, .int 0, .int 0, .int 0])), (sa, .inr (1, [.ref i1, .ref i2, .ref i3])), (i1, .inl (cI, 9, .inl (fun _ => 0))), (i2, .inl (cI, 9, .inl (fun _ => 0))), (i3, .inl (cI, 9, .inl (fun _ => 0)))])) (va_A [(sh, .inr (6, [.ref sp, .ref sj, .ref sc, .ref sa, .int (nI k), .int 3000, .int 0, .int 0, .int 0, .int 0, .int 0, .int 0, .int 0, .int 0, .int 0])), (sa, .inr (1, [.ref i1, .ref i2, .ref i3])), (i1, .inl (cI, 9, .inl (fun _ => 0))), (i2, .inl (cI, 9, .inl (fun _ => 0))), (i3, .inl (cI, 9, .inl (fun _ => 0)))] sz)) 0 0 (va_A [(sh, .inr (6, [.ref sp, .ref sj, .ref sc, .ref sa, .int (nI k), .int 3000, .int 0, .int 0, .int 0, .int 0, .int 0, .int 0, .int 0, .int 0, .int 0])), (sa, .inr (1, [.ref i1, .ref i2, .ref i3])), (i1, .inl (cI, 9, .inl (fun _ => 0))), (i2, .inl (cI, 9, .inl (fun _ => 0))), (i3, .inl (cI, 9, .inl (fun _ => 0)))] sz) := by
  refine Met.ofW (cc := cX5_letFall) (maxL := 3) (ret := (some .int)) (by decide) rfl ?_
  intro p e s m args below meth c s₁ B hml hv
  obtain ⟨rfl, hsz, hP, hD0, hE⟩ := hv
  have hx := B.exec
  have hb := B.bytes
  have hr := B.returns
  have hts0 := atoms_spec (ws := (fW yX5_letFall cX5_letFall 3 (some .int))) B.pre
  have hts : ∀ w ∈ fA, w.before _ s = true := fun w h => hts0 w (List.mem_cons_of_mem _ h)
  have hown : s.vm.findClass RX5 = some m.cls := findClass_of_methodNamed B.named
  have hlocks := B.notSynchronized
  subst hsz
  have hD := hD0.self (sz := s.heap.size)
  generalize hAe : va_A [(sh, .inr (6, [.ref sp, .ref sj, .ref sc, .ref sa, .int (nI k), .int 3000, .int 0, .int 0, .int 0, .int 0, .int 0, .int 0, .int 0, .int 0, .int 0])), (sa, .inr (1, [.ref i1, .ref i2, .ref i3])), (i1, .inl (cI, 9, .inl (fun _ => 0))), (i2, .inl (cI, 9, .inl (fun _ => 0))), (i3, .inl (cI, 9, .inl (fun _ => 0)))] s.heap.size = A at hD hE ⊢
  have hA : ∀ q : Nat, s.heap.size ≤ q → A q := fun q h => by rw [← hAe]; exact Or.inr h
  have hP : va_P D vwCl [(sh, .inr (6, [.ref sp, .ref sj, .ref sc, .ref sa, .int (nI k), .int 3000, .int 0, .int 0, .int 0, .int 0, .int 0, .int 0, .int 0, .int 0, .int 0])), (sa, .inr (1, [.ref i1, .ref i2, .ref i3])), (i1, .inl (cI, 9, .inl (fun _ => 0))), (i2, .inl (cI, 9, .inl (fun _ => 0))), (i3, .inl (cI, 9, .inl (fun _ => 0)))] s.heap := hP
  have hl := lv_entry ([.ref sh]) (n := 3) (Nat.le_of_ble_eq_true rfl)
  rw [lg_entry_eq]
  generalize (lg_sl ([.ref sh]) ++ List.replicate (3 - (lg_sl ([.ref sh])).length) Slot.unset).toArray = ls at hl ⊢
  have hl : lv_has ls 3 [(0, .ref sh)] := hl
  refine f_start (A := A) hP (fun H hP hS => ?_)
  refine lv_aload_n hx hb dX5_letFall_0 rfl (lv_at hl 0 rfl) ?_
  refine va_get (D := D) (ci := 6) (v := .ref sa) (C := RX5) (T := TX5) (N := 15) hx hb hts uX5 hown hE.1.1 hP 0 rfl rfl 3 (by decide) (hts _ q47) (fun _ h9 => h9) rfl dX5_letFall_1 ?_
  refine lv_aload_n hx hb dX5_letFall_4 rfl (lv_at hl 0 rfl) ?_
  refine va_get (D := D) (ci := 6) (v := .int (nI k)) (C := RX5) (T := TX5) (N := 15) hx hb hts uX5 hown hE.1.1 hP 0 rfl rfl 4 (by decide) (hts _ q528) (fun _ h9 => h9) rfl dX5_letFall_5 ?_
  refine f_aft_i (wr := [(sh, .inr (6, [.ref sp, .ref sj, .ref sc, .ref sa, .int (nI k), .int 3000, .int 0, .int 0, .int 0, .int 0, .int 0, .int 0, .int 0, .int 0, .int 0]))]) (f_runV (As := [.int (nI k)]) (rest := []) hx hb hml hown hts (kX0_fallingIn l D cI cO cL E M sa i1 i2 i3 k hk H.size) (fcwV 1 hts q586 q587 q588 q46 q589 rfl rfl (by decide +kernel) ⟨(Nat.le_of_ble_eq_true rfl), (Nat.le_of_ble_eq_true rfl)⟩) hE hP hD hS hA [1, 2, 3, 4] rfl (by decide) (q0 := 1) (ci := 1) rfl rfl rfl rfl hl.1 rfl (Nat.le_of_ble_eq_true rfl) dX5_letFall_8 ⟨(Nat.le_of_ble_eq_true rfl), (Nat.le_of_ble_eq_true rfl)⟩) hP hD hS hA [1, 2, 3, 4] [0] rfl rfl (by decide) (by decide) (fun r u H locs hr0 hP hD hS => ?_)
  subst hr0
  have hP : va_P D vwCl [(sh, .inr (6, [.ref sp, .ref sj, .ref sc, .ref sa, .int (nI k), .int 3000, .int 0, .int 0, .int 0, .int 0, .int 0, .int 0, .int 0, .int 0, .int 0])), (sa, .inr (1, [.ref i1, .ref i2, .ref i3])), (i1, .inl (cI, 9, .inl (fun _ => 0))), (i2, .inl (cI, 9, .inl (fun _ => 0))), (i3, .inl (cI, 9, .inl (fun _ => 0)))] H := hP
  have hD : va_D A [(sh, .inr (6, [.ref sp, .ref sj, .ref sc, .ref sa, .int (nI k), .int 3000, .int 0, .int 0, .int 0, .int 0, .int 0, .int 0, .int 0, .int 0, .int 0])), (sa, .inr (1, [.ref i1, .ref i2, .ref i3])), (i1, .inl (cI, 9, .inl (fun _ => 0))), (i2, .inl (cI, 9, .inl (fun _ => 0))), (i3, .inl (cI, 9, .inl (fun _ => 0)))] := hD
  refine lv_istore_n (lv' := [(1, .int 0), (0, .ref sh)]) hx hb dX5_letFall_11 rfl hl (by decide) rfl (fun ls hl => ?_)
  refine lv_aload_n hx hb dX5_letFall_12 rfl (lv_at hl 1 rfl) ?_
  refine va_get (D := D) (ci := 6) (v := .ref sa) (C := RX5) (T := TX5) (N := 15) hx hb hts uX5 hown hE.1.1 hP 0 rfl rfl 3 (by decide) (hts _ q47) (fun _ h9 => h9) rfl dX5_letFall_13 ?_
  refine lv_aload_n hx hb dX5_letFall_16 rfl (lv_at hl 1 rfl) ?_
  refine va_get (D := D) (ci := 6) (v := .int (nI k)) (C := RX5) (T := TX5) (N := 15) hx hb hts uX5 hown hE.1.1 hP 0 rfl rfl 4 (by decide) (hts _ q528) (fun _ h9 => h9) rfl dX5_letFall_17 ?_
  refine f_aft_i (wr := [(sh, .inr (6, [.ref sp, .ref sj, .ref sc, .ref sa, .int (nI k), .int 3000, .int 0, .int 0, .int 0, .int 0, .int 0, .int 0, .int 0, .int 0, .int 0]))]) (f_runV (As := [.int (nI k)]) (rest := []) hx hb hml hown hts (kX0_fallingOnBasin l D cI cO cL E M sa i1 i2 i3 k hk H.size) (fcwV 1 hts q594 q595 q596 q46 q597 rfl rfl (by decide +kernel) ⟨(Nat.le_of_ble_eq_true rfl), (Nat.le_of_ble_eq_true rfl)⟩) hE hP hD hS hA [1, 2, 3, 4] rfl (by decide) (q0 := 1) (ci := 1) rfl rfl rfl rfl hl.1 rfl (Nat.le_of_ble_eq_true rfl) dX5_letFall_20 ⟨(Nat.le_of_ble_eq_true rfl), (Nat.le_of_ble_eq_true rfl)⟩) hP hD hS hA [1, 2, 3, 4] [0] rfl rfl (by decide) (by decide) (fun r u H locs hr0 hP hD hS => ?_)
  subst hr0
  have hP : va_P D vwCl [(sh, .inr (6, [.ref sp, .ref sj, .ref sc, .ref sa, .int (nI k), .int 3000, .int 0, .int 0, .int 0, .int 0, .int 0, .int 0, .int 0, .int 0, .int 0])), (sa, .inr (1, [.ref i1, .ref i2, .ref i3])), (i1, .inl (cI, 9, .inl (fun _ => 0))), (i2, .inl (cI, 9, .inl (fun _ => 0))), (i3, .inl (cI, 9, .inl (fun _ => 0)))] H := hP
  have hD : va_D A [(sh, .inr (6, [.ref sp, .ref sj, .ref sc, .ref sa, .int (nI k), .int 3000, .int 0, .int 0, .int 0, .int 0, .int 0, .int 0, .int 0, .int 0, .int 0])), (sa, .inr (1, [.ref i1, .ref i2, .ref i3])), (i1, .inl (cI, 9, .inl (fun _ => 0))), (i2, .inl (cI, 9, .inl (fun _ => 0))), (i3, .inl (cI, 9, .inl (fun _ => 0)))] := hD
  refine lv_istore_n (lv' := [(2, .int 0), (1, .int 0), (0, .ref sh)]) hx hb dX5_letFall_23 rfl hl (by decide) rfl (fun ls hl => ?_)
  refine lv_aload_n hx hb dX5_letFall_24 rfl (lv_at hl 2 rfl) ?_
  refine lv_iload_n hx hb dX5_letFall_25 rfl (lv_at hl 0 rfl) ?_
  refine f_aft_v (wr := [(sa, .inr (1, [.ref i1, .ref i2, .ref i3])), (i1, .inl (cI, 9, .inl (fun _ => 0))), (i2, .inl (cI, 9, .inl (fun _ => 0))), (i3, .inl (cI, 9, .inl (fun _ => 0)))]) (f_runV (As := [.int 0]) (rest := []) hx hb hml hown hts (kX5_pour_0 l D cI cO cL E M sh sp sj sc sa (nI k) H.size) (fcwV 1 hts q598 q458 q459 q19 q460 rfl rfl (by decide +kernel) ⟨(Nat.le_of_ble_eq_true rfl), (Nat.le_of_ble_eq_true rfl)⟩) hE hP hD hS hA [0] rfl (by decide) (q0 := 0) (ci := 6) rfl rfl rfl rfl hl.1 rfl (Nat.le_of_ble_eq_true rfl) dX5_letFall_26 ⟨(Nat.le_of_ble_eq_true rfl), (Nat.le_of_ble_eq_true rfl)⟩) hP hD hS hA [0] [1, 2, 3, 4] rfl rfl (by decide) (by decide) (fun u H locs hr0 hP hD hS => ?_)
  have hP : va_P D vwCl [(sa, .inr (1, [.ref i1, .ref i2, .ref i3])), (i1, .inl (cI, 9, .inl (fun _ => 0))), (i2, .inl (cI, 9, .inl (fun _ => 0))), (i3, .inl (cI, 9, .inl (fun _ => 0))), (sh, .inr (6, [.ref sp, .ref sj, .ref sc, .ref sa, .int (nI k), .int 3000, .int 0, .int 0, .int 0, .int 0, .int 0, .int 0, .int 0, .int 0, .int 0]))] H := hP
  have hD : va_D A [(sa, .inr (1, [.ref i1, .ref i2, .ref i3])), (i1, .inl (cI, 9, .inl (fun _ => 0))), (i2, .inl (cI, 9, .inl (fun _ => 0))), (i3, .inl (cI, 9, .inl (fun _ => 0))), (sh, .inr (6, [.ref sp, .ref sj, .ref sc, .ref sa, .int (nI k), .int 3000, .int 0, .int 0, .int 0, .int 0, .int 0, .int 0, .int 0, .int 0, .int 0]))] := hD
  refine lv_aload_n hx hb dX5_letFall_29 rfl (lv_at hl 2 rfl) ?_
  refine lv_dup hx hb dX5_letFall_30 rfl ?_
  refine va_get (D := D) (ci := 6) (v := .int 0) (C := RX5) (T := TX5) (N := 15) hx hb hts uX5 hown hE.1.1 hP 4 rfl rfl 8 (by decide) (hts _ q584) (fun _ h9 => h9) rfl dX5_letFall_31 ?_
  refine lv_aload_n hx hb dX5_letFall_34 rfl (lv_at hl 2 rfl) ?_
  refine va_get (D := D) (ci := 6) (v := .ref sa) (C := RX5) (T := TX5) (N := 15) hx hb hts uX5 hown hE.1.1 hP 4 rfl rfl 3 (by decide) (hts _ q47) (fun _ h9 => h9) rfl dX5_letFall_35 ?_
  refine lv_aload_n hx hb dX5_letFall_38 rfl (lv_at hl 2 rfl) ?_
  refine va_get (D := D) (ci := 6) (v := .int (nI k)) (C := RX5) (T := TX5) (N := 15) hx hb hts uX5 hown hE.1.1 hP 4 rfl rfl 4 (by decide) (hts _ q528) (fun _ h9 => h9) rfl dX5_letFall_39 ?_
  refine f_aft_i (wr := [(sh, .inr (6, [.ref sp, .ref sj, .ref sc, .ref sa, .int (nI k), .int 3000, .int 0, .int 0, .int 0, .int 0, .int 0, .int 0, .int 0, .int 0, .int 0]))]) (f_runV (As := [.int (nI k)]) (rest := [.int 0, .ref sh]) hx hb hml hown hts (kX0_fallingOnCrowd l D cI cO cL E M sa i1 i2 i3 k hk H.size) (fcwV 1 hts q599 q600 q601 q46 q602 rfl rfl (by decide +kernel) ⟨(Nat.le_of_ble_eq_true rfl), (Nat.le_of_ble_eq_true rfl)⟩) hE hP hD hS hA [0, 1, 2, 3] rfl (by decide) (q0 := 0) (ci := 1) rfl rfl rfl rfl hl.1 rfl (Nat.le_of_ble_eq_true rfl) dX5_letFall_42 ⟨(Nat.le_of_ble_eq_true rfl), (Nat.le_of_ble_eq_true rfl)⟩) hP hD hS hA [0, 1, 2, 3] [4] rfl rfl (by decide) (by decide) (fun r u H locs hr0 hP hD hS => ?_)
  subst hr0
  have hP : va_P D vwCl [(sh, .inr (6, [.ref sp, .ref sj, .ref sc, .ref sa, .int (nI k), .int 3000, .int 0, .int 0, .int 0, .int 0, .int 0, .int 0, .int 0, .int 0, .int 0])), (sa, .inr (1, [.ref i1, .ref i2, .ref i3])), (i1, .inl (cI, 9, .inl (fun _ => 0))), (i2, .inl (cI, 9, .inl (fun _ => 0))), (i3, .inl (cI, 9, .inl (fun _ => 0)))] H := hP
  have hD : va_D A [(sh, .inr (6, [.ref sp, .ref sj, .ref sc, .ref sa, .int (nI k), .int 3000, .int 0, .int 0, .int 0, .int 0, .int 0, .int 0, .int 0, .int 0, .int 0])), (sa, .inr (1, [.ref i1, .ref i2, .ref i3])), (i1, .inl (cI, 9, .inl (fun _ => 0))), (i2, .inl (cI, 9, .inl (fun _ => 0))), (i3, .inl (cI, 9, .inl (fun _ => 0)))] := hD
  refine f_iadd (v := 0) hx hb dX5_letFall_45 (by decide) ?_
  refine va_put (D := D) (ci := 6) (v := .int 0) (ty := .int) (C := RX5) (T := TX5) (N := 15) hx hb hts uX5 tyX5 tyX5_ok nmX5 hown hE.1.1 hP hD hS 0 rfl rfl 8 (by decide) (hts _ q584) (fun _ h9 => h9) rfl (by decide +kernel) rfl rfl (Nat.le_of_ble_eq_true rfl) dX5_letFall_46 (fun H locs hP hD hS => ?_)
  have hP : va_P D vwCl [(sh, .inr (6, [.ref sp, .ref sj, .ref sc, .ref sa, .int (nI k), .int 3000, .int 0, .int 0, .int 0, .int 0, .int 0, .int 0, .int 0, .int 0, .int 0])), (sa, .inr (1, [.ref i1, .ref i2, .ref i3])), (i1, .inl (cI, 9, .inl (fun _ => 0))), (i2, .inl (cI, 9, .inl (fun _ => 0))), (i3, .inl (cI, 9, .inl (fun _ => 0)))] H := hP
  have hD : va_D A [(sh, .inr (6, [.ref sp, .ref sj, .ref sc, .ref sa, .int (nI k), .int 3000, .int 0, .int 0, .int 0, .int 0, .int 0, .int 0, .int 0, .int 0, .int 0])), (sa, .inr (1, [.ref i1, .ref i2, .ref i3])), (i1, .inl (cI, 9, .inl (fun _ => 0))), (i2, .inl (cI, 9, .inl (fun _ => 0))), (i3, .inl (cI, 9, .inl (fun _ => 0)))] := hD
  refine lv_aload_n hx hb dX5_letFall_49 rfl (lv_at hl 2 rfl) ?_
  refine lv_dup hx hb dX5_letFall_50 rfl ?_
  refine va_get (D := D) (ci := 6) (v := .int 0) (C := RX5) (T := TX5) (N := 15) hx hb hts uX5 hown hE.1.1 hP 0 rfl rfl 7 (by decide) (hts _ q585) (fun _ h9 => h9) rfl dX5_letFall_51 ?_
  refine lv_iload_n hx hb dX5_letFall_54 rfl (lv_at hl 1 rfl) ?_
  refine lv_iload_n hx hb dX5_letFall_55 rfl (lv_at hl 0 rfl) ?_
  refine f_isub (v := 0) hx hb dX5_letFall_56 (by decide) ?_
  refine f_iadd (v := 0) hx hb dX5_letFall_57 (by decide) ?_
  refine va_put (D := D) (ci := 6) (v := .int 0) (ty := .int) (C := RX5) (T := TX5) (N := 15) hx hb hts uX5 tyX5 tyX5_ok nmX5 hown hE.1.1 hP hD hS 0 rfl rfl 7 (by decide) (hts _ q585) (fun _ h9 => h9) rfl (by decide +kernel) rfl rfl (Nat.le_of_ble_eq_true rfl) dX5_letFall_58 (fun H locs hP hD hS => ?_)
  have hP : va_P D vwCl [(sh, .inr (6, [.ref sp, .ref sj, .ref sc, .ref sa, .int (nI k), .int 3000, .int 0, .int 0, .int 0, .int 0, .int 0, .int 0, .int 0, .int 0, .int 0])), (sa, .inr (1, [.ref i1, .ref i2, .ref i3])), (i1, .inl (cI, 9, .inl (fun _ => 0))), (i2, .inl (cI, 9, .inl (fun _ => 0))), (i3, .inl (cI, 9, .inl (fun _ => 0)))] H := hP
  have hD : va_D A [(sh, .inr (6, [.ref sp, .ref sj, .ref sc, .ref sa, .int (nI k), .int 3000, .int 0, .int 0, .int 0, .int 0, .int 0, .int 0, .int 0, .int 0, .int 0])), (sa, .inr (1, [.ref i1, .ref i2, .ref i3])), (i1, .inl (cI, 9, .inl (fun _ => 0))), (i2, .inl (cI, 9, .inl (fun _ => 0))), (i3, .inl (cI, 9, .inl (fun _ => 0)))] := hD
  refine lv_aload_n hx hb dX5_letFall_61 rfl (lv_at hl 2 rfl) ?_
  refine va_get (D := D) (ci := 6) (v := .ref sa) (C := RX5) (T := TX5) (N := 15) hx hb hts uX5 hown hE.1.1 hP 0 rfl rfl 3 (by decide) (hts _ q47) (fun _ h9 => h9) rfl dX5_letFall_62 ?_
  refine lv_aload_n hx hb dX5_letFall_65 rfl (lv_at hl 2 rfl) ?_
  refine va_get (D := D) (ci := 6) (v := .int (nI k)) (C := RX5) (T := TX5) (N := 15) hx hb hts uX5 hown hE.1.1 hP 0 rfl rfl 4 (by decide) (hts _ q528) (fun _ h9 => h9) rfl dX5_letFall_66 ?_
  refine f_aft_v (wr := [(sh, .inr (6, [.ref sp, .ref sj, .ref sc, .ref sa, .int (nI k), .int 3000, .int 0, .int 0, .int 0, .int 0, .int 0, .int 0, .int 0, .int 0, .int 0]))]) (f_runV (As := [.int (nI k)]) (rest := []) hx hb hml hown hts (kX0_clear l D cI cO cL E M sa i1 i2 i3 k hk H.size) (fcwV 1 hts q603 q604 q605 q46 q606 rfl rfl (by decide +kernel) ⟨(Nat.le_of_ble_eq_true rfl), (Nat.le_of_ble_eq_true rfl)⟩) hE hP hD hS hA [1, 2, 3, 4] rfl (by decide) (q0 := 1) (ci := 1) rfl rfl rfl rfl hl.1 rfl (Nat.le_of_ble_eq_true rfl) dX5_letFall_69 ⟨(Nat.le_of_ble_eq_true rfl), (Nat.le_of_ble_eq_true rfl)⟩) hP hD hS hA [1, 2, 3, 4] [0] rfl rfl (by decide) (by decide) (fun u H locs hr0 hP hD hS => ?_)
  have hP : va_P D vwCl [(sh, .inr (6, [.ref sp, .ref sj, .ref sc, .ref sa, .int (nI k), .int 3000, .int 0, .int 0, .int 0, .int 0, .int 0, .int 0, .int 0, .int 0, .int 0])), (sa, .inr (1, [.ref i1, .ref i2, .ref i3])), (i1, .inl (cI, 9, .inl (fun _ => 0))), (i2, .inl (cI, 9, .inl (fun _ => 0))), (i3, .inl (cI, 9, .inl (fun _ => 0)))] H := hP
  have hD : va_D A [(sh, .inr (6, [.ref sp, .ref sj, .ref sc, .ref sa, .int (nI k), .int 3000, .int 0, .int 0, .int 0, .int 0, .int 0, .int 0, .int 0, .int 0, .int 0])), (sa, .inr (1, [.ref i1, .ref i2, .ref i3])), (i1, .inl (cI, 9, .inl (fun _ => 0))), (i2, .inl (cI, 9, .inl (fun _ => 0))), (i3, .inl (cI, 9, .inl (fun _ => 0)))] := hD
  refine lv_iload_n hx hb dX5_letFall_72 rfl (lv_at hl 1 rfl) ?_
  have hP9 := hP.sub (ws' := [(sh, .inr (6, [.ref sp, .ref sj, .ref sc, .ref sa, .int (nI k), .int 3000, .int 0, .int 0, .int 0, .int 0, .int 0, .int 0, .int 0, .int 0, .int 0])), (sa, .inr (1, [.ref i1, .ref i2, .ref i3])), (i1, .inl (cI, 9, .inl (fun _ => 0))), (i2, .inl (cI, 9, .inl (fun _ => 0))), (i3, .inl (cI, 9, .inl (fun _ => 0)))]) [0, 1, 2, 3, 4] rfl
  have hD9 := hD.sub (ws' := [(sh, .inr (6, [.ref sp, .ref sj, .ref sc, .ref sa, .int (nI k), .int 3000, .int 0, .int 0, .int 0, .int 0, .int 0, .int 0, .int 0, .int 0, .int 0])), (sa, .inr (1, [.ref i1, .ref i2, .ref i3])), (i1, .inl (cI, 9, .inl (fun _ => 0))), (i2, .inl (cI, 9, .inl (fun _ => 0))), (i3, .inl (cI, 9, .inl (fun _ => 0)))]) [0, 1, 2, 3, 4] (by decide) rfl
  refine W.widen (k := 0) (n := 0) (Nat.le_of_ble_eq_true rfl) (Nat.le_of_ble_eq_true rfl) ?_
  exact W.iret (v := 0) hx hb hr (fun t ht hW => ⟨⟨0, (), rfl, rfl, by rw [ht]; exact hP9, hD9⟩, hS.F ht⟩) hS.2.2 dX5_letFall_73
set_option maxHeartbeats 4000000 in
set_option maxRecDepth 100000 in
theorem kX5_throwWater (l : Launch) (D : va_G) (cI cO cL : ClassId) (E M : Nat) (sh : Nat) (sp : Nat) (sj : Nat) (sc : Nat) (sa : Nat) (nw : Int32)  (sz : Nat) : Met l yX5_throwWater (fW yX5_throwWater cX5_throwWater 5 none) { frames := 1, cells := 0, slots := 0, locals := 20 } (fPre D cI cO cL E M [.ref sh] sz [(sh, .inr (6, [.ref sp, .ref sj, .ref sc, .ref sa, .int nw, .int 3000, .int 0, .int 0, .int 0, .int 0, .int 0, .int 0, .int 0, .int 0, .int 0])), (sj, .inr (0, [.int 0, .ref E, .int 0]))]) (va_Qv (fun _ : Unit => True) (fB D (va_A [(sh, .inr (6, [.ref sp, .ref sj, .ref sc, .ref sa, .int nw, .int 3000, .int 0, .int 0, .int 0, .int 0, .int 0, .int 0, .int 0, .int 0, .int 0])), (sj, .inr (0, [.int 0, .ref E, .int 0]))] sz) (fun u : Unit => [(sh, .inr (6, [.ref sp, .ref sj, .ref sc, .ref sa, .int nw, .int 3000, .int 0, .int 0, .int 0, .int 0, .int 0, .int 0, .int 0, .int 0, .int 0])), (sj, .inr (0, [.int 0, .ref E, .int 0]))])) (va_A [(sh, .inr (6, [.ref sp, .ref sj, .ref sc, .ref sa, .int nw, .int 3000, .int 0, .int 0, .int 0, .int 0, .int 0, .int 0, .int 0, .int 0, .int 0])), (sj, .inr (0, [.int 0, .ref E, .int 0]))] sz)) 0 0 (va_A [(sh, .inr (6, [.ref sp, .ref sj, .ref sc, .ref sa, .int nw, .int 3000, .int 0, .int 0, .int 0, .int 0, .int 0, .int 0, .int 0, .int 0, .int 0])), (sj, .inr (0, [.int 0, .ref E, .int 0]))] sz) := by
  refine Met.ofW (cc := cX5_throwWater) (maxL := 5) (ret := none) (by decide) rfl ?_
  intro p e s m args below meth c s₁ B hml hv
  obtain ⟨rfl, hsz, hP, hD0, hE⟩ := hv
  have hx := B.exec
  have hb := B.bytes
  have hr := B.returns
  have hts0 := atoms_spec (ws := (fW yX5_throwWater cX5_throwWater 5 none)) B.pre
  have hts : ∀ w ∈ fA, w.before _ s = true := fun w h => hts0 w (List.mem_cons_of_mem _ h)
  have hown : s.vm.findClass RX5 = some m.cls := findClass_of_methodNamed B.named
  have hlocks := B.notSynchronized
  subst hsz
  have hD := hD0.self (sz := s.heap.size)
  generalize hAe : va_A [(sh, .inr (6, [.ref sp, .ref sj, .ref sc, .ref sa, .int nw, .int 3000, .int 0, .int 0, .int 0, .int 0, .int 0, .int 0, .int 0, .int 0, .int 0])), (sj, .inr (0, [.int 0, .ref E, .int 0]))] s.heap.size = A at hD hE ⊢
  have hA : ∀ q : Nat, s.heap.size ≤ q → A q := fun q h => by rw [← hAe]; exact Or.inr h
  have hP : va_P D vwCl [(sh, .inr (6, [.ref sp, .ref sj, .ref sc, .ref sa, .int nw, .int 3000, .int 0, .int 0, .int 0, .int 0, .int 0, .int 0, .int 0, .int 0, .int 0])), (sj, .inr (0, [.int 0, .ref E, .int 0]))] s.heap := hP
  have hl := lv_entry ([.ref sh]) (n := 5) (Nat.le_of_ble_eq_true rfl)
  rw [lg_entry_eq]
  generalize (lg_sl ([.ref sh]) ++ List.replicate (5 - (lg_sl ([.ref sh])).length) Slot.unset).toArray = ls at hl ⊢
  have hl : lv_has ls 5 [(0, .ref sh)] := hl
  refine f_start (A := A) hP (fun H hP hS => ?_)
  refine lv_iconst (v := 0) hx hb dX5_throwWater_0 (by decide) ?_
  refine lv_istore_n (lv' := [(1, .int 0), (0, .ref sh)]) hx hb dX5_throwWater_1 rfl hl (by decide) rfl (fun ls hl => ?_)
  refine lv_iload_n hx hb dX5_throwWater_2 rfl (lv_at hl 0 rfl) ?_
  refine lv_aload_n hx hb dX5_throwWater_3 rfl (lv_at hl 1 rfl) ?_
  refine va_get (D := D) (ci := 6) (v := .ref sj) (C := RX5) (T := TX5) (N := 15) hx hb hts uX5 hown hE.1.1 hP 0 rfl rfl 1 (by decide) (hts _ q42) (fun _ h9 => h9) rfl dX5_throwWater_4 ?_
  refine f_aft_i (wr := [(sh, .inr (6, [.ref sp, .ref sj, .ref sc, .ref sa, .int nw, .int 3000, .int 0, .int 0, .int 0, .int 0, .int 0, .int 0, .int 0, .int 0, .int 0]))]) (f_runV (As := []) (rest := [.int 0]) hx hb hml hown hts (kJx4a65c_size_8abf5 l D cI cO cL E M sj 0 (.ref E) 0 H.size) (fcwV 0 hts q230 q97 q98 q15 q99 rfl rfl (by decide +kernel) ⟨(Nat.le_of_ble_eq_true rfl), (Nat.le_of_ble_eq_true rfl)⟩) hE hP hD hS hA [1] rfl (by decide) (q0 := 1) (ci := 0) rfl rfl rfl rfl hl.1 rfl (Nat.le_of_ble_eq_true rfl) dX5_throwWater_7 ⟨(Nat.le_of_ble_eq_true rfl), (Nat.le_of_ble_eq_true rfl)⟩) hP hD hS hA [1] [0] rfl rfl (by decide) (by decide) (fun r u H locs hr0 hP hD hS => ?_)
  subst hr0
  have hP : va_P D vwCl [(sh, .inr (6, [.ref sp, .ref sj, .ref sc, .ref sa, .int nw, .int 3000, .int 0, .int 0, .int 0, .int 0, .int 0, .int 0, .int 0, .int 0, .int 0])), (sj, .inr (0, [.int 0, .ref E, .int 0]))] H := hP
  have hD : va_D A [(sh, .inr (6, [.ref sp, .ref sj, .ref sc, .ref sa, .int nw, .int 3000, .int 0, .int 0, .int 0, .int 0, .int 0, .int 0, .int 0, .int 0, .int 0])), (sj, .inr (0, [.int 0, .ref E, .int 0]))] := hD
  refine lv_icmp_ge (tgt := 100) hx hb dX5_throwWater_10 (by decide) (fun _ => ?_) (fun h => absurd (by decide) h)
  have hP9 := hP.sub (ws' := [(sh, .inr (6, [.ref sp, .ref sj, .ref sc, .ref sa, .int nw, .int 3000, .int 0, .int 0, .int 0, .int 0, .int 0, .int 0, .int 0, .int 0, .int 0])), (sj, .inr (0, [.int 0, .ref E, .int 0]))]) [0, 1] rfl
  have hD9 := hD.sub (ws' := [(sh, .inr (6, [.ref sp, .ref sj, .ref sc, .ref sa, .int nw, .int 3000, .int 0, .int 0, .int 0, .int 0, .int 0, .int 0, .int 0, .int 0, .int 0])), (sj, .inr (0, [.int 0, .ref E, .int 0]))]) [0, 1] (by decide) rfl
  refine W.widen (k := 0) (n := 0) (Nat.le_of_ble_eq_true rfl) (Nat.le_of_ble_eq_true rfl) ?_
  exact W.vret hx hb hr (fun t ht hW => ⟨⟨(), rfl, trivial, by rw [ht]; exact hP9, hD9⟩, hS.F ht⟩) hS.2.2 dX5_throwWater_100
set_option maxHeartbeats 4000000 in
set_option maxRecDepth 100000 in
theorem kX5_lampsOn (l : Launch) (D : va_G) (cI cO cL : ClassId) (E M : Nat) (sh : Nat) (sp : Nat) (sj : Nat) (sc : Nat) (sa : Nat) (nw : Int32)  (sz : Nat) : Met l yX5_lampsOn (fW yX5_lampsOn cX5_lampsOn 3 (some .int)) { frames := 1, cells := 0, slots := 0, locals := 20 } (fPre D cI cO cL E M [.ref sh] sz [(sh, .inr (6, [.ref sp, .ref sj, .ref sc, .ref sa, .int nw, .int 3000, .int 0, .int 0, .int 0, .int 0, .int 0, .int 0, .int 0, .int 0, .int 0])), (sj, .inr (0, [.int 0, .ref E, .int 0]))]) (va_Qi (fun (r : Int32) (_ : Unit) => r = 0) (fB D (va_A [(sh, .inr (6, [.ref sp, .ref sj, .ref sc, .ref sa, .int nw, .int 3000, .int 0, .int 0, .int 0, .int 0, .int 0, .int 0, .int 0, .int 0, .int 0])), (sj, .inr (0, [.int 0, .ref E, .int 0]))] sz) (fun u : Unit => [(sh, .inr (6, [.ref sp, .ref sj, .ref sc, .ref sa, .int nw, .int 3000, .int 0, .int 0, .int 0, .int 0, .int 0, .int 0, .int 0, .int 0, .int 0])), (sj, .inr (0, [.int 0, .ref E, .int 0]))])) (va_A [(sh, .inr (6, [.ref sp, .ref sj, .ref sc, .ref sa, .int nw, .int 3000, .int 0, .int 0, .int 0, .int 0, .int 0, .int 0, .int 0, .int 0, .int 0])), (sj, .inr (0, [.int 0, .ref E, .int 0]))] sz)) 0 0 (va_A [(sh, .inr (6, [.ref sp, .ref sj, .ref sc, .ref sa, .int nw, .int 3000, .int 0, .int 0, .int 0, .int 0, .int 0, .int 0, .int 0, .int 0, .int 0])), (sj, .inr (0, [.int 0, .ref E, .int 0]))] sz) := by
  refine Met.ofW (cc := cX5_lampsOn) (maxL := 3) (ret := (some .int)) (by decide) rfl ?_
  intro p e s m args below meth c s₁ B hml hv
  obtain ⟨rfl, hsz, hP, hD0, hE⟩ := hv
  have hx := B.exec
  have hb := B.bytes
  have hr := B.returns
  have hts0 := atoms_spec (ws := (fW yX5_lampsOn cX5_lampsOn 3 (some .int))) B.pre
  have hts : ∀ w ∈ fA, w.before _ s = true := fun w h => hts0 w (List.mem_cons_of_mem _ h)
  have hown : s.vm.findClass RX5 = some m.cls := findClass_of_methodNamed B.named
  have hlocks := B.notSynchronized
  subst hsz
  have hD := hD0.self (sz := s.heap.size)
  generalize hAe : va_A [(sh, .inr (6, [.ref sp, .ref sj, .ref sc, .ref sa, .int nw, .int 3000, .int 0, .int 0, .int 0, .int 0, .int 0, .int 0, .int 0, .int 0, .int 0])), (sj, .inr (0, [.int 0, .ref E, .int 0]))] s.heap.size = A at hD hE ⊢
  have hA : ∀ q : Nat, s.heap.size ≤ q → A q := fun q h => by rw [← hAe]; exact Or.inr h
  have hP : va_P D vwCl [(sh, .inr (6, [.ref sp, .ref sj, .ref sc, .ref sa, .int nw, .int 3000, .int 0, .int 0, .int 0, .int 0, .int 0, .int 0, .int 0, .int 0, .int 0])), (sj, .inr (0, [.int 0, .ref E, .int 0]))] s.heap := hP
  have hl := lv_entry ([.ref sh]) (n := 3) (Nat.le_of_ble_eq_true rfl)
  rw [lg_entry_eq]
  generalize (lg_sl ([.ref sh]) ++ List.replicate (3 - (lg_sl ([.ref sh])).length) Slot.unset).toArray = ls at hl ⊢
  have hl : lv_has ls 3 [(0, .ref sh)] := hl
  refine f_start (A := A) hP (fun H hP hS => ?_)
  refine lv_iconst (v := 0) hx hb dX5_lampsOn_0 (by decide) ?_
  refine lv_istore_n (lv' := [(1, .int 0), (0, .ref sh)]) hx hb dX5_lampsOn_1 rfl hl (by decide) rfl (fun ls hl => ?_)
  refine lv_iconst (v := 0) hx hb dX5_lampsOn_2 (by decide) ?_
  refine lv_istore_n (lv' := [(2, .int 0), (1, .int 0), (0, .ref sh)]) hx hb dX5_lampsOn_3 rfl hl (by decide) rfl (fun ls hl => ?_)
  refine lv_iload_n hx hb dX5_lampsOn_4 rfl (lv_at hl 0 rfl) ?_
  refine lv_aload_n hx hb dX5_lampsOn_5 rfl (lv_at hl 2 rfl) ?_
  refine va_get (D := D) (ci := 6) (v := .ref sj) (C := RX5) (T := TX5) (N := 15) hx hb hts uX5 hown hE.1.1 hP 0 rfl rfl 1 (by decide) (hts _ q42) (fun _ h9 => h9) rfl dX5_lampsOn_6 ?_
  refine f_aft_i (wr := [(sh, .inr (6, [.ref sp, .ref sj, .ref sc, .ref sa, .int nw, .int 3000, .int 0, .int 0, .int 0, .int 0, .int 0, .int 0, .int 0, .int 0, .int 0]))]) (f_runV (As := []) (rest := [.int 0]) hx hb hml hown hts (kJx4a65c_size_8abf5 l D cI cO cL E M sj 0 (.ref E) 0 H.size) (fcwV 0 hts q230 q97 q98 q15 q99 rfl rfl (by decide +kernel) ⟨(Nat.le_of_ble_eq_true rfl), (Nat.le_of_ble_eq_true rfl)⟩) hE hP hD hS hA [1] rfl (by decide) (q0 := 1) (ci := 0) rfl rfl rfl rfl hl.1 rfl (Nat.le_of_ble_eq_true rfl) dX5_lampsOn_9 ⟨(Nat.le_of_ble_eq_true rfl), (Nat.le_of_ble_eq_true rfl)⟩) hP hD hS hA [1] [0] rfl rfl (by decide) (by decide) (fun r u H locs hr0 hP hD hS => ?_)
  subst hr0
  have hP : va_P D vwCl [(sh, .inr (6, [.ref sp, .ref sj, .ref sc, .ref sa, .int nw, .int 3000, .int 0, .int 0, .int 0, .int 0, .int 0, .int 0, .int 0, .int 0, .int 0])), (sj, .inr (0, [.int 0, .ref E, .int 0]))] H := hP
  have hD : va_D A [(sh, .inr (6, [.ref sp, .ref sj, .ref sc, .ref sa, .int nw, .int 3000, .int 0, .int 0, .int 0, .int 0, .int 0, .int 0, .int 0, .int 0, .int 0])), (sj, .inr (0, [.int 0, .ref E, .int 0]))] := hD
  refine lv_icmp_ge (tgt := 44) hx hb dX5_lampsOn_12 (by decide) (fun _ => ?_) (fun h => absurd (by decide) h)
  refine lv_iload_n hx hb dX5_lampsOn_44 rfl (lv_at hl 1 rfl) ?_
  have hP9 := hP.sub (ws' := [(sh, .inr (6, [.ref sp, .ref sj, .ref sc, .ref sa, .int nw, .int 3000, .int 0, .int 0, .int 0, .int 0, .int 0, .int 0, .int 0, .int 0, .int 0])), (sj, .inr (0, [.int 0, .ref E, .int 0]))]) [0, 1] rfl
  have hD9 := hD.sub (ws' := [(sh, .inr (6, [.ref sp, .ref sj, .ref sc, .ref sa, .int nw, .int 3000, .int 0, .int 0, .int 0, .int 0, .int 0, .int 0, .int 0, .int 0, .int 0])), (sj, .inr (0, [.int 0, .ref E, .int 0]))]) [0, 1] (by decide) rfl
  refine W.widen (k := 0) (n := 0) (Nat.le_of_ble_eq_true rfl) (Nat.le_of_ble_eq_true rfl) ?_
  exact W.iret (v := 0) hx hb hr (fun t ht hW => ⟨⟨0, (), rfl, rfl, by rw [ht]; exact hP9, hD9⟩, hS.F ht⟩) hS.2.2 dX5_lampsOn_45
set_option maxHeartbeats 4000000 in
set_option maxRecDepth 100000 in
theorem kX5_lampsOff (l : Launch) (D : va_G) (cI cO cL : ClassId) (E M : Nat) (sh : Nat) (sp : Nat) (sj : Nat) (sc : Nat) (sa : Nat) (nw : Int32)  (sz : Nat) : Met l yX5_lampsOff (fW yX5_lampsOff cX5_lampsOff 2 none) { frames := 1, cells := 0, slots := 0, locals := 20 } (fPre D cI cO cL E M [.ref sh] sz [(sh, .inr (6, [.ref sp, .ref sj, .ref sc, .ref sa, .int nw, .int 3000, .int 0, .int 0, .int 0, .int 0, .int 0, .int 0, .int 0, .int 0, .int 0])), (sj, .inr (0, [.int 0, .ref E, .int 0]))]) (va_Qv (fun _ : Unit => True) (fB D (va_A [(sh, .inr (6, [.ref sp, .ref sj, .ref sc, .ref sa, .int nw, .int 3000, .int 0, .int 0, .int 0, .int 0, .int 0, .int 0, .int 0, .int 0, .int 0])), (sj, .inr (0, [.int 0, .ref E, .int 0]))] sz) (fun u : Unit => [(sh, .inr (6, [.ref sp, .ref sj, .ref sc, .ref sa, .int nw, .int 3000, .int 0, .int 0, .int 0, .int 0, .int 0, .int 0, .int 0, .int 0, .int 0])), (sj, .inr (0, [.int 0, .ref E, .int 0]))])) (va_A [(sh, .inr (6, [.ref sp, .ref sj, .ref sc, .ref sa, .int nw, .int 3000, .int 0, .int 0, .int 0, .int 0, .int 0, .int 0, .int 0, .int 0, .int 0])), (sj, .inr (0, [.int 0, .ref E, .int 0]))] sz)) 0 0 (va_A [(sh, .inr (6, [.ref sp, .ref sj, .ref sc, .ref sa, .int nw, .int 3000, .int 0, .int 0, .int 0, .int 0, .int 0, .int 0, .int 0, .int 0, .int 0])), (sj, .inr (0, [.int 0, .ref E, .int 0]))] sz) := by
  refine Met.ofW (cc := cX5_lampsOff) (maxL := 2) (ret := none) (by decide) rfl ?_
  intro p e s m args below meth c s₁ B hml hv
  obtain ⟨rfl, hsz, hP, hD0, hE⟩ := hv
  have hx := B.exec
  have hb := B.bytes
  have hr := B.returns
  have hts0 := atoms_spec (ws := (fW yX5_lampsOff cX5_lampsOff 2 none)) B.pre
  have hts : ∀ w ∈ fA, w.before _ s = true := fun w h => hts0 w (List.mem_cons_of_mem _ h)
  have hown : s.vm.findClass RX5 = some m.cls := findClass_of_methodNamed B.named
  have hlocks := B.notSynchronized
  subst hsz
  have hD := hD0.self (sz := s.heap.size)
  generalize hAe : va_A [(sh, .inr (6, [.ref sp, .ref sj, .ref sc, .ref sa, .int nw, .int 3000, .int 0, .int 0, .int 0, .int 0, .int 0, .int 0, .int 0, .int 0, .int 0])), (sj, .inr (0, [.int 0, .ref E, .int 0]))] s.heap.size = A at hD hE ⊢
  have hA : ∀ q : Nat, s.heap.size ≤ q → A q := fun q h => by rw [← hAe]; exact Or.inr h
  have hP : va_P D vwCl [(sh, .inr (6, [.ref sp, .ref sj, .ref sc, .ref sa, .int nw, .int 3000, .int 0, .int 0, .int 0, .int 0, .int 0, .int 0, .int 0, .int 0, .int 0])), (sj, .inr (0, [.int 0, .ref E, .int 0]))] s.heap := hP
  have hl := lv_entry ([.ref sh]) (n := 2) (Nat.le_of_ble_eq_true rfl)
  rw [lg_entry_eq]
  generalize (lg_sl ([.ref sh]) ++ List.replicate (2 - (lg_sl ([.ref sh])).length) Slot.unset).toArray = ls at hl ⊢
  have hl : lv_has ls 2 [(0, .ref sh)] := hl
  refine f_start (A := A) hP (fun H hP hS => ?_)
  refine lv_iconst (v := 0) hx hb dX5_lampsOff_0 (by decide) ?_
  refine lv_istore_n (lv' := [(1, .int 0), (0, .ref sh)]) hx hb dX5_lampsOff_1 rfl hl (by decide) rfl (fun ls hl => ?_)
  refine lv_iload_n hx hb dX5_lampsOff_2 rfl (lv_at hl 0 rfl) ?_
  refine lv_aload_n hx hb dX5_lampsOff_3 rfl (lv_at hl 1 rfl) ?_
  refine va_get (D := D) (ci := 6) (v := .ref sj) (C := RX5) (T := TX5) (N := 15) hx hb hts uX5 hown hE.1.1 hP 0 rfl rfl 1 (by decide) (hts _ q42) (fun _ h9 => h9) rfl dX5_lampsOff_4 ?_
  refine f_aft_i (wr := [(sh, .inr (6, [.ref sp, .ref sj, .ref sc, .ref sa, .int nw, .int 3000, .int 0, .int 0, .int 0, .int 0, .int 0, .int 0, .int 0, .int 0, .int 0]))]) (f_runV (As := []) (rest := [.int 0]) hx hb hml hown hts (kJx4a65c_size_8abf5 l D cI cO cL E M sj 0 (.ref E) 0 H.size) (fcwV 0 hts q230 q97 q98 q15 q99 rfl rfl (by decide +kernel) ⟨(Nat.le_of_ble_eq_true rfl), (Nat.le_of_ble_eq_true rfl)⟩) hE hP hD hS hA [1] rfl (by decide) (q0 := 1) (ci := 0) rfl rfl rfl rfl hl.1 rfl (Nat.le_of_ble_eq_true rfl) dX5_lampsOff_7 ⟨(Nat.le_of_ble_eq_true rfl), (Nat.le_of_ble_eq_true rfl)⟩) hP hD hS hA [1] [0] rfl rfl (by decide) (by decide) (fun r u H locs hr0 hP hD hS => ?_)
  subst hr0
  have hP : va_P D vwCl [(sh, .inr (6, [.ref sp, .ref sj, .ref sc, .ref sa, .int nw, .int 3000, .int 0, .int 0, .int 0, .int 0, .int 0, .int 0, .int 0, .int 0, .int 0])), (sj, .inr (0, [.int 0, .ref E, .int 0]))] H := hP
  have hD : va_D A [(sh, .inr (6, [.ref sp, .ref sj, .ref sc, .ref sa, .int nw, .int 3000, .int 0, .int 0, .int 0, .int 0, .int 0, .int 0, .int 0, .int 0, .int 0])), (sj, .inr (0, [.int 0, .ref E, .int 0]))] := hD
  refine lv_icmp_ge (tgt := 34) hx hb dX5_lampsOff_10 (by decide) (fun _ => ?_) (fun h => absurd (by decide) h)
  have hP9 := hP.sub (ws' := [(sh, .inr (6, [.ref sp, .ref sj, .ref sc, .ref sa, .int nw, .int 3000, .int 0, .int 0, .int 0, .int 0, .int 0, .int 0, .int 0, .int 0, .int 0])), (sj, .inr (0, [.int 0, .ref E, .int 0]))]) [0, 1] rfl
  have hD9 := hD.sub (ws' := [(sh, .inr (6, [.ref sp, .ref sj, .ref sc, .ref sa, .int nw, .int 3000, .int 0, .int 0, .int 0, .int 0, .int 0, .int 0, .int 0, .int 0, .int 0])), (sj, .inr (0, [.int 0, .ref E, .int 0]))]) [0, 1] (by decide) rfl
  refine W.widen (k := 0) (n := 0) (Nat.le_of_ble_eq_true rfl) (Nat.le_of_ble_eq_true rfl) ?_
  exact W.vret hx hb hr (fun t ht hW => ⟨⟨(), rfl, trivial, by rw [ht]; exact hP9, hD9⟩, hS.F ht⟩) hS.2.2 dX5_lampsOff_34
set_option maxHeartbeats 4000000 in
set_option maxRecDepth 100000 in
theorem kX5_useEnergy (l : Launch) (D : va_G) (cI cO cL : ClassId) (E M : Nat) (sh : Nat) (sp : Nat) (sj : Nat) (sc : Nat) (sa : Nat) (nw : Int32)  (sz : Nat) : Met l yX5_useEnergy (fW yX5_useEnergy cX5_useEnergy 3 none) { frames := 2, cells := 0, slots := 0, locals := 42 } (fPre D cI cO cL E M [.ref sh] sz [(sh, .inr (6, [.ref sp, .ref sj, .ref sc, .ref sa, .int nw, .int 3000, .int 0, .int 0, .int 0, .int 0, .int 0, .int 0, .int 0, .int 0, .int 0])), (sp, .inr (0, [.int 0, .ref E, .int 0])), (sj, .inr (0, [.int 0, .ref E, .int 0]))]) (va_Qv (fun _ : Unit => True) (fB D (va_A [(sh, .inr (6, [.ref sp, .ref sj, .ref sc, .ref sa, .int nw, .int 3000, .int 0, .int 0, .int 0, .int 0, .int 0, .int 0, .int 0, .int 0, .int 0])), (sp, .inr (0, [.int 0, .ref E, .int 0])), (sj, .inr (0, [.int 0, .ref E, .int 0]))] sz) (fun u : Unit => [(sh, .inr (6, [.ref sp, .ref sj, .ref sc, .ref sa, .int nw, .int 3000, .int 0, .int 0, .int 0, .int 0, .int 0, .int 0, .int 0, .int 0, .int 0])), (sp, .inr (0, [.int 0, .ref E, .int 0])), (sj, .inr (0, [.int 0, .ref E, .int 0]))])) (va_A [(sh, .inr (6, [.ref sp, .ref sj, .ref sc, .ref sa, .int nw, .int 3000, .int 0, .int 0, .int 0, .int 0, .int 0, .int 0, .int 0, .int 0, .int 0])), (sp, .inr (0, [.int 0, .ref E, .int 0])), (sj, .inr (0, [.int 0, .ref E, .int 0]))] sz)) 0 0 (va_A [(sh, .inr (6, [.ref sp, .ref sj, .ref sc, .ref sa, .int nw, .int 3000, .int 0, .int 0, .int 0, .int 0, .int 0, .int 0, .int 0, .int 0, .int 0])), (sp, .inr (0, [.int 0, .ref E, .int 0])), (sj, .inr (0, [.int 0, .ref E, .int 0]))] sz) := by
  refine Met.ofW (cc := cX5_useEnergy) (maxL := 3) (ret := none) (by decide) rfl ?_
  intro p e s m args below meth c s₁ B hml hv
  obtain ⟨rfl, hsz, hP, hD0, hE⟩ := hv
  have hx := B.exec
  have hb := B.bytes
  have hr := B.returns
  have hts0 := atoms_spec (ws := (fW yX5_useEnergy cX5_useEnergy 3 none)) B.pre
  have hts : ∀ w ∈ fA, w.before _ s = true := fun w h => hts0 w (List.mem_cons_of_mem _ h)
  have hown : s.vm.findClass RX5 = some m.cls := findClass_of_methodNamed B.named
  have hlocks := B.notSynchronized
  subst hsz
  have hD := hD0.self (sz := s.heap.size)
  generalize hAe : va_A [(sh, .inr (6, [.ref sp, .ref sj, .ref sc, .ref sa, .int nw, .int 3000, .int 0, .int 0, .int 0, .int 0, .int 0, .int 0, .int 0, .int 0, .int 0])), (sp, .inr (0, [.int 0, .ref E, .int 0])), (sj, .inr (0, [.int 0, .ref E, .int 0]))] s.heap.size = A at hD hE ⊢
  have hA : ∀ q : Nat, s.heap.size ≤ q → A q := fun q h => by rw [← hAe]; exact Or.inr h
  have hP : va_P D vwCl [(sh, .inr (6, [.ref sp, .ref sj, .ref sc, .ref sa, .int nw, .int 3000, .int 0, .int 0, .int 0, .int 0, .int 0, .int 0, .int 0, .int 0, .int 0])), (sp, .inr (0, [.int 0, .ref E, .int 0])), (sj, .inr (0, [.int 0, .ref E, .int 0]))] s.heap := hP
  have hl := lv_entry ([.ref sh]) (n := 3) (Nat.le_of_ble_eq_true rfl)
  rw [lg_entry_eq]
  generalize (lg_sl ([.ref sh]) ++ List.replicate (3 - (lg_sl ([.ref sh])).length) Slot.unset).toArray = ls at hl ⊢
  have hl : lv_has ls 3 [(0, .ref sh)] := hl
  refine f_start (A := A) hP (fun H hP hS => ?_)
  refine lv_iconst (v := 0) hx hb dX5_useEnergy_0 (by decide) ?_
  refine lv_istore_n (lv' := [(1, .int 0), (0, .ref sh)]) hx hb dX5_useEnergy_1 rfl hl (by decide) rfl (fun ls hl => ?_)
  refine lv_iload_n hx hb dX5_useEnergy_2 rfl (lv_at hl 0 rfl) ?_
  refine lv_aload_n hx hb dX5_useEnergy_3 rfl (lv_at hl 1 rfl) ?_
  refine va_get (D := D) (ci := 6) (v := .ref sp) (C := RX5) (T := TX5) (N := 15) hx hb hts uX5 hown hE.1.1 hP 0 rfl rfl 0 (by decide) (hts _ q41) (fun _ h9 => h9) rfl dX5_useEnergy_4 ?_
  refine f_aft_i (wr := [(sh, .inr (6, [.ref sp, .ref sj, .ref sc, .ref sa, .int nw, .int 3000, .int 0, .int 0, .int 0, .int 0, .int 0, .int 0, .int 0, .int 0, .int 0])), (sj, .inr (0, [.int 0, .ref E, .int 0]))]) (f_runV (As := []) (rest := [.int 0]) hx hb hml hown hts (kJx4a65c_size_8abf5 l D cI cO cL E M sp 0 (.ref E) 0 H.size) (fcwV 0 hts q230 q97 q98 q15 q99 rfl rfl (by decide +kernel) ⟨(Nat.le_of_ble_eq_true rfl), (Nat.le_of_ble_eq_true rfl)⟩) hE hP hD hS hA [1] rfl (by decide) (q0 := 1) (ci := 0) rfl rfl rfl rfl hl.1 rfl (Nat.le_of_ble_eq_true rfl) dX5_useEnergy_7 ⟨(Nat.le_of_ble_eq_true rfl), (Nat.le_of_ble_eq_true rfl)⟩) hP hD hS hA [1] [0, 2] rfl rfl (by decide) (by decide) (fun r u H locs hr0 hP hD hS => ?_)
  subst hr0
  have hP : va_P D vwCl [(sh, .inr (6, [.ref sp, .ref sj, .ref sc, .ref sa, .int nw, .int 3000, .int 0, .int 0, .int 0, .int 0, .int 0, .int 0, .int 0, .int 0, .int 0])), (sj, .inr (0, [.int 0, .ref E, .int 0])), (sp, .inr (0, [.int 0, .ref E, .int 0]))] H := hP
  have hD : va_D A [(sh, .inr (6, [.ref sp, .ref sj, .ref sc, .ref sa, .int nw, .int 3000, .int 0, .int 0, .int 0, .int 0, .int 0, .int 0, .int 0, .int 0, .int 0])), (sj, .inr (0, [.int 0, .ref E, .int 0])), (sp, .inr (0, [.int 0, .ref E, .int 0]))] := hD
  refine lv_icmp_ge (tgt := 46) hx hb dX5_useEnergy_10 (by decide) (fun _ => ?_) (fun h => absurd (by decide) h)
  refine lv_aload_n hx hb dX5_useEnergy_46 rfl (lv_at hl 1 rfl) ?_
  refine lv_dup hx hb dX5_useEnergy_47 rfl ?_
  refine va_get (D := D) (ci := 6) (v := .int 0) (C := RX5) (T := TX5) (N := 15) hx hb hts uX5 hown hE.1.1 hP 0 rfl rfl 9 (by decide) (hts _ q659) (fun _ h9 => h9) rfl dX5_useEnergy_48 ?_
  refine lv_aload_n hx hb dX5_useEnergy_51 rfl (lv_at hl 1 rfl) ?_
  refine f_aft_i (wr := [(sp, .inr (0, [.int 0, .ref E, .int 0]))]) (f_runV (As := []) (rest := [.int 0, .ref sh]) hx hb hml hown hts (kX5_lampsOn l D cI cO cL E M sh sp sj sc sa nw H.size) (fcwV 0 hts q660 q661 q662 q19 q663 rfl rfl (by decide +kernel) ⟨(Nat.le_of_ble_eq_true rfl), (Nat.le_of_ble_eq_true rfl)⟩) hE hP hD hS hA [0, 1] rfl (by decide) (q0 := 0) (ci := 6) rfl rfl rfl rfl hl.1 rfl (Nat.le_of_ble_eq_true rfl) dX5_useEnergy_52 ⟨(Nat.le_of_ble_eq_true rfl), (Nat.le_of_ble_eq_true rfl)⟩) hP hD hS hA [0, 1] [2] rfl rfl (by decide) (by decide) (fun r u H locs hr0 hP hD hS => ?_)
  subst hr0
  have hP : va_P D vwCl [(sp, .inr (0, [.int 0, .ref E, .int 0])), (sh, .inr (6, [.ref sp, .ref sj, .ref sc, .ref sa, .int nw, .int 3000, .int 0, .int 0, .int 0, .int 0, .int 0, .int 0, .int 0, .int 0, .int 0])), (sj, .inr (0, [.int 0, .ref E, .int 0]))] H := hP
  have hD : va_D A [(sp, .inr (0, [.int 0, .ref E, .int 0])), (sh, .inr (6, [.ref sp, .ref sj, .ref sc, .ref sa, .int nw, .int 3000, .int 0, .int 0, .int 0, .int 0, .int 0, .int 0, .int 0, .int 0, .int 0])), (sj, .inr (0, [.int 0, .ref E, .int 0]))] := hD
  refine f_aft_i (wr := [(sp, .inr (0, [.int 0, .ref E, .int 0])), (sh, .inr (6, [.ref sp, .ref sj, .ref sc, .ref sa, .int nw, .int 3000, .int 0, .int 0, .int 0, .int 0, .int 0, .int 0, .int 0, .int 0, .int 0])), (sj, .inr (0, [.int 0, .ref E, .int 0]))]) (f_runS (As := [.int 0]) (rest := [.int 0, .ref sh]) hx hb hml hown hts (kJ6_bitCount_0f7a4 l D cI cO cL E M  H.size) (fcwS 1 hts q664 q665 q666 q667 rfl rfl (by decide +kernel) ⟨(Nat.le_of_ble_eq_true rfl), (Nat.le_of_ble_eq_true rfl)⟩) hE hP hD hS hA [] rfl (by decide) rfl hl.1 rfl (Nat.le_of_ble_eq_true rfl) dX5_useEnergy_55 ⟨(Nat.le_of_ble_eq_true rfl), (Nat.le_of_ble_eq_true rfl)⟩) hP hD hS hA [] [0, 1, 2] rfl rfl (by decide) (by decide) (fun r u H locs hr0 hP hD hS => ?_)
  subst hr0
  have hP : va_P D vwCl [(sp, .inr (0, [.int 0, .ref E, .int 0])), (sh, .inr (6, [.ref sp, .ref sj, .ref sc, .ref sa, .int nw, .int 3000, .int 0, .int 0, .int 0, .int 0, .int 0, .int 0, .int 0, .int 0, .int 0])), (sj, .inr (0, [.int 0, .ref E, .int 0]))] H := hP
  have hD : va_D A [(sp, .inr (0, [.int 0, .ref E, .int 0])), (sh, .inr (6, [.ref sp, .ref sj, .ref sc, .ref sa, .int nw, .int 3000, .int 0, .int 0, .int 0, .int 0, .int 0, .int 0, .int 0, .int 0, .int 0])), (sj, .inr (0, [.int 0, .ref E, .int 0]))] := hD
  refine f_iadd (v := 0) hx hb dX5_useEnergy_58 (by decide) ?_
  refine va_put (D := D) (ci := 6) (v := .int 0) (ty := .int) (C := RX5) (T := TX5) (N := 15) hx hb hts uX5 tyX5 tyX5_ok nmX5 hown hE.1.1 hP hD hS 1 rfl rfl 9 (by decide) (hts _ q659) (fun _ h9 => h9) rfl (by decide +kernel) rfl rfl (Nat.le_of_ble_eq_true rfl) dX5_useEnergy_59 (fun H locs hP hD hS => ?_)
  have hP : va_P D vwCl [(sp, .inr (0, [.int 0, .ref E, .int 0])), (sh, .inr (6, [.ref sp, .ref sj, .ref sc, .ref sa, .int nw, .int 3000, .int 0, .int 0, .int 0, .int 0, .int 0, .int 0, .int 0, .int 0, .int 0])), (sj, .inr (0, [.int 0, .ref E, .int 0]))] H := hP
  have hD : va_D A [(sp, .inr (0, [.int 0, .ref E, .int 0])), (sh, .inr (6, [.ref sp, .ref sj, .ref sc, .ref sa, .int nw, .int 3000, .int 0, .int 0, .int 0, .int 0, .int 0, .int 0, .int 0, .int 0, .int 0])), (sj, .inr (0, [.int 0, .ref E, .int 0]))] := hD
  have hP9 := hP.sub (ws' := [(sh, .inr (6, [.ref sp, .ref sj, .ref sc, .ref sa, .int nw, .int 3000, .int 0, .int 0, .int 0, .int 0, .int 0, .int 0, .int 0, .int 0, .int 0])), (sp, .inr (0, [.int 0, .ref E, .int 0])), (sj, .inr (0, [.int 0, .ref E, .int 0]))]) [1, 0, 2] rfl
  have hD9 := hD.sub (ws' := [(sh, .inr (6, [.ref sp, .ref sj, .ref sc, .ref sa, .int nw, .int 3000, .int 0, .int 0, .int 0, .int 0, .int 0, .int 0, .int 0, .int 0, .int 0])), (sp, .inr (0, [.int 0, .ref E, .int 0])), (sj, .inr (0, [.int 0, .ref E, .int 0]))]) [1, 0, 2] (by decide) rfl
  refine W.widen (k := 0) (n := 0) (Nat.le_of_ble_eq_true rfl) (Nat.le_of_ble_eq_true rfl) ?_
  exact W.vret hx hb hr (fun t ht hW => ⟨⟨(), rfl, trivial, by rw [ht]; exact hP9, hD9⟩, hS.F ht⟩) hS.2.2 dX5_useEnergy_62
set_option maxHeartbeats 4000000 in
set_option maxRecDepth 100000 in
theorem kX5_tripPumpsRunningDry (l : Launch) (D : va_G) (cI cO cL : ClassId) (E M : Nat) (sh : Nat) (sp : Nat) (sj : Nat) (sc : Nat) (sa : Nat) (nw : Int32)  (sz : Nat) : Met l yX5_tripPumpsRunningDry (fW yX5_tripPumpsRunningDry cX5_tripPumpsRunningDry 2 none) { frames := 0, cells := 0, slots := 0, locals := 0 } (fPre D cI cO cL E M [.ref sh] sz [(sh, .inr (6, [.ref sp, .ref sj, .ref sc, .ref sa, .int nw, .int 3000, .int 0, .int 0, .int 0, .int 0, .int 0, .int 0, .int 0, .int 0, .int 0]))]) (va_Qv (fun _ : Unit => True) (fB D (va_A [(sh, .inr (6, [.ref sp, .ref sj, .ref sc, .ref sa, .int nw, .int 3000, .int 0, .int 0, .int 0, .int 0, .int 0, .int 0, .int 0, .int 0, .int 0]))] sz) (fun u : Unit => [(sh, .inr (6, [.ref sp, .ref sj, .ref sc, .ref sa, .int nw, .int 3000, .int 0, .int 0, .int 0, .int 0, .int 0, .int 0, .int 0, .int 0, .int 0]))])) (va_A [(sh, .inr (6, [.ref sp, .ref sj, .ref sc, .ref sa, .int nw, .int 3000, .int 0, .int 0, .int 0, .int 0, .int 0, .int 0, .int 0, .int 0, .int 0]))] sz)) 0 0 (va_A [(sh, .inr (6, [.ref sp, .ref sj, .ref sc, .ref sa, .int nw, .int 3000, .int 0, .int 0, .int 0, .int 0, .int 0, .int 0, .int 0, .int 0, .int 0]))] sz) := by
  refine Met.ofW (cc := cX5_tripPumpsRunningDry) (maxL := 2) (ret := none) (by decide) rfl ?_
  intro p e s m args below meth c s₁ B hml hv
  obtain ⟨rfl, hsz, hP, hD0, hE⟩ := hv
  have hx := B.exec
  have hb := B.bytes
  have hr := B.returns
  have hts0 := atoms_spec (ws := (fW yX5_tripPumpsRunningDry cX5_tripPumpsRunningDry 2 none)) B.pre
  have hts : ∀ w ∈ fA, w.before _ s = true := fun w h => hts0 w (List.mem_cons_of_mem _ h)
  have hown : s.vm.findClass RX5 = some m.cls := findClass_of_methodNamed B.named
  have hlocks := B.notSynchronized
  subst hsz
  have hD := hD0.self (sz := s.heap.size)
  generalize hAe : va_A [(sh, .inr (6, [.ref sp, .ref sj, .ref sc, .ref sa, .int nw, .int 3000, .int 0, .int 0, .int 0, .int 0, .int 0, .int 0, .int 0, .int 0, .int 0]))] s.heap.size = A at hD hE ⊢
  have hA : ∀ q : Nat, s.heap.size ≤ q → A q := fun q h => by rw [← hAe]; exact Or.inr h
  have hP : va_P D vwCl [(sh, .inr (6, [.ref sp, .ref sj, .ref sc, .ref sa, .int nw, .int 3000, .int 0, .int 0, .int 0, .int 0, .int 0, .int 0, .int 0, .int 0, .int 0]))] s.heap := hP
  have hl := lv_entry ([.ref sh]) (n := 2) (Nat.le_of_ble_eq_true rfl)
  rw [lg_entry_eq]
  generalize (lg_sl ([.ref sh]) ++ List.replicate (2 - (lg_sl ([.ref sh])).length) Slot.unset).toArray = ls at hl ⊢
  have hl : lv_has ls 2 [(0, .ref sh)] := hl
  refine f_start (A := A) hP (fun H hP hS => ?_)
  refine lv_aload_n hx hb dX5_tripPumpsRunningDry_0 rfl (lv_at hl 0 rfl) ?_
  refine va_get (D := D) (ci := 6) (v := .int 3000) (C := RX5) (T := TX5) (N := 15) hx hb hts uX5 hown hE.1.1 hP 0 rfl rfl 5 (by decide) (hts _ q48) (fun _ h9 => h9) rfl dX5_tripPumpsRunningDry_1 ?_
  refine lv_sipush (v := 300) hx hb dX5_tripPumpsRunningDry_4 (by decide) ?_
  refine lv_icmp_lt (tgt := 11) hx hb dX5_tripPumpsRunningDry_7 (by decide) (fun h => absurd h (by decide)) (fun _ => ?_)
  have hP9 := hP.sub (ws' := [(sh, .inr (6, [.ref sp, .ref sj, .ref sc, .ref sa, .int nw, .int 3000, .int 0, .int 0, .int 0, .int 0, .int 0, .int 0, .int 0, .int 0, .int 0]))]) [0] rfl
  have hD9 := hD.sub (ws' := [(sh, .inr (6, [.ref sp, .ref sj, .ref sc, .ref sa, .int nw, .int 3000, .int 0, .int 0, .int 0, .int 0, .int 0, .int 0, .int 0, .int 0, .int 0]))]) [0] (by decide) rfl
  refine W.widen (k := 0) (n := 0) (Nat.le_of_ble_eq_true rfl) (Nat.le_of_ble_eq_true rfl) ?_
  exact W.vret hx hb hr (fun t ht hW => ⟨⟨(), rfl, trivial, by rw [ht]; exact hP9, hD9⟩, hS.F ht⟩) hS.2.2 dX5_tripPumpsRunningDry_10
set_option maxHeartbeats 4000000 in
set_option maxRecDepth 100000 in
theorem kX5_shortLamps (l : Launch) (D : va_G) (cI cO cL : ClassId) (E M : Nat) (sh : Nat) (sp : Nat) (sj : Nat) (sc : Nat) (sa : Nat) (nw : Int32)  (sz : Nat) : Met l yX5_shortLamps (fW yX5_shortLamps cX5_shortLamps 3 none) { frames := 1, cells := 0, slots := 0, locals := 20 } (fPre D cI cO cL E M [.ref sh] sz [(sh, .inr (6, [.ref sp, .ref sj, .ref sc, .ref sa, .int nw, .int 3000, .int 0, .int 0, .int 0, .int 0, .int 0, .int 0, .int 0, .int 0, .int 0])), (sj, .inr (0, [.int 0, .ref E, .int 0]))]) (va_Qv (fun _ : Unit => True) (fB D (va_A [(sh, .inr (6, [.ref sp, .ref sj, .ref sc, .ref sa, .int nw, .int 3000, .int 0, .int 0, .int 0, .int 0, .int 0, .int 0, .int 0, .int 0, .int 0])), (sj, .inr (0, [.int 0, .ref E, .int 0]))] sz) (fun u : Unit => [(sh, .inr (6, [.ref sp, .ref sj, .ref sc, .ref sa, .int nw, .int 3000, .int 0, .int 0, .int 0, .int 0, .int 0, .int 0, .int 0, .int 0, .int 0])), (sj, .inr (0, [.int 0, .ref E, .int 0]))])) (va_A [(sh, .inr (6, [.ref sp, .ref sj, .ref sc, .ref sa, .int nw, .int 3000, .int 0, .int 0, .int 0, .int 0, .int 0, .int 0, .int 0, .int 0, .int 0])), (sj, .inr (0, [.int 0, .ref E, .int 0]))] sz)) 0 0 (va_A [(sh, .inr (6, [.ref sp, .ref sj, .ref sc, .ref sa, .int nw, .int 3000, .int 0, .int 0, .int 0, .int 0, .int 0, .int 0, .int 0, .int 0, .int 0])), (sj, .inr (0, [.int 0, .ref E, .int 0]))] sz) := by
  refine Met.ofW (cc := cX5_shortLamps) (maxL := 3) (ret := none) (by decide) rfl ?_
  intro p e s m args below meth c s₁ B hml hv
  obtain ⟨rfl, hsz, hP, hD0, hE⟩ := hv
  have hx := B.exec
  have hb := B.bytes
  have hr := B.returns
  have hts0 := atoms_spec (ws := (fW yX5_shortLamps cX5_shortLamps 3 none)) B.pre
  have hts : ∀ w ∈ fA, w.before _ s = true := fun w h => hts0 w (List.mem_cons_of_mem _ h)
  have hown : s.vm.findClass RX5 = some m.cls := findClass_of_methodNamed B.named
  have hlocks := B.notSynchronized
  subst hsz
  have hD := hD0.self (sz := s.heap.size)
  generalize hAe : va_A [(sh, .inr (6, [.ref sp, .ref sj, .ref sc, .ref sa, .int nw, .int 3000, .int 0, .int 0, .int 0, .int 0, .int 0, .int 0, .int 0, .int 0, .int 0])), (sj, .inr (0, [.int 0, .ref E, .int 0]))] s.heap.size = A at hD hE ⊢
  have hA : ∀ q : Nat, s.heap.size ≤ q → A q := fun q h => by rw [← hAe]; exact Or.inr h
  have hP : va_P D vwCl [(sh, .inr (6, [.ref sp, .ref sj, .ref sc, .ref sa, .int nw, .int 3000, .int 0, .int 0, .int 0, .int 0, .int 0, .int 0, .int 0, .int 0, .int 0])), (sj, .inr (0, [.int 0, .ref E, .int 0]))] s.heap := hP
  have hl := lv_entry ([.ref sh]) (n := 3) (Nat.le_of_ble_eq_true rfl)
  rw [lg_entry_eq]
  generalize (lg_sl ([.ref sh]) ++ List.replicate (3 - (lg_sl ([.ref sh])).length) Slot.unset).toArray = ls at hl ⊢
  have hl : lv_has ls 3 [(0, .ref sh)] := hl
  refine f_start (A := A) hP (fun H hP hS => ?_)
  refine lv_iconst (v := 0) hx hb dX5_shortLamps_0 (by decide) ?_
  refine lv_istore_n (lv' := [(1, .int 0), (0, .ref sh)]) hx hb dX5_shortLamps_1 rfl hl (by decide) rfl (fun ls hl => ?_)
  refine lv_iconst (v := 0) hx hb dX5_shortLamps_2 (by decide) ?_
  refine lv_istore_n (lv' := [(2, .int 0), (1, .int 0), (0, .ref sh)]) hx hb dX5_shortLamps_3 rfl hl (by decide) rfl (fun ls hl => ?_)
  refine lv_iload_n hx hb dX5_shortLamps_4 rfl (lv_at hl 0 rfl) ?_
  refine lv_aload_n hx hb dX5_shortLamps_5 rfl (lv_at hl 2 rfl) ?_
  refine va_get (D := D) (ci := 6) (v := .ref sj) (C := RX5) (T := TX5) (N := 15) hx hb hts uX5 hown hE.1.1 hP 0 rfl rfl 1 (by decide) (hts _ q42) (fun _ h9 => h9) rfl dX5_shortLamps_6 ?_
  refine f_aft_i (wr := [(sh, .inr (6, [.ref sp, .ref sj, .ref sc, .ref sa, .int nw, .int 3000, .int 0, .int 0, .int 0, .int 0, .int 0, .int 0, .int 0, .int 0, .int 0]))]) (f_runV (As := []) (rest := [.int 0]) hx hb hml hown hts (kJx4a65c_size_8abf5 l D cI cO cL E M sj 0 (.ref E) 0 H.size) (fcwV 0 hts q230 q97 q98 q15 q99 rfl rfl (by decide +kernel) ⟨(Nat.le_of_ble_eq_true rfl), (Nat.le_of_ble_eq_true rfl)⟩) hE hP hD hS hA [1] rfl (by decide) (q0 := 1) (ci := 0) rfl rfl rfl rfl hl.1 rfl (Nat.le_of_ble_eq_true rfl) dX5_shortLamps_9 ⟨(Nat.le_of_ble_eq_true rfl), (Nat.le_of_ble_eq_true rfl)⟩) hP hD hS hA [1] [0] rfl rfl (by decide) (by decide) (fun r u H locs hr0 hP hD hS => ?_)
  subst hr0
  have hP : va_P D vwCl [(sh, .inr (6, [.ref sp, .ref sj, .ref sc, .ref sa, .int nw, .int 3000, .int 0, .int 0, .int 0, .int 0, .int 0, .int 0, .int 0, .int 0, .int 0])), (sj, .inr (0, [.int 0, .ref E, .int 0]))] H := hP
  have hD : va_D A [(sh, .inr (6, [.ref sp, .ref sj, .ref sc, .ref sa, .int nw, .int 3000, .int 0, .int 0, .int 0, .int 0, .int 0, .int 0, .int 0, .int 0, .int 0])), (sj, .inr (0, [.int 0, .ref E, .int 0]))] := hD
  refine lv_icmp_ge (tgt := 41) hx hb dX5_shortLamps_12 (by decide) (fun _ => ?_) (fun h => absurd (by decide) h)
  refine lv_iload_n hx hb dX5_shortLamps_41 rfl (lv_at hl 1 rfl) ?_
  refine lv_if_ne (tgt := 46) hx hb dX5_shortLamps_42 (by decide) (fun h => absurd h (by decide)) (fun _ => ?_)
  have hP9 := hP.sub (ws' := [(sh, .inr (6, [.ref sp, .ref sj, .ref sc, .ref sa, .int nw, .int 3000, .int 0, .int 0, .int 0, .int 0, .int 0, .int 0, .int 0, .int 0, .int 0])), (sj, .inr (0, [.int 0, .ref E, .int 0]))]) [0, 1] rfl
  have hD9 := hD.sub (ws' := [(sh, .inr (6, [.ref sp, .ref sj, .ref sc, .ref sa, .int nw, .int 3000, .int 0, .int 0, .int 0, .int 0, .int 0, .int 0, .int 0, .int 0, .int 0])), (sj, .inr (0, [.int 0, .ref E, .int 0]))]) [0, 1] (by decide) rfl
  refine W.widen (k := 0) (n := 0) (Nat.le_of_ble_eq_true rfl) (Nat.le_of_ble_eq_true rfl) ?_
  exact W.vret hx hb hr (fun t ht hW => ⟨⟨(), rfl, trivial, by rw [ht]; exact hP9, hD9⟩, hS.F ht⟩) hS.2.2 dX5_shortLamps_45
set_option maxHeartbeats 4000000 in
set_option maxRecDepth 100000 in
theorem kX5_greatestHeight (l : Launch) (D : va_G) (cI cO cL : ClassId) (E M : Nat) (sh : Nat) (sp : Nat) (sj : Nat) (sc : Nat) (sa : Nat) (nw : Int32)  (sz : Nat) : Met l yX5_greatestHeight (fW yX5_greatestHeight cX5_greatestHeight 3 (some .int)) { frames := 1, cells := 0, slots := 0, locals := 20 } (fPre D cI cO cL E M [.ref sh] sz [(sh, .inr (6, [.ref sp, .ref sj, .ref sc, .ref sa, .int nw, .int 3000, .int 0, .int 0, .int 0, .int 0, .int 0, .int 0, .int 0, .int 0, .int 0])), (sj, .inr (0, [.int 0, .ref E, .int 0]))]) (va_Qi (fun (r : Int32) (_ : Unit) => r = 0) (fB D (va_A [(sh, .inr (6, [.ref sp, .ref sj, .ref sc, .ref sa, .int nw, .int 3000, .int 0, .int 0, .int 0, .int 0, .int 0, .int 0, .int 0, .int 0, .int 0])), (sj, .inr (0, [.int 0, .ref E, .int 0]))] sz) (fun u : Unit => [(sh, .inr (6, [.ref sp, .ref sj, .ref sc, .ref sa, .int nw, .int 3000, .int 0, .int 0, .int 0, .int 0, .int 0, .int 0, .int 0, .int 0, .int 0])), (sj, .inr (0, [.int 0, .ref E, .int 0]))])) (va_A [(sh, .inr (6, [.ref sp, .ref sj, .ref sc, .ref sa, .int nw, .int 3000, .int 0, .int 0, .int 0, .int 0, .int 0, .int 0, .int 0, .int 0, .int 0])), (sj, .inr (0, [.int 0, .ref E, .int 0]))] sz)) 0 0 (va_A [(sh, .inr (6, [.ref sp, .ref sj, .ref sc, .ref sa, .int nw, .int 3000, .int 0, .int 0, .int 0, .int 0, .int 0, .int 0, .int 0, .int 0, .int 0])), (sj, .inr (0, [.int 0, .ref E, .int 0]))] sz) := by
  refine Met.ofW (cc := cX5_greatestHeight) (maxL := 3) (ret := (some .int)) (by decide) rfl ?_
  intro p e s m args below meth c s₁ B hml hv
  obtain ⟨rfl, hsz, hP, hD0, hE⟩ := hv
  have hx := B.exec
  have hb := B.bytes
  have hr := B.returns
  have hts0 := atoms_spec (ws := (fW yX5_greatestHeight cX5_greatestHeight 3 (some .int))) B.pre
  have hts : ∀ w ∈ fA, w.before _ s = true := fun w h => hts0 w (List.mem_cons_of_mem _ h)
  have hown : s.vm.findClass RX5 = some m.cls := findClass_of_methodNamed B.named
  have hlocks := B.notSynchronized
  subst hsz
  have hD := hD0.self (sz := s.heap.size)
  generalize hAe : va_A [(sh, .inr (6, [.ref sp, .ref sj, .ref sc, .ref sa, .int nw, .int 3000, .int 0, .int 0, .int 0, .int 0, .int 0, .int 0, .int 0, .int 0, .int 0])), (sj, .inr (0, [.int 0, .ref E, .int 0]))] s.heap.size = A at hD hE ⊢
  have hA : ∀ q : Nat, s.heap.size ≤ q → A q := fun q h => by rw [← hAe]; exact Or.inr h
  have hP : va_P D vwCl [(sh, .inr (6, [.ref sp, .ref sj, .ref sc, .ref sa, .int nw, .int 3000, .int 0, .int 0, .int 0, .int 0, .int 0, .int 0, .int 0, .int 0, .int 0])), (sj, .inr (0, [.int 0, .ref E, .int 0]))] s.heap := hP
  have hl := lv_entry ([.ref sh]) (n := 3) (Nat.le_of_ble_eq_true rfl)
  rw [lg_entry_eq]
  generalize (lg_sl ([.ref sh]) ++ List.replicate (3 - (lg_sl ([.ref sh])).length) Slot.unset).toArray = ls at hl ⊢
  have hl : lv_has ls 3 [(0, .ref sh)] := hl
  refine f_start (A := A) hP (fun H hP hS => ?_)
  refine lv_iconst (v := 0) hx hb dX5_greatestHeight_0 (by decide) ?_
  refine lv_istore_n (lv' := [(1, .int 0), (0, .ref sh)]) hx hb dX5_greatestHeight_1 rfl hl (by decide) rfl (fun ls hl => ?_)
  refine lv_iconst (v := 0) hx hb dX5_greatestHeight_2 (by decide) ?_
  refine lv_istore_n (lv' := [(2, .int 0), (1, .int 0), (0, .ref sh)]) hx hb dX5_greatestHeight_3 rfl hl (by decide) rfl (fun ls hl => ?_)
  refine lv_iload_n hx hb dX5_greatestHeight_4 rfl (lv_at hl 0 rfl) ?_
  refine lv_aload_n hx hb dX5_greatestHeight_5 rfl (lv_at hl 2 rfl) ?_
  refine va_get (D := D) (ci := 6) (v := .ref sj) (C := RX5) (T := TX5) (N := 15) hx hb hts uX5 hown hE.1.1 hP 0 rfl rfl 1 (by decide) (hts _ q42) (fun _ h9 => h9) rfl dX5_greatestHeight_6 ?_
  refine f_aft_i (wr := [(sh, .inr (6, [.ref sp, .ref sj, .ref sc, .ref sa, .int nw, .int 3000, .int 0, .int 0, .int 0, .int 0, .int 0, .int 0, .int 0, .int 0, .int 0]))]) (f_runV (As := []) (rest := [.int 0]) hx hb hml hown hts (kJx4a65c_size_8abf5 l D cI cO cL E M sj 0 (.ref E) 0 H.size) (fcwV 0 hts q230 q97 q98 q15 q99 rfl rfl (by decide +kernel) ⟨(Nat.le_of_ble_eq_true rfl), (Nat.le_of_ble_eq_true rfl)⟩) hE hP hD hS hA [1] rfl (by decide) (q0 := 1) (ci := 0) rfl rfl rfl rfl hl.1 rfl (Nat.le_of_ble_eq_true rfl) dX5_greatestHeight_9 ⟨(Nat.le_of_ble_eq_true rfl), (Nat.le_of_ble_eq_true rfl)⟩) hP hD hS hA [1] [0] rfl rfl (by decide) (by decide) (fun r u H locs hr0 hP hD hS => ?_)
  subst hr0
  have hP : va_P D vwCl [(sh, .inr (6, [.ref sp, .ref sj, .ref sc, .ref sa, .int nw, .int 3000, .int 0, .int 0, .int 0, .int 0, .int 0, .int 0, .int 0, .int 0, .int 0])), (sj, .inr (0, [.int 0, .ref E, .int 0]))] H := hP
  have hD : va_D A [(sh, .inr (6, [.ref sp, .ref sj, .ref sc, .ref sa, .int nw, .int 3000, .int 0, .int 0, .int 0, .int 0, .int 0, .int 0, .int 0, .int 0, .int 0])), (sj, .inr (0, [.int 0, .ref E, .int 0]))] := hD
  refine lv_icmp_ge (tgt := 41) hx hb dX5_greatestHeight_12 (by decide) (fun _ => ?_) (fun h => absurd (by decide) h)
  refine lv_iload_n hx hb dX5_greatestHeight_41 rfl (lv_at hl 1 rfl) ?_
  have hP9 := hP.sub (ws' := [(sh, .inr (6, [.ref sp, .ref sj, .ref sc, .ref sa, .int nw, .int 3000, .int 0, .int 0, .int 0, .int 0, .int 0, .int 0, .int 0, .int 0, .int 0])), (sj, .inr (0, [.int 0, .ref E, .int 0]))]) [0, 1] rfl
  have hD9 := hD.sub (ws' := [(sh, .inr (6, [.ref sp, .ref sj, .ref sc, .ref sa, .int nw, .int 3000, .int 0, .int 0, .int 0, .int 0, .int 0, .int 0, .int 0, .int 0, .int 0])), (sj, .inr (0, [.int 0, .ref E, .int 0]))]) [0, 1] (by decide) rfl
  refine W.widen (k := 0) (n := 0) (Nat.le_of_ble_eq_true rfl) (Nat.le_of_ble_eq_true rfl) ?_
  exact W.iret (v := 0) hx hb hr (fun t ht hW => ⟨⟨0, (), rfl, rfl, by rw [ht]; exact hP9, hD9⟩, hS.F ht⟩) hS.2.2 dX5_greatestHeight_42
set_option maxHeartbeats 4000000 in
set_option maxRecDepth 100000 in
theorem kX5_tick (l : Launch) (D : va_G) (cI cO cL : ClassId) (E M : Nat) (sh : Nat) (sp : Nat) (sj : Nat) (sc : Nat) (sa : Nat) (i1 : Nat) (i2 : Nat) (i3 : Nat) (k : Nat) (hk : k < 6000) (sz : Nat) : Met l yX5_tick (fW yX5_tick cX5_tick 2 (some .int)) { frames := 4, cells := 0, slots := 0, locals := 86 } (fPre D cI cO cL E M [.ref sh] sz [(sh, .inr (6, [.ref sp, .ref sj, .ref sc, .ref sa, .int (nI k), .int 3000, .int 0, .int 0, .int 0, .int 0, .int 0, .int 0, .int 0, .int 0, .int 0])), (sp, .inr (0, [.int 0, .ref E, .int 0])), (sj, .inr (0, [.int 0, .ref E, .int 0])), (sc, .inr (0, [.int 0, .ref E, .int 0])), (sa, .inr (1, [.ref i1, .ref i2, .ref i3])), (i1, .inl (cI, 9, .inl (fun _ => 0))), (i2, .inl (cI, 9, .inl (fun _ => 0))), (i3, .inl (cI, 9, .inl (fun _ => 0)))]) (va_Qi (fun (r : Int32) (_ : Unit) => r = 0) (fB D (va_A [(sh, .inr (6, [.ref sp, .ref sj, .ref sc, .ref sa, .int (nI k), .int 3000, .int 0, .int 0, .int 0, .int 0, .int 0, .int 0, .int 0, .int 0, .int 0])), (sp, .inr (0, [.int 0, .ref E, .int 0])), (sj, .inr (0, [.int 0, .ref E, .int 0])), (sc, .inr (0, [.int 0, .ref E, .int 0])), (sa, .inr (1, [.ref i1, .ref i2, .ref i3])), (i1, .inl (cI, 9, .inl (fun _ => 0))), (i2, .inl (cI, 9, .inl (fun _ => 0))), (i3, .inl (cI, 9, .inl (fun _ => 0)))] sz) (fun u : Unit => [(sh, .inr (6, [.ref sp, .ref sj, .ref sc, .ref sa, .int (nI (k + 1)), .int 3000, .int 0, .int 0, .int 0, .int 0, .int 0, .int 0, .int 0, .int 0, .int 0])), (sp, .inr (0, [.int 0, .ref E, .int 0])), (sj, .inr (0, [.int 0, .ref E, .int 0])), (sc, .inr (0, [.int 0, .ref E, .int 0])), (sa, .inr (1, [.ref i1, .ref i2, .ref i3])), (i1, .inl (cI, 9, .inl (fun _ => 0))), (i2, .inl (cI, 9, .inl (fun _ => 0))), (i3, .inl (cI, 9, .inl (fun _ => 0)))])) (va_A [(sh, .inr (6, [.ref sp, .ref sj, .ref sc, .ref sa, .int (nI k), .int 3000, .int 0, .int 0, .int 0, .int 0, .int 0, .int 0, .int 0, .int 0, .int 0])), (sp, .inr (0, [.int 0, .ref E, .int 0])), (sj, .inr (0, [.int 0, .ref E, .int 0])), (sc, .inr (0, [.int 0, .ref E, .int 0])), (sa, .inr (1, [.ref i1, .ref i2, .ref i3])), (i1, .inl (cI, 9, .inl (fun _ => 0))), (i2, .inl (cI, 9, .inl (fun _ => 0))), (i3, .inl (cI, 9, .inl (fun _ => 0)))] sz)) 0 0 (va_A [(sh, .inr (6, [.ref sp, .ref sj, .ref sc, .ref sa, .int (nI k), .int 3000, .int 0, .int 0, .int 0, .int 0, .int 0, .int 0, .int 0, .int 0, .int 0])), (sp, .inr (0, [.int 0, .ref E, .int 0])), (sj, .inr (0, [.int 0, .ref E, .int 0])), (sc, .inr (0, [.int 0, .ref E, .int 0])), (sa, .inr (1, [.ref i1, .ref i2, .ref i3])), (i1, .inl (cI, 9, .inl (fun _ => 0))), (i2, .inl (cI, 9, .inl (fun _ => 0))), (i3, .inl (cI, 9, .inl (fun _ => 0)))] sz) := by
  refine Met.ofW (cc := cX5_tick) (maxL := 2) (ret := (some .int)) (by decide) rfl ?_
  intro p e s m args below meth c s₁ B hml hv
  obtain ⟨rfl, hsz, hP, hD0, hE⟩ := hv
  have hx := B.exec
  have hb := B.bytes
  have hr := B.returns
  have hts0 := atoms_spec (ws := (fW yX5_tick cX5_tick 2 (some .int))) B.pre
  have hts : ∀ w ∈ fA, w.before _ s = true := fun w h => hts0 w (List.mem_cons_of_mem _ h)
  have hown : s.vm.findClass RX5 = some m.cls := findClass_of_methodNamed B.named
  have hlocks := B.notSynchronized
  subst hsz
  have hD := hD0.self (sz := s.heap.size)
  generalize hAe : va_A [(sh, .inr (6, [.ref sp, .ref sj, .ref sc, .ref sa, .int (nI k), .int 3000, .int 0, .int 0, .int 0, .int 0, .int 0, .int 0, .int 0, .int 0, .int 0])), (sp, .inr (0, [.int 0, .ref E, .int 0])), (sj, .inr (0, [.int 0, .ref E, .int 0])), (sc, .inr (0, [.int 0, .ref E, .int 0])), (sa, .inr (1, [.ref i1, .ref i2, .ref i3])), (i1, .inl (cI, 9, .inl (fun _ => 0))), (i2, .inl (cI, 9, .inl (fun _ => 0))), (i3, .inl (cI, 9, .inl (fun _ => 0)))] s.heap.size = A at hD hE ⊢
  have hA : ∀ q : Nat, s.heap.size ≤ q → A q := fun q h => by rw [← hAe]; exact Or.inr h
  have hP : va_P D vwCl [(sh, .inr (6, [.ref sp, .ref sj, .ref sc, .ref sa, .int (nI k), .int 3000, .int 0, .int 0, .int 0, .int 0, .int 0, .int 0, .int 0, .int 0, .int 0])), (sp, .inr (0, [.int 0, .ref E, .int 0])), (sj, .inr (0, [.int 0, .ref E, .int 0])), (sc, .inr (0, [.int 0, .ref E, .int 0])), (sa, .inr (1, [.ref i1, .ref i2, .ref i3])), (i1, .inl (cI, 9, .inl (fun _ => 0))), (i2, .inl (cI, 9, .inl (fun _ => 0))), (i3, .inl (cI, 9, .inl (fun _ => 0)))] s.heap := hP
  have hl := lv_entry ([.ref sh]) (n := 2) (Nat.le_of_ble_eq_true rfl)
  rw [lg_entry_eq]
  generalize (lg_sl ([.ref sh]) ++ List.replicate (2 - (lg_sl ([.ref sh])).length) Slot.unset).toArray = ls at hl ⊢
  have hl : lv_has ls 2 [(0, .ref sh)] := hl
  refine f_start (A := A) hP (fun H hP hS => ?_)
  refine lv_aload_n hx hb dX5_tick_0 rfl (lv_at hl 0 rfl) ?_
  refine lv_dup hx hb dX5_tick_1 rfl ?_
  refine va_get (D := D) (ci := 6) (v := .int (nI k)) (C := RX5) (T := TX5) (N := 15) hx hb hts uX5 hown hE.1.1 hP 0 rfl rfl 4 (by decide) (hts _ q528) (fun _ h9 => h9) rfl dX5_tick_2 ?_
  refine lv_iconst (v := 1) hx hb dX5_tick_5 (by decide) ?_
  refine f_iadd (v := nI (k + 1)) hx hb dX5_tick_6 (f_s1 k) ?_
  refine va_put (D := D) (ci := 6) (v := .int (nI (k + 1))) (ty := .int) (C := RX5) (T := TX5) (N := 15) hx hb hts uX5 tyX5 tyX5_ok nmX5 hown hE.1.1 hP hD hS 0 rfl rfl 4 (by decide) (hts _ q528) (fun _ h9 => h9) rfl (by decide +kernel) rfl rfl (Nat.le_of_ble_eq_true rfl) dX5_tick_7 (fun H locs hP hD hS => ?_)
  have hP : va_P D vwCl [(sh, .inr (6, [.ref sp, .ref sj, .ref sc, .ref sa, .int (nI (k + 1)), .int 3000, .int 0, .int 0, .int 0, .int 0, .int 0, .int 0, .int 0, .int 0, .int 0])), (sp, .inr (0, [.int 0, .ref E, .int 0])), (sj, .inr (0, [.int 0, .ref E, .int 0])), (sc, .inr (0, [.int 0, .ref E, .int 0])), (sa, .inr (1, [.ref i1, .ref i2, .ref i3])), (i1, .inl (cI, 9, .inl (fun _ => 0))), (i2, .inl (cI, 9, .inl (fun _ => 0))), (i3, .inl (cI, 9, .inl (fun _ => 0)))] H := hP
  have hD : va_D A [(sh, .inr (6, [.ref sp, .ref sj, .ref sc, .ref sa, .int (nI (k + 1)), .int 3000, .int 0, .int 0, .int 0, .int 0, .int 0, .int 0, .int 0, .int 0, .int 0])), (sp, .inr (0, [.int 0, .ref E, .int 0])), (sj, .inr (0, [.int 0, .ref E, .int 0])), (sc, .inr (0, [.int 0, .ref E, .int 0])), (sa, .inr (1, [.ref i1, .ref i2, .ref i3])), (i1, .inl (cI, 9, .inl (fun _ => 0))), (i2, .inl (cI, 9, .inl (fun _ => 0))), (i3, .inl (cI, 9, .inl (fun _ => 0)))] := hD
  refine lv_aload_n hx hb dX5_tick_10 rfl (lv_at hl 0 rfl) ?_
  refine va_get (D := D) (ci := 6) (v := .int 0) (C := RX5) (T := TX5) (N := 15) hx hb hts uX5 hown hE.1.1 hP 0 rfl rfl 14 (by decide) (hts _ q529) (fun _ h9 => h9) rfl dX5_tick_11 ?_
  refine lv_if_ne (tgt := 21) hx hb dX5_tick_14 (by decide) (fun h => absurd h (by decide)) (fun _ => ?_)
  refine lv_aload_n hx hb dX5_tick_17 rfl (lv_at hl 0 rfl) ?_
  refine f_aft_v (wr := [(sp, .inr (0, [.int 0, .ref E, .int 0])), (sj, .inr (0, [.int 0, .ref E, .int 0])), (sa, .inr (1, [.ref i1, .ref i2, .ref i3])), (i1, .inl (cI, 9, .inl (fun _ => 0))), (i2, .inl (cI, 9, .inl (fun _ => 0))), (i3, .inl (cI, 9, .inl (fun _ => 0)))]) (f_runV (As := []) (rest := []) hx hb hml hown hts (kX5_doStepsDue l D cI cO cL E M sh sp sj sc sa (nI (k + 1)) H.size) (fcwV 0 hts q530 q531 q532 q19 q533 rfl rfl (by decide +kernel) ⟨(Nat.le_of_ble_eq_true rfl), (Nat.le_of_ble_eq_true rfl)⟩) hE hP hD hS hA [0, 3] rfl (by decide) (q0 := 0) (ci := 6) rfl rfl rfl rfl hl.1 rfl (Nat.le_of_ble_eq_true rfl) dX5_tick_18 ⟨(Nat.le_of_ble_eq_true rfl), (Nat.le_of_ble_eq_true rfl)⟩) hP hD hS hA [0, 3] [1, 2, 4, 5, 6, 7] rfl rfl (by decide) (by decide) (fun u H locs hr0 hP hD hS => ?_)
  have hP : va_P D vwCl [(sp, .inr (0, [.int 0, .ref E, .int 0])), (sj, .inr (0, [.int 0, .ref E, .int 0])), (sa, .inr (1, [.ref i1, .ref i2, .ref i3])), (i1, .inl (cI, 9, .inl (fun _ => 0))), (i2, .inl (cI, 9, .inl (fun _ => 0))), (i3, .inl (cI, 9, .inl (fun _ => 0))), (sh, .inr (6, [.ref sp, .ref sj, .ref sc, .ref sa, .int (nI (k + 1)), .int 3000, .int 0, .int 0, .int 0, .int 0, .int 0, .int 0, .int 0, .int 0, .int 0])), (sc, .inr (0, [.int 0, .ref E, .int 0]))] H := hP
  have hD : va_D A [(sp, .inr (0, [.int 0, .ref E, .int 0])), (sj, .inr (0, [.int 0, .ref E, .int 0])), (sa, .inr (1, [.ref i1, .ref i2, .ref i3])), (i1, .inl (cI, 9, .inl (fun _ => 0))), (i2, .inl (cI, 9, .inl (fun _ => 0))), (i3, .inl (cI, 9, .inl (fun _ => 0))), (sh, .inr (6, [.ref sp, .ref sj, .ref sc, .ref sa, .int (nI (k + 1)), .int 3000, .int 0, .int 0, .int 0, .int 0, .int 0, .int 0, .int 0, .int 0, .int 0])), (sc, .inr (0, [.int 0, .ref E, .int 0]))] := hD
  refine lv_aload_n hx hb dX5_tick_21 rfl (lv_at hl 0 rfl) ?_
  refine f_aft_v (wr := [(sa, .inr (1, [.ref i1, .ref i2, .ref i3])), (i1, .inl (cI, 9, .inl (fun _ => 0))), (i2, .inl (cI, 9, .inl (fun _ => 0))), (i3, .inl (cI, 9, .inl (fun _ => 0))), (sc, .inr (0, [.int 0, .ref E, .int 0]))]) (f_runV (As := []) (rest := []) hx hb hml hown hts (kX5_turnDrivesAndValves l D cI cO cL E M sh sp sj sc sa (nI (k + 1)) H.size) (fcwV 0 hts q563 q564 q565 q19 q566 rfl rfl (by decide +kernel) ⟨(Nat.le_of_ble_eq_true rfl), (Nat.le_of_ble_eq_true rfl)⟩) hE hP hD hS hA [6, 0, 1] rfl (by decide) (q0 := 6) (ci := 6) rfl rfl rfl rfl hl.1 rfl (Nat.le_of_ble_eq_true rfl) dX5_tick_22 ⟨(Nat.le_of_ble_eq_true rfl), (Nat.le_of_ble_eq_true rfl)⟩) hP hD hS hA [6, 0, 1] [2, 3, 4, 5, 7] rfl rfl (by decide) (by decide) (fun u H locs hr0 hP hD hS => ?_)
  have hP : va_P D vwCl [(sa, .inr (1, [.ref i1, .ref i2, .ref i3])), (i1, .inl (cI, 9, .inl (fun _ => 0))), (i2, .inl (cI, 9, .inl (fun _ => 0))), (i3, .inl (cI, 9, .inl (fun _ => 0))), (sc, .inr (0, [.int 0, .ref E, .int 0])), (sh, .inr (6, [.ref sp, .ref sj, .ref sc, .ref sa, .int (nI (k + 1)), .int 3000, .int 0, .int 0, .int 0, .int 0, .int 0, .int 0, .int 0, .int 0, .int 0])), (sp, .inr (0, [.int 0, .ref E, .int 0])), (sj, .inr (0, [.int 0, .ref E, .int 0]))] H := hP
  have hD : va_D A [(sa, .inr (1, [.ref i1, .ref i2, .ref i3])), (i1, .inl (cI, 9, .inl (fun _ => 0))), (i2, .inl (cI, 9, .inl (fun _ => 0))), (i3, .inl (cI, 9, .inl (fun _ => 0))), (sc, .inr (0, [.int 0, .ref E, .int 0])), (sh, .inr (6, [.ref sp, .ref sj, .ref sc, .ref sa, .int (nI (k + 1)), .int 3000, .int 0, .int 0, .int 0, .int 0, .int 0, .int 0, .int 0, .int 0, .int 0])), (sp, .inr (0, [.int 0, .ref E, .int 0])), (sj, .inr (0, [.int 0, .ref E, .int 0]))] := hD
  refine lv_aload_n hx hb dX5_tick_25 rfl (lv_at hl 0 rfl) ?_
  refine f_aft_i (wr := [(sc, .inr (0, [.int 0, .ref E, .int 0])), (sp, .inr (0, [.int 0, .ref E, .int 0])), (sj, .inr (0, [.int 0, .ref E, .int 0]))]) (f_runV (As := []) (rest := []) hx hb hml hown hts (kX5_letFall l D cI cO cL E M sh sp sj sc sa i1 i2 i3 (k + 1) (by omega) H.size) (fcwV 0 hts q580 q581 q582 q19 q583 rfl rfl (by decide +kernel) ⟨(Nat.le_of_ble_eq_true rfl), (Nat.le_of_ble_eq_true rfl)⟩) hE hP hD hS hA [5, 0, 1, 2, 3] rfl (by decide) (q0 := 5) (ci := 6) rfl rfl rfl rfl hl.1 rfl (Nat.le_of_ble_eq_true rfl) dX5_tick_26 ⟨(Nat.le_of_ble_eq_true rfl), (Nat.le_of_ble_eq_true rfl)⟩) hP hD hS hA [5, 0, 1, 2, 3] [4, 6, 7] rfl rfl (by decide) (by decide) (fun r u H locs hr0 hP hD hS => ?_)
  subst hr0
  have hP : va_P D vwCl [(sc, .inr (0, [.int 0, .ref E, .int 0])), (sp, .inr (0, [.int 0, .ref E, .int 0])), (sj, .inr (0, [.int 0, .ref E, .int 0])), (sh, .inr (6, [.ref sp, .ref sj, .ref sc, .ref sa, .int (nI (k + 1)), .int 3000, .int 0, .int 0, .int 0, .int 0, .int 0, .int 0, .int 0, .int 0, .int 0])), (sa, .inr (1, [.ref i1, .ref i2, .ref i3])), (i1, .inl (cI, 9, .inl (fun _ => 0))), (i2, .inl (cI, 9, .inl (fun _ => 0))), (i3, .inl (cI, 9, .inl (fun _ => 0)))] H := hP
  have hD : va_D A [(sc, .inr (0, [.int 0, .ref E, .int 0])), (sp, .inr (0, [.int 0, .ref E, .int 0])), (sj, .inr (0, [.int 0, .ref E, .int 0])), (sh, .inr (6, [.ref sp, .ref sj, .ref sc, .ref sa, .int (nI (k + 1)), .int 3000, .int 0, .int 0, .int 0, .int 0, .int 0, .int 0, .int 0, .int 0, .int 0])), (sa, .inr (1, [.ref i1, .ref i2, .ref i3])), (i1, .inl (cI, 9, .inl (fun _ => 0))), (i2, .inl (cI, 9, .inl (fun _ => 0))), (i3, .inl (cI, 9, .inl (fun _ => 0)))] := hD
  refine lv_istore_n (lv' := [(1, .int 0), (0, .ref sh)]) hx hb dX5_tick_29 rfl hl (by decide) rfl (fun ls hl => ?_)
  refine lv_aload_n hx hb dX5_tick_30 rfl (lv_at hl 1 rfl) ?_
  refine f_aft_v (wr := [(sc, .inr (0, [.int 0, .ref E, .int 0])), (sp, .inr (0, [.int 0, .ref E, .int 0])), (sa, .inr (1, [.ref i1, .ref i2, .ref i3])), (i1, .inl (cI, 9, .inl (fun _ => 0))), (i2, .inl (cI, 9, .inl (fun _ => 0))), (i3, .inl (cI, 9, .inl (fun _ => 0)))]) (f_runV (As := []) (rest := []) hx hb hml hown hts (kX5_throwWater l D cI cO cL E M sh sp sj sc sa (nI (k + 1)) H.size) (fcwV 0 hts q607 q608 q609 q19 q610 rfl rfl (by decide +kernel) ⟨(Nat.le_of_ble_eq_true rfl), (Nat.le_of_ble_eq_true rfl)⟩) hE hP hD hS hA [3, 2] rfl (by decide) (q0 := 3) (ci := 6) rfl rfl rfl rfl hl.1 rfl (Nat.le_of_ble_eq_true rfl) dX5_tick_31 ⟨(Nat.le_of_ble_eq_true rfl), (Nat.le_of_ble_eq_true rfl)⟩) hP hD hS hA [3, 2] [0, 1, 4, 5, 6, 7] rfl rfl (by decide) (by decide) (fun u H locs hr0 hP hD hS => ?_)
  have hP : va_P D vwCl [(sc, .inr (0, [.int 0, .ref E, .int 0])), (sp, .inr (0, [.int 0, .ref E, .int 0])), (sa, .inr (1, [.ref i1, .ref i2, .ref i3])), (i1, .inl (cI, 9, .inl (fun _ => 0))), (i2, .inl (cI, 9, .inl (fun _ => 0))), (i3, .inl (cI, 9, .inl (fun _ => 0))), (sh, .inr (6, [.ref sp, .ref sj, .ref sc, .ref sa, .int (nI (k + 1)), .int 3000, .int 0, .int 0, .int 0, .int 0, .int 0, .int 0, .int 0, .int 0, .int 0])), (sj, .inr (0, [.int 0, .ref E, .int 0]))] H := hP
  have hD : va_D A [(sc, .inr (0, [.int 0, .ref E, .int 0])), (sp, .inr (0, [.int 0, .ref E, .int 0])), (sa, .inr (1, [.ref i1, .ref i2, .ref i3])), (i1, .inl (cI, 9, .inl (fun _ => 0))), (i2, .inl (cI, 9, .inl (fun _ => 0))), (i3, .inl (cI, 9, .inl (fun _ => 0))), (sh, .inr (6, [.ref sp, .ref sj, .ref sc, .ref sa, .int (nI (k + 1)), .int 3000, .int 0, .int 0, .int 0, .int 0, .int 0, .int 0, .int 0, .int 0, .int 0])), (sj, .inr (0, [.int 0, .ref E, .int 0]))] := hD
  refine lv_aload_n hx hb dX5_tick_34 rfl (lv_at hl 1 rfl) ?_
  refine f_aft_v (wr := [(sc, .inr (0, [.int 0, .ref E, .int 0])), (sa, .inr (1, [.ref i1, .ref i2, .ref i3])), (i1, .inl (cI, 9, .inl (fun _ => 0))), (i2, .inl (cI, 9, .inl (fun _ => 0))), (i3, .inl (cI, 9, .inl (fun _ => 0)))]) (f_runV (As := []) (rest := []) hx hb hml hown hts (kX5_useEnergy l D cI cO cL E M sh sp sj sc sa (nI (k + 1)) H.size) (fcwV 0 hts q655 q656 q657 q19 q658 rfl rfl (by decide +kernel) ⟨(Nat.le_of_ble_eq_true rfl), (Nat.le_of_ble_eq_true rfl)⟩) hE hP hD hS hA [6, 1, 7] rfl (by decide) (q0 := 6) (ci := 6) rfl rfl rfl rfl hl.1 rfl (Nat.le_of_ble_eq_true rfl) dX5_tick_35 ⟨(Nat.le_of_ble_eq_true rfl), (Nat.le_of_ble_eq_true rfl)⟩) hP hD hS hA [6, 1, 7] [0, 2, 3, 4, 5] rfl rfl (by decide) (by decide) (fun u H locs hr0 hP hD hS => ?_)
  have hP : va_P D vwCl [(sc, .inr (0, [.int 0, .ref E, .int 0])), (sa, .inr (1, [.ref i1, .ref i2, .ref i3])), (i1, .inl (cI, 9, .inl (fun _ => 0))), (i2, .inl (cI, 9, .inl (fun _ => 0))), (i3, .inl (cI, 9, .inl (fun _ => 0))), (sh, .inr (6, [.ref sp, .ref sj, .ref sc, .ref sa, .int (nI (k + 1)), .int 3000, .int 0, .int 0, .int 0, .int 0, .int 0, .int 0, .int 0, .int 0, .int 0])), (sp, .inr (0, [.int 0, .ref E, .int 0])), (sj, .inr (0, [.int 0, .ref E, .int 0]))] H := hP
  have hD : va_D A [(sc, .inr (0, [.int 0, .ref E, .int 0])), (sa, .inr (1, [.ref i1, .ref i2, .ref i3])), (i1, .inl (cI, 9, .inl (fun _ => 0))), (i2, .inl (cI, 9, .inl (fun _ => 0))), (i3, .inl (cI, 9, .inl (fun _ => 0))), (sh, .inr (6, [.ref sp, .ref sj, .ref sc, .ref sa, .int (nI (k + 1)), .int 3000, .int 0, .int 0, .int 0, .int 0, .int 0, .int 0, .int 0, .int 0, .int 0])), (sp, .inr (0, [.int 0, .ref E, .int 0])), (sj, .inr (0, [.int 0, .ref E, .int 0]))] := hD
  refine lv_aload_n hx hb dX5_tick_38 rfl (lv_at hl 1 rfl) ?_
  refine f_aft_v (wr := [(sc, .inr (0, [.int 0, .ref E, .int 0])), (sa, .inr (1, [.ref i1, .ref i2, .ref i3])), (i1, .inl (cI, 9, .inl (fun _ => 0))), (i2, .inl (cI, 9, .inl (fun _ => 0))), (i3, .inl (cI, 9, .inl (fun _ => 0))), (sp, .inr (0, [.int 0, .ref E, .int 0])), (sj, .inr (0, [.int 0, .ref E, .int 0]))]) (f_runV (As := []) (rest := []) hx hb hml hown hts (kX5_tripPumpsRunningDry l D cI cO cL E M sh sp sj sc sa (nI (k + 1)) H.size) (fcwV 0 hts q671 q672 q673 q19 q674 rfl rfl (by decide +kernel) ⟨(Nat.le_of_ble_eq_true rfl), (Nat.le_of_ble_eq_true rfl)⟩) hE hP hD hS hA [5] rfl (by decide) (q0 := 5) (ci := 6) rfl rfl rfl rfl hl.1 rfl (Nat.le_of_ble_eq_true rfl) dX5_tick_39 ⟨(Nat.le_of_ble_eq_true rfl), (Nat.le_of_ble_eq_true rfl)⟩) hP hD hS hA [5] [0, 1, 2, 3, 4, 6, 7] rfl rfl (by decide) (by decide) (fun u H locs hr0 hP hD hS => ?_)
  have hP : va_P D vwCl [(sc, .inr (0, [.int 0, .ref E, .int 0])), (sa, .inr (1, [.ref i1, .ref i2, .ref i3])), (i1, .inl (cI, 9, .inl (fun _ => 0))), (i2, .inl (cI, 9, .inl (fun _ => 0))), (i3, .inl (cI, 9, .inl (fun _ => 0))), (sp, .inr (0, [.int 0, .ref E, .int 0])), (sj, .inr (0, [.int 0, .ref E, .int 0])), (sh, .inr (6, [.ref sp, .ref sj, .ref sc, .ref sa, .int (nI (k + 1)), .int 3000, .int 0, .int 0, .int 0, .int 0, .int 0, .int 0, .int 0, .int 0, .int 0]))] H := hP
  have hD : va_D A [(sc, .inr (0, [.int 0, .ref E, .int 0])), (sa, .inr (1, [.ref i1, .ref i2, .ref i3])), (i1, .inl (cI, 9, .inl (fun _ => 0))), (i2, .inl (cI, 9, .inl (fun _ => 0))), (i3, .inl (cI, 9, .inl (fun _ => 0))), (sp, .inr (0, [.int 0, .ref E, .int 0])), (sj, .inr (0, [.int 0, .ref E, .int 0])), (sh, .inr (6, [.ref sp, .ref sj, .ref sc, .ref sa, .int (nI (k + 1)), .int 3000, .int 0, .int 0, .int 0, .int 0, .int 0, .int 0, .int 0, .int 0, .int 0]))] := hD
  refine lv_aload_n hx hb dX5_tick_42 rfl (lv_at hl 1 rfl) ?_
  refine f_aft_v (wr := [(sc, .inr (0, [.int 0, .ref E, .int 0])), (sa, .inr (1, [.ref i1, .ref i2, .ref i3])), (i1, .inl (cI, 9, .inl (fun _ => 0))), (i2, .inl (cI, 9, .inl (fun _ => 0))), (i3, .inl (cI, 9, .inl (fun _ => 0))), (sp, .inr (0, [.int 0, .ref E, .int 0]))]) (f_runV (As := []) (rest := []) hx hb hml hown hts (kX5_shortLamps l D cI cO cL E M sh sp sj sc sa (nI (k + 1)) H.size) (fcwV 0 hts q680 q681 q682 q19 q683 rfl rfl (by decide +kernel) ⟨(Nat.le_of_ble_eq_true rfl), (Nat.le_of_ble_eq_true rfl)⟩) hE hP hD hS hA [7, 6] rfl (by decide) (q0 := 7) (ci := 6) rfl rfl rfl rfl hl.1 rfl (Nat.le_of_ble_eq_true rfl) dX5_tick_43 ⟨(Nat.le_of_ble_eq_true rfl), (Nat.le_of_ble_eq_true rfl)⟩) hP hD hS hA [7, 6] [0, 1, 2, 3, 4, 5] rfl rfl (by decide) (by decide) (fun u H locs hr0 hP hD hS => ?_)
  have hP : va_P D vwCl [(sc, .inr (0, [.int 0, .ref E, .int 0])), (sa, .inr (1, [.ref i1, .ref i2, .ref i3])), (i1, .inl (cI, 9, .inl (fun _ => 0))), (i2, .inl (cI, 9, .inl (fun _ => 0))), (i3, .inl (cI, 9, .inl (fun _ => 0))), (sp, .inr (0, [.int 0, .ref E, .int 0])), (sh, .inr (6, [.ref sp, .ref sj, .ref sc, .ref sa, .int (nI (k + 1)), .int 3000, .int 0, .int 0, .int 0, .int 0, .int 0, .int 0, .int 0, .int 0, .int 0])), (sj, .inr (0, [.int 0, .ref E, .int 0]))] H := hP
  have hD : va_D A [(sc, .inr (0, [.int 0, .ref E, .int 0])), (sa, .inr (1, [.ref i1, .ref i2, .ref i3])), (i1, .inl (cI, 9, .inl (fun _ => 0))), (i2, .inl (cI, 9, .inl (fun _ => 0))), (i3, .inl (cI, 9, .inl (fun _ => 0))), (sp, .inr (0, [.int 0, .ref E, .int 0])), (sh, .inr (6, [.ref sp, .ref sj, .ref sc, .ref sa, .int (nI (k + 1)), .int 3000, .int 0, .int 0, .int 0, .int 0, .int 0, .int 0, .int 0, .int 0, .int 0])), (sj, .inr (0, [.int 0, .ref E, .int 0]))] := hD
  refine lv_iload_n hx hb dX5_tick_46 rfl (lv_at hl 0 rfl) ?_
  have hP9 := hP.sub (ws' := [(sh, .inr (6, [.ref sp, .ref sj, .ref sc, .ref sa, .int (nI (k + 1)), .int 3000, .int 0, .int 0, .int 0, .int 0, .int 0, .int 0, .int 0, .int 0, .int 0])), (sp, .inr (0, [.int 0, .ref E, .int 0])), (sj, .inr (0, [.int 0, .ref E, .int 0])), (sc, .inr (0, [.int 0, .ref E, .int 0])), (sa, .inr (1, [.ref i1, .ref i2, .ref i3])), (i1, .inl (cI, 9, .inl (fun _ => 0))), (i2, .inl (cI, 9, .inl (fun _ => 0))), (i3, .inl (cI, 9, .inl (fun _ => 0)))]) [6, 5, 7, 0, 1, 2, 3, 4] rfl
  have hD9 := hD.sub (ws' := [(sh, .inr (6, [.ref sp, .ref sj, .ref sc, .ref sa, .int (nI (k + 1)), .int 3000, .int 0, .int 0, .int 0, .int 0, .int 0, .int 0, .int 0, .int 0, .int 0])), (sp, .inr (0, [.int 0, .ref E, .int 0])), (sj, .inr (0, [.int 0, .ref E, .int 0])), (sc, .inr (0, [.int 0, .ref E, .int 0])), (sa, .inr (1, [.ref i1, .ref i2, .ref i3])), (i1, .inl (cI, 9, .inl (fun _ => 0))), (i2, .inl (cI, 9, .inl (fun _ => 0))), (i3, .inl (cI, 9, .inl (fun _ => 0)))]) [6, 5, 7, 0, 1, 2, 3, 4] (by decide) rfl
  refine W.widen (k := 0) (n := 0) (Nat.le_of_ble_eq_true rfl) (Nat.le_of_ble_eq_true rfl) ?_
  exact W.iret (v := 0) hx hb hr (fun t ht hW => ⟨⟨0, (), rfl, rfl, by rw [ht]; exact hP9, hD9⟩, hS.F ht⟩) hS.2.2 dX5_tick_47
set_option maxHeartbeats 4000000 in
set_option maxRecDepth 100000 in
theorem kX5_lampsOff_w (l : Launch) (D : va_G) (cI cO cL : ClassId) (E M : Nat) (sh : Nat) (sp : Nat) (sj : Nat) (sc : Nat) (sa : Nat)  (sz : Nat) : Met l yX5_lampsOff (fW yX5_lampsOff cX5_lampsOff 2 none) { frames := 1, cells := 0, slots := 0, locals := 20 } (fPre D cI cO cL E M [.ref sh] sz [(sh, .inr (6, [.ref sp, .ref sj, .ref sc, .ref sa, .int 0, .int 3000, .int 0, .int 0, .int 0, .int 0, .int 0, .int 0, .int 0, .int 0, .int 1])), (sj, .inr (0, [.int 0, .ref E, .int 0]))]) (va_Qv (fun _ : Unit => True) (fB D (va_A [(sh, .inr (6, [.ref sp, .ref sj, .ref sc, .ref sa, .int 0, .int 3000, .int 0, .int 0, .int 0, .int 0, .int 0, .int 0, .int 0, .int 0, .int 1])), (sj, .inr (0, [.int 0, .ref E, .int 0]))] sz) (fun u : Unit => [(sh, .inr (6, [.ref sp, .ref sj, .ref sc, .ref sa, .int 0, .int 3000, .int 0, .int 0, .int 0, .int 0, .int 0, .int 0, .int 0, .int 0, .int 1])), (sj, .inr (0, [.int 0, .ref E, .int 0]))])) (va_A [(sh, .inr (6, [.ref sp, .ref sj, .ref sc, .ref sa, .int 0, .int 3000, .int 0, .int 0, .int 0, .int 0, .int 0, .int 0, .int 0, .int 0, .int 1])), (sj, .inr (0, [.int 0, .ref E, .int 0]))] sz)) 0 0 (va_A [(sh, .inr (6, [.ref sp, .ref sj, .ref sc, .ref sa, .int 0, .int 3000, .int 0, .int 0, .int 0, .int 0, .int 0, .int 0, .int 0, .int 0, .int 1])), (sj, .inr (0, [.int 0, .ref E, .int 0]))] sz) := by
  refine Met.ofW (cc := cX5_lampsOff) (maxL := 2) (ret := none) (by decide) rfl ?_
  intro p e s m args below meth c s₁ B hml hv
  obtain ⟨rfl, hsz, hP, hD0, hE⟩ := hv
  have hx := B.exec
  have hb := B.bytes
  have hr := B.returns
  have hts0 := atoms_spec (ws := (fW yX5_lampsOff cX5_lampsOff 2 none)) B.pre
  have hts : ∀ w ∈ fA, w.before _ s = true := fun w h => hts0 w (List.mem_cons_of_mem _ h)
  have hown : s.vm.findClass RX5 = some m.cls := findClass_of_methodNamed B.named
  have hlocks := B.notSynchronized
  subst hsz
  have hD := hD0.self (sz := s.heap.size)
  generalize hAe : va_A [(sh, .inr (6, [.ref sp, .ref sj, .ref sc, .ref sa, .int 0, .int 3000, .int 0, .int 0, .int 0, .int 0, .int 0, .int 0, .int 0, .int 0, .int 1])), (sj, .inr (0, [.int 0, .ref E, .int 0]))] s.heap.size = A at hD hE ⊢
  have hA : ∀ q : Nat, s.heap.size ≤ q → A q := fun q h => by rw [← hAe]; exact Or.inr h
  have hP : va_P D vwCl [(sh, .inr (6, [.ref sp, .ref sj, .ref sc, .ref sa, .int 0, .int 3000, .int 0, .int 0, .int 0, .int 0, .int 0, .int 0, .int 0, .int 0, .int 1])), (sj, .inr (0, [.int 0, .ref E, .int 0]))] s.heap := hP
  have hl := lv_entry ([.ref sh]) (n := 2) (Nat.le_of_ble_eq_true rfl)
  rw [lg_entry_eq]
  generalize (lg_sl ([.ref sh]) ++ List.replicate (2 - (lg_sl ([.ref sh])).length) Slot.unset).toArray = ls at hl ⊢
  have hl : lv_has ls 2 [(0, .ref sh)] := hl
  refine f_start (A := A) hP (fun H hP hS => ?_)
  refine lv_iconst (v := 0) hx hb dX5_lampsOff_0 (by decide) ?_
  refine lv_istore_n (lv' := [(1, .int 0), (0, .ref sh)]) hx hb dX5_lampsOff_1 rfl hl (by decide) rfl (fun ls hl => ?_)
  refine lv_iload_n hx hb dX5_lampsOff_2 rfl (lv_at hl 0 rfl) ?_
  refine lv_aload_n hx hb dX5_lampsOff_3 rfl (lv_at hl 1 rfl) ?_
  refine va_get (D := D) (ci := 6) (v := .ref sj) (C := RX5) (T := TX5) (N := 15) hx hb hts uX5 hown hE.1.1 hP 0 rfl rfl 1 (by decide) (hts _ q42) (fun _ h9 => h9) rfl dX5_lampsOff_4 ?_
  refine f_aft_i (wr := [(sh, .inr (6, [.ref sp, .ref sj, .ref sc, .ref sa, .int 0, .int 3000, .int 0, .int 0, .int 0, .int 0, .int 0, .int 0, .int 0, .int 0, .int 1]))]) (f_runV (As := []) (rest := [.int 0]) hx hb hml hown hts (kJx4a65c_size_8abf5 l D cI cO cL E M sj 0 (.ref E) 0 H.size) (fcwV 0 hts q230 q97 q98 q15 q99 rfl rfl (by decide +kernel) ⟨(Nat.le_of_ble_eq_true rfl), (Nat.le_of_ble_eq_true rfl)⟩) hE hP hD hS hA [1] rfl (by decide) (q0 := 1) (ci := 0) rfl rfl rfl rfl hl.1 rfl (Nat.le_of_ble_eq_true rfl) dX5_lampsOff_7 ⟨(Nat.le_of_ble_eq_true rfl), (Nat.le_of_ble_eq_true rfl)⟩) hP hD hS hA [1] [0] rfl rfl (by decide) (by decide) (fun r u H locs hr0 hP hD hS => ?_)
  subst hr0
  have hP : va_P D vwCl [(sh, .inr (6, [.ref sp, .ref sj, .ref sc, .ref sa, .int 0, .int 3000, .int 0, .int 0, .int 0, .int 0, .int 0, .int 0, .int 0, .int 0, .int 1])), (sj, .inr (0, [.int 0, .ref E, .int 0]))] H := hP
  have hD : va_D A [(sh, .inr (6, [.ref sp, .ref sj, .ref sc, .ref sa, .int 0, .int 3000, .int 0, .int 0, .int 0, .int 0, .int 0, .int 0, .int 0, .int 0, .int 1])), (sj, .inr (0, [.int 0, .ref E, .int 0]))] := hD
  refine lv_icmp_ge (tgt := 34) hx hb dX5_lampsOff_10 (by decide) (fun _ => ?_) (fun h => absurd (by decide) h)
  have hP9 := hP.sub (ws' := [(sh, .inr (6, [.ref sp, .ref sj, .ref sc, .ref sa, .int 0, .int 3000, .int 0, .int 0, .int 0, .int 0, .int 0, .int 0, .int 0, .int 0, .int 1])), (sj, .inr (0, [.int 0, .ref E, .int 0]))]) [0, 1] rfl
  have hD9 := hD.sub (ws' := [(sh, .inr (6, [.ref sp, .ref sj, .ref sc, .ref sa, .int 0, .int 3000, .int 0, .int 0, .int 0, .int 0, .int 0, .int 0, .int 0, .int 0, .int 1])), (sj, .inr (0, [.int 0, .ref E, .int 0]))]) [0, 1] (by decide) rfl
  refine W.widen (k := 0) (n := 0) (Nat.le_of_ble_eq_true rfl) (Nat.le_of_ble_eq_true rfl) ?_
  exact W.vret hx hb hr (fun t ht hW => ⟨⟨(), rfl, trivial, by rw [ht]; exact hP9, hD9⟩, hS.F ht⟩) hS.2.2 dX5_lampsOff_34
set_option maxHeartbeats 4000000 in
set_option maxRecDepth 100000 in
theorem kX5_shutAll (l : Launch) (D : va_G) (cI cO cL : ClassId) (E M : Nat) (sh : Nat) (sp : Nat) (sj : Nat) (sc : Nat) (sa : Nat)  (sz : Nat) : Met l yX5_shutAll (fW yX5_shutAll cX5_shutAll 2 none) { frames := 2, cells := 0, slots := 0, locals := 41 } (fPre D cI cO cL E M [.ref sh] sz [(sh, .inr (6, [.ref sp, .ref sj, .ref sc, .ref sa, .int 0, .int 3000, .int 0, .int 0, .int 0, .int 0, .int 0, .int 0, .int 0, .int 0, .int 1])), (sp, .inr (0, [.int 0, .ref E, .int 0])), (sj, .inr (0, [.int 0, .ref E, .int 0]))]) (va_Qv (fun _ : Unit => True) (fB D (va_A [(sh, .inr (6, [.ref sp, .ref sj, .ref sc, .ref sa, .int 0, .int 3000, .int 0, .int 0, .int 0, .int 0, .int 0, .int 0, .int 0, .int 0, .int 1])), (sp, .inr (0, [.int 0, .ref E, .int 0])), (sj, .inr (0, [.int 0, .ref E, .int 0]))] sz) (fun u : Unit => [(sh, .inr (6, [.ref sp, .ref sj, .ref sc, .ref sa, .int 0, .int 3000, .int 0, .int 0, .int 0, .int 0, .int 0, .int 0, .int 0, .int 0, .int 1])), (sp, .inr (0, [.int 0, .ref E, .int 0])), (sj, .inr (0, [.int 0, .ref E, .int 0]))])) (va_A [(sh, .inr (6, [.ref sp, .ref sj, .ref sc, .ref sa, .int 0, .int 3000, .int 0, .int 0, .int 0, .int 0, .int 0, .int 0, .int 0, .int 0, .int 1])), (sp, .inr (0, [.int 0, .ref E, .int 0])), (sj, .inr (0, [.int 0, .ref E, .int 0]))] sz)) 0 0 (va_A [(sh, .inr (6, [.ref sp, .ref sj, .ref sc, .ref sa, .int 0, .int 3000, .int 0, .int 0, .int 0, .int 0, .int 0, .int 0, .int 0, .int 0, .int 1])), (sp, .inr (0, [.int 0, .ref E, .int 0])), (sj, .inr (0, [.int 0, .ref E, .int 0]))] sz) := by
  refine Met.ofW (cc := cX5_shutAll) (maxL := 2) (ret := none) (by decide) rfl ?_
  intro p e s m args below meth c s₁ B hml hv
  obtain ⟨rfl, hsz, hP, hD0, hE⟩ := hv
  have hx := B.exec
  have hb := B.bytes
  have hr := B.returns
  have hts0 := atoms_spec (ws := (fW yX5_shutAll cX5_shutAll 2 none)) B.pre
  have hts : ∀ w ∈ fA, w.before _ s = true := fun w h => hts0 w (List.mem_cons_of_mem _ h)
  have hown : s.vm.findClass RX5 = some m.cls := findClass_of_methodNamed B.named
  have hlocks := B.notSynchronized
  subst hsz
  have hD := hD0.self (sz := s.heap.size)
  generalize hAe : va_A [(sh, .inr (6, [.ref sp, .ref sj, .ref sc, .ref sa, .int 0, .int 3000, .int 0, .int 0, .int 0, .int 0, .int 0, .int 0, .int 0, .int 0, .int 1])), (sp, .inr (0, [.int 0, .ref E, .int 0])), (sj, .inr (0, [.int 0, .ref E, .int 0]))] s.heap.size = A at hD hE ⊢
  have hA : ∀ q : Nat, s.heap.size ≤ q → A q := fun q h => by rw [← hAe]; exact Or.inr h
  have hP : va_P D vwCl [(sh, .inr (6, [.ref sp, .ref sj, .ref sc, .ref sa, .int 0, .int 3000, .int 0, .int 0, .int 0, .int 0, .int 0, .int 0, .int 0, .int 0, .int 1])), (sp, .inr (0, [.int 0, .ref E, .int 0])), (sj, .inr (0, [.int 0, .ref E, .int 0]))] s.heap := hP
  have hl := lv_entry ([.ref sh]) (n := 2) (Nat.le_of_ble_eq_true rfl)
  rw [lg_entry_eq]
  generalize (lg_sl ([.ref sh]) ++ List.replicate (2 - (lg_sl ([.ref sh])).length) Slot.unset).toArray = ls at hl ⊢
  have hl : lv_has ls 2 [(0, .ref sh)] := hl
  refine f_start (A := A) hP (fun H hP hS => ?_)
  refine lv_iconst (v := 0) hx hb dX5_shutAll_0 (by decide) ?_
  refine lv_istore_n (lv' := [(1, .int 0), (0, .ref sh)]) hx hb dX5_shutAll_1 rfl hl (by decide) rfl (fun ls hl => ?_)
  refine lv_iload_n hx hb dX5_shutAll_2 rfl (lv_at hl 0 rfl) ?_
  refine lv_aload_n hx hb dX5_shutAll_3 rfl (lv_at hl 1 rfl) ?_
  refine va_get (D := D) (ci := 6) (v := .ref sp) (C := RX5) (T := TX5) (N := 15) hx hb hts uX5 hown hE.1.1 hP 0 rfl rfl 0 (by decide) (hts _ q41) (fun _ h9 => h9) rfl dX5_shutAll_4 ?_
  refine f_aft_i (wr := [(sh, .inr (6, [.ref sp, .ref sj, .ref sc, .ref sa, .int 0, .int 3000, .int 0, .int 0, .int 0, .int 0, .int 0, .int 0, .int 0, .int 0, .int 1])), (sj, .inr (0, [.int 0, .ref E, .int 0]))]) (f_runV (As := []) (rest := [.int 0]) hx hb hml hown hts (kJx4a65c_size_8abf5 l D cI cO cL E M sp 0 (.ref E) 0 H.size) (fcwV 0 hts q230 q97 q98 q15 q99 rfl rfl (by decide +kernel) ⟨(Nat.le_of_ble_eq_true rfl), (Nat.le_of_ble_eq_true rfl)⟩) hE hP hD hS hA [1] rfl (by decide) (q0 := 1) (ci := 0) rfl rfl rfl rfl hl.1 rfl (Nat.le_of_ble_eq_true rfl) dX5_shutAll_7 ⟨(Nat.le_of_ble_eq_true rfl), (Nat.le_of_ble_eq_true rfl)⟩) hP hD hS hA [1] [0, 2] rfl rfl (by decide) (by decide) (fun r u H locs hr0 hP hD hS => ?_)
  subst hr0
  have hP : va_P D vwCl [(sh, .inr (6, [.ref sp, .ref sj, .ref sc, .ref sa, .int 0, .int 3000, .int 0, .int 0, .int 0, .int 0, .int 0, .int 0, .int 0, .int 0, .int 1])), (sj, .inr (0, [.int 0, .ref E, .int 0])), (sp, .inr (0, [.int 0, .ref E, .int 0]))] H := hP
  have hD : va_D A [(sh, .inr (6, [.ref sp, .ref sj, .ref sc, .ref sa, .int 0, .int 3000, .int 0, .int 0, .int 0, .int 0, .int 0, .int 0, .int 0, .int 0, .int 1])), (sj, .inr (0, [.int 0, .ref E, .int 0])), (sp, .inr (0, [.int 0, .ref E, .int 0]))] := hD
  refine lv_icmp_ge (tgt := 34) hx hb dX5_shutAll_10 (by decide) (fun _ => ?_) (fun h => absurd (by decide) h)
  refine lv_iconst (v := 0) hx hb dX5_shutAll_34 (by decide) ?_
  refine lv_istore_n (lv' := [(1, .int 0), (0, .ref sh)]) hx hb dX5_shutAll_35 rfl hl (by decide) rfl (fun ls hl => ?_)
  refine lv_iload_n hx hb dX5_shutAll_36 rfl (lv_at hl 0 rfl) ?_
  refine lv_aload_n hx hb dX5_shutAll_37 rfl (lv_at hl 1 rfl) ?_
  refine va_get (D := D) (ci := 6) (v := .ref sj) (C := RX5) (T := TX5) (N := 15) hx hb hts uX5 hown hE.1.1 hP 0 rfl rfl 1 (by decide) (hts _ q42) (fun _ h9 => h9) rfl dX5_shutAll_38 ?_
  refine f_aft_i (wr := [(sh, .inr (6, [.ref sp, .ref sj, .ref sc, .ref sa, .int 0, .int 3000, .int 0, .int 0, .int 0, .int 0, .int 0, .int 0, .int 0, .int 0, .int 1])), (sp, .inr (0, [.int 0, .ref E, .int 0]))]) (f_runV (As := []) (rest := [.int 0]) hx hb hml hown hts (kJx4a65c_size_8abf5 l D cI cO cL E M sj 0 (.ref E) 0 H.size) (fcwV 0 hts q230 q97 q98 q15 q99 rfl rfl (by decide +kernel) ⟨(Nat.le_of_ble_eq_true rfl), (Nat.le_of_ble_eq_true rfl)⟩) hE hP hD hS hA [1] rfl (by decide) (q0 := 1) (ci := 0) rfl rfl rfl rfl hl.1 rfl (Nat.le_of_ble_eq_true rfl) dX5_shutAll_41 ⟨(Nat.le_of_ble_eq_true rfl), (Nat.le_of_ble_eq_true rfl)⟩) hP hD hS hA [1] [0, 2] rfl rfl (by decide) (by decide) (fun r u H locs hr0 hP hD hS => ?_)
  subst hr0
  have hP : va_P D vwCl [(sh, .inr (6, [.ref sp, .ref sj, .ref sc, .ref sa, .int 0, .int 3000, .int 0, .int 0, .int 0, .int 0, .int 0, .int 0, .int 0, .int 0, .int 1])), (sp, .inr (0, [.int 0, .ref E, .int 0])), (sj, .inr (0, [.int 0, .ref E, .int 0]))] H := hP
  have hD : va_D A [(sh, .inr (6, [.ref sp, .ref sj, .ref sc, .ref sa, .int 0, .int 3000, .int 0, .int 0, .int 0, .int 0, .int 0, .int 0, .int 0, .int 0, .int 1])), (sp, .inr (0, [.int 0, .ref E, .int 0])), (sj, .inr (0, [.int 0, .ref E, .int 0]))] := hD
  refine lv_icmp_ge (tgt := 68) hx hb dX5_shutAll_44 (by decide) (fun _ => ?_) (fun h => absurd (by decide) h)
  refine lv_aload_n hx hb dX5_shutAll_68 rfl (lv_at hl 1 rfl) ?_
  refine f_aft_v (wr := [(sp, .inr (0, [.int 0, .ref E, .int 0]))]) (f_runV (As := []) (rest := []) hx hb hml hown hts (kX5_lampsOff_w l D cI cO cL E M sh sp sj sc sa H.size) (fcwV 0 hts q433 q434 q435 q19 q436 rfl rfl (by decide +kernel) ⟨(Nat.le_of_ble_eq_true rfl), (Nat.le_of_ble_eq_true rfl)⟩) hE hP hD hS hA [0, 2] rfl (by decide) (q0 := 0) (ci := 6) rfl rfl rfl rfl hl.1 rfl (Nat.le_of_ble_eq_true rfl) dX5_shutAll_69 ⟨(Nat.le_of_ble_eq_true rfl), (Nat.le_of_ble_eq_true rfl)⟩) hP hD hS hA [0, 2] [1] rfl rfl (by decide) (by decide) (fun u H locs hr0 hP hD hS => ?_)
  have hP : va_P D vwCl [(sp, .inr (0, [.int 0, .ref E, .int 0])), (sh, .inr (6, [.ref sp, .ref sj, .ref sc, .ref sa, .int 0, .int 3000, .int 0, .int 0, .int 0, .int 0, .int 0, .int 0, .int 0, .int 0, .int 1])), (sj, .inr (0, [.int 0, .ref E, .int 0]))] H := hP
  have hD : va_D A [(sp, .inr (0, [.int 0, .ref E, .int 0])), (sh, .inr (6, [.ref sp, .ref sj, .ref sc, .ref sa, .int 0, .int 3000, .int 0, .int 0, .int 0, .int 0, .int 0, .int 0, .int 0, .int 0, .int 1])), (sj, .inr (0, [.int 0, .ref E, .int 0]))] := hD
  have hP9 := hP.sub (ws' := [(sh, .inr (6, [.ref sp, .ref sj, .ref sc, .ref sa, .int 0, .int 3000, .int 0, .int 0, .int 0, .int 0, .int 0, .int 0, .int 0, .int 0, .int 1])), (sp, .inr (0, [.int 0, .ref E, .int 0])), (sj, .inr (0, [.int 0, .ref E, .int 0]))]) [1, 0, 2] rfl
  have hD9 := hD.sub (ws' := [(sh, .inr (6, [.ref sp, .ref sj, .ref sc, .ref sa, .int 0, .int 3000, .int 0, .int 0, .int 0, .int 0, .int 0, .int 0, .int 0, .int 0, .int 1])), (sp, .inr (0, [.int 0, .ref E, .int 0])), (sj, .inr (0, [.int 0, .ref E, .int 0]))]) [1, 0, 2] (by decide) rfl
  refine W.widen (k := 0) (n := 0) (Nat.le_of_ble_eq_true rfl) (Nat.le_of_ble_eq_true rfl) ?_
  exact W.vret hx hb hr (fun t ht hW => ⟨⟨(), rfl, trivial, by rw [ht]; exact hP9, hD9⟩, hS.F ht⟩) hS.2.2 dX5_shutAll_72
set_option maxHeartbeats 4000000 in
set_option maxRecDepth 100000 in
theorem kX5_becomeLike (l : Launch) (D : va_G) (cI cO cL : ClassId) (E M : Nat) (tsh : Nat) (tsp : Nat) (tsj : Nat) (tsc : Nat) (tsa : Nat) (ti1 : Nat) (ti2 : Nat) (ti3 : Nat) (sh : Nat) (sp : Nat) (sj : Nat) (sc : Nat) (sa : Nat) (i1 : Nat) (i2 : Nat) (i3 : Nat) (nt : Int32)  (sz : Nat) : Met l yX5_becomeLike (fW yX5_becomeLike cX5_becomeLike 3 none) { frames := 2, cells := 0, slots := 0, locals := 39 } (fPre D cI cO cL E M [.ref tsh, .ref sh] sz [(tsh, .inr (6, [.ref tsp, .ref tsj, .ref tsc, .ref tsa, .int nt, .int 3000, .int 0, .int 0, .int 0, .int 0, .int 0, .int 0, .int 0, .int 0, .int 0])), (tsp, .inr (0, [.int 0, .ref E, .int 0])), (tsj, .inr (0, [.int 0, .ref E, .int 0])), (tsc, .inr (0, [.int 0, .ref E, .int 0])), (tsa, .inr (1, [.ref ti1, .ref ti2, .ref ti3])), (ti1, .inl (cI, 9, .inl (fun _ => 0))), (ti2, .inl (cI, 9, .inl (fun _ => 0))), (ti3, .inl (cI, 9, .inl (fun _ => 0))), (sh, .inr (6, [.ref sp, .ref sj, .ref sc, .ref sa, .int 0, .int 3000, .int 0, .int 0, .int 0, .int 0, .int 0, .int 0, .int 0, .int 0, .int 0])), (sp, .inr (0, [.int 0, .ref E, .int 0])), (sj, .inr (0, [.int 0, .ref E, .int 0])), (sc, .inr (0, [.int 0, .ref E, .int 0])), (sa, .inr (1, [.ref i1, .ref i2, .ref i3])), (i1, .inl (cI, 9, .inl (fun _ => 0))), (i2, .inl (cI, 9, .inl (fun _ => 0))), (i3, .inl (cI, 9, .inl (fun _ => 0)))]) (va_Qv (fun _ : Unit => True) (fB D (va_A [(tsh, .inr (6, [.ref tsp, .ref tsj, .ref tsc, .ref tsa, .int nt, .int 3000, .int 0, .int 0, .int 0, .int 0, .int 0, .int 0, .int 0, .int 0, .int 0])), (tsp, .inr (0, [.int 0, .ref E, .int 0])), (tsj, .inr (0, [.int 0, .ref E, .int 0])), (tsc, .inr (0, [.int 0, .ref E, .int 0])), (tsa, .inr (1, [.ref ti1, .ref ti2, .ref ti3])), (ti1, .inl (cI, 9, .inl (fun _ => 0))), (ti2, .inl (cI, 9, .inl (fun _ => 0))), (ti3, .inl (cI, 9, .inl (fun _ => 0))), (sh, .inr (6, [.ref sp, .ref sj, .ref sc, .ref sa, .int 0, .int 3000, .int 0, .int 0, .int 0, .int 0, .int 0, .int 0, .int 0, .int 0, .int 0])), (sp, .inr (0, [.int 0, .ref E, .int 0])), (sj, .inr (0, [.int 0, .ref E, .int 0])), (sc, .inr (0, [.int 0, .ref E, .int 0])), (sa, .inr (1, [.ref i1, .ref i2, .ref i3])), (i1, .inl (cI, 9, .inl (fun _ => 0))), (i2, .inl (cI, 9, .inl (fun _ => 0))), (i3, .inl (cI, 9, .inl (fun _ => 0)))] sz) (fun u : Unit => [(tsh, .inr (6, [.ref tsp, .ref tsj, .ref tsc, .ref tsa, .int 0, .int 3000, .int 0, .int 0, .int 0, .int 0, .int 0, .int 0, .int 0, .int 0, .int 0])), (tsp, .inr (0, [.int 0, .ref E, .int 0])), (tsj, .inr (0, [.int 0, .ref E, .int 0])), (tsc, .inr (0, [.int 0, .ref E, .int 0])), (tsa, .inr (1, [.ref ti1, .ref ti2, .ref ti3])), (ti1, .inl (cI, 9, .inl (fun _ => 0))), (ti2, .inl (cI, 9, .inl (fun _ => 0))), (ti3, .inl (cI, 9, .inl (fun _ => 0))), (sh, .inr (6, [.ref sp, .ref sj, .ref sc, .ref sa, .int 0, .int 3000, .int 0, .int 0, .int 0, .int 0, .int 0, .int 0, .int 0, .int 0, .int 0])), (sp, .inr (0, [.int 0, .ref E, .int 0])), (sj, .inr (0, [.int 0, .ref E, .int 0])), (sc, .inr (0, [.int 0, .ref E, .int 0])), (sa, .inr (1, [.ref i1, .ref i2, .ref i3])), (i1, .inl (cI, 9, .inl (fun _ => 0))), (i2, .inl (cI, 9, .inl (fun _ => 0))), (i3, .inl (cI, 9, .inl (fun _ => 0)))])) (va_A [(tsh, .inr (6, [.ref tsp, .ref tsj, .ref tsc, .ref tsa, .int nt, .int 3000, .int 0, .int 0, .int 0, .int 0, .int 0, .int 0, .int 0, .int 0, .int 0])), (tsp, .inr (0, [.int 0, .ref E, .int 0])), (tsj, .inr (0, [.int 0, .ref E, .int 0])), (tsc, .inr (0, [.int 0, .ref E, .int 0])), (tsa, .inr (1, [.ref ti1, .ref ti2, .ref ti3])), (ti1, .inl (cI, 9, .inl (fun _ => 0))), (ti2, .inl (cI, 9, .inl (fun _ => 0))), (ti3, .inl (cI, 9, .inl (fun _ => 0))), (sh, .inr (6, [.ref sp, .ref sj, .ref sc, .ref sa, .int 0, .int 3000, .int 0, .int 0, .int 0, .int 0, .int 0, .int 0, .int 0, .int 0, .int 0])), (sp, .inr (0, [.int 0, .ref E, .int 0])), (sj, .inr (0, [.int 0, .ref E, .int 0])), (sc, .inr (0, [.int 0, .ref E, .int 0])), (sa, .inr (1, [.ref i1, .ref i2, .ref i3])), (i1, .inl (cI, 9, .inl (fun _ => 0))), (i2, .inl (cI, 9, .inl (fun _ => 0))), (i3, .inl (cI, 9, .inl (fun _ => 0)))] sz)) 0 0 (va_A [(tsh, .inr (6, [.ref tsp, .ref tsj, .ref tsc, .ref tsa, .int nt, .int 3000, .int 0, .int 0, .int 0, .int 0, .int 0, .int 0, .int 0, .int 0, .int 0])), (tsp, .inr (0, [.int 0, .ref E, .int 0])), (tsj, .inr (0, [.int 0, .ref E, .int 0])), (tsc, .inr (0, [.int 0, .ref E, .int 0])), (tsa, .inr (1, [.ref ti1, .ref ti2, .ref ti3])), (ti1, .inl (cI, 9, .inl (fun _ => 0))), (ti2, .inl (cI, 9, .inl (fun _ => 0))), (ti3, .inl (cI, 9, .inl (fun _ => 0))), (sh, .inr (6, [.ref sp, .ref sj, .ref sc, .ref sa, .int 0, .int 3000, .int 0, .int 0, .int 0, .int 0, .int 0, .int 0, .int 0, .int 0, .int 0])), (sp, .inr (0, [.int 0, .ref E, .int 0])), (sj, .inr (0, [.int 0, .ref E, .int 0])), (sc, .inr (0, [.int 0, .ref E, .int 0])), (sa, .inr (1, [.ref i1, .ref i2, .ref i3])), (i1, .inl (cI, 9, .inl (fun _ => 0))), (i2, .inl (cI, 9, .inl (fun _ => 0))), (i3, .inl (cI, 9, .inl (fun _ => 0)))] sz) := by
  refine Met.ofW (cc := cX5_becomeLike) (maxL := 3) (ret := none) (by decide) rfl ?_
  intro p e s m args below meth c s₁ B hml hv
  obtain ⟨rfl, hsz, hP, hD0, hE⟩ := hv
  have hx := B.exec
  have hb := B.bytes
  have hr := B.returns
  have hts0 := atoms_spec (ws := (fW yX5_becomeLike cX5_becomeLike 3 none)) B.pre
  have hts : ∀ w ∈ fA, w.before _ s = true := fun w h => hts0 w (List.mem_cons_of_mem _ h)
  have hown : s.vm.findClass RX5 = some m.cls := findClass_of_methodNamed B.named
  have hlocks := B.notSynchronized
  subst hsz
  have hD := hD0.self (sz := s.heap.size)
  generalize hAe : va_A [(tsh, .inr (6, [.ref tsp, .ref tsj, .ref tsc, .ref tsa, .int nt, .int 3000, .int 0, .int 0, .int 0, .int 0, .int 0, .int 0, .int 0, .int 0, .int 0])), (tsp, .inr (0, [.int 0, .ref E, .int 0])), (tsj, .inr (0, [.int 0, .ref E, .int 0])), (tsc, .inr (0, [.int 0, .ref E, .int 0])), (tsa, .inr (1, [.ref ti1, .ref ti2, .ref ti3])), (ti1, .inl (cI, 9, .inl (fun _ => 0))), (ti2, .inl (cI, 9, .inl (fun _ => 0))), (ti3, .inl (cI, 9, .inl (fun _ => 0))), (sh, .inr (6, [.ref sp, .ref sj, .ref sc, .ref sa, .int 0, .int 3000, .int 0, .int 0, .int 0, .int 0, .int 0, .int 0, .int 0, .int 0, .int 0])), (sp, .inr (0, [.int 0, .ref E, .int 0])), (sj, .inr (0, [.int 0, .ref E, .int 0])), (sc, .inr (0, [.int 0, .ref E, .int 0])), (sa, .inr (1, [.ref i1, .ref i2, .ref i3])), (i1, .inl (cI, 9, .inl (fun _ => 0))), (i2, .inl (cI, 9, .inl (fun _ => 0))), (i3, .inl (cI, 9, .inl (fun _ => 0)))] s.heap.size = A at hD hE ⊢
  have hA : ∀ q : Nat, s.heap.size ≤ q → A q := fun q h => by rw [← hAe]; exact Or.inr h
  have hP : va_P D vwCl [(tsh, .inr (6, [.ref tsp, .ref tsj, .ref tsc, .ref tsa, .int nt, .int 3000, .int 0, .int 0, .int 0, .int 0, .int 0, .int 0, .int 0, .int 0, .int 0])), (tsp, .inr (0, [.int 0, .ref E, .int 0])), (tsj, .inr (0, [.int 0, .ref E, .int 0])), (tsc, .inr (0, [.int 0, .ref E, .int 0])), (tsa, .inr (1, [.ref ti1, .ref ti2, .ref ti3])), (ti1, .inl (cI, 9, .inl (fun _ => 0))), (ti2, .inl (cI, 9, .inl (fun _ => 0))), (ti3, .inl (cI, 9, .inl (fun _ => 0))), (sh, .inr (6, [.ref sp, .ref sj, .ref sc, .ref sa, .int 0, .int 3000, .int 0, .int 0, .int 0, .int 0, .int 0, .int 0, .int 0, .int 0, .int 0])), (sp, .inr (0, [.int 0, .ref E, .int 0])), (sj, .inr (0, [.int 0, .ref E, .int 0])), (sc, .inr (0, [.int 0, .ref E, .int 0])), (sa, .inr (1, [.ref i1, .ref i2, .ref i3])), (i1, .inl (cI, 9, .inl (fun _ => 0))), (i2, .inl (cI, 9, .inl (fun _ => 0))), (i3, .inl (cI, 9, .inl (fun _ => 0)))] s.heap := hP
  have hl := lv_entry ([.ref tsh, .ref sh]) (n := 3) (Nat.le_of_ble_eq_true rfl)
  rw [lg_entry_eq]
  generalize (lg_sl ([.ref tsh, .ref sh]) ++ List.replicate (3 - (lg_sl ([.ref tsh, .ref sh])).length) Slot.unset).toArray = ls at hl ⊢
  have hl : lv_has ls 3 [(0, .ref tsh), (1, .ref sh)] := hl
  refine f_start (A := A) hP (fun H hP hS => ?_)
  refine lv_iconst (v := 0) hx hb dX5_becomeLike_0 (by decide) ?_
  refine lv_istore_n (lv' := [(2, .int 0), (0, .ref tsh), (1, .ref sh)]) hx hb dX5_becomeLike_1 rfl hl (by decide) rfl (fun ls hl => ?_)
  refine lv_iload_n hx hb dX5_becomeLike_2 rfl (lv_at hl 0 rfl) ?_
  refine lv_aload_n hx hb dX5_becomeLike_3 rfl (lv_at hl 1 rfl) ?_
  refine va_get (D := D) (ci := 6) (v := .ref tsp) (C := RX5) (T := TX5) (N := 15) hx hb hts uX5 hown hE.1.1 hP 0 rfl rfl 0 (by decide) (hts _ q41) (fun _ h9 => h9) rfl dX5_becomeLike_4 ?_
  refine f_aft_i (wr := [(tsh, .inr (6, [.ref tsp, .ref tsj, .ref tsc, .ref tsa, .int nt, .int 3000, .int 0, .int 0, .int 0, .int 0, .int 0, .int 0, .int 0, .int 0, .int 0])), (tsj, .inr (0, [.int 0, .ref E, .int 0])), (tsc, .inr (0, [.int 0, .ref E, .int 0])), (tsa, .inr (1, [.ref ti1, .ref ti2, .ref ti3])), (ti1, .inl (cI, 9, .inl (fun _ => 0))), (ti2, .inl (cI, 9, .inl (fun _ => 0))), (ti3, .inl (cI, 9, .inl (fun _ => 0))), (sh, .inr (6, [.ref sp, .ref sj, .ref sc, .ref sa, .int 0, .int 3000, .int 0, .int 0, .int 0, .int 0, .int 0, .int 0, .int 0, .int 0, .int 0])), (sp, .inr (0, [.int 0, .ref E, .int 0])), (sj, .inr (0, [.int 0, .ref E, .int 0])), (sc, .inr (0, [.int 0, .ref E, .int 0])), (sa, .inr (1, [.ref i1, .ref i2, .ref i3])), (i1, .inl (cI, 9, .inl (fun _ => 0))), (i2, .inl (cI, 9, .inl (fun _ => 0))), (i3, .inl (cI, 9, .inl (fun _ => 0)))]) (f_runV (As := []) (rest := [.int 0]) hx hb hml hown hts (kJx4a65c_size_8abf5 l D cI cO cL E M tsp 0 (.ref E) 0 H.size) (fcwV 0 hts q230 q97 q98 q15 q99 rfl rfl (by decide +kernel) ⟨(Nat.le_of_ble_eq_true rfl), (Nat.le_of_ble_eq_true rfl)⟩) hE hP hD hS hA [1] rfl (by decide) (q0 := 1) (ci := 0) rfl rfl rfl rfl hl.1 rfl (Nat.le_of_ble_eq_true rfl) dX5_becomeLike_7 ⟨(Nat.le_of_ble_eq_true rfl), (Nat.le_of_ble_eq_true rfl)⟩) hP hD hS hA [1] [0, 2, 3, 4, 5, 6, 7, 8, 9, 10, 11, 12, 13, 14, 15] rfl rfl (by decide) (by decide) (fun r u H locs hr0 hP hD hS => ?_)
  subst hr0
  have hP : va_P D vwCl [(tsh, .inr (6, [.ref tsp, .ref tsj, .ref tsc, .ref tsa, .int nt, .int 3000, .int 0, .int 0, .int 0, .int 0, .int 0, .int 0, .int 0, .int 0, .int 0])), (tsj, .inr (0, [.int 0, .ref E, .int 0])), (tsc, .inr (0, [.int 0, .ref E, .int 0])), (tsa, .inr (1, [.ref ti1, .ref ti2, .ref ti3])), (ti1, .inl (cI, 9, .inl (fun _ => 0))), (ti2, .inl (cI, 9, .inl (fun _ => 0))), (ti3, .inl (cI, 9, .inl (fun _ => 0))), (sh, .inr (6, [.ref sp, .ref sj, .ref sc, .ref sa, .int 0, .int 3000, .int 0, .int 0, .int 0, .int 0, .int 0, .int 0, .int 0, .int 0, .int 0])), (sp, .inr (0, [.int 0, .ref E, .int 0])), (sj, .inr (0, [.int 0, .ref E, .int 0])), (sc, .inr (0, [.int 0, .ref E, .int 0])), (sa, .inr (1, [.ref i1, .ref i2, .ref i3])), (i1, .inl (cI, 9, .inl (fun _ => 0))), (i2, .inl (cI, 9, .inl (fun _ => 0))), (i3, .inl (cI, 9, .inl (fun _ => 0))), (tsp, .inr (0, [.int 0, .ref E, .int 0]))] H := hP
  have hD : va_D A [(tsh, .inr (6, [.ref tsp, .ref tsj, .ref tsc, .ref tsa, .int nt, .int 3000, .int 0, .int 0, .int 0, .int 0, .int 0, .int 0, .int 0, .int 0, .int 0])), (tsj, .inr (0, [.int 0, .ref E, .int 0])), (tsc, .inr (0, [.int 0, .ref E, .int 0])), (tsa, .inr (1, [.ref ti1, .ref ti2, .ref ti3])), (ti1, .inl (cI, 9, .inl (fun _ => 0))), (ti2, .inl (cI, 9, .inl (fun _ => 0))), (ti3, .inl (cI, 9, .inl (fun _ => 0))), (sh, .inr (6, [.ref sp, .ref sj, .ref sc, .ref sa, .int 0, .int 3000, .int 0, .int 0, .int 0, .int 0, .int 0, .int 0, .int 0, .int 0, .int 0])), (sp, .inr (0, [.int 0, .ref E, .int 0])), (sj, .inr (0, [.int 0, .ref E, .int 0])), (sc, .inr (0, [.int 0, .ref E, .int 0])), (sa, .inr (1, [.ref i1, .ref i2, .ref i3])), (i1, .inl (cI, 9, .inl (fun _ => 0))), (i2, .inl (cI, 9, .inl (fun _ => 0))), (i3, .inl (cI, 9, .inl (fun _ => 0))), (tsp, .inr (0, [.int 0, .ref E, .int 0]))] := hD
  refine lv_icmp_ge (tgt := 55) hx hb dX5_becomeLike_10 (by decide) (fun _ => ?_) (fun h => absurd (by decide) h)
  refine lv_iconst (v := 0) hx hb dX5_becomeLike_55 (by decide) ?_
  refine lv_istore_n (lv' := [(2, .int 0), (0, .ref tsh), (1, .ref sh)]) hx hb dX5_becomeLike_56 rfl hl (by decide) rfl (fun ls hl => ?_)
  refine lv_iload_n hx hb dX5_becomeLike_57 rfl (lv_at hl 0 rfl) ?_
  refine lv_aload_n hx hb dX5_becomeLike_58 rfl (lv_at hl 1 rfl) ?_
  refine va_get (D := D) (ci := 6) (v := .ref tsj) (C := RX5) (T := TX5) (N := 15) hx hb hts uX5 hown hE.1.1 hP 0 rfl rfl 1 (by decide) (hts _ q42) (fun _ h9 => h9) rfl dX5_becomeLike_59 ?_
  refine f_aft_i (wr := [(tsh, .inr (6, [.ref tsp, .ref tsj, .ref tsc, .ref tsa, .int nt, .int 3000, .int 0, .int 0, .int 0, .int 0, .int 0, .int 0, .int 0, .int 0, .int 0])), (tsc, .inr (0, [.int 0, .ref E, .int 0])), (tsa, .inr (1, [.ref ti1, .ref ti2, .ref ti3])), (ti1, .inl (cI, 9, .inl (fun _ => 0))), (ti2, .inl (cI, 9, .inl (fun _ => 0))), (ti3, .inl (cI, 9, .inl (fun _ => 0))), (sh, .inr (6, [.ref sp, .ref sj, .ref sc, .ref sa, .int 0, .int 3000, .int 0, .int 0, .int 0, .int 0, .int 0, .int 0, .int 0, .int 0, .int 0])), (sp, .inr (0, [.int 0, .ref E, .int 0])), (sj, .inr (0, [.int 0, .ref E, .int 0])), (sc, .inr (0, [.int 0, .ref E, .int 0])), (sa, .inr (1, [.ref i1, .ref i2, .ref i3])), (i1, .inl (cI, 9, .inl (fun _ => 0))), (i2, .inl (cI, 9, .inl (fun _ => 0))), (i3, .inl (cI, 9, .inl (fun _ => 0))), (tsp, .inr (0, [.int 0, .ref E, .int 0]))]) (f_runV (As := []) (rest := [.int 0]) hx hb hml hown hts (kJx4a65c_size_8abf5 l D cI cO cL E M tsj 0 (.ref E) 0 H.size) (fcwV 0 hts q230 q97 q98 q15 q99 rfl rfl (by decide +kernel) ⟨(Nat.le_of_ble_eq_true rfl), (Nat.le_of_ble_eq_true rfl)⟩) hE hP hD hS hA [1] rfl (by decide) (q0 := 1) (ci := 0) rfl rfl rfl rfl hl.1 rfl (Nat.le_of_ble_eq_true rfl) dX5_becomeLike_62 ⟨(Nat.le_of_ble_eq_true rfl), (Nat.le_of_ble_eq_true rfl)⟩) hP hD hS hA [1] [0, 2, 3, 4, 5, 6, 7, 8, 9, 10, 11, 12, 13, 14, 15] rfl rfl (by decide) (by decide) (fun r u H locs hr0 hP hD hS => ?_)
  subst hr0
  have hP : va_P D vwCl [(tsh, .inr (6, [.ref tsp, .ref tsj, .ref tsc, .ref tsa, .int nt, .int 3000, .int 0, .int 0, .int 0, .int 0, .int 0, .int 0, .int 0, .int 0, .int 0])), (tsc, .inr (0, [.int 0, .ref E, .int 0])), (tsa, .inr (1, [.ref ti1, .ref ti2, .ref ti3])), (ti1, .inl (cI, 9, .inl (fun _ => 0))), (ti2, .inl (cI, 9, .inl (fun _ => 0))), (ti3, .inl (cI, 9, .inl (fun _ => 0))), (sh, .inr (6, [.ref sp, .ref sj, .ref sc, .ref sa, .int 0, .int 3000, .int 0, .int 0, .int 0, .int 0, .int 0, .int 0, .int 0, .int 0, .int 0])), (sp, .inr (0, [.int 0, .ref E, .int 0])), (sj, .inr (0, [.int 0, .ref E, .int 0])), (sc, .inr (0, [.int 0, .ref E, .int 0])), (sa, .inr (1, [.ref i1, .ref i2, .ref i3])), (i1, .inl (cI, 9, .inl (fun _ => 0))), (i2, .inl (cI, 9, .inl (fun _ => 0))), (i3, .inl (cI, 9, .inl (fun _ => 0))), (tsp, .inr (0, [.int 0, .ref E, .int 0])), (tsj, .inr (0, [.int 0, .ref E, .int 0]))] H := hP
  have hD : va_D A [(tsh, .inr (6, [.ref tsp, .ref tsj, .ref tsc, .ref tsa, .int nt, .int 3000, .int 0, .int 0, .int 0, .int 0, .int 0, .int 0, .int 0, .int 0, .int 0])), (tsc, .inr (0, [.int 0, .ref E, .int 0])), (tsa, .inr (1, [.ref ti1, .ref ti2, .ref ti3])), (ti1, .inl (cI, 9, .inl (fun _ => 0))), (ti2, .inl (cI, 9, .inl (fun _ => 0))), (ti3, .inl (cI, 9, .inl (fun _ => 0))), (sh, .inr (6, [.ref sp, .ref sj, .ref sc, .ref sa, .int 0, .int 3000, .int 0, .int 0, .int 0, .int 0, .int 0, .int 0, .int 0, .int 0, .int 0])), (sp, .inr (0, [.int 0, .ref E, .int 0])), (sj, .inr (0, [.int 0, .ref E, .int 0])), (sc, .inr (0, [.int 0, .ref E, .int 0])), (sa, .inr (1, [.ref i1, .ref i2, .ref i3])), (i1, .inl (cI, 9, .inl (fun _ => 0))), (i2, .inl (cI, 9, .inl (fun _ => 0))), (i3, .inl (cI, 9, .inl (fun _ => 0))), (tsp, .inr (0, [.int 0, .ref E, .int 0])), (tsj, .inr (0, [.int 0, .ref E, .int 0]))] := hD
  refine lv_icmp_ge (tgt := 110) hx hb dX5_becomeLike_65 (by decide) (fun _ => ?_) (fun h => absurd (by decide) h)
  refine lv_aload_n hx hb dX5_becomeLike_110 rfl (lv_at hl 1 rfl) ?_
  refine va_get (D := D) (ci := 6) (v := .ref tsa) (C := RX5) (T := TX5) (N := 15) hx hb hts uX5 hown hE.1.1 hP 0 rfl rfl 3 (by decide) (hts _ q47) (fun _ h9 => h9) rfl dX5_becomeLike_111 ?_
  refine lv_aload_n hx hb dX5_becomeLike_114 rfl (lv_at hl 2 rfl) ?_
  refine va_get (D := D) (ci := 6) (v := .ref sa) (C := RX5) (T := TX5) (N := 15) hx hb hts uX5 hown hE.1.1 hP 6 rfl rfl 3 (by decide) (hts _ q47) (fun _ h9 => h9) rfl dX5_becomeLike_115 ?_
  refine f_aft_v (wr := [(tsh, .inr (6, [.ref tsp, .ref tsj, .ref tsc, .ref tsa, .int nt, .int 3000, .int 0, .int 0, .int 0, .int 0, .int 0, .int 0, .int 0, .int 0, .int 0])), (tsc, .inr (0, [.int 0, .ref E, .int 0])), (sh, .inr (6, [.ref sp, .ref sj, .ref sc, .ref sa, .int 0, .int 3000, .int 0, .int 0, .int 0, .int 0, .int 0, .int 0, .int 0, .int 0, .int 0])), (sp, .inr (0, [.int 0, .ref E, .int 0])), (sj, .inr (0, [.int 0, .ref E, .int 0])), (sc, .inr (0, [.int 0, .ref E, .int 0])), (tsp, .inr (0, [.int 0, .ref E, .int 0])), (tsj, .inr (0, [.int 0, .ref E, .int 0]))]) (f_runV (As := [.ref sa]) (rest := []) hx hb hml hown hts (kX0_becomeLike l D cI cO cL E M tsa ti1 ti2 ti3 sa i1 i2 i3 H.size) (fcwV 1 hts q989 q990 q991 q46 q992 rfl rfl (by decide +kernel) ⟨(Nat.le_of_ble_eq_true rfl), (Nat.le_of_ble_eq_true rfl)⟩) hE hP hD hS hA [2, 3, 4, 5, 10, 11, 12, 13] rfl (by decide) (q0 := 2) (ci := 1) rfl rfl rfl rfl hl.1 rfl (Nat.le_of_ble_eq_true rfl) dX5_becomeLike_118 ⟨(Nat.le_of_ble_eq_true rfl), (Nat.le_of_ble_eq_true rfl)⟩) hP hD hS hA [2, 3, 4, 5, 10, 11, 12, 13] [0, 1, 6, 7, 8, 9, 14, 15] rfl rfl (by decide) (by decide) (fun u H locs hr0 hP hD hS => ?_)
  have hP : va_P D vwCl [(tsh, .inr (6, [.ref tsp, .ref tsj, .ref tsc, .ref tsa, .int nt, .int 3000, .int 0, .int 0, .int 0, .int 0, .int 0, .int 0, .int 0, .int 0, .int 0])), (tsc, .inr (0, [.int 0, .ref E, .int 0])), (sh, .inr (6, [.ref sp, .ref sj, .ref sc, .ref sa, .int 0, .int 3000, .int 0, .int 0, .int 0, .int 0, .int 0, .int 0, .int 0, .int 0, .int 0])), (sp, .inr (0, [.int 0, .ref E, .int 0])), (sj, .inr (0, [.int 0, .ref E, .int 0])), (sc, .inr (0, [.int 0, .ref E, .int 0])), (tsp, .inr (0, [.int 0, .ref E, .int 0])), (tsj, .inr (0, [.int 0, .ref E, .int 0])), (tsa, .inr (1, [.ref ti1, .ref ti2, .ref ti3])), (ti1, .inl (cI, 9, .inl (fun _ => 0))), (ti2, .inl (cI, 9, .inl (fun _ => 0))), (ti3, .inl (cI, 9, .inl (fun _ => 0))), (sa, .inr (1, [.ref i1, .ref i2, .ref i3])), (i1, .inl (cI, 9, .inl (fun _ => 0))), (i2, .inl (cI, 9, .inl (fun _ => 0))), (i3, .inl (cI, 9, .inl (fun _ => 0)))] H := hP
  have hD : va_D A [(tsh, .inr (6, [.ref tsp, .ref tsj, .ref tsc, .ref tsa, .int nt, .int 3000, .int 0, .int 0, .int 0, .int 0, .int 0, .int 0, .int 0, .int 0, .int 0])), (tsc, .inr (0, [.int 0, .ref E, .int 0])), (sh, .inr (6, [.ref sp, .ref sj, .ref sc, .ref sa, .int 0, .int 3000, .int 0, .int 0, .int 0, .int 0, .int 0, .int 0, .int 0, .int 0, .int 0])), (sp, .inr (0, [.int 0, .ref E, .int 0])), (sj, .inr (0, [.int 0, .ref E, .int 0])), (sc, .inr (0, [.int 0, .ref E, .int 0])), (tsp, .inr (0, [.int 0, .ref E, .int 0])), (tsj, .inr (0, [.int 0, .ref E, .int 0])), (tsa, .inr (1, [.ref ti1, .ref ti2, .ref ti3])), (ti1, .inl (cI, 9, .inl (fun _ => 0))), (ti2, .inl (cI, 9, .inl (fun _ => 0))), (ti3, .inl (cI, 9, .inl (fun _ => 0))), (sa, .inr (1, [.ref i1, .ref i2, .ref i3])), (i1, .inl (cI, 9, .inl (fun _ => 0))), (i2, .inl (cI, 9, .inl (fun _ => 0))), (i3, .inl (cI, 9, .inl (fun _ => 0)))] := hD
  refine lv_aload_n hx hb dX5_becomeLike_121 rfl (lv_at hl 1 rfl) ?_
  refine lv_aload_n hx hb dX5_becomeLike_122 rfl (lv_at hl 2 rfl) ?_
  refine va_get (D := D) (ci := 6) (v := .int 0) (C := RX5) (T := TX5) (N := 15) hx hb hts uX5 hown hE.1.1 hP 2 rfl rfl 4 (by decide) (hts _ q528) (fun _ h9 => h9) rfl dX5_becomeLike_123 ?_
  refine va_put (D := D) (ci := 6) (v := .int 0) (ty := .int) (C := RX5) (T := TX5) (N := 15) hx hb hts uX5 tyX5 tyX5_ok nmX5 hown hE.1.1 hP hD hS 0 rfl rfl 4 (by decide) (hts _ q528) (fun _ h9 => h9) rfl (by decide +kernel) rfl rfl (Nat.le_of_ble_eq_true rfl) dX5_becomeLike_126 (fun H locs hP hD hS => ?_)
  have hP : va_P D vwCl [(tsh, .inr (6, [.ref tsp, .ref tsj, .ref tsc, .ref tsa, .int 0, .int 3000, .int 0, .int 0, .int 0, .int 0, .int 0, .int 0, .int 0, .int 0, .int 0])), (tsc, .inr (0, [.int 0, .ref E, .int 0])), (sh, .inr (6, [.ref sp, .ref sj, .ref sc, .ref sa, .int 0, .int 3000, .int 0, .int 0, .int 0, .int 0, .int 0, .int 0, .int 0, .int 0, .int 0])), (sp, .inr (0, [.int 0, .ref E, .int 0])), (sj, .inr (0, [.int 0, .ref E, .int 0])), (sc, .inr (0, [.int 0, .ref E, .int 0])), (tsp, .inr (0, [.int 0, .ref E, .int 0])), (tsj, .inr (0, [.int 0, .ref E, .int 0])), (tsa, .inr (1, [.ref ti1, .ref ti2, .ref ti3])), (ti1, .inl (cI, 9, .inl (fun _ => 0))), (ti2, .inl (cI, 9, .inl (fun _ => 0))), (ti3, .inl (cI, 9, .inl (fun _ => 0))), (sa, .inr (1, [.ref i1, .ref i2, .ref i3])), (i1, .inl (cI, 9, .inl (fun _ => 0))), (i2, .inl (cI, 9, .inl (fun _ => 0))), (i3, .inl (cI, 9, .inl (fun _ => 0)))] H := hP
  have hD : va_D A [(tsh, .inr (6, [.ref tsp, .ref tsj, .ref tsc, .ref tsa, .int 0, .int 3000, .int 0, .int 0, .int 0, .int 0, .int 0, .int 0, .int 0, .int 0, .int 0])), (tsc, .inr (0, [.int 0, .ref E, .int 0])), (sh, .inr (6, [.ref sp, .ref sj, .ref sc, .ref sa, .int 0, .int 3000, .int 0, .int 0, .int 0, .int 0, .int 0, .int 0, .int 0, .int 0, .int 0])), (sp, .inr (0, [.int 0, .ref E, .int 0])), (sj, .inr (0, [.int 0, .ref E, .int 0])), (sc, .inr (0, [.int 0, .ref E, .int 0])), (tsp, .inr (0, [.int 0, .ref E, .int 0])), (tsj, .inr (0, [.int 0, .ref E, .int 0])), (tsa, .inr (1, [.ref ti1, .ref ti2, .ref ti3])), (ti1, .inl (cI, 9, .inl (fun _ => 0))), (ti2, .inl (cI, 9, .inl (fun _ => 0))), (ti3, .inl (cI, 9, .inl (fun _ => 0))), (sa, .inr (1, [.ref i1, .ref i2, .ref i3])), (i1, .inl (cI, 9, .inl (fun _ => 0))), (i2, .inl (cI, 9, .inl (fun _ => 0))), (i3, .inl (cI, 9, .inl (fun _ => 0)))] := hD
  refine lv_aload_n hx hb dX5_becomeLike_129 rfl (lv_at hl 1 rfl) ?_
  refine lv_aload_n hx hb dX5_becomeLike_130 rfl (lv_at hl 2 rfl) ?_
  refine va_get (D := D) (ci := 6) (v := .int 3000) (C := RX5) (T := TX5) (N := 15) hx hb hts uX5 hown hE.1.1 hP 2 rfl rfl 5 (by decide) (hts _ q48) (fun _ h9 => h9) rfl dX5_becomeLike_131 ?_
  refine va_put (D := D) (ci := 6) (v := .int 3000) (ty := .int) (C := RX5) (T := TX5) (N := 15) hx hb hts uX5 tyX5 tyX5_ok nmX5 hown hE.1.1 hP hD hS 0 rfl rfl 5 (by decide) (hts _ q48) (fun _ h9 => h9) rfl (by decide +kernel) rfl rfl (Nat.le_of_ble_eq_true rfl) dX5_becomeLike_134 (fun H locs hP hD hS => ?_)
  have hP : va_P D vwCl [(tsh, .inr (6, [.ref tsp, .ref tsj, .ref tsc, .ref tsa, .int 0, .int 3000, .int 0, .int 0, .int 0, .int 0, .int 0, .int 0, .int 0, .int 0, .int 0])), (tsc, .inr (0, [.int 0, .ref E, .int 0])), (sh, .inr (6, [.ref sp, .ref sj, .ref sc, .ref sa, .int 0, .int 3000, .int 0, .int 0, .int 0, .int 0, .int 0, .int 0, .int 0, .int 0, .int 0])), (sp, .inr (0, [.int 0, .ref E, .int 0])), (sj, .inr (0, [.int 0, .ref E, .int 0])), (sc, .inr (0, [.int 0, .ref E, .int 0])), (tsp, .inr (0, [.int 0, .ref E, .int 0])), (tsj, .inr (0, [.int 0, .ref E, .int 0])), (tsa, .inr (1, [.ref ti1, .ref ti2, .ref ti3])), (ti1, .inl (cI, 9, .inl (fun _ => 0))), (ti2, .inl (cI, 9, .inl (fun _ => 0))), (ti3, .inl (cI, 9, .inl (fun _ => 0))), (sa, .inr (1, [.ref i1, .ref i2, .ref i3])), (i1, .inl (cI, 9, .inl (fun _ => 0))), (i2, .inl (cI, 9, .inl (fun _ => 0))), (i3, .inl (cI, 9, .inl (fun _ => 0)))] H := hP
  have hD : va_D A [(tsh, .inr (6, [.ref tsp, .ref tsj, .ref tsc, .ref tsa, .int 0, .int 3000, .int 0, .int 0, .int 0, .int 0, .int 0, .int 0, .int 0, .int 0, .int 0])), (tsc, .inr (0, [.int 0, .ref E, .int 0])), (sh, .inr (6, [.ref sp, .ref sj, .ref sc, .ref sa, .int 0, .int 3000, .int 0, .int 0, .int 0, .int 0, .int 0, .int 0, .int 0, .int 0, .int 0])), (sp, .inr (0, [.int 0, .ref E, .int 0])), (sj, .inr (0, [.int 0, .ref E, .int 0])), (sc, .inr (0, [.int 0, .ref E, .int 0])), (tsp, .inr (0, [.int 0, .ref E, .int 0])), (tsj, .inr (0, [.int 0, .ref E, .int 0])), (tsa, .inr (1, [.ref ti1, .ref ti2, .ref ti3])), (ti1, .inl (cI, 9, .inl (fun _ => 0))), (ti2, .inl (cI, 9, .inl (fun _ => 0))), (ti3, .inl (cI, 9, .inl (fun _ => 0))), (sa, .inr (1, [.ref i1, .ref i2, .ref i3])), (i1, .inl (cI, 9, .inl (fun _ => 0))), (i2, .inl (cI, 9, .inl (fun _ => 0))), (i3, .inl (cI, 9, .inl (fun _ => 0)))] := hD
  refine lv_aload_n hx hb dX5_becomeLike_137 rfl (lv_at hl 1 rfl) ?_
  refine lv_aload_n hx hb dX5_becomeLike_138 rfl (lv_at hl 2 rfl) ?_
  refine va_get (D := D) (ci := 6) (v := .int 0) (C := RX5) (T := TX5) (N := 15) hx hb hts uX5 hown hE.1.1 hP 2 rfl rfl 6 (by decide) (hts _ q461) (fun _ h9 => h9) rfl dX5_becomeLike_139 ?_
  refine va_put (D := D) (ci := 6) (v := .int 0) (ty := .int) (C := RX5) (T := TX5) (N := 15) hx hb hts uX5 tyX5 tyX5_ok nmX5 hown hE.1.1 hP hD hS 0 rfl rfl 6 (by decide) (hts _ q461) (fun _ h9 => h9) rfl (by decide +kernel) rfl rfl (Nat.le_of_ble_eq_true rfl) dX5_becomeLike_142 (fun H locs hP hD hS => ?_)
  have hP : va_P D vwCl [(tsh, .inr (6, [.ref tsp, .ref tsj, .ref tsc, .ref tsa, .int 0, .int 3000, .int 0, .int 0, .int 0, .int 0, .int 0, .int 0, .int 0, .int 0, .int 0])), (tsc, .inr (0, [.int 0, .ref E, .int 0])), (sh, .inr (6, [.ref sp, .ref sj, .ref sc, .ref sa, .int 0, .int 3000, .int 0, .int 0, .int 0, .int 0, .int 0, .int 0, .int 0, .int 0, .int 0])), (sp, .inr (0, [.int 0, .ref E, .int 0])), (sj, .inr (0, [.int 0, .ref E, .int 0])), (sc, .inr (0, [.int 0, .ref E, .int 0])), (tsp, .inr (0, [.int 0, .ref E, .int 0])), (tsj, .inr (0, [.int 0, .ref E, .int 0])), (tsa, .inr (1, [.ref ti1, .ref ti2, .ref ti3])), (ti1, .inl (cI, 9, .inl (fun _ => 0))), (ti2, .inl (cI, 9, .inl (fun _ => 0))), (ti3, .inl (cI, 9, .inl (fun _ => 0))), (sa, .inr (1, [.ref i1, .ref i2, .ref i3])), (i1, .inl (cI, 9, .inl (fun _ => 0))), (i2, .inl (cI, 9, .inl (fun _ => 0))), (i3, .inl (cI, 9, .inl (fun _ => 0)))] H := hP
  have hD : va_D A [(tsh, .inr (6, [.ref tsp, .ref tsj, .ref tsc, .ref tsa, .int 0, .int 3000, .int 0, .int 0, .int 0, .int 0, .int 0, .int 0, .int 0, .int 0, .int 0])), (tsc, .inr (0, [.int 0, .ref E, .int 0])), (sh, .inr (6, [.ref sp, .ref sj, .ref sc, .ref sa, .int 0, .int 3000, .int 0, .int 0, .int 0, .int 0, .int 0, .int 0, .int 0, .int 0, .int 0])), (sp, .inr (0, [.int 0, .ref E, .int 0])), (sj, .inr (0, [.int 0, .ref E, .int 0])), (sc, .inr (0, [.int 0, .ref E, .int 0])), (tsp, .inr (0, [.int 0, .ref E, .int 0])), (tsj, .inr (0, [.int 0, .ref E, .int 0])), (tsa, .inr (1, [.ref ti1, .ref ti2, .ref ti3])), (ti1, .inl (cI, 9, .inl (fun _ => 0))), (ti2, .inl (cI, 9, .inl (fun _ => 0))), (ti3, .inl (cI, 9, .inl (fun _ => 0))), (sa, .inr (1, [.ref i1, .ref i2, .ref i3])), (i1, .inl (cI, 9, .inl (fun _ => 0))), (i2, .inl (cI, 9, .inl (fun _ => 0))), (i3, .inl (cI, 9, .inl (fun _ => 0)))] := hD
  refine lv_aload_n hx hb dX5_becomeLike_145 rfl (lv_at hl 1 rfl) ?_
  refine lv_aload_n hx hb dX5_becomeLike_146 rfl (lv_at hl 2 rfl) ?_
  refine va_get (D := D) (ci := 6) (v := .int 0) (C := RX5) (T := TX5) (N := 15) hx hb hts uX5 hown hE.1.1 hP 2 rfl rfl 7 (by decide) (hts _ q585) (fun _ h9 => h9) rfl dX5_becomeLike_147 ?_
  refine va_put (D := D) (ci := 6) (v := .int 0) (ty := .int) (C := RX5) (T := TX5) (N := 15) hx hb hts uX5 tyX5 tyX5_ok nmX5 hown hE.1.1 hP hD hS 0 rfl rfl 7 (by decide) (hts _ q585) (fun _ h9 => h9) rfl (by decide +kernel) rfl rfl (Nat.le_of_ble_eq_true rfl) dX5_becomeLike_150 (fun H locs hP hD hS => ?_)
  have hP : va_P D vwCl [(tsh, .inr (6, [.ref tsp, .ref tsj, .ref tsc, .ref tsa, .int 0, .int 3000, .int 0, .int 0, .int 0, .int 0, .int 0, .int 0, .int 0, .int 0, .int 0])), (tsc, .inr (0, [.int 0, .ref E, .int 0])), (sh, .inr (6, [.ref sp, .ref sj, .ref sc, .ref sa, .int 0, .int 3000, .int 0, .int 0, .int 0, .int 0, .int 0, .int 0, .int 0, .int 0, .int 0])), (sp, .inr (0, [.int 0, .ref E, .int 0])), (sj, .inr (0, [.int 0, .ref E, .int 0])), (sc, .inr (0, [.int 0, .ref E, .int 0])), (tsp, .inr (0, [.int 0, .ref E, .int 0])), (tsj, .inr (0, [.int 0, .ref E, .int 0])), (tsa, .inr (1, [.ref ti1, .ref ti2, .ref ti3])), (ti1, .inl (cI, 9, .inl (fun _ => 0))), (ti2, .inl (cI, 9, .inl (fun _ => 0))), (ti3, .inl (cI, 9, .inl (fun _ => 0))), (sa, .inr (1, [.ref i1, .ref i2, .ref i3])), (i1, .inl (cI, 9, .inl (fun _ => 0))), (i2, .inl (cI, 9, .inl (fun _ => 0))), (i3, .inl (cI, 9, .inl (fun _ => 0)))] H := hP
  have hD : va_D A [(tsh, .inr (6, [.ref tsp, .ref tsj, .ref tsc, .ref tsa, .int 0, .int 3000, .int 0, .int 0, .int 0, .int 0, .int 0, .int 0, .int 0, .int 0, .int 0])), (tsc, .inr (0, [.int 0, .ref E, .int 0])), (sh, .inr (6, [.ref sp, .ref sj, .ref sc, .ref sa, .int 0, .int 3000, .int 0, .int 0, .int 0, .int 0, .int 0, .int 0, .int 0, .int 0, .int 0])), (sp, .inr (0, [.int 0, .ref E, .int 0])), (sj, .inr (0, [.int 0, .ref E, .int 0])), (sc, .inr (0, [.int 0, .ref E, .int 0])), (tsp, .inr (0, [.int 0, .ref E, .int 0])), (tsj, .inr (0, [.int 0, .ref E, .int 0])), (tsa, .inr (1, [.ref ti1, .ref ti2, .ref ti3])), (ti1, .inl (cI, 9, .inl (fun _ => 0))), (ti2, .inl (cI, 9, .inl (fun _ => 0))), (ti3, .inl (cI, 9, .inl (fun _ => 0))), (sa, .inr (1, [.ref i1, .ref i2, .ref i3])), (i1, .inl (cI, 9, .inl (fun _ => 0))), (i2, .inl (cI, 9, .inl (fun _ => 0))), (i3, .inl (cI, 9, .inl (fun _ => 0)))] := hD
  refine lv_aload_n hx hb dX5_becomeLike_153 rfl (lv_at hl 1 rfl) ?_
  refine lv_aload_n hx hb dX5_becomeLike_154 rfl (lv_at hl 2 rfl) ?_
  refine va_get (D := D) (ci := 6) (v := .int 0) (C := RX5) (T := TX5) (N := 15) hx hb hts uX5 hown hE.1.1 hP 2 rfl rfl 8 (by decide) (hts _ q584) (fun _ h9 => h9) rfl dX5_becomeLike_155 ?_
  refine va_put (D := D) (ci := 6) (v := .int 0) (ty := .int) (C := RX5) (T := TX5) (N := 15) hx hb hts uX5 tyX5 tyX5_ok nmX5 hown hE.1.1 hP hD hS 0 rfl rfl 8 (by decide) (hts _ q584) (fun _ h9 => h9) rfl (by decide +kernel) rfl rfl (Nat.le_of_ble_eq_true rfl) dX5_becomeLike_158 (fun H locs hP hD hS => ?_)
  have hP : va_P D vwCl [(tsh, .inr (6, [.ref tsp, .ref tsj, .ref tsc, .ref tsa, .int 0, .int 3000, .int 0, .int 0, .int 0, .int 0, .int 0, .int 0, .int 0, .int 0, .int 0])), (tsc, .inr (0, [.int 0, .ref E, .int 0])), (sh, .inr (6, [.ref sp, .ref sj, .ref sc, .ref sa, .int 0, .int 3000, .int 0, .int 0, .int 0, .int 0, .int 0, .int 0, .int 0, .int 0, .int 0])), (sp, .inr (0, [.int 0, .ref E, .int 0])), (sj, .inr (0, [.int 0, .ref E, .int 0])), (sc, .inr (0, [.int 0, .ref E, .int 0])), (tsp, .inr (0, [.int 0, .ref E, .int 0])), (tsj, .inr (0, [.int 0, .ref E, .int 0])), (tsa, .inr (1, [.ref ti1, .ref ti2, .ref ti3])), (ti1, .inl (cI, 9, .inl (fun _ => 0))), (ti2, .inl (cI, 9, .inl (fun _ => 0))), (ti3, .inl (cI, 9, .inl (fun _ => 0))), (sa, .inr (1, [.ref i1, .ref i2, .ref i3])), (i1, .inl (cI, 9, .inl (fun _ => 0))), (i2, .inl (cI, 9, .inl (fun _ => 0))), (i3, .inl (cI, 9, .inl (fun _ => 0)))] H := hP
  have hD : va_D A [(tsh, .inr (6, [.ref tsp, .ref tsj, .ref tsc, .ref tsa, .int 0, .int 3000, .int 0, .int 0, .int 0, .int 0, .int 0, .int 0, .int 0, .int 0, .int 0])), (tsc, .inr (0, [.int 0, .ref E, .int 0])), (sh, .inr (6, [.ref sp, .ref sj, .ref sc, .ref sa, .int 0, .int 3000, .int 0, .int 0, .int 0, .int 0, .int 0, .int 0, .int 0, .int 0, .int 0])), (sp, .inr (0, [.int 0, .ref E, .int 0])), (sj, .inr (0, [.int 0, .ref E, .int 0])), (sc, .inr (0, [.int 0, .ref E, .int 0])), (tsp, .inr (0, [.int 0, .ref E, .int 0])), (tsj, .inr (0, [.int 0, .ref E, .int 0])), (tsa, .inr (1, [.ref ti1, .ref ti2, .ref ti3])), (ti1, .inl (cI, 9, .inl (fun _ => 0))), (ti2, .inl (cI, 9, .inl (fun _ => 0))), (ti3, .inl (cI, 9, .inl (fun _ => 0))), (sa, .inr (1, [.ref i1, .ref i2, .ref i3])), (i1, .inl (cI, 9, .inl (fun _ => 0))), (i2, .inl (cI, 9, .inl (fun _ => 0))), (i3, .inl (cI, 9, .inl (fun _ => 0)))] := hD
  refine lv_aload_n hx hb dX5_becomeLike_161 rfl (lv_at hl 1 rfl) ?_
  refine lv_aload_n hx hb dX5_becomeLike_162 rfl (lv_at hl 2 rfl) ?_
  refine va_get (D := D) (ci := 6) (v := .int 0) (C := RX5) (T := TX5) (N := 15) hx hb hts uX5 hown hE.1.1 hP 2 rfl rfl 9 (by decide) (hts _ q659) (fun _ h9 => h9) rfl dX5_becomeLike_163 ?_
  refine va_put (D := D) (ci := 6) (v := .int 0) (ty := .int) (C := RX5) (T := TX5) (N := 15) hx hb hts uX5 tyX5 tyX5_ok nmX5 hown hE.1.1 hP hD hS 0 rfl rfl 9 (by decide) (hts _ q659) (fun _ h9 => h9) rfl (by decide +kernel) rfl rfl (Nat.le_of_ble_eq_true rfl) dX5_becomeLike_166 (fun H locs hP hD hS => ?_)
  have hP : va_P D vwCl [(tsh, .inr (6, [.ref tsp, .ref tsj, .ref tsc, .ref tsa, .int 0, .int 3000, .int 0, .int 0, .int 0, .int 0, .int 0, .int 0, .int 0, .int 0, .int 0])), (tsc, .inr (0, [.int 0, .ref E, .int 0])), (sh, .inr (6, [.ref sp, .ref sj, .ref sc, .ref sa, .int 0, .int 3000, .int 0, .int 0, .int 0, .int 0, .int 0, .int 0, .int 0, .int 0, .int 0])), (sp, .inr (0, [.int 0, .ref E, .int 0])), (sj, .inr (0, [.int 0, .ref E, .int 0])), (sc, .inr (0, [.int 0, .ref E, .int 0])), (tsp, .inr (0, [.int 0, .ref E, .int 0])), (tsj, .inr (0, [.int 0, .ref E, .int 0])), (tsa, .inr (1, [.ref ti1, .ref ti2, .ref ti3])), (ti1, .inl (cI, 9, .inl (fun _ => 0))), (ti2, .inl (cI, 9, .inl (fun _ => 0))), (ti3, .inl (cI, 9, .inl (fun _ => 0))), (sa, .inr (1, [.ref i1, .ref i2, .ref i3])), (i1, .inl (cI, 9, .inl (fun _ => 0))), (i2, .inl (cI, 9, .inl (fun _ => 0))), (i3, .inl (cI, 9, .inl (fun _ => 0)))] H := hP
  have hD : va_D A [(tsh, .inr (6, [.ref tsp, .ref tsj, .ref tsc, .ref tsa, .int 0, .int 3000, .int 0, .int 0, .int 0, .int 0, .int 0, .int 0, .int 0, .int 0, .int 0])), (tsc, .inr (0, [.int 0, .ref E, .int 0])), (sh, .inr (6, [.ref sp, .ref sj, .ref sc, .ref sa, .int 0, .int 3000, .int 0, .int 0, .int 0, .int 0, .int 0, .int 0, .int 0, .int 0, .int 0])), (sp, .inr (0, [.int 0, .ref E, .int 0])), (sj, .inr (0, [.int 0, .ref E, .int 0])), (sc, .inr (0, [.int 0, .ref E, .int 0])), (tsp, .inr (0, [.int 0, .ref E, .int 0])), (tsj, .inr (0, [.int 0, .ref E, .int 0])), (tsa, .inr (1, [.ref ti1, .ref ti2, .ref ti3])), (ti1, .inl (cI, 9, .inl (fun _ => 0))), (ti2, .inl (cI, 9, .inl (fun _ => 0))), (ti3, .inl (cI, 9, .inl (fun _ => 0))), (sa, .inr (1, [.ref i1, .ref i2, .ref i3])), (i1, .inl (cI, 9, .inl (fun _ => 0))), (i2, .inl (cI, 9, .inl (fun _ => 0))), (i3, .inl (cI, 9, .inl (fun _ => 0)))] := hD
  refine lv_aload_n hx hb dX5_becomeLike_169 rfl (lv_at hl 1 rfl) ?_
  refine lv_aload_n hx hb dX5_becomeLike_170 rfl (lv_at hl 2 rfl) ?_
  refine va_get (D := D) (ci := 6) (v := .int 0) (C := RX5) (T := TX5) (N := 15) hx hb hts uX5 hown hE.1.1 hP 2 rfl rfl 10 (by decide) (hts _ q684) (fun _ h9 => h9) rfl dX5_becomeLike_171 ?_
  refine va_put (D := D) (ci := 6) (v := .int 0) (ty := .int) (C := RX5) (T := TX5) (N := 15) hx hb hts uX5 tyX5 tyX5_ok nmX5 hown hE.1.1 hP hD hS 0 rfl rfl 10 (by decide) (hts _ q684) (fun _ h9 => h9) rfl (by decide +kernel) rfl rfl (Nat.le_of_ble_eq_true rfl) dX5_becomeLike_174 (fun H locs hP hD hS => ?_)
  have hP : va_P D vwCl [(tsh, .inr (6, [.ref tsp, .ref tsj, .ref tsc, .ref tsa, .int 0, .int 3000, .int 0, .int 0, .int 0, .int 0, .int 0, .int 0, .int 0, .int 0, .int 0])), (tsc, .inr (0, [.int 0, .ref E, .int 0])), (sh, .inr (6, [.ref sp, .ref sj, .ref sc, .ref sa, .int 0, .int 3000, .int 0, .int 0, .int 0, .int 0, .int 0, .int 0, .int 0, .int 0, .int 0])), (sp, .inr (0, [.int 0, .ref E, .int 0])), (sj, .inr (0, [.int 0, .ref E, .int 0])), (sc, .inr (0, [.int 0, .ref E, .int 0])), (tsp, .inr (0, [.int 0, .ref E, .int 0])), (tsj, .inr (0, [.int 0, .ref E, .int 0])), (tsa, .inr (1, [.ref ti1, .ref ti2, .ref ti3])), (ti1, .inl (cI, 9, .inl (fun _ => 0))), (ti2, .inl (cI, 9, .inl (fun _ => 0))), (ti3, .inl (cI, 9, .inl (fun _ => 0))), (sa, .inr (1, [.ref i1, .ref i2, .ref i3])), (i1, .inl (cI, 9, .inl (fun _ => 0))), (i2, .inl (cI, 9, .inl (fun _ => 0))), (i3, .inl (cI, 9, .inl (fun _ => 0)))] H := hP
  have hD : va_D A [(tsh, .inr (6, [.ref tsp, .ref tsj, .ref tsc, .ref tsa, .int 0, .int 3000, .int 0, .int 0, .int 0, .int 0, .int 0, .int 0, .int 0, .int 0, .int 0])), (tsc, .inr (0, [.int 0, .ref E, .int 0])), (sh, .inr (6, [.ref sp, .ref sj, .ref sc, .ref sa, .int 0, .int 3000, .int 0, .int 0, .int 0, .int 0, .int 0, .int 0, .int 0, .int 0, .int 0])), (sp, .inr (0, [.int 0, .ref E, .int 0])), (sj, .inr (0, [.int 0, .ref E, .int 0])), (sc, .inr (0, [.int 0, .ref E, .int 0])), (tsp, .inr (0, [.int 0, .ref E, .int 0])), (tsj, .inr (0, [.int 0, .ref E, .int 0])), (tsa, .inr (1, [.ref ti1, .ref ti2, .ref ti3])), (ti1, .inl (cI, 9, .inl (fun _ => 0))), (ti2, .inl (cI, 9, .inl (fun _ => 0))), (ti3, .inl (cI, 9, .inl (fun _ => 0))), (sa, .inr (1, [.ref i1, .ref i2, .ref i3])), (i1, .inl (cI, 9, .inl (fun _ => 0))), (i2, .inl (cI, 9, .inl (fun _ => 0))), (i3, .inl (cI, 9, .inl (fun _ => 0)))] := hD
  refine lv_aload_n hx hb dX5_becomeLike_177 rfl (lv_at hl 1 rfl) ?_
  refine lv_aload_n hx hb dX5_becomeLike_178 rfl (lv_at hl 2 rfl) ?_
  refine va_get (D := D) (ci := 6) (v := .int 0) (C := RX5) (T := TX5) (N := 15) hx hb hts uX5 hown hE.1.1 hP 2 rfl rfl 11 (by decide) (hts _ q685) (fun _ h9 => h9) rfl dX5_becomeLike_179 ?_
  refine va_put (D := D) (ci := 6) (v := .int 0) (ty := .int) (C := RX5) (T := TX5) (N := 15) hx hb hts uX5 tyX5 tyX5_ok nmX5 hown hE.1.1 hP hD hS 0 rfl rfl 11 (by decide) (hts _ q685) (fun _ h9 => h9) rfl (by decide +kernel) rfl rfl (Nat.le_of_ble_eq_true rfl) dX5_becomeLike_182 (fun H locs hP hD hS => ?_)
  have hP : va_P D vwCl [(tsh, .inr (6, [.ref tsp, .ref tsj, .ref tsc, .ref tsa, .int 0, .int 3000, .int 0, .int 0, .int 0, .int 0, .int 0, .int 0, .int 0, .int 0, .int 0])), (tsc, .inr (0, [.int 0, .ref E, .int 0])), (sh, .inr (6, [.ref sp, .ref sj, .ref sc, .ref sa, .int 0, .int 3000, .int 0, .int 0, .int 0, .int 0, .int 0, .int 0, .int 0, .int 0, .int 0])), (sp, .inr (0, [.int 0, .ref E, .int 0])), (sj, .inr (0, [.int 0, .ref E, .int 0])), (sc, .inr (0, [.int 0, .ref E, .int 0])), (tsp, .inr (0, [.int 0, .ref E, .int 0])), (tsj, .inr (0, [.int 0, .ref E, .int 0])), (tsa, .inr (1, [.ref ti1, .ref ti2, .ref ti3])), (ti1, .inl (cI, 9, .inl (fun _ => 0))), (ti2, .inl (cI, 9, .inl (fun _ => 0))), (ti3, .inl (cI, 9, .inl (fun _ => 0))), (sa, .inr (1, [.ref i1, .ref i2, .ref i3])), (i1, .inl (cI, 9, .inl (fun _ => 0))), (i2, .inl (cI, 9, .inl (fun _ => 0))), (i3, .inl (cI, 9, .inl (fun _ => 0)))] H := hP
  have hD : va_D A [(tsh, .inr (6, [.ref tsp, .ref tsj, .ref tsc, .ref tsa, .int 0, .int 3000, .int 0, .int 0, .int 0, .int 0, .int 0, .int 0, .int 0, .int 0, .int 0])), (tsc, .inr (0, [.int 0, .ref E, .int 0])), (sh, .inr (6, [.ref sp, .ref sj, .ref sc, .ref sa, .int 0, .int 3000, .int 0, .int 0, .int 0, .int 0, .int 0, .int 0, .int 0, .int 0, .int 0])), (sp, .inr (0, [.int 0, .ref E, .int 0])), (sj, .inr (0, [.int 0, .ref E, .int 0])), (sc, .inr (0, [.int 0, .ref E, .int 0])), (tsp, .inr (0, [.int 0, .ref E, .int 0])), (tsj, .inr (0, [.int 0, .ref E, .int 0])), (tsa, .inr (1, [.ref ti1, .ref ti2, .ref ti3])), (ti1, .inl (cI, 9, .inl (fun _ => 0))), (ti2, .inl (cI, 9, .inl (fun _ => 0))), (ti3, .inl (cI, 9, .inl (fun _ => 0))), (sa, .inr (1, [.ref i1, .ref i2, .ref i3])), (i1, .inl (cI, 9, .inl (fun _ => 0))), (i2, .inl (cI, 9, .inl (fun _ => 0))), (i3, .inl (cI, 9, .inl (fun _ => 0)))] := hD
  refine lv_aload_n hx hb dX5_becomeLike_185 rfl (lv_at hl 1 rfl) ?_
  refine lv_aload_n hx hb dX5_becomeLike_186 rfl (lv_at hl 2 rfl) ?_
  refine va_get (D := D) (ci := 6) (v := .int 0) (C := RX5) (T := TX5) (N := 15) hx hb hts uX5 hown hE.1.1 hP 2 rfl rfl 12 (by decide) (hts _ q649) (fun _ h9 => h9) rfl dX5_becomeLike_187 ?_
  refine va_put (D := D) (ci := 6) (v := .int 0) (ty := .int) (C := RX5) (T := TX5) (N := 15) hx hb hts uX5 tyX5 tyX5_ok nmX5 hown hE.1.1 hP hD hS 0 rfl rfl 12 (by decide) (hts _ q649) (fun _ h9 => h9) rfl (by decide +kernel) rfl rfl (Nat.le_of_ble_eq_true rfl) dX5_becomeLike_190 (fun H locs hP hD hS => ?_)
  have hP : va_P D vwCl [(tsh, .inr (6, [.ref tsp, .ref tsj, .ref tsc, .ref tsa, .int 0, .int 3000, .int 0, .int 0, .int 0, .int 0, .int 0, .int 0, .int 0, .int 0, .int 0])), (tsc, .inr (0, [.int 0, .ref E, .int 0])), (sh, .inr (6, [.ref sp, .ref sj, .ref sc, .ref sa, .int 0, .int 3000, .int 0, .int 0, .int 0, .int 0, .int 0, .int 0, .int 0, .int 0, .int 0])), (sp, .inr (0, [.int 0, .ref E, .int 0])), (sj, .inr (0, [.int 0, .ref E, .int 0])), (sc, .inr (0, [.int 0, .ref E, .int 0])), (tsp, .inr (0, [.int 0, .ref E, .int 0])), (tsj, .inr (0, [.int 0, .ref E, .int 0])), (tsa, .inr (1, [.ref ti1, .ref ti2, .ref ti3])), (ti1, .inl (cI, 9, .inl (fun _ => 0))), (ti2, .inl (cI, 9, .inl (fun _ => 0))), (ti3, .inl (cI, 9, .inl (fun _ => 0))), (sa, .inr (1, [.ref i1, .ref i2, .ref i3])), (i1, .inl (cI, 9, .inl (fun _ => 0))), (i2, .inl (cI, 9, .inl (fun _ => 0))), (i3, .inl (cI, 9, .inl (fun _ => 0)))] H := hP
  have hD : va_D A [(tsh, .inr (6, [.ref tsp, .ref tsj, .ref tsc, .ref tsa, .int 0, .int 3000, .int 0, .int 0, .int 0, .int 0, .int 0, .int 0, .int 0, .int 0, .int 0])), (tsc, .inr (0, [.int 0, .ref E, .int 0])), (sh, .inr (6, [.ref sp, .ref sj, .ref sc, .ref sa, .int 0, .int 3000, .int 0, .int 0, .int 0, .int 0, .int 0, .int 0, .int 0, .int 0, .int 0])), (sp, .inr (0, [.int 0, .ref E, .int 0])), (sj, .inr (0, [.int 0, .ref E, .int 0])), (sc, .inr (0, [.int 0, .ref E, .int 0])), (tsp, .inr (0, [.int 0, .ref E, .int 0])), (tsj, .inr (0, [.int 0, .ref E, .int 0])), (tsa, .inr (1, [.ref ti1, .ref ti2, .ref ti3])), (ti1, .inl (cI, 9, .inl (fun _ => 0))), (ti2, .inl (cI, 9, .inl (fun _ => 0))), (ti3, .inl (cI, 9, .inl (fun _ => 0))), (sa, .inr (1, [.ref i1, .ref i2, .ref i3])), (i1, .inl (cI, 9, .inl (fun _ => 0))), (i2, .inl (cI, 9, .inl (fun _ => 0))), (i3, .inl (cI, 9, .inl (fun _ => 0)))] := hD
  refine lv_aload_n hx hb dX5_becomeLike_193 rfl (lv_at hl 1 rfl) ?_
  refine lv_aload_n hx hb dX5_becomeLike_194 rfl (lv_at hl 2 rfl) ?_
  refine va_get (D := D) (ci := 6) (v := .int 0) (C := RX5) (T := TX5) (N := 15) hx hb hts uX5 hown hE.1.1 hP 2 rfl rfl 13 (by decide) (hts _ q650) (fun _ h9 => h9) rfl dX5_becomeLike_195 ?_
  refine va_put (D := D) (ci := 6) (v := .int 0) (ty := .int) (C := RX5) (T := TX5) (N := 15) hx hb hts uX5 tyX5 tyX5_ok nmX5 hown hE.1.1 hP hD hS 0 rfl rfl 13 (by decide) (hts _ q650) (fun _ h9 => h9) rfl (by decide +kernel) rfl rfl (Nat.le_of_ble_eq_true rfl) dX5_becomeLike_198 (fun H locs hP hD hS => ?_)
  have hP : va_P D vwCl [(tsh, .inr (6, [.ref tsp, .ref tsj, .ref tsc, .ref tsa, .int 0, .int 3000, .int 0, .int 0, .int 0, .int 0, .int 0, .int 0, .int 0, .int 0, .int 0])), (tsc, .inr (0, [.int 0, .ref E, .int 0])), (sh, .inr (6, [.ref sp, .ref sj, .ref sc, .ref sa, .int 0, .int 3000, .int 0, .int 0, .int 0, .int 0, .int 0, .int 0, .int 0, .int 0, .int 0])), (sp, .inr (0, [.int 0, .ref E, .int 0])), (sj, .inr (0, [.int 0, .ref E, .int 0])), (sc, .inr (0, [.int 0, .ref E, .int 0])), (tsp, .inr (0, [.int 0, .ref E, .int 0])), (tsj, .inr (0, [.int 0, .ref E, .int 0])), (tsa, .inr (1, [.ref ti1, .ref ti2, .ref ti3])), (ti1, .inl (cI, 9, .inl (fun _ => 0))), (ti2, .inl (cI, 9, .inl (fun _ => 0))), (ti3, .inl (cI, 9, .inl (fun _ => 0))), (sa, .inr (1, [.ref i1, .ref i2, .ref i3])), (i1, .inl (cI, 9, .inl (fun _ => 0))), (i2, .inl (cI, 9, .inl (fun _ => 0))), (i3, .inl (cI, 9, .inl (fun _ => 0)))] H := hP
  have hD : va_D A [(tsh, .inr (6, [.ref tsp, .ref tsj, .ref tsc, .ref tsa, .int 0, .int 3000, .int 0, .int 0, .int 0, .int 0, .int 0, .int 0, .int 0, .int 0, .int 0])), (tsc, .inr (0, [.int 0, .ref E, .int 0])), (sh, .inr (6, [.ref sp, .ref sj, .ref sc, .ref sa, .int 0, .int 3000, .int 0, .int 0, .int 0, .int 0, .int 0, .int 0, .int 0, .int 0, .int 0])), (sp, .inr (0, [.int 0, .ref E, .int 0])), (sj, .inr (0, [.int 0, .ref E, .int 0])), (sc, .inr (0, [.int 0, .ref E, .int 0])), (tsp, .inr (0, [.int 0, .ref E, .int 0])), (tsj, .inr (0, [.int 0, .ref E, .int 0])), (tsa, .inr (1, [.ref ti1, .ref ti2, .ref ti3])), (ti1, .inl (cI, 9, .inl (fun _ => 0))), (ti2, .inl (cI, 9, .inl (fun _ => 0))), (ti3, .inl (cI, 9, .inl (fun _ => 0))), (sa, .inr (1, [.ref i1, .ref i2, .ref i3])), (i1, .inl (cI, 9, .inl (fun _ => 0))), (i2, .inl (cI, 9, .inl (fun _ => 0))), (i3, .inl (cI, 9, .inl (fun _ => 0)))] := hD
  refine lv_aload_n hx hb dX5_becomeLike_201 rfl (lv_at hl 1 rfl) ?_
  refine lv_aload_n hx hb dX5_becomeLike_202 rfl (lv_at hl 2 rfl) ?_
  refine va_get (D := D) (ci := 6) (v := .int 0) (C := RX5) (T := TX5) (N := 15) hx hb hts uX5 hown hE.1.1 hP 2 rfl rfl 14 (by decide) (hts _ q529) (fun _ h9 => h9) rfl dX5_becomeLike_203 ?_
  refine va_put (D := D) (ci := 6) (v := .int 0) (ty := .boolean) (C := RX5) (T := TX5) (N := 15) hx hb hts uX5 tyX5 tyX5_ok nmX5 hown hE.1.1 hP hD hS 0 rfl rfl 14 (by decide) (hts _ q529) (fun _ h9 => h9) rfl (by decide +kernel) (by decide) (by decide) (Nat.le_of_ble_eq_true rfl) dX5_becomeLike_206 (fun H locs hP hD hS => ?_)
  have hP : va_P D vwCl [(tsh, .inr (6, [.ref tsp, .ref tsj, .ref tsc, .ref tsa, .int 0, .int 3000, .int 0, .int 0, .int 0, .int 0, .int 0, .int 0, .int 0, .int 0, .int 0])), (tsc, .inr (0, [.int 0, .ref E, .int 0])), (sh, .inr (6, [.ref sp, .ref sj, .ref sc, .ref sa, .int 0, .int 3000, .int 0, .int 0, .int 0, .int 0, .int 0, .int 0, .int 0, .int 0, .int 0])), (sp, .inr (0, [.int 0, .ref E, .int 0])), (sj, .inr (0, [.int 0, .ref E, .int 0])), (sc, .inr (0, [.int 0, .ref E, .int 0])), (tsp, .inr (0, [.int 0, .ref E, .int 0])), (tsj, .inr (0, [.int 0, .ref E, .int 0])), (tsa, .inr (1, [.ref ti1, .ref ti2, .ref ti3])), (ti1, .inl (cI, 9, .inl (fun _ => 0))), (ti2, .inl (cI, 9, .inl (fun _ => 0))), (ti3, .inl (cI, 9, .inl (fun _ => 0))), (sa, .inr (1, [.ref i1, .ref i2, .ref i3])), (i1, .inl (cI, 9, .inl (fun _ => 0))), (i2, .inl (cI, 9, .inl (fun _ => 0))), (i3, .inl (cI, 9, .inl (fun _ => 0)))] H := hP
  have hD : va_D A [(tsh, .inr (6, [.ref tsp, .ref tsj, .ref tsc, .ref tsa, .int 0, .int 3000, .int 0, .int 0, .int 0, .int 0, .int 0, .int 0, .int 0, .int 0, .int 0])), (tsc, .inr (0, [.int 0, .ref E, .int 0])), (sh, .inr (6, [.ref sp, .ref sj, .ref sc, .ref sa, .int 0, .int 3000, .int 0, .int 0, .int 0, .int 0, .int 0, .int 0, .int 0, .int 0, .int 0])), (sp, .inr (0, [.int 0, .ref E, .int 0])), (sj, .inr (0, [.int 0, .ref E, .int 0])), (sc, .inr (0, [.int 0, .ref E, .int 0])), (tsp, .inr (0, [.int 0, .ref E, .int 0])), (tsj, .inr (0, [.int 0, .ref E, .int 0])), (tsa, .inr (1, [.ref ti1, .ref ti2, .ref ti3])), (ti1, .inl (cI, 9, .inl (fun _ => 0))), (ti2, .inl (cI, 9, .inl (fun _ => 0))), (ti3, .inl (cI, 9, .inl (fun _ => 0))), (sa, .inr (1, [.ref i1, .ref i2, .ref i3])), (i1, .inl (cI, 9, .inl (fun _ => 0))), (i2, .inl (cI, 9, .inl (fun _ => 0))), (i3, .inl (cI, 9, .inl (fun _ => 0)))] := hD
  have hP9 := hP.sub (ws' := [(tsh, .inr (6, [.ref tsp, .ref tsj, .ref tsc, .ref tsa, .int 0, .int 3000, .int 0, .int 0, .int 0, .int 0, .int 0, .int 0, .int 0, .int 0, .int 0])), (tsp, .inr (0, [.int 0, .ref E, .int 0])), (tsj, .inr (0, [.int 0, .ref E, .int 0])), (tsc, .inr (0, [.int 0, .ref E, .int 0])), (tsa, .inr (1, [.ref ti1, .ref ti2, .ref ti3])), (ti1, .inl (cI, 9, .inl (fun _ => 0))), (ti2, .inl (cI, 9, .inl (fun _ => 0))), (ti3, .inl (cI, 9, .inl (fun _ => 0))), (sh, .inr (6, [.ref sp, .ref sj, .ref sc, .ref sa, .int 0, .int 3000, .int 0, .int 0, .int 0, .int 0, .int 0, .int 0, .int 0, .int 0, .int 0])), (sp, .inr (0, [.int 0, .ref E, .int 0])), (sj, .inr (0, [.int 0, .ref E, .int 0])), (sc, .inr (0, [.int 0, .ref E, .int 0])), (sa, .inr (1, [.ref i1, .ref i2, .ref i3])), (i1, .inl (cI, 9, .inl (fun _ => 0))), (i2, .inl (cI, 9, .inl (fun _ => 0))), (i3, .inl (cI, 9, .inl (fun _ => 0)))]) [0, 6, 7, 1, 8, 9, 10, 11, 2, 3, 4, 5, 12, 13, 14, 15] rfl
  have hD9 := hD.sub (ws' := [(tsh, .inr (6, [.ref tsp, .ref tsj, .ref tsc, .ref tsa, .int 0, .int 3000, .int 0, .int 0, .int 0, .int 0, .int 0, .int 0, .int 0, .int 0, .int 0])), (tsp, .inr (0, [.int 0, .ref E, .int 0])), (tsj, .inr (0, [.int 0, .ref E, .int 0])), (tsc, .inr (0, [.int 0, .ref E, .int 0])), (tsa, .inr (1, [.ref ti1, .ref ti2, .ref ti3])), (ti1, .inl (cI, 9, .inl (fun _ => 0))), (ti2, .inl (cI, 9, .inl (fun _ => 0))), (ti3, .inl (cI, 9, .inl (fun _ => 0))), (sh, .inr (6, [.ref sp, .ref sj, .ref sc, .ref sa, .int 0, .int 3000, .int 0, .int 0, .int 0, .int 0, .int 0, .int 0, .int 0, .int 0, .int 0])), (sp, .inr (0, [.int 0, .ref E, .int 0])), (sj, .inr (0, [.int 0, .ref E, .int 0])), (sc, .inr (0, [.int 0, .ref E, .int 0])), (sa, .inr (1, [.ref i1, .ref i2, .ref i3])), (i1, .inl (cI, 9, .inl (fun _ => 0))), (i2, .inl (cI, 9, .inl (fun _ => 0))), (i3, .inl (cI, 9, .inl (fun _ => 0)))]) [0, 6, 7, 1, 8, 9, 10, 11, 2, 3, 4, 5, 12, 13, 14, 15] (by decide) rfl
  refine W.widen (k := 0) (n := 0) (Nat.le_of_ble_eq_true rfl) (Nat.le_of_ble_eq_true rfl) ?_
  exact W.vret hx hb hr (fun t ht hW => ⟨⟨(), rfl, trivial, by rw [ht]; exact hP9, hD9⟩, hS.F ht⟩) hS.2.2 dX5_becomeLike_209
