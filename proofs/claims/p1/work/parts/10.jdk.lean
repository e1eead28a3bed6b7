set_option maxHeartbeats 4000000 in
set_option maxRecDepth 100000 in
theorem kJxa1e45_init_da8c8 (l : Launch) (D : va_G) (cI cO cL : ClassId) (E M : Nat) (h : Nat) (m0 : Int32) (e0 : Value) (n0 : Int32)  (sz : Nat) : Met l yJxa1e45_init_da8c8 (fW yJxa1e45_init_da8c8 cJxa1e45_init_da8c8 1 none) { frames := 1, cells := 0, slots := 0, locals := 12 } (fPre D cI cO cL E M [.ref h] sz [(h, .inr (0, [.int m0, e0, .int n0]))]) (va_Qv (fun _ : Unit => True) (fB D (va_A [(h, .inr (0, [.int m0, e0, .int n0]))] sz) (fun u : Unit => [(h, .inr (0, [.int m0, e0, .int n0]))])) (va_A [(h, .inr (0, [.int m0, e0, .int n0]))] sz)) 0 0 (va_A [(h, .inr (0, [.int m0, e0, .int n0]))] sz) := by
  refine Met.ofW (cc := cJxa1e45_init_da8c8) (maxL := 1) (ret := none) (by decide) rfl ?_
  intro p e s m args below meth c s₁ B hml hv
  obtain ⟨rfl, hsz, hP, hD0, hE⟩ := hv
  have hx := B.exec
  have hb := B.bytes
  have hr := B.returns
  have hts0 := atoms_spec (ws := (fW yJxa1e45_init_da8c8 cJxa1e45_init_da8c8 1 none)) B.pre
  have hts : ∀ w ∈ fA, w.before _ s = true := fun w h => hts0 w (List.mem_cons_of_mem _ h)
  have hown : s.vm.findClass RJxa1e45 = some m.cls := findClass_of_methodNamed B.named
  have hlocks := B.notSynchronized
  have hin : meth.name = "<init>" := (name_of_methodNamed B.named B.method).1
  subst hsz
  have hD := hD0.self (sz := s.heap.size)
  generalize hAe : va_A [(h, .inr (0, [.int m0, e0, .int n0]))] s.heap.size = A at hD hE ⊢
  have hA : ∀ q : Nat, s.heap.size ≤ q → A q := fun q h => by rw [← hAe]; exact Or.inr h
  have hP : va_P D vwCl [(h, .inr (0, [.int m0, e0, .int n0]))] s.heap := hP
  have hl := lv_entry ([.ref h]) (n := 1) (Nat.le_of_ble_eq_true rfl)
  rw [lg_entry_eq]
  generalize (lg_sl ([.ref h]) ++ List.replicate (1 - (lg_sl ([.ref h])).length) Slot.unset).toArray = ls at hl ⊢
  have hl : lv_has ls 1 [(0, .ref h)] := hl
  refine f_start (A := A) hP (fun H hP hS => ?_)
  refine lv_aload_n hx hb dJxa1e45_init_da8c8_0 rfl (lv_at hl 0 rfl) ?_
  refine W.objInit hx hb hown (hts _ q36) (hts _ q11) (hts _ q12) rfl (by rw [hml]; exact hl.1) rfl dJxa1e45_init_da8c8_1 (Nat.le_of_ble_eq_true rfl) (Nat.le_of_ble_eq_true rfl) ?_
  refine W.eq (g2 := F0 m 4 ls []) rfl ?_
  have hP9 := hP.sub (ws' := [(h, .inr (0, [.int m0, e0, .int n0]))]) [0] rfl
  have hD9 := hD.sub (ws' := [(h, .inr (0, [.int m0, e0, .int n0]))]) [0] (by decide) rfl
  refine W.widen (k := 0) (n := 0) (Nat.le_of_ble_eq_true rfl) (Nat.le_of_ble_eq_true rfl) ?_
  exact W.vret hx hb hr (fun t ht hW => ⟨⟨(), rfl, trivial, by rw [ht]; exact hP9, hD9⟩, hS.F ht⟩) hS.2.2 dJxa1e45_init_da8c8_4
set_option maxHeartbeats 4000000 in
set_option maxRecDepth 100000 in
theorem kJxc12de_init_da8c8 (l : Launch) (D : va_G) (cI cO cL : ClassId) (E M : Nat) (h : Nat) (m0 : Int32) (e0 : Value) (n0 : Int32)  (sz : Nat) : Met l yJxc12de_init_da8c8 (fW yJxc12de_init_da8c8 cJxc12de_init_da8c8 1 none) { frames := 2, cells := 0, slots := 0, locals := 32 } (fPre D cI cO cL E M [.ref h] sz [(h, .inr (0, [.int m0, e0, .int n0]))]) (va_Qv (fun _ : Unit => True) (fB D (va_A [(h, .inr (0, [.int m0, e0, .int n0]))] sz) (fun u : Unit => [(h, .inr (0, [.int 0, e0, .int n0]))])) (va_A [(h, .inr (0, [.int m0, e0, .int n0]))] sz)) 0 0 (va_A [(h, .inr (0, [.int m0, e0, .int n0]))] sz) := by
  refine Met.ofW (cc := cJxc12de_init_da8c8) (maxL := 1) (ret := none) (by decide) rfl ?_
  intro p e s m args below meth c s₁ B hml hv
  obtain ⟨rfl, hsz, hP, hD0, hE⟩ := hv
  have hx := B.exec
  have hb := B.bytes
  have hr := B.returns
  have hts0 := atoms_spec (ws := (fW yJxc12de_init_da8c8 cJxc12de_init_da8c8 1 none)) B.pre
  have hts : ∀ w ∈ fA, w.before _ s = true := fun w h => hts0 w (List.mem_cons_of_mem _ h)
  have hown : s.vm.findClass RJxc12de = some m.cls := findClass_of_methodNamed B.named
  have hlocks := B.notSynchronized
  have hin : meth.name = "<init>" := (name_of_methodNamed B.named B.method).1
  subst hsz
  have hD := hD0.self (sz := s.heap.size)
  generalize hAe : va_A [(h, .inr (0, [.int m0, e0, .int n0]))] s.heap.size = A at hD hE ⊢
  have hA : ∀ q : Nat, s.heap.size ≤ q → A q := fun q h => by rw [← hAe]; exact Or.inr h
  have hP : va_P D vwCl [(h, .inr (0, [.int m0, e0, .int n0]))] s.heap := hP
  have hl := lv_entry ([.ref h]) (n := 1) (Nat.le_of_ble_eq_true rfl)
  rw [lg_entry_eq]
  generalize (lg_sl ([.ref h]) ++ List.replicate (1 - (lg_sl ([.ref h])).length) Slot.unset).toArray = ls at hl ⊢
  have hl : lv_has ls 1 [(0, .ref h)] := hl
  refine f_start (A := A) hP (fun H hP hS => ?_)
  refine lv_aload_n hx hb dJxc12de_init_da8c8_0 rfl (lv_at hl 0 rfl) ?_
  refine f_aft_v (wr := []) (f_runI (As := []) (rest := []) hx hb hml hown hts (kJxa1e45_init_da8c8 l D cI cO cL E M h m0 (e0) n0 H.size) (fcwI 0 hts q32 q33 q34 q35 rfl rfl rfl (by decide +kernel) ⟨(Nat.le_of_ble_eq_true rfl), (Nat.le_of_ble_eq_true rfl)⟩) hE hP hD hS hA [0] rfl (by decide) rfl hl.1 rfl (Nat.le_of_ble_eq_true rfl) dJxc12de_init_da8c8_1 ⟨(Nat.le_of_ble_eq_true rfl), (Nat.le_of_ble_eq_true rfl)⟩) hP hD hS hA [0] [] rfl rfl (by decide) (by decide) (fun u H locs hr0 hP hD hS => ?_)
  have hP : va_P D vwCl [(h, .inr (0, [.int m0, e0, .int n0]))] H := hP
  have hD : va_D A [(h, .inr (0, [.int m0, e0, .int n0]))] := hD
  refine lv_aload_n hx hb dJxc12de_init_da8c8_4 rfl (lv_at hl 0 rfl) ?_
  refine lv_iconst (v := 0) hx hb dJxc12de_init_da8c8_5 (by decide) ?_
  refine va_put (D := D) (ci := 0) (v := .int 0) (ty := .int) (C := RJx4a65c) (T := TJx4a65c) (N := 3) hx hb hts uJx4a65c tyJx4a65c tyJx4a65c_ok nmJx4a65c hown hE.1.1 hP hD hS 0 rfl rfl 0 (by decide) (hts _ q31) (fun _ h9 => h9) rfl (by decide +kernel) rfl rfl (Nat.le_of_ble_eq_true rfl) dJxc12de_init_da8c8_6 (fun H locs hP hD hS => ?_)
  have hP : va_P D vwCl [(h, .inr (0, [.int 0, e0, .int n0]))] H := hP
  have hD : va_D A [(h, .inr (0, [.int 0, e0, .int n0]))] := hD
  have hP9 := hP.sub (ws' := [(h, .inr (0, [.int 0, e0, .int n0]))]) [0] rfl
  have hD9 := hD.sub (ws' := [(h, .inr (0, [.int 0, e0, .int n0]))]) [0] (by decide) rfl
  refine W.widen (k := 0) (n := 0) (Nat.le_of_ble_eq_true rfl) (Nat.le_of_ble_eq_true rfl) ?_
  exact W.vret hx hb hr (fun t ht hW => ⟨⟨(), rfl, trivial, by rw [ht]; exact hP9, hD9⟩, hS.F ht⟩) hS.2.2 dJxc12de_init_da8c8_9
set_option maxHeartbeats 4000000 in
set_option maxRecDepth 100000 in
theorem kJx4a65c_init_da8c8 (l : Launch) (D : va_G) (cI cO cL : ClassId) (E M : Nat) (h : Nat) (m0 : Int32) (e0 : Value) (n0 : Int32)  (sz : Nat) : Met l yJx4a65c_init_da8c8 (fW yJx4a65c_init_da8c8 cJx4a65c_init_da8c8 1 none) { frames := 3, cells := 0, slots := 0, locals := 52 } (fPre D cI cO cL E M [.ref h] sz [(h, .inr (0, [.int m0, e0, .int n0]))]) (va_Qv (fun _ : Unit => True) (fB D (va_A [(h, .inr (0, [.int m0, e0, .int n0]))] sz) (fun u : Unit => [(h, .inr (0, [.int 0, .ref E, .int n0]))])) (va_A [(h, .inr (0, [.int m0, e0, .int n0]))] sz)) 0 0 (va_A [(h, .inr (0, [.int m0, e0, .int n0]))] sz) := by
  refine Met.ofW (cc := cJx4a65c_init_da8c8) (maxL := 1) (ret := none) (by decide) rfl ?_
  intro p e s m args below meth c s₁ B hml hv
  obtain ⟨rfl, hsz, hP, hD0, hE⟩ := hv
  have hx := B.exec
  have hb := B.bytes
  have hr := B.returns
  have hts0 := atoms_spec (ws := (fW yJx4a65c_init_da8c8 cJx4a65c_init_da8c8 1 none)) B.pre
  have hts : ∀ w ∈ fA, w.before _ s = true := fun w h => hts0 w (List.mem_cons_of_mem _ h)
  have hown : s.vm.findClass RJx4a65c = some m.cls := findClass_of_methodNamed B.named
  have hlocks := B.notSynchronized
  have hin : meth.name = "<init>" := (name_of_methodNamed B.named B.method).1
  subst hsz
  have hD := hD0.self (sz := s.heap.size)
  generalize hAe : va_A [(h, .inr (0, [.int m0, e0, .int n0]))] s.heap.size = A at hD hE ⊢
  have hA : ∀ q : Nat, s.heap.size ≤ q → A q := fun q h => by rw [← hAe]; exact Or.inr h
  have hP : va_P D vwCl [(h, .inr (0, [.int m0, e0, .int n0]))] s.heap := hP
  have hl := lv_entry ([.ref h]) (n := 1) (Nat.le_of_ble_eq_true rfl)
  rw [lg_entry_eq]
  generalize (lg_sl ([.ref h]) ++ List.replicate (1 - (lg_sl ([.ref h])).length) Slot.unset).toArray = ls at hl ⊢
  have hl : lv_has ls 1 [(0, .ref h)] := hl
  refine f_start (A := A) hP (fun H hP hS => ?_)
  refine lv_aload_n hx hb dJx4a65c_init_da8c8_0 rfl (lv_at hl 0 rfl) ?_
  refine f_aft_v (wr := []) (f_runI (As := []) (rest := []) hx hb hml hown hts (kJxc12de_init_da8c8 l D cI cO cL E M h m0 (e0) n0 H.size) (fcwI 0 hts q27 q28 q29 q30 rfl rfl rfl (by decide +kernel) ⟨(Nat.le_of_ble_eq_true rfl), (Nat.le_of_ble_eq_true rfl)⟩) hE hP hD hS hA [0] rfl (by decide) rfl hl.1 rfl (Nat.le_of_ble_eq_true rfl) dJx4a65c_init_da8c8_1 ⟨(Nat.le_of_ble_eq_true rfl), (Nat.le_of_ble_eq_true rfl)⟩) hP hD hS hA [0] [] rfl rfl (by decide) (by decide) (fun u H locs hr0 hP hD hS => ?_)
  have hP : va_P D vwCl [(h, .inr (0, [.int 0, e0, .int n0]))] H := hP
  have hD : va_D A [(h, .inr (0, [.int 0, e0, .int n0]))] := hD
  refine lv_aload_n hx hb dJx4a65c_init_da8c8_4 rfl (lv_at hl 0 rfl) ?_
  refine va_gets hx hb hE.2.1 hS hown (hts _ q25) (fun _ h => h) dJx4a65c_init_da8c8_5 ?_
  refine va_put (D := D) (ci := 0) (v := .ref E) (ty := .array (.object "java/lang/Object")) (C := RJx4a65c) (T := TJx4a65c) (N := 3) hx hb hts uJx4a65c tyJx4a65c tyJx4a65c_ok nmJx4a65c hown hE.1.1 hP hD hS 0 rfl rfl 1 (by decide) (hts _ q26) (fun _ h9 => h9) rfl (by decide +kernel) rfl rfl (Nat.le_of_ble_eq_true rfl) dJx4a65c_init_da8c8_8 (fun H locs hP hD hS => ?_)
  have hP : va_P D vwCl [(h, .inr (0, [.int 0, .ref E, .int n0]))] H := hP
  have hD : va_D A [(h, .inr (0, [.int 0, .ref E, .int n0]))] := hD
  have hP9 := hP.sub (ws' := [(h, .inr (0, [.int 0, .ref E, .int n0]))]) [0] rfl
  have hD9 := hD.sub (ws' := [(h, .inr (0, [.int 0, .ref E, .int n0]))]) [0] (by decide) rfl
  refine W.widen (k := 0) (n := 0) (Nat.le_of_ble_eq_true rfl) (Nat.le_of_ble_eq_true rfl) ?_
  exact W.vret hx hb hr (fun t ht hW => ⟨⟨(), rfl, trivial, by rw [ht]; exact hP9, hD9⟩, hS.F ht⟩) hS.2.2 dJx4a65c_init_da8c8_11
set_option maxHeartbeats 4000000 in
set_option maxRecDepth 100000 in
theorem kJx4a65c_size_8abf5 (l : Launch) (D : va_G) (cI cO cL : ClassId) (E M : Nat) (h : Nat) (m0 : Int32) (e0 : Value) (n0 : Int32)  (sz : Nat) : Met l yJx4a65c_size_8abf5 (fW yJx4a65c_size_8abf5 cJx4a65c_size_8abf5 1 (some .int)) { frames := 0, cells := 0, slots := 0, locals := 0 } (fPre D cI cO cL E M [.ref h] sz [(h, .inr (0, [.int m0, e0, .int n0]))]) (va_Qi (fun (r : Int32) (_ : Unit) => r = n0) (fB D (va_A [(h, .inr (0, [.int m0, e0, .int n0]))] sz) (fun u : Unit => [(h, .inr (0, [.int m0, e0, .int n0]))])) (va_A [(h, .inr (0, [.int m0, e0, .int n0]))] sz)) 0 0 (va_A [(h, .inr (0, [.int m0, e0, .int n0]))] sz) := by
  refine Met.ofW (cc := cJx4a65c_size_8abf5) (maxL := 1) (ret := (some .int)) (by decide) rfl ?_
  intro p e s m args below meth c s₁ B hml hv
  obtain ⟨rfl, hsz, hP, hD0, hE⟩ := hv
  have hx := B.exec
  have hb := B.bytes
  have hr := B.returns
  have hts0 := atoms_spec (ws := (fW yJx4a65c_size_8abf5 cJx4a65c_size_8abf5 1 (some .int))) B.pre
  have hts : ∀ w ∈ fA, w.before _ s = true := fun w h => hts0 w (List.mem_cons_of_mem _ h)
  have hown : s.vm.findClass RJx4a65c = some m.cls := findClass_of_methodNamed B.named
  have hlocks := B.notSynchronized
  subst hsz
  have hD := hD0.self (sz := s.heap.size)
  generalize hAe : va_A [(h, .inr (0, [.int m0, e0, .int n0]))] s.heap.size = A at hD hE ⊢
  have hA : ∀ q : Nat, s.heap.size ≤ q → A q := fun q h => by rw [← hAe]; exact Or.inr h
  have hP : va_P D vwCl [(h, .inr (0, [.int m0, e0, .int n0]))] s.heap := hP
  have hl := lv_entry ([.ref h]) (n := 1) (Nat.le_of_ble_eq_true rfl)
  rw [lg_entry_eq]
  generalize (lg_sl ([.ref h]) ++ List.replicate (1 - (lg_sl ([.ref h])).length) Slot.unset).toArray = ls at hl ⊢
  have hl : lv_has ls 1 [(0, .ref h)] := hl
  refine f_start (A := A) hP (fun H hP hS => ?_)
  refine lv_aload_n hx hb dJx4a65c_size_8abf5_0 rfl (lv_at hl 0 rfl) ?_
  refine va_get (D := D) (ci := 0) (v := .int n0) (C := RJx4a65c) (T := TJx4a65c) (N := 3) hx hb hts uJx4a65c hown hE.1.1 hP 0 rfl rfl 2 (by decide) (hts _ q100) (fun _ h9 => h9) rfl dJx4a65c_size_8abf5_1 ?_
  have hP9 := hP.sub (ws' := [(h, .inr (0, [.int m0, e0, .int n0]))]) [0] rfl
  have hD9 := hD.sub (ws' := [(h, .inr (0, [.int m0, e0, .int n0]))]) [0] (by decide) rfl
  refine W.widen (k := 0) (n := 0) (Nat.le_of_ble_eq_true rfl) (Nat.le_of_ble_eq_true rfl) ?_
  exact W.iret (v := n0) hx hb hr (fun t ht hW => ⟨⟨n0, (), rfl, rfl, by rw [ht]; exact hP9, hD9⟩, hS.F ht⟩) hS.2.2 dJx4a65c_size_8abf5_4
