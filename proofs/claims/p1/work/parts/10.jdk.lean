set_option maxHeartbeats 4000000 in
set_option maxRecDepth 100000 in
theorem kJxa1e45_init_da8c8 (l : Launch) (D : va_G) (cI cO cL : ClassId) (E M : Nat) (h : Nat) (m0 : Int32) (e0 : Value) (n0 : Int32)  (sz : Nat) : Met l yJxa1e45_init_da8c8 (fW yJxa1e45_init_da8c8 cJxa1e45_init_da8c8 1 none) { frames := 1, cells := 0, slots := 0, locals := 12 } (fPre D cI cO cL E M [.ref h] sz [(h, .inr (0, [.int m0, e0, .int n0]))]) (va_Qv (fun _ : Unit => True) (fB D (va_A [(h, .inr (0, [.int m0, e0, .int n0]))] sz) (fun u : Unit => [(h, .inr (0, [.int m0, e0, .int n0]))])) (va_A [(h, .inr (0, [.int m0, e0, .int n0]))] sz)) 0 0 (va_A [(h, .inr (0, [.int m0, e0, .int n0]))] sz) := by
  refine Met.ofW (cc := cJxa1e45_init_da8c8) (maxL := 1) (ret := none) (by decide) rfl ?_
  intro p e s m args below meth c s₁ B hml hv
  obtain ⟨rfl, hsz, hP, hD0, hE⟩ := hv
  have hx := B.exec
  have hb := B.bytes
  have hr := B.returns
  have hts0 := atoms_spec (ws := (fW yJxa1e45_init_da8c8 cJxa1e45_init_da8c8 1 none)) B.pre
  have hts : ∀ w ∈ fA, w.before _ s = true := fun w h => hts0 w (List.mem_cons_of_mem _ h)
  have hown : s.vm.findClass RJxa1e45 = some m.cls := findClass_of_methodNamed B.named
  have hlocks := B.notSynchronized
  have hin : meth.name = "<init>" := (name_of_methodNamed B.named B.method).1
  subst hsz
  have hD := hD0.self (sz := s.heap.size)
  generalize hAe : va_A [(h, .inr (0, [.int m0, e0, .int n0]))] s.heap.size = A at hD hE ⊢
  have hA : ∀ q : Nat, s.heap.size ≤ q → A q := fun q h => by rw [← hAe]; exact Or.inr h
  have hP : va_P D vwCl [(h, .inr (0, [.int m0, e0, .int n0]))] s.heap := hP
  have hl := lv_entry ([.ref h]) (n := 1) (Nat.le_of_ble_eq_true rfl)
  rw [lg_entry_eq]
  generalize (lg_sl ([.ref h]) ++ List.replicate (1 - (lg_sl ([.ref h])).length) Slot.unset).toArray = ls at hl ⊢
  have hl : lv_has ls 1 [(0, .ref h)] := hl
  refine f_start (A := A) hP (fun H hP hS => ?_)
  refine lv_aload_n hx hb dJxa1e45_init_da8c8_0 rfl (lv_at hl 0 rfl) ?_
  refine W.objInit hx hb hown (hts _ q36) (hts _ q11) (hts _ q12) rfl (by rw [hml]; exact hl.1) rfl dJxa1e45_init_da8c8_1 (Nat.le_of_ble_eq_true rfl) (Nat.le_of_ble_eq_true rfl) ?_
  refine W.eq (g2 := F0 m 4 ls []) rfl ?_
  have hP9 := hP.sub (ws' := [(h, .inr (0, [.int m0, e0, .int n0]))]) [0] rfl
  have hD9 := hD.sub (ws' := [(h, .inr (0, [.int m0, e0, .int n0]))]) [0] (by decide) rfl
  refine W.widen (k := 0) (n := 0) (Nat.le_of_ble_eq_true rfl) (Nat.le_of_ble_eq_true rfl) ?_
  exact W.vret hx hb hr (fun t ht hW => ⟨⟨(), rfl, trivial, by rw [ht]; exact hP9, hD9⟩, hS.F ht⟩) hS.2.2 dJxa1e45_init_da8c8_4
set_option maxHeartbeats 4000000 in
set_option maxRecDepth 100000 in
theorem kJxc12de_init_da8c8 (l : Launch) (D : va_G) (cI cO cL : ClassId) (E M : Nat) (h : Nat) (m0 : Int32) (e0 : Value) (n0 : Int32)  (sz : Nat) : Met l yJxc12de_init_da8c8 (fW yJxc12de_init_da8c8 cJxc12de_init_da8c8 1 none) { frames := 2, cells := 0, slots := 0, locals := 32 } (fPre D cI cO cL E M [.ref h] sz [(h, .inr (0, [.int m0, e0, .int n0]))]) (va_Qv (fun _ : Unit => True) (fB D (va_A [(h, .inr (0, [.int m0, e0, .int n0]))] sz) (fun u : Unit => [(h, .inr (0, [.int 0, e0, .int n0]))])) (va_A [(h, .inr (0, [.int m0, e0, .int n0]))] sz)) 0 0 (va_A [(h, .inr (0, [.int m0, e0, .int n0]))] sz) := by
  refine Met.ofW (cc := cJxc12de_init_da8c8) (maxL := 1) (ret := none) (by decide) rfl ?_
  intro p e s m args below meth c s₁ B hml hv
  obtain ⟨rfl, hsz, hP, hD0, hE⟩ := hv
  have hx := B.exec
  have hb := B.bytes
  have hr := B.returns
  have hts0 := atoms_spec (ws := (fW yJxc12de_init_da8c8 cJxc12de_init_da8c8 1 none)) B.pre
  have hts : ∀ w ∈ fA, w.before _ s = true := fun w h => hts0 w (List.mem_cons_of_mem _ h)
  have hown : s.vm.findClass RJxc12de = some m.cls := findClass_of_methodNamed B.named
  have hlocks := B.notSynchronized
  have hin : meth.name = "<init>" := (name_of_methodNamed B.named B.method).1
  subst hsz
  have hD := hD0.self (sz := s.heap.size)
  generalize hAe : va_A [(h, .inr (0, [.int m0, e0, .int n0]))] s.heap.size = A at hD hE ⊢
  have hA : ∀ q : Nat, s.heap.size ≤ q → A q := fun q h => by rw [← hAe]; exact Or.inr h
  have hP : va_P D vwCl [(h, .inr (0, [.int m0, e0, .int n0]))] s.heap := hP
  have hl := lv_entry ([.ref h]) (n := 1) (Nat.le_of_ble_eq_true rfl)
  rw [lg_entry_eq]
  generalize (lg_sl ([.ref h]) ++ List.replicate (1 - (lg_sl ([.ref h])).length) Slot.unset).toArray = ls at hl ⊢
  have hl : lv_has ls 1 [(0, .ref h)] := hl
  refine f_start (A := A) hP (fun H hP hS => ?_)
  refine lv_aload_n hx hb dJxc12de_init_da8c8_0 rfl (lv_at hl 0 rfl) ?_
  refine f_aft_v (wr := []) (f_runI (As := []) (rest := []) hx hb hml hown hts (kJxa1e45_init_da8c8 l D cI cO cL E M h m0 (e0) n0 H.size) (fcwI 0 hts q32 q33 q34 q35 rfl rfl rfl (by decide +kernel) ⟨(Nat.le_of_ble_eq_true rfl), (Nat.le_of_ble_eq_true rfl)⟩) hE hP hD hS hA [0] rfl (by decide) rfl hl.1 rfl (Nat.le_of_ble_eq_true rfl) dJxc12de_init_da8c8_1 ⟨(Nat.le_of_ble_eq_true rfl), (Nat.le_of_ble_eq_true rfl)⟩) hP hD hS hA [0] [] rfl rfl (by decide) (by decide) (fun u H locs hr0 hP hD hS => ?_)
  have hP : va_P D vwCl [(h, .inr (0, [.int m0, e0, .int n0]))] H := hP
  have hD : va_D A [(h, .inr (0, [.int m0, e0, .int n0]))] := hD
  refine lv_aload_n hx hb dJxc12de_init_da8c8_4 rfl (lv_at hl 0 rfl) ?_
  refine lv_iconst (v := 0) hx hb dJxc12de_init_da8c8_5 (by decide) ?_
  refine va_put (D := D) (ci := 0) (v := .int 0) (ty := .int) (C := RJx4a65c) (T := TJx4a65c) (N := 3) hx hb hts uJx4a65c tyJx4a65c tyJx4a65c_ok nmJx4a65c hown hE.1.1 hP hD hS 0 rfl rfl 0 (by decide) (hts _ q31) (fun _ h9 => h9) rfl (by decide +kernel) rfl rfl (Nat.le_of_ble_eq_true rfl) dJxc12de_init_da8c8_6 (fun H locs hP hD hS => ?_)
  have hP : va_P D vwCl [(h, .inr (0, [.int 0, e0, .int n0]))] H := hP
  have hD : va_D A [(h, .inr (0, [.int 0, e0, .int n0]))] := hD
  have hP9 := hP.sub (ws' := [(h, .inr (0, [.int 0, e0, .int n0]))]) [0] rfl
  have hD9 := hD.sub (ws' := [(h, .inr (0, [.int 0, e0, .int n0]))]) [0] (by decide) rfl
  refine W.widen (k := 0) (n := 0) (Nat.le_of_ble_eq_true rfl) (Nat.le_of_ble_eq_true rfl) ?_
  exact W.vret hx hb hr (fun t ht hW => ⟨⟨(), rfl, trivial, by rw [ht]; exact hP9, hD9⟩, hS.F ht⟩) hS.2.2 dJxc12de_init_da8c8_9
set_option maxHeartbeats 4000000 in
set_option maxRecDepth 100000 in
theorem kJx4a65c_init_da8c8 (l : Launch) (D : va_G) (cI cO cL : ClassId) (E M : Nat) (h : Nat) (m0 : Int32) (e0 : Value) (n0 : Int32)  (sz : Nat) : Met l yJx4a65c_init_da8c8 (fW yJx4a65c_init_da8c8 cJx4a65c_init_da8c8 1 none) { frames := 3, cells := 0, slots := 0, locals := 52 } (fPre D cI cO cL E M [.ref h] sz [(h, .inr (0, [.int m0, e0, .int n0]))]) (va_Qv (fun _ : Unit => True) (fB D (va_A [(h, .inr (0, [.int m0, e0, .int n0]))] sz) (fun u : Unit => [(h, .inr (0, [.int 0, .ref E, .int n0]))])) (va_A [(h, .inr (0, [.int m0, e0, .int n0]))] sz)) 0 0 (va_A [(h, .inr (0, [.int m0, e0, .int n0]))] sz) := by
  refine Met.ofW (cc := cJx4a65c_init_da8c8) (maxL := 1) (ret := none) (by decide) rfl ?_
  intro p e s m args below meth c s₁ B hml hv
  obtain ⟨rfl, hsz, hP, hD0, hE⟩ := hv
  have hx := B.exec
  have hb := B.bytes
  have hr := B.returns
  have hts0 := atoms_spec (ws := (fW yJx4a65c_init_da8c8 cJx4a65c_init_da8c8 1 none)) B.pre
  have hts : ∀ w ∈ fA, w.before _ s = true := fun w h => hts0 w (List.mem_cons_of_mem _ h)
  have hown : s.vm.findClass RJx4a65c = some m.cls := findClass_of_methodNamed B.named
  have hlocks := B.notSynchronized
  have hin : meth.name = "<init>" := (name_of_methodNamed B.named B.method).1
  subst hsz
  have hD := hD0.self (sz := s.heap.size)
  generalize hAe : va_A [(h, .inr (0, [.int m0, e0, .int n0]))] s.heap.size = A at hD hE ⊢
  have hA : ∀ q : Nat, s.heap.size ≤ q → A q := fun q h => by rw [← hAe]; exact Or.inr h
  have hP : va_P D vwCl [(h, .inr (0, [.int m0, e0, .int n0]))] s.heap := hP
  have hl := lv_entry ([.ref h]) (n := 1) (Nat.le_of_ble_eq_true rfl)
  rw [lg_entry_eq]
  generalize (lg_sl ([.ref h]) ++ List.replicate (1 - (lg_sl ([.ref h])).length) Slot.unset).toArray = ls at hl ⊢
  have hl : lv_has ls 1 [(0, .ref h)] := hl
  refine f_start (A := A) hP (fun H hP hS => ?_)
  refine lv_aload_n hx hb dJx4a65c_init_da8c8_0 rfl (lv_at hl 0 rfl) ?_
  refine f_aft_v (wr := []) (f_runI (As := []) (rest := []) hx hb hml hown hts (kJxc12de_init_da8c8 l D cI cO cL E M h m0 (e0) n0 H.size) (fcwI 0 hts q27 q28 q29 q30 rfl rfl rfl (by decide +kernel) ⟨(Nat.le_of_ble_eq_true rfl), (Nat.le_of_ble_eq_true rfl)⟩) hE hP hD hS hA [0] rfl (by decide) rfl hl.1 rfl (Nat.le_of_ble_eq_true rfl) dJx4a65c_init_da8c8_1 ⟨(Nat.le_of_ble_eq_true rfl), (Nat.le_of_ble_eq_true rfl)⟩) hP hD hS hA [0] [] rfl rfl (by decide) (by decide) (fun u H locs hr0 hP hD hS => ?_)
  have hP : va_P D vwCl [(h, .inr (0, [.int 0, e0, .int n0]))] H := hP
  have hD : va_D A [(h, .inr (0, [.int 0, e0, .int n0]))] := hD
  refine lv_aload_n hx hb dJx4a65c_init_da8c8_4 rfl (lv_at hl 0 rfl) ?_
  refine va_gets hx hb hE.2.1 hS hown (hts _ q25) (fun _ h => h) dJx4a65c_init_da8c8_5 ?_
  refine va_put (D := D) (ci := 0) (v := .ref E) (ty := .array (.object "java/lang/Object")) (C := RJx4a65c) (T := TJx4a65c) (N := 3) hx hb hts uJx4a65c tyJx4a65c tyJx4a65c_ok nmJx4a65c hown hE.1.1 hP hD hS 0 rfl rfl 1 (by decide) (hts _ q26) (fun _ h9 => h9) rfl (by decide +kernel) rfl rfl (Nat.le_of_ble_eq_true rfl) dJx4a65c_init_da8c8_8 (fun H locs hP hD hS => ?_)
  have hP : va_P D vwCl [(h, .inr (0, [.int 0, .ref E, .int n0]))] H := hP
  have hD : va_D A [(h, .inr (0, [.int 0, .ref E, .int n0]))] := hD
  have hP9 := hP.sub (ws' := [(h, .inr (0, [.int 0, .ref E, .int n0]))]) [0] rfl
  have hD9 := hD.sub (ws' := [(h, .inr (0, [.int 0, .ref E, .int n0]))]) [0] (by decide) rfl
  refine W.widen (k := 0) (n := 0) (Nat.le_of_ble_eq_true rfl) (Nat.le_of_ble_eq_true rfl) ?_
  exact W.vret hx hb hr (fun t ht hW => ⟨⟨(), rfl, trivial, by rw [ht]; exact hP9, hD9⟩, hS.F ht⟩) hS.2.2 dJx4a65c_init_da8c8_11
set_option maxHeartbeats 4000000 in
set_option maxRecDepth 100000 in
theorem kJx4a65c_size_8abf5 (l : Launch) (D : va_G) (cI cO cL : ClassId) (E M : Nat) (h : Nat) (m0 : Int32) (e0 : Value) (n0 : Int32)  (sz : Nat) : Met l yJx4a65c_size_8abf5 (fW yJx4a65c_size_8abf5 cJx4a65c_size_8abf5 1 (some .int)) { frames := 0, cells := 0, slots := 0, locals := 0 } (fPre D cI cO cL E M [.ref h] sz [(h, .inr (0, [.int m0, e0, .int n0]))]) (va_Qi (fun (r : Int32) (_ : Unit) => r = n0) (fB D (va_A [(h, .inr (0, [.int m0, e0, .int n0]))] sz) (fun u : Unit => [(h, .inr (0, [.int m0, e0, .int n0]))])) (va_A [(h, .inr (0, [.int m0, e0, .int n0]))] sz)) 0 0 (va_A [(h, .inr (0, [.int m0, e0, .int n0]))] sz) := by
  refine Met.ofW (cc := cJx4a65c_size_8abf5) (maxL := 1) (ret := (some .int)) (by decide) rfl ?_
  intro p e s m args below meth c s₁ B hml hv
  obtain ⟨rfl, hsz, hP, hD0, hE⟩ := hv
  have hx := B.exec
  have hb := B.bytes
  have hr := B.returns
  have hts0 := atoms_spec (ws := (fW yJx4a65c_size_8abf5 cJx4a65c_size_8abf5 1 (some .int))) B.pre
  have hts : ∀ w ∈ fA, w.before _ s = true := fun w h => hts0 w (List.mem_cons_of_mem _ h)
  have hown : s.vm.findClass RJx4a65c = some m.cls := findClass_of_methodNamed B.named
  have hlocks := B.notSynchronized
  subst hsz
  have hD := hD0.self (sz := s.heap.size)
  generalize hAe : va_A [(h, .inr (0, [.int m0, e0, .int n0]))] s.heap.size = A at hD hE ⊢
  have hA : ∀ q : Nat, s.heap.size ≤ q → A q := fun q h => by rw [← hAe]; exact Or.inr h
  have hP : va_P D vwCl [(h, .inr (0, [.int m0, e0, .int n0]))] s.heap := hP
  have hl := lv_entry ([.ref h]) (n := 1) (Nat.le_of_ble_eq_true rfl)
  rw [lg_entry_eq]
  generalize (lg_sl ([.ref h]) ++ List.replicate (1 - (lg_sl ([.ref h])).length) Slot.unset).toArray = ls at hl ⊢
  have hl : lv_has ls 1 [(0, .ref h)] := hl
  refine f_start (A := A) hP (fun H hP hS => ?_)
  refine lv_aload_n hx hb dJx4a65c_size_8abf5_0 rfl (lv_at hl 0 rfl) ?_
  refine va_get (D := D) (ci := 0) (v := .int n0) (C := RJx4a65c) (T := TJx4a65c) (N := 3) hx hb hts uJx4a65c hown hE.1.1 hP 0 rfl rfl 2 (by decide) (hts _ q100) (fun _ h9 => h9) rfl dJx4a65c_size_8abf5_1 ?_
  have hP9 := hP.sub (ws' := [(h, .inr (0, [.int m0, e0, .int n0]))]) [0] rfl
  have hD9 := hD.sub (ws' := [(h, .inr (0, [.int m0, e0, .int n0]))]) [0] (by decide) rfl
  refine W.widen (k := 0) (n := 0) (Nat.le_of_ble_eq_true rfl) (Nat.le_of_ble_eq_true rfl) ?_
  exact W.iret (v := n0) hx hb hr (fun t ht hW => ⟨⟨n0, (), rfl, rfl, by rw [ht]; exact hP9, hD9⟩, hS.F ht⟩) hS.2.2 dJx4a65c_size_8abf5_4
set_option maxHeartbeats 4000000 in
set_option maxRecDepth 100000 in
theorem kJx4a65c_isEmpty_aae02 (l : Launch) (D : va_G) (cI cO cL : ClassId) (E M : Nat) (h : Nat) (m0 : Int32) (e0 : Value)  (sz : Nat) : Met l yJx4a65c_isEmpty_aae02 (fW yJx4a65c_isEmpty_aae02 cJx4a65c_isEmpty_aae02 1 (some .boolean)) { frames := 0, cells := 0, slots := 0, locals := 0 } (fPre D cI cO cL E M [.ref h] sz [(h, .inr (0, [.int m0, e0, .int 0]))]) (va_Qi (fun (r : Int32) (_ : Unit) => r = 1) (fB D (va_A [(h, .inr (0, [.int m0, e0, .int 0]))] sz) (fun u : Unit => [(h, .inr (0, [.int m0, e0, .int 0]))])) (va_A [(h, .inr (0, [.int m0, e0, .int 0]))] sz)) 0 0 (va_A [(h, .inr (0, [.int m0, e0, .int 0]))] sz) := by
  refine Met.ofW (cc := cJx4a65c_isEmpty_aae02) (maxL := 1) (ret := (some .boolean)) (by decide) rfl ?_
  intro p e s m args below meth c s₁ B hml hv
  obtain ⟨rfl, hsz, hP, hD0, hE⟩ := hv
  have hx := B.exec
  have hb := B.bytes
  have hr := B.returns
  have hts0 := atoms_spec (ws := (fW yJx4a65c_isEmpty_aae02 cJx4a65c_isEmpty_aae02 1 (some .boolean))) B.pre
  have hts : ∀ w ∈ fA, w.before _ s = true := fun w h => hts0 w (List.mem_cons_of_mem _ h)
  have hown : s.vm.findClass RJx4a65c = some m.cls := findClass_of_methodNamed B.named
  have hlocks := B.notSynchronized
  subst hsz
  have hD := hD0.self (sz := s.heap.size)
  generalize hAe : va_A [(h, .inr (0, [.int m0, e0, .int 0]))] s.heap.size = A at hD hE ⊢
  have hA : ∀ q : Nat, s.heap.size ≤ q → A q := fun q h => by rw [← hAe]; exact Or.inr h
  have hP : va_P D vwCl [(h, .inr (0, [.int m0, e0, .int 0]))] s.heap := hP
  have hl := lv_entry ([.ref h]) (n := 1) (Nat.le_of_ble_eq_true rfl)
  rw [lg_entry_eq]
  generalize (lg_sl ([.ref h]) ++ List.replicate (1 - (lg_sl ([.ref h])).length) Slot.unset).toArray = ls at hl ⊢
  have hl : lv_has ls 1 [(0, .ref h)] := hl
  refine f_start (A := A) hP (fun H hP hS => ?_)
  refine lv_aload_n hx hb dJx4a65c_isEmpty_aae02_0 rfl (lv_at hl 0 rfl) ?_
  refine va_get (D := D) (ci := 0) (v := .int 0) (C := RJx4a65c) (T := TJx4a65c) (N := 3) hx hb hts uJx4a65c hown hE.1.1 hP 0 rfl rfl 2 (by decide) (hts _ q100) (fun _ h9 => h9) rfl dJx4a65c_isEmpty_aae02_1 ?_
  refine lv_if_ne (tgt := 11) hx hb dJx4a65c_isEmpty_aae02_4 (by decide) (fun h => absurd h (by decide)) (fun _ => ?_)
  refine lv_iconst (v := 1) hx hb dJx4a65c_isEmpty_aae02_7 (by decide) ?_
  refine lv_goto (tgt := 12) hx hb dJx4a65c_isEmpty_aae02_8 (by decide) ?_
  have hP9 := hP.sub (ws' := [(h, .inr (0, [.int m0, e0, .int 0]))]) [0] rfl
  have hD9 := hD.sub (ws' := [(h, .inr (0, [.int m0, e0, .int 0]))]) [0] (by decide) rfl
  refine W.widen (k := 0) (n := 0) (Nat.le_of_ble_eq_true rfl) (Nat.le_of_ble_eq_true rfl) ?_
  exact W.zret (v := 1) hx hb hr (by decide) (fun t ht hW => ⟨⟨1, (), rfl, rfl, by rw [ht]; exact hP9, hD9⟩, hS.F ht⟩) hS.2.2 dJx4a65c_isEmpty_aae02_12
set_option maxHeartbeats 4000000 in
set_option maxRecDepth 100000 in
theorem kJx4a65c_grow_92f84 (l : Launch) (D : va_G) (cI cO cL : ClassId) (E M : Nat) (h : Nat) (m0 : Int32)  (sz : Nat) : Met l yJx4a65c_grow_92f84 (fW yJx4a65c_grow_92f84 cJx4a65c_grow_92f84 4 (some (.array (.object "java/lang/Object")))) { frames := 1, cells := 1, slots := 10, locals := 14 } (fPre D cI cO cL E M [.ref h, .int 1] sz [(h, .inr (0, [.int m0, .ref E, .int 0]))]) (va_Qr (fun _ : Unit => True) (fBr D (va_A [(h, .inr (0, [.int m0, .ref E, .int 0]))] sz) (fun (u : Unit) (n : Nat) => [(h, .inr (0, [.int m0, .ref n, .int 0])), (n, .inl (cO, 10, .inr (.inr (.inr (.inr (fun _ => none))))))])) (va_A [(h, .inr (0, [.int m0, .ref E, .int 0]))] sz)) 1 10 (va_A [(h, .inr (0, [.int m0, .ref E, .int 0]))] sz) := by
  refine Met.ofW (cc := cJx4a65c_grow_92f84) (maxL := 4) (ret := (some (.array (.object "java/lang/Object")))) (by decide) rfl ?_
  intro p e s m args below meth c s₁ B hml hv
  obtain ⟨rfl, hsz, hP, hD0, hE⟩ := hv
  have hx := B.exec
  have hb := B.bytes
  have hr := B.returns
  have hts0 := atoms_spec (ws := (fW yJx4a65c_grow_92f84 cJx4a65c_grow_92f84 4 (some (.array (.object "java/lang/Object"))))) B.pre
  have hts : ∀ w ∈ fA, w.before _ s = true := fun w h => hts0 w (List.mem_cons_of_mem _ h)
  have hown : s.vm.findClass RJx4a65c = some m.cls := findClass_of_methodNamed B.named
  have hlocks := B.notSynchronized
  subst hsz
  have hD := hD0.self (sz := s.heap.size)
  generalize hAe : va_A [(h, .inr (0, [.int m0, .ref E, .int 0]))] s.heap.size = A at hD hE ⊢
  have hA : ∀ q : Nat, s.heap.size ≤ q → A q := fun q h => by rw [← hAe]; exact Or.inr h
  have hP : va_P D vwCl [(h, .inr (0, [.int m0, .ref E, .int 0]))] s.heap := hP
  have hl := lv_entry ([.ref h, .int 1]) (n := 4) (Nat.le_of_ble_eq_true rfl)
  rw [lg_entry_eq]
  generalize (lg_sl ([.ref h, .int 1]) ++ List.replicate (4 - (lg_sl ([.ref h, .int 1])).length) Slot.unset).toArray = ls at hl ⊢
  have hl : lv_has ls 4 [(0, .ref h), (1, .int 1)] := hl
  refine f_start (A := A) hP (fun H hP hS => ?_)
  refine lv_aload_n hx hb dJx4a65c_grow_92f84_0 rfl (lv_at hl 0 rfl) ?_
  refine va_get (D := D) (ci := 0) (v := .ref E) (C := RJx4a65c) (T := TJx4a65c) (N := 3) hx hb hts uJx4a65c hown hE.1.1 hP 0 rfl rfl 1 (by decide) (hts _ q26) (fun _ h9 => h9) rfl dJx4a65c_grow_92f84_1 ?_
  refine va_tlen (v := 0) hx hb hE.2.2.1 hS (by decide) dJx4a65c_grow_92f84_4 ?_
  refine lv_istore_n (lv' := [(2, .int 0), (0, .ref h), (1, .int 1)]) hx hb dJx4a65c_grow_92f84_5 rfl hl (by decide) rfl (fun ls hl => ?_)
  refine lv_iload_n hx hb dJx4a65c_grow_92f84_6 rfl (lv_at hl 0 rfl) ?_
  refine lv_if_gt (tgt := 20) hx hb dJx4a65c_grow_92f84_7 (by decide) (fun h => absurd h (by decide)) (fun _ => ?_)
  refine lv_aload_n hx hb dJx4a65c_grow_92f84_10 rfl (lv_at hl 1 rfl) ?_
  refine va_get (D := D) (ci := 0) (v := .ref E) (C := RJx4a65c) (T := TJx4a65c) (N := 3) hx hb hts uJx4a65c hown hE.1.1 hP 0 rfl rfl 1 (by decide) (hts _ q26) (fun _ h9 => h9) rfl dJx4a65c_grow_92f84_11 ?_
  refine va_gets hx hb hE.2.1 hS hown (hts _ q25) (fun _ h => h) dJx4a65c_grow_92f84_14 ?_
  refine lv_acmp_eq (rx := (some E)) (ry := (some E)) (tgt := 45) hx hb dJx4a65c_grow_92f84_17 (by decide) (fun _ => ?_) (fun h => absurd rfl h)
  refine lv_aload_n hx hb dJx4a65c_grow_92f84_45 rfl (lv_at hl 1 rfl) ?_
  refine lv_bipush (v := 10) hx hb dJx4a65c_grow_92f84_46 (by decide) ?_
  refine lv_iload_n hx hb dJx4a65c_grow_92f84_48 rfl (lv_at hl 2 rfl) ?_
  refine va_mmax hx hb (hml.trans hl.1.symm) hown (hts _ q125) (hts _ q126) (hts _ q127) (hts _ q128) (Nat.le_of_ble_eq_true rfl) (Nat.le_of_ble_eq_true rfl) (Nat.le_of_ble_eq_true rfl) (Nat.le_of_ble_eq_true rfl) dJx4a65c_grow_92f84_49 ?_
  refine f_topi (v := 10) (by decide) ?_
  refine va_newq (N' := 10) (C := "java/lang/Object") hx hb hown (hts _ q129) hE.1.2.2.2.1 hE.1.1 hP hD hS hA (by decide) (by decide) (Nat.le_of_ble_eq_true rfl) (Nat.le_of_ble_eq_true rfl) (Nat.le_of_ble_eq_true rfl) dJx4a65c_grow_92f84_52 (fun n_1 cA H hK9 hP hD hS => ?_)
  obtain rfl : cO = cA := f_sameO hK9 (i := 1) (j := 3) rfl rfl
  have hP : va_P D vwCl [(h, .inr (0, [.int m0, .ref E, .int 0])), (n_1, .inl (cO, 10, .inr (.inr (.inr (.inr (fun _ => none))))))] H := hP
  have hD : va_D A [(h, .inr (0, [.int m0, .ref E, .int 0])), (n_1, .inl (cO, 10, .inr (.inr (.inr (.inr (fun _ => none))))))] := hD
  refine lv_dup_x1 hx hb dJx4a65c_grow_92f84_55 rfl rfl ?_
  refine va_put (D := D) (ci := 0) (v := .ref n_1) (ty := .array (.object "java/lang/Object")) (C := RJx4a65c) (T := TJx4a65c) (N := 3) hx hb hts uJx4a65c tyJx4a65c tyJx4a65c_ok nmJx4a65c hown hE.1.1 hP hD hS 0 rfl rfl 1 (by decide) (hts _ q26) (fun _ h9 => h9) rfl (by decide +kernel) rfl rfl (Nat.le_of_ble_eq_true rfl) dJx4a65c_grow_92f84_56 (fun H locs hP hD hS => ?_)
  have hP : va_P D vwCl [(h, .inr (0, [.int m0, .ref n_1, .int 0])), (n_1, .inl (cO, 10, .inr (.inr (.inr (.inr (fun _ => none))))))] H := hP
  have hD : va_D A [(h, .inr (0, [.int m0, .ref n_1, .int 0])), (n_1, .inl (cO, 10, .inr (.inr (.inr (.inr (fun _ => none))))))] := hD
  have hP9 := hP.sub (ws' := [(h, .inr (0, [.int m0, .ref n_1, .int 0])), (n_1, .inl (cO, 10, .inr (.inr (.inr (.inr (fun _ => none))))))]) [0, 1] rfl
  have hD9 := hD.sub (ws' := [(h, .inr (0, [.int m0, .ref n_1, .int 0])), (n_1, .inl (cO, 10, .inr (.inr (.inr (.inr (fun _ => none))))))]) [0, 1] (by decide) rfl
  refine W.widen (k := 1) (n := 10) (Nat.le_of_ble_eq_true rfl) (Nat.le_of_ble_eq_true rfl) ?_
  exact W.aret hx hb hr (Or.inr ⟨_, rfl⟩) (Or.inr ⟨_, rfl⟩) (fun t ht hW => ⟨⟨(), n_1, rfl, trivial, by rw [ht]; exact hP9, hD9⟩, hS.F ht⟩) hS.2.2 dJx4a65c_grow_92f84_59
set_option maxHeartbeats 4000000 in
set_option maxRecDepth 100000 in
theorem kJx4a65c_grow_d5877 (l : Launch) (D : va_G) (cI cO cL : ClassId) (E M : Nat) (h : Nat) (m0 : Int32)  (sz : Nat) : Met l yJx4a65c_grow_d5877 (fW yJx4a65c_grow_d5877 cJx4a65c_grow_d5877 1 (some (.array (.object "java/lang/Object")))) { frames := 2, cells := 1, slots := 10, locals := 37 } (fPre D cI cO cL E M [.ref h] sz [(h, .inr (0, [.int m0, .ref E, .int 0]))]) (va_Qr (fun _ : Unit => True) (fBr D (va_A [(h, .inr (0, [.int m0, .ref E, .int 0]))] sz) (fun (u : Unit) (n : Nat) => [(h, .inr (0, [.int m0, .ref n, .int 0])), (n, .inl (cO, 10, .inr (.inr (.inr (.inr (fun _ => none))))))])) (va_A [(h, .inr (0, [.int m0, .ref E, .int 0]))] sz)) 1 10 (va_A [(h, .inr (0, [.int m0, .ref E, .int 0]))] sz) := by
  refine Met.ofW (cc := cJx4a65c_grow_d5877) (maxL := 1) (ret := (some (.array (.object "java/lang/Object")))) (by decide) rfl ?_
  intro p e s m args below meth c s₁ B hml hv
  obtain ⟨rfl, hsz, hP, hD0, hE⟩ := hv
  have hx := B.exec
  have hb := B.bytes
  have hr := B.returns
  have hts0 := atoms_spec (ws := (fW yJx4a65c_grow_d5877 cJx4a65c_grow_d5877 1 (some (.array (.object "java/lang/Object"))))) B.pre
  have hts : ∀ w ∈ fA, w.before _ s = true := fun w h => hts0 w (List.mem_cons_of_mem _ h)
  have hown : s.vm.findClass RJx4a65c = some m.cls := findClass_of_methodNamed B.named
  have hlocks := B.notSynchronized
  subst hsz
  have hD := hD0.self (sz := s.heap.size)
  generalize hAe : va_A [(h, .inr (0, [.int m0, .ref E, .int 0]))] s.heap.size = A at hD hE ⊢
  have hA : ∀ q : Nat, s.heap.size ≤ q → A q := fun q h => by rw [← hAe]; exact Or.inr h
  have hP : va_P D vwCl [(h, .inr (0, [.int m0, .ref E, .int 0]))] s.heap := hP
  have hl := lv_entry ([.ref h]) (n := 1) (Nat.le_of_ble_eq_true rfl)
  rw [lg_entry_eq]
  generalize (lg_sl ([.ref h]) ++ List.replicate (1 - (lg_sl ([.ref h])).length) Slot.unset).toArray = ls at hl ⊢
  have hl : lv_has ls 1 [(0, .ref h)] := hl
  refine f_start (A := A) hP (fun H hP hS => ?_)
  refine lv_aload_n hx hb dJx4a65c_grow_d5877_0 rfl (lv_at hl 0 rfl) ?_
  refine lv_aload_n hx hb dJx4a65c_grow_d5877_1 rfl (lv_at hl 0 rfl) ?_
  refine va_get (D := D) (ci := 0) (v := .int 0) (C := RJx4a65c) (T := TJx4a65c) (N := 3) hx hb hts uJx4a65c hown hE.1.1 hP 0 rfl rfl 2 (by decide) (hts _ q100) (fun _ h9 => h9) rfl dJx4a65c_grow_d5877_2 ?_
  refine lv_iconst (v := 1) hx hb dJx4a65c_grow_d5877_5 (by decide) ?_
  refine f_iadd (v := 1) hx hb dJx4a65c_grow_d5877_6 (by decide) ?_
  refine f_aft_r (wr := []) (f_runV (As := [.int 1]) (rest := []) hx hb hml hown hts (kJx4a65c_grow_92f84 l D cI cO cL E M h m0 H.size) (fcwV 1 hts q121 q122 q123 q15 q124 rfl rfl (by decide +kernel) ⟨(Nat.le_of_ble_eq_true rfl), (Nat.le_of_ble_eq_true rfl)⟩) hE hP hD hS hA [0] rfl (by decide) (q0 := 0) (ci := 0) rfl rfl rfl rfl hl.1 rfl (Nat.le_of_ble_eq_true rfl) dJx4a65c_grow_d5877_7 ⟨(Nat.le_of_ble_eq_true rfl), (Nat.le_of_ble_eq_true rfl)⟩) hP hD hS hA [0] [] rfl rfl (by decide) (by decide) (fun u n_1 H locs hr0 hP hD hS => ?_)
  have hP : va_P D vwCl [(h, .inr (0, [.int m0, .ref n_1, .int 0])), (n_1, .inl (cO, 10, .inr (.inr (.inr (.inr (fun _ => none))))))] H := hP
  have hD : va_D A [(h, .inr (0, [.int m0, .ref n_1, .int 0])), (n_1, .inl (cO, 10, .inr (.inr (.inr (.inr (fun _ => none))))))] := hD
  have hP9 := hP.sub (ws' := [(h, .inr (0, [.int m0, .ref n_1, .int 0])), (n_1, .inl (cO, 10, .inr (.inr (.inr (.inr (fun _ => none))))))]) [0, 1] rfl
  have hD9 := hD.sub (ws' := [(h, .inr (0, [.int m0, .ref n_1, .int 0])), (n_1, .inl (cO, 10, .inr (.inr (.inr (.inr (fun _ => none))))))]) [0, 1] (by decide) rfl
  refine W.widen (k := 1) (n := 10) (Nat.le_of_ble_eq_true rfl) (Nat.le_of_ble_eq_true rfl) ?_
  exact W.aret hx hb hr (Or.inr ⟨_, rfl⟩) (Or.inr ⟨_, rfl⟩) (fun t ht hW => ⟨⟨(), n_1, rfl, trivial, by rw [ht]; exact hP9, hD9⟩, hS.F ht⟩) hS.2.2 dJx4a65c_grow_d5877_10
set_option maxHeartbeats 4000000 in
set_option maxRecDepth 100000 in
theorem kJx4a65c_add_72be8_p (l : Launch) (D : va_G) (cI cO cL : ClassId) (E M : Nat) (h : Nat) (m0 : Int32) (v : Nat) (f0 : Value) (f1 : Value) (f2 : Value) (f3 : Value) (f4 : Value) (f5 : Value)  (sz : Nat) : Met l yJx4a65c_add_72be8 (fW yJx4a65c_add_72be8 cJx4a65c_add_72be8 4 none) { frames := 3, cells := 1, slots := 10, locals := 57 } (fPre D cI cO cL E M [.ref h, .ref v, .ref E, .int 0] sz [(h, .inr (0, [.int m0, .ref E, .int 0])), (v, .inr (5, [f0, f1, f2, f3, f4, f5]))]) (va_Qv (fun _ : Nat => True) (fB D (va_A [(h, .inr (0, [.int m0, .ref E, .int 0])), (v, .inr (5, [f0, f1, f2, f3, f4, f5]))] sz) (fun u : Nat => [(h, .inr (0, [.int m0, .ref u, .int 1])), (v, .inr (5, [f0, f1, f2, f3, f4, f5])), (u, .inl (cO, 10, .inr (.inr (.inr (.inr (va_up (fun _ => none) 0 (some v)))))))])) (va_A [(h, .inr (0, [.int m0, .ref E, .int 0])), (v, .inr (5, [f0, f1, f2, f3, f4, f5]))] sz)) 1 10 (va_A [(h, .inr (0, [.int m0, .ref E, .int 0])), (v, .inr (5, [f0, f1, f2, f3, f4, f5]))] sz) := by
  refine Met.ofW (cc := cJx4a65c_add_72be8) (maxL := 4) (ret := none) (by decide) rfl ?_
  intro p e s m args below meth c s₁ B hml hv
  obtain ⟨rfl, hsz, hP, hD0, hE⟩ := hv
  have hx := B.exec
  have hb := B.bytes
  have hr := B.returns
  have hts0 := atoms_spec (ws := (fW yJx4a65c_add_72be8 cJx4a65c_add_72be8 4 none)) B.pre
  have hts : ∀ w ∈ fA, w.before _ s = true := fun w h => hts0 w (List.mem_cons_of_mem _ h)
  have hown : s.vm.findClass RJx4a65c = some m.cls := findClass_of_methodNamed B.named
  have hlocks := B.notSynchronized
  subst hsz
  have hD := hD0.self (sz := s.heap.size)
  generalize hAe : va_A [(h, .inr (0, [.int m0, .ref E, .int 0])), (v, .inr (5, [f0, f1, f2, f3, f4, f5]))] s.heap.size = A at hD hE ⊢
  have hA : ∀ q : Nat, s.heap.size ≤ q → A q := fun q h => by rw [← hAe]; exact Or.inr h
  have hP : va_P D vwCl [(h, .inr (0, [.int m0, .ref E, .int 0])), (v, .inr (5, [f0, f1, f2, f3, f4, f5]))] s.heap := hP
  have hl := lv_entry ([.ref h, .ref v, .ref E, .int 0]) (n := 4) (Nat.le_of_ble_eq_true rfl)
  rw [lg_entry_eq]
  generalize (lg_sl ([.ref h, .ref v, .ref E, .int 0]) ++ List.replicate (4 - (lg_sl ([.ref h, .ref v, .ref E, .int 0])).length) Slot.unset).toArray = ls at hl ⊢
  have hl : lv_has ls 4 [(0, .ref h), (1, .ref v), (2, .ref E), (3, .int 0)] := hl
  refine f_start (A := A) hP (fun H hP hS => ?_)
  refine lv_iload_n hx hb dJx4a65c_add_72be8_0 rfl (lv_at hl 3 rfl) ?_
  refine lv_aload_n hx hb dJx4a65c_add_72be8_1 rfl (lv_at hl 2 rfl) ?_
  refine va_tlen (v := 0) hx hb hE.2.2.1 hS (by decide) dJx4a65c_add_72be8_2 ?_
  refine lv_icmp_ne (tgt := 11) hx hb dJx4a65c_add_72be8_3 (by decide) (fun h => absurd h (by decide)) (fun _ => ?_)
  refine lv_aload_n hx hb dJx4a65c_add_72be8_6 rfl (lv_at hl 0 rfl) ?_
  refine f_aft_r (wr := [(v, .inr (5, [f0, f1, f2, f3, f4, f5]))]) (f_runV (As := []) (rest := []) hx hb hml hown hts (kJx4a65c_grow_d5877 l D cI cO cL E M h m0 H.size) (fcwV 0 hts q117 q118 q119 q15 q120 rfl rfl (by decide +kernel) ⟨(Nat.le_of_ble_eq_true rfl), (Nat.le_of_ble_eq_true rfl)⟩) hE hP hD hS hA [0] rfl (by decide) (q0 := 0) (ci := 0) rfl rfl rfl rfl hl.1 rfl (Nat.le_of_ble_eq_true rfl) dJx4a65c_add_72be8_7 ⟨(Nat.le_of_ble_eq_true rfl), (Nat.le_of_ble_eq_true rfl)⟩) hP hD hS hA [0] [1] rfl rfl (by decide) (by decide) (fun u n_1 H locs hr0 hP hD hS => ?_)
  have hP : va_P D vwCl [(v, .inr (5, [f0, f1, f2, f3, f4, f5])), (h, .inr (0, [.int m0, .ref n_1, .int 0])), (n_1, .inl (cO, 10, .inr (.inr (.inr (.inr (fun _ => none))))))] H := hP
  have hD : va_D A [(v, .inr (5, [f0, f1, f2, f3, f4, f5])), (h, .inr (0, [.int m0, .ref n_1, .int 0])), (n_1, .inl (cO, 10, .inr (.inr (.inr (.inr (fun _ => none))))))] := hD
  refine lv_astore_n (lv' := [(2, .ref n_1), (0, .ref h), (1, .ref v), (3, .int 0)]) hx hb dJx4a65c_add_72be8_10 rfl hl (by decide) rfl (fun ls hl => ?_)
  refine lv_aload_n hx hb dJx4a65c_add_72be8_11 rfl (lv_at hl 0 rfl) ?_
  refine lv_iload_n hx hb dJx4a65c_add_72be8_12 rfl (lv_at hl 3 rfl) ?_
  refine lv_aload_n hx hb dJx4a65c_add_72be8_13 rfl (lv_at hl 2 rfl) ?_
  refine vb_astq (E := "java/lang/Object") (C := RX4) hx hb hE.1.1 hP hD hS 2 1 rfl rfl (va_recv hE.1.1 hP (ci := 5) (q0 := 0) (q := (RX4, TX4, 6)) rfl rfl) (vb_asgC (hE.1.2.2.2.2.2.2.2.2.2.1 RX4 (by decide))) (by unfold vp_in; decide) dJx4a65c_add_72be8_14 (fun H locs hP hD hS => ?_)
  rw [show (0 : Int32).toNatClampNeg = 0 from by decide] at hP hD
  have hP : va_P D vwCl [(v, .inr (5, [f0, f1, f2, f3, f4, f5])), (h, .inr (0, [.int m0, .ref n_1, .int 0])), (n_1, .inl (cO, 10, .inr (.inr (.inr (.inr (va_up (fun _ => none) 0 (some v)))))))] H := hP
  have hD : va_D A [(v, .inr (5, [f0, f1, f2, f3, f4, f5])), (h, .inr (0, [.int m0, .ref n_1, .int 0])), (n_1, .inl (cO, 10, .inr (.inr (.inr (.inr (va_up (fun _ => none) 0 (some v)))))))] := hD
  refine lv_aload_n hx hb dJx4a65c_add_72be8_15 rfl (lv_at hl 1 rfl) ?_
  refine lv_iload_n hx hb dJx4a65c_add_72be8_16 rfl (lv_at hl 3 rfl) ?_
  refine lv_iconst (v := 1) hx hb dJx4a65c_add_72be8_17 (by decide) ?_
  refine f_iadd (v := 1) hx hb dJx4a65c_add_72be8_18 (by decide) ?_
  refine va_put (D := D) (ci := 0) (v := .int 1) (ty := .int) (C := RJx4a65c) (T := TJx4a65c) (N := 3) hx hb hts uJx4a65c tyJx4a65c tyJx4a65c_ok nmJx4a65c hown hE.1.1 hP hD hS 1 rfl rfl 2 (by decide) (hts _ q100) (fun _ h9 => h9) rfl (by decide +kernel) rfl rfl (Nat.le_of_ble_eq_true rfl) dJx4a65c_add_72be8_19 (fun H locs hP hD hS => ?_)
  have hP : va_P D vwCl [(v, .inr (5, [f0, f1, f2, f3, f4, f5])), (h, .inr (0, [.int m0, .ref n_1, .int 1])), (n_1, .inl (cO, 10, .inr (.inr (.inr (.inr (va_up (fun _ => none) 0 (some v)))))))] H := hP
  have hD : va_D A [(v, .inr (5, [f0, f1, f2, f3, f4, f5])), (h, .inr (0, [.int m0, .ref n_1, .int 1])), (n_1, .inl (cO, 10, .inr (.inr (.inr (.inr (va_up (fun _ => none) 0 (some v)))))))] := hD
  have hP9 := hP.sub (ws' := [(h, .inr (0, [.int m0, .ref n_1, .int 1])), (v, .inr (5, [f0, f1, f2, f3, f4, f5])), (n_1, .inl (cO, 10, .inr (.inr (.inr (.inr (va_up (fun _ => none) 0 (some v)))))))]) [1, 0, 2] rfl
  have hD9 := hD.sub (ws' := [(h, .inr (0, [.int m0, .ref n_1, .int 1])), (v, .inr (5, [f0, f1, f2, f3, f4, f5])), (n_1, .inl (cO, 10, .inr (.inr (.inr (.inr (va_up (fun _ => none) 0 (some v)))))))]) [1, 0, 2] (by decide) rfl
  refine W.widen (k := 1) (n := 10) (Nat.le_of_ble_eq_true rfl) (Nat.le_of_ble_eq_true rfl) ?_
  exact W.vret hx hb hr (fun t ht hW => ⟨⟨n_1, rfl, trivial, by rw [ht]; exact hP9, hD9⟩, hS.F ht⟩) hS.2.2 dJx4a65c_add_72be8_22
set_option maxHeartbeats 4000000 in
set_option maxRecDepth 100000 in
theorem kJx4a65c_add_9ea2d_p (l : Launch) (D : va_G) (cI cO cL : ClassId) (E M : Nat) (h : Nat) (m0 : Int32) (v : Nat) (f0 : Value) (f1 : Value) (f2 : Value) (f3 : Value) (f4 : Value) (f5 : Value)  (sz : Nat) : Met l yJx4a65c_add_9ea2d (fW yJx4a65c_add_9ea2d cJx4a65c_add_9ea2d 2 (some .boolean)) { frames := 4, cells := 1, slots := 10, locals := 80 } (fPre D cI cO cL E M [.ref h, .ref v] sz [(h, .inr (0, [.int m0, .ref E, .int 0])), (v, .inr (5, [f0, f1, f2, f3, f4, f5]))]) (va_Qi (fun (r : Int32) (_ : Nat) => r = 1) (fB D (va_A [(h, .inr (0, [.int m0, .ref E, .int 0])), (v, .inr (5, [f0, f1, f2, f3, f4, f5]))] sz) (fun u : Nat => [(h, .inr (0, [.int (m0 + 1), .ref u, .int 1])), (v, .inr (5, [f0, f1, f2, f3, f4, f5])), (u, .inl (cO, 10, .inr (.inr (.inr (.inr (va_up (fun _ => none) 0 (some v)))))))])) (va_A [(h, .inr (0, [.int m0, .ref E, .int 0])), (v, .inr (5, [f0, f1, f2, f3, f4, f5]))] sz)) 1 10 (va_A [(h, .inr (0, [.int m0, .ref E, .int 0])), (v, .inr (5, [f0, f1, f2, f3, f4, f5]))] sz) := by
  refine Met.ofW (cc := cJx4a65c_add_9ea2d) (maxL := 2) (ret := (some .boolean)) (by decide) rfl ?_
  intro p e s m args below meth c s₁ B hml hv
  obtain ⟨rfl, hsz, hP, hD0, hE⟩ := hv
  have hx := B.exec
  have hb := B.bytes
  have hr := B.returns
  have hts0 := atoms_spec (ws := (fW yJx4a65c_add_9ea2d cJx4a65c_add_9ea2d 2 (some .boolean))) B.pre
  have hts : ∀ w ∈ fA, w.before _ s = true := fun w h => hts0 w (List.mem_cons_of_mem _ h)
  have hown : s.vm.findClass RJx4a65c = some m.cls := findClass_of_methodNamed B.named
  have hlocks := B.notSynchronized
  subst hsz
  have hD := hD0.self (sz := s.heap.size)
  generalize hAe : va_A [(h, .inr (0, [.int m0, .ref E, .int 0])), (v, .inr (5, [f0, f1, f2, f3, f4, f5]))] s.heap.size = A at hD hE ⊢
  have hA : ∀ q : Nat, s.heap.size ≤ q → A q := fun q h => by rw [← hAe]; exact Or.inr h
  have hP : va_P D vwCl [(h, .inr (0, [.int m0, .ref E, .int 0])), (v, .inr (5, [f0, f1, f2, f3, f4, f5]))] s.heap := hP
  have hl := lv_entry ([.ref h, .ref v]) (n := 2) (Nat.le_of_ble_eq_true rfl)
  rw [lg_entry_eq]
  generalize (lg_sl ([.ref h, .ref v]) ++ List.replicate (2 - (lg_sl ([.ref h, .ref v])).length) Slot.unset).toArray = ls at hl ⊢
  have hl : lv_has ls 2 [(0, .ref h), (1, .ref v)] := hl
  refine f_start (A := A) hP (fun H hP hS => ?_)
  refine lv_aload_n hx hb dJx4a65c_add_9ea2d_0 rfl (lv_at hl 0 rfl) ?_
  refine lv_dup hx hb dJx4a65c_add_9ea2d_1 rfl ?_
  refine va_get (D := D) (ci := 0) (v := .int m0) (C := RJx4a65c) (T := TJx4a65c) (N := 3) hx hb hts uJx4a65c hown hE.1.1 hP 0 rfl rfl 0 (by decide) (hts _ q111) (f_same (hts _ q112)) rfl dJx4a65c_add_9ea2d_2 ?_
  refine lv_iconst (v := 1) hx hb dJx4a65c_add_9ea2d_5 (by decide) ?_
  refine f_iadd (v := m0 + 1) hx hb dJx4a65c_add_9ea2d_6 rfl ?_
  refine va_put (D := D) (ci := 0) (v := .int (m0 + 1)) (ty := .int) (C := RJx4a65c) (T := TJx4a65c) (N := 3) hx hb hts uJx4a65c tyJx4a65c tyJx4a65c_ok nmJx4a65c hown hE.1.1 hP hD hS 0 rfl rfl 0 (by decide) (hts _ q111) (f_same (hts _ q112)) rfl (by decide +kernel) rfl rfl (Nat.le_of_ble_eq_true rfl) dJx4a65c_add_9ea2d_7 (fun H locs hP hD hS => ?_)
  have hP : va_P D vwCl [(h, .inr (0, [.int (m0 + 1), .ref E, .int 0])), (v, .inr (5, [f0, f1, f2, f3, f4, f5]))] H := hP
  have hD : va_D A [(h, .inr (0, [.int (m0 + 1), .ref E, .int 0])), (v, .inr (5, [f0, f1, f2, f3, f4, f5]))] := hD
  refine lv_aload_n hx hb dJx4a65c_add_9ea2d_10 rfl (lv_at hl 0 rfl) ?_
  refine lv_aload_n hx hb dJx4a65c_add_9ea2d_11 rfl (lv_at hl 1 rfl) ?_
  refine lv_aload_n hx hb dJx4a65c_add_9ea2d_12 rfl (lv_at hl 0 rfl) ?_
  refine va_get (D := D) (ci := 0) (v := .ref E) (C := RJx4a65c) (T := TJx4a65c) (N := 3) hx hb hts uJx4a65c hown hE.1.1 hP 0 rfl rfl 1 (by decide) (hts _ q26) (fun _ h9 => h9) rfl dJx4a65c_add_9ea2d_13 ?_
  refine lv_aload_n hx hb dJx4a65c_add_9ea2d_16 rfl (lv_at hl 0 rfl) ?_
  refine va_get (D := D) (ci := 0) (v := .int 0) (C := RJx4a65c) (T := TJx4a65c) (N := 3) hx hb hts uJx4a65c hown hE.1.1 hP 0 rfl rfl 2 (by decide) (hts _ q100) (fun _ h9 => h9) rfl dJx4a65c_add_9ea2d_17 ?_
  refine f_aft_v (wr := []) (f_runV (As := [.ref v, .ref E, .int 0]) (rest := []) hx hb hml hown hts (kJx4a65c_add_72be8_p l D cI cO cL E M h (m0 + 1) v (f0) (f1) (f2) (f3) (f4) (f5) H.size) (fcwV 3 hts q113 q114 q115 q15 q116 rfl rfl (by decide +kernel) ⟨(Nat.le_of_ble_eq_true rfl), (Nat.le_of_ble_eq_true rfl)⟩) hE hP hD hS hA [0, 1] rfl (by decide) (q0 := 0) (ci := 0) rfl rfl rfl rfl hl.1 rfl (Nat.le_of_ble_eq_true rfl) dJx4a65c_add_9ea2d_20 ⟨(Nat.le_of_ble_eq_true rfl), (Nat.le_of_ble_eq_true rfl)⟩) hP hD hS hA [0, 1] [] rfl rfl (by decide) (by decide) (fun u H locs hr0 hP hD hS => ?_)
  obtain ⟨n_1, rfl⟩ : ∃ z, z = u := ⟨_, rfl⟩
  have hP : va_P D vwCl [(h, .inr (0, [.int (m0 + 1), .ref n_1, .int 1])), (v, .inr (5, [f0, f1, f2, f3, f4, f5])), (n_1, .inl (cO, 10, .inr (.inr (.inr (.inr (va_up (fun _ => none) 0 (some v)))))))] H := hP
  have hD : va_D A [(h, .inr (0, [.int (m0 + 1), .ref n_1, .int 1])), (v, .inr (5, [f0, f1, f2, f3, f4, f5])), (n_1, .inl (cO, 10, .inr (.inr (.inr (.inr (va_up (fun _ => none) 0 (some v)))))))] := hD
  refine lv_iconst (v := 1) hx hb dJx4a65c_add_9ea2d_23 (by decide) ?_
  have hP9 := hP.sub (ws' := [(h, .inr (0, [.int (m0 + 1), .ref n_1, .int 1])), (v, .inr (5, [f0, f1, f2, f3, f4, f5])), (n_1, .inl (cO, 10, .inr (.inr (.inr (.inr (va_up (fun _ => none) 0 (some v)))))))]) [0, 1, 2] rfl
  have hD9 := hD.sub (ws' := [(h, .inr (0, [.int (m0 + 1), .ref n_1, .int 1])), (v, .inr (5, [f0, f1, f2, f3, f4, f5])), (n_1, .inl (cO, 10, .inr (.inr (.inr (.inr (va_up (fun _ => none) 0 (some v)))))))]) [0, 1, 2] (by decide) rfl
  refine W.widen (k := 1) (n := 10) (Nat.le_of_ble_eq_true rfl) (Nat.le_of_ble_eq_true rfl) ?_
  exact W.zret (v := 1) hx hb hr (by decide) (fun t ht hW => ⟨⟨1, n_1, rfl, rfl, by rw [ht]; exact hP9, hD9⟩, hS.F ht⟩) hS.2.2 dJx4a65c_add_9ea2d_24
set_option maxHeartbeats 4000000 in
set_option maxRecDepth 100000 in
theorem kJx4a65c_add_72be8_f (l : Launch) (D : va_G) (cI cO cL : ClassId) (E M : Nat) (h : Nat) (m0 : Int32) (v : Nat) (f0 : Value)  (sz : Nat) : Met l yJx4a65c_add_72be8 (fW yJx4a65c_add_72be8 cJx4a65c_add_72be8 4 none) { frames := 3, cells := 1, slots := 10, locals := 57 } (fPre D cI cO cL E M [.ref h, .ref v, .ref E, .int 0] sz [(h, .inr (0, [.int m0, .ref E, .int 0])), (v, .inr (3, [f0]))]) (va_Qv (fun _ : Nat => True) (fB D (va_A [(h, .inr (0, [.int m0, .ref E, .int 0])), (v, .inr (3, [f0]))] sz) (fun u : Nat => [(h, .inr (0, [.int m0, .ref u, .int 1])), (v, .inr (3, [f0])), (u, .inl (cO, 10, .inr (.inr (.inr (.inr (va_up (fun _ => none) 0 (some v)))))))])) (va_A [(h, .inr (0, [.int m0, .ref E, .int 0])), (v, .inr (3, [f0]))] sz)) 1 10 (va_A [(h, .inr (0, [.int m0, .ref E, .int 0])), (v, .inr (3, [f0]))] sz) := by
  refine Met.ofW (cc := cJx4a65c_add_72be8) (maxL := 4) (ret := none) (by decide) rfl ?_
  intro p e s m args below meth c s₁ B hml hv
  obtain ⟨rfl, hsz, hP, hD0, hE⟩ := hv
  have hx := B.exec
  have hb := B.bytes
  have hr := B.returns
  have hts0 := atoms_spec (ws := (fW yJx4a65c_add_72be8 cJx4a65c_add_72be8 4 none)) B.pre
  have hts : ∀ w ∈ fA, w.before _ s = true := fun w h => hts0 w (List.mem_cons_of_mem _ h)
  have hown : s.vm.findClass RJx4a65c = some m.cls := findClass_of_methodNamed B.named
  have hlocks := B.notSynchronized
  subst hsz
  have hD := hD0.self (sz := s.heap.size)
  generalize hAe : va_A [(h, .inr (0, [.int m0, .ref E, .int 0])), (v, .inr (3, [f0]))] s.heap.size = A at hD hE ⊢
  have hA : ∀ q : Nat, s.heap.size ≤ q → A q := fun q h => by rw [← hAe]; exact Or.inr h
  have hP : va_P D vwCl [(h, .inr (0, [.int m0, .ref E, .int 0])), (v, .inr (3, [f0]))] s.heap := hP
  have hl := lv_entry ([.ref h, .ref v, .ref E, .int 0]) (n := 4) (Nat.le_of_ble_eq_true rfl)
  rw [lg_entry_eq]
  generalize (lg_sl ([.ref h, .ref v, .ref E, .int 0]) ++ List.replicate (4 - (lg_sl ([.ref h, .ref v, .ref E, .int 0])).length) Slot.unset).toArray = ls at hl ⊢
  have hl : lv_has ls 4 [(0, .ref h), (1, .ref v), (2, .ref E), (3, .int 0)] := hl
  refine f_start (A := A) hP (fun H hP hS => ?_)
  refine lv_iload_n hx hb dJx4a65c_add_72be8_0 rfl (lv_at hl 3 rfl) ?_
  refine lv_aload_n hx hb dJx4a65c_add_72be8_1 rfl (lv_at hl 2 rfl) ?_
  refine va_tlen (v := 0) hx hb hE.2.2.1 hS (by decide) dJx4a65c_add_72be8_2 ?_
  refine lv_icmp_ne (tgt := 11) hx hb dJx4a65c_add_72be8_3 (by decide) (fun h => absurd h (by decide)) (fun _ => ?_)
  refine lv_aload_n hx hb dJx4a65c_add_72be8_6 rfl (lv_at hl 0 rfl) ?_
  refine f_aft_r (wr := [(v, .inr (3, [f0]))]) (f_runV (As := []) (rest := []) hx hb hml hown hts (kJx4a65c_grow_d5877 l D cI cO cL E M h m0 H.size) (fcwV 0 hts q117 q118 q119 q15 q120 rfl rfl (by decide +kernel) ⟨(Nat.le_of_ble_eq_true rfl), (Nat.le_of_ble_eq_true rfl)⟩) hE hP hD hS hA [0] rfl (by decide) (q0 := 0) (ci := 0) rfl rfl rfl rfl hl.1 rfl (Nat.le_of_ble_eq_true rfl) dJx4a65c_add_72be8_7 ⟨(Nat.le_of_ble_eq_true rfl), (Nat.le_of_ble_eq_true rfl)⟩) hP hD hS hA [0] [1] rfl rfl (by decide) (by decide) (fun u n_1 H locs hr0 hP hD hS => ?_)
  have hP : va_P D vwCl [(v, .inr (3, [f0])), (h, .inr (0, [.int m0, .ref n_1, .int 0])), (n_1, .inl (cO, 10, .inr (.inr (.inr (.inr (fun _ => none))))))] H := hP
  have hD : va_D A [(v, .inr (3, [f0])), (h, .inr (0, [.int m0, .ref n_1, .int 0])), (n_1, .inl (cO, 10, .inr (.inr (.inr (.inr (fun _ => none))))))] := hD
  refine lv_astore_n (lv' := [(2, .ref n_1), (0, .ref h), (1, .ref v), (3, .int 0)]) hx hb dJx4a65c_add_72be8_10 rfl hl (by decide) rfl (fun ls hl => ?_)
  refine lv_aload_n hx hb dJx4a65c_add_72be8_11 rfl (lv_at hl 0 rfl) ?_
  refine lv_iload_n hx hb dJx4a65c_add_72be8_12 rfl (lv_at hl 3 rfl) ?_
  refine lv_aload_n hx hb dJx4a65c_add_72be8_13 rfl (lv_at hl 2 rfl) ?_
  refine vb_astq (E := "java/lang/Object") (C := RX2) hx hb hE.1.1 hP hD hS 2 1 rfl rfl (va_recv hE.1.1 hP (ci := 3) (q0 := 0) (q := (RX2, TX2, 1)) rfl rfl) (vb_asgC (hE.1.2.2.2.2.2.2.2.2.2.1 RX2 (by decide))) (by unfold vp_in; decide) dJx4a65c_add_72be8_14 (fun H locs hP hD hS => ?_)
  rw [show (0 : Int32).toNatClampNeg = 0 from by decide] at hP hD
  have hP : va_P D vwCl [(v, .inr (3, [f0])), (h, .inr (0, [.int m0, .ref n_1, .int 0])), (n_1, .inl (cO, 10, .inr (.inr (.inr (.inr (va_up (fun _ => none) 0 (some v)))))))] H := hP
  have hD : va_D A [(v, .inr (3, [f0])), (h, .inr (0, [.int m0, .ref n_1, .int 0])), (n_1, .inl (cO, 10, .inr (.inr (.inr (.inr (va_up (fun _ => none) 0 (some v)))))))] := hD
  refine lv_aload_n hx hb dJx4a65c_add_72be8_15 rfl (lv_at hl 1 rfl) ?_
  refine lv_iload_n hx hb dJx4a65c_add_72be8_16 rfl (lv_at hl 3 rfl) ?_
  refine lv_iconst (v := 1) hx hb dJx4a65c_add_72be8_17 (by decide) ?_
  refine f_iadd (v := 1) hx hb dJx4a65c_add_72be8_18 (by decide) ?_
  refine va_put (D := D) (ci := 0) (v := .int 1) (ty := .int) (C := RJx4a65c) (T := TJx4a65c) (N := 3) hx hb hts uJx4a65c tyJx4a65c tyJx4a65c_ok nmJx4a65c hown hE.1.1 hP hD hS 1 rfl rfl 2 (by decide) (hts _ q100) (fun _ h9 => h9) rfl (by decide +kernel) rfl rfl (Nat.le_of_ble_eq_true rfl) dJx4a65c_add_72be8_19 (fun H locs hP hD hS => ?_)
  have hP : va_P D vwCl [(v, .inr (3, [f0])), (h, .inr (0, [.int m0, .ref n_1, .int 1])), (n_1, .inl (cO, 10, .inr (.inr (.inr (.inr (va_up (fun _ => none) 0 (some v)))))))] H := hP
  have hD : va_D A [(v, .inr (3, [f0])), (h, .inr (0, [.int m0, .ref n_1, .int 1])), (n_1, .inl (cO, 10, .inr (.inr (.inr (.inr (va_up (fun _ => none) 0 (some v)))))))] := hD
  have hP9 := hP.sub (ws' := [(h, .inr (0, [.int m0, .ref n_1, .int 1])), (v, .inr (3, [f0])), (n_1, .inl (cO, 10, .inr (.inr (.inr (.inr (va_up (fun _ => none) 0 (some v)))))))]) [1, 0, 2] rfl
  have hD9 := hD.sub (ws' := [(h, .inr (0, [.int m0, .ref n_1, .int 1])), (v, .inr (3, [f0])), (n_1, .inl (cO, 10, .inr (.inr (.inr (.inr (va_up (fun _ => none) 0 (some v)))))))]) [1, 0, 2] (by decide) rfl
  refine W.widen (k := 1) (n := 10) (Nat.le_of_ble_eq_true rfl) (Nat.le_of_ble_eq_true rfl) ?_
  exact W.vret hx hb hr (fun t ht hW => ⟨⟨n_1, rfl, trivial, by rw [ht]; exact hP9, hD9⟩, hS.F ht⟩) hS.2.2 dJx4a65c_add_72be8_22
set_option maxHeartbeats 4000000 in
set_option maxRecDepth 100000 in
theorem kJx4a65c_add_9ea2d_f (l : Launch) (D : va_G) (cI cO cL : ClassId) (E M : Nat) (h : Nat) (m0 : Int32) (v : Nat) (f0 : Value)  (sz : Nat) : Met l yJx4a65c_add_9ea2d (fW yJx4a65c_add_9ea2d cJx4a65c_add_9ea2d 2 (some .boolean)) { frames := 4, cells := 1, slots := 10, locals := 80 } (fPre D cI cO cL E M [.ref h, .ref v] sz [(h, .inr (0, [.int m0, .ref E, .int 0])), (v, .inr (3, [f0]))]) (va_Qi (fun (r : Int32) (_ : Nat) => r = 1) (fB D (va_A [(h, .inr (0, [.int m0, .ref E, .int 0])), (v, .inr (3, [f0]))] sz) (fun u : Nat => [(h, .inr (0, [.int (m0 + 1), .ref u, .int 1])), (v, .inr (3, [f0])), (u, .inl (cO, 10, .inr (.inr (.inr (.inr (va_up (fun _ => none) 0 (some v)))))))])) (va_A [(h, .inr (0, [.int m0, .ref E, .int 0])), (v, .inr (3, [f0]))] sz)) 1 10 (va_A [(h, .inr (0, [.int m0, .ref E, .int 0])), (v, .inr (3, [f0]))] sz) := by
  refine Met.ofW (cc := cJx4a65c_add_9ea2d) (maxL := 2) (ret := (some .boolean)) (by decide) rfl ?_
  intro p e s m args below meth c s₁ B hml hv
  obtain ⟨rfl, hsz, hP, hD0, hE⟩ := hv
  have hx := B.exec
  have hb := B.bytes
  have hr := B.returns
  have hts0 := atoms_spec (ws := (fW yJx4a65c_add_9ea2d cJx4a65c_add_9ea2d 2 (some .boolean))) B.pre
  have hts : ∀ w ∈ fA, w.before _ s = true := fun w h => hts0 w (List.mem_cons_of_mem _ h)
  have hown : s.vm.findClass RJx4a65c = some m.cls := findClass_of_methodNamed B.named
  have hlocks := B.notSynchronized
  subst hsz
  have hD := hD0.self (sz := s.heap.size)
  generalize hAe : va_A [(h, .inr (0, [.int m0, .ref E, .int 0])), (v, .inr (3, [f0]))] s.heap.size = A at hD hE ⊢
  have hA : ∀ q : Nat, s.heap.size ≤ q → A q := fun q h => by rw [← hAe]; exact Or.inr h
  have hP : va_P D vwCl [(h, .inr (0, [.int m0, .ref E, .int 0])), (v, .inr (3, [f0]))] s.heap := hP
  have hl := lv_entry ([.ref h, .ref v]) (n := 2) (Nat.le_of_ble_eq_true rfl)
  rw [lg_entry_eq]
  generalize (lg_sl ([.ref h, .ref v]) ++ List.replicate (2 - (lg_sl ([.ref h, .ref v])).length) Slot.unset).toArray = ls at hl ⊢
  have hl : lv_has ls 2 [(0, .ref h), (1, .ref v)] := hl
  refine f_start (A := A) hP (fun H hP hS => ?_)
  refine lv_aload_n hx hb dJx4a65c_add_9ea2d_0 rfl (lv_at hl 0 rfl) ?_
  refine lv_dup hx hb dJx4a65c_add_9ea2d_1 rfl ?_
  refine va_get (D := D) (ci := 0) (v := .int m0) (C := RJx4a65c) (T := TJx4a65c) (N := 3) hx hb hts uJx4a65c hown hE.1.1 hP 0 rfl rfl 0 (by decide) (hts _ q111) (f_same (hts _ q112)) rfl dJx4a65c_add_9ea2d_2 ?_
  refine lv_iconst (v := 1) hx hb dJx4a65c_add_9ea2d_5 (by decide) ?_
  refine f_iadd (v := m0 + 1) hx hb dJx4a65c_add_9ea2d_6 rfl ?_
  refine va_put (D := D) (ci := 0) (v := .int (m0 + 1)) (ty := .int) (C := RJx4a65c) (T := TJx4a65c) (N := 3) hx hb hts uJx4a65c tyJx4a65c tyJx4a65c_ok nmJx4a65c hown hE.1.1 hP hD hS 0 rfl rfl 0 (by decide) (hts _ q111) (f_same (hts _ q112)) rfl (by decide +kernel) rfl rfl (Nat.le_of_ble_eq_true rfl) dJx4a65c_add_9ea2d_7 (fun H locs hP hD hS => ?_)
  have hP : va_P D vwCl [(h, .inr (0, [.int (m0 + 1), .ref E, .int 0])), (v, .inr (3, [f0]))] H := hP
  have hD : va_D A [(h, .inr (0, [.int (m0 + 1), .ref E, .int 0])), (v, .inr (3, [f0]))] := hD
  refine lv_aload_n hx hb dJx4a65c_add_9ea2d_10 rfl (lv_at hl 0 rfl) ?_
  refine lv_aload_n hx hb dJx4a65c_add_9ea2d_11 rfl (lv_at hl 1 rfl) ?_
  refine lv_aload_n hx hb dJx4a65c_add_9ea2d_12 rfl (lv_at hl 0 rfl) ?_
  refine va_get (D := D) (ci := 0) (v := .ref E) (C := RJx4a65c) (T := TJx4a65c) (N := 3) hx hb hts uJx4a65c hown hE.1.1 hP 0 rfl rfl 1 (by decide) (hts _ q26) (fun _ h9 => h9) rfl dJx4a65c_add_9ea2d_13 ?_
  refine lv_aload_n hx hb dJx4a65c_add_9ea2d_16 rfl (lv_at hl 0 rfl) ?_
  refine va_get (D := D) (ci := 0) (v := .int 0) (C := RJx4a65c) (T := TJx4a65c) (N := 3) hx hb hts uJx4a65c hown hE.1.1 hP 0 rfl rfl 2 (by decide) (hts _ q100) (fun _ h9 => h9) rfl dJx4a65c_add_9ea2d_17 ?_
  refine f_aft_v (wr := []) (f_runV (As := [.ref v, .ref E, .int 0]) (rest := []) hx hb hml hown hts (kJx4a65c_add_72be8_f l D cI cO cL E M h (m0 + 1) v (f0) H.size) (fcwV 3 hts q113 q114 q115 q15 q116 rfl rfl (by decide +kernel) ⟨(Nat.le_of_ble_eq_true rfl), (Nat.le_of_ble_eq_true rfl)⟩) hE hP hD hS hA [0, 1] rfl (by decide) (q0 := 0) (ci := 0) rfl rfl rfl rfl hl.1 rfl (Nat.le_of_ble_eq_true rfl) dJx4a65c_add_9ea2d_20 ⟨(Nat.le_of_ble_eq_true rfl), (Nat.le_of_ble_eq_true rfl)⟩) hP hD hS hA [0, 1] [] rfl rfl (by decide) (by decide) (fun u H locs hr0 hP hD hS => ?_)
  obtain ⟨n_1, rfl⟩ : ∃ z, z = u := ⟨_, rfl⟩
  have hP : va_P D vwCl [(h, .inr (0, [.int (m0 + 1), .ref n_1, .int 1])), (v, .inr (3, [f0])), (n_1, .inl (cO, 10, .inr (.inr (.inr (.inr (va_up (fun _ => none) 0 (some v)))))))] H := hP
  have hD : va_D A [(h, .inr (0, [.int (m0 + 1), .ref n_1, .int 1])), (v, .inr (3, [f0])), (n_1, .inl (cO, 10, .inr (.inr (.inr (.inr (va_up (fun _ => none) 0 (some v)))))))] := hD
  refine lv_iconst (v := 1) hx hb dJx4a65c_add_9ea2d_23 (by decide) ?_
  have hP9 := hP.sub (ws' := [(h, .inr (0, [.int (m0 + 1), .ref n_1, .int 1])), (v, .inr (3, [f0])), (n_1, .inl (cO, 10, .inr (.inr (.inr (.inr (va_up (fun _ => none) 0 (some v)))))))]) [0, 1, 2] rfl
  have hD9 := hD.sub (ws' := [(h, .inr (0, [.int (m0 + 1), .ref n_1, .int 1])), (v, .inr (3, [f0])), (n_1, .inl (cO, 10, .inr (.inr (.inr (.inr (va_up (fun _ => none) 0 (some v)))))))]) [0, 1, 2] (by decide) rfl
  refine W.widen (k := 1) (n := 10) (Nat.le_of_ble_eq_true rfl) (Nat.le_of_ble_eq_true rfl) ?_
  exact W.zret (v := 1) hx hb hr (by decide) (fun t ht hW => ⟨⟨1, n_1, rfl, rfl, by rw [ht]; exact hP9, hD9⟩, hS.F ht⟩) hS.2.2 dJx4a65c_add_9ea2d_24
set_option maxHeartbeats 4000000 in
set_option maxRecDepth 100000 in
theorem kJx4a65c_add_72be8_q (l : Launch) (D : va_G) (cI cO cL : ClassId) (E M : Nat) (h : Nat) (m0 : Int32) (v : Nat) (f0 : Value) (f1 : Value) (f2 : Value) (f3 : Value) (f4 : Value)  (sz : Nat) : Met l yJx4a65c_add_72be8 (fW yJx4a65c_add_72be8 cJx4a65c_add_72be8 4 none) { frames := 3, cells := 1, slots := 10, locals := 57 } (fPre D cI cO cL E M [.ref h, .ref v, .ref E, .int 0] sz [(h, .inr (0, [.int m0, .ref E, .int 0])), (v, .inr (12, [f0, f1, f2, f3, f4]))]) (va_Qv (fun _ : Nat => True) (fB D (va_A [(h, .inr (0, [.int m0, .ref E, .int 0])), (v, .inr (12, [f0, f1, f2, f3, f4]))] sz) (fun u : Nat => [(h, .inr (0, [.int m0, .ref u, .int 1])), (v, .inr (12, [f0, f1, f2, f3, f4])), (u, .inl (cO, 10, .inr (.inr (.inr (.inr (va_up (fun _ => none) 0 (some v)))))))])) (va_A [(h, .inr (0, [.int m0, .ref E, .int 0])), (v, .inr (12, [f0, f1, f2, f3, f4]))] sz)) 1 10 (va_A [(h, .inr (0, [.int m0, .ref E, .int 0])), (v, .inr (12, [f0, f1, f2, f3, f4]))] sz) := by
  refine Met.ofW (cc := cJx4a65c_add_72be8) (maxL := 4) (ret := none) (by decide) rfl ?_
  intro p e s m args below meth c s₁ B hml hv
  obtain ⟨rfl, hsz, hP, hD0, hE⟩ := hv
  have hx := B.exec
  have hb := B.bytes
  have hr := B.returns
  have hts0 := atoms_spec (ws := (fW yJx4a65c_add_72be8 cJx4a65c_add_72be8 4 none)) B.pre
  have hts : ∀ w ∈ fA, w.before _ s = true := fun w h => hts0 w (List.mem_cons_of_mem _ h)
  have hown : s.vm.findClass RJx4a65c = some m.cls := findClass_of_methodNamed B.named
  have hlocks := B.notSynchronized
  subst hsz
  have hD := hD0.self (sz := s.heap.size)
  generalize hAe : va_A [(h, .inr (0, [.int m0, .ref E, .int 0])), (v, .inr (12, [f0, f1, f2, f3, f4]))] s.heap.size = A at hD hE ⊢
  have hA : ∀ q : Nat, s.heap.size ≤ q → A q := fun q h => by rw [← hAe]; exact Or.inr h
  have hP : va_P D vwCl [(h, .inr (0, [.int m0, .ref E, .int 0])), (v, .inr (12, [f0, f1, f2, f3, f4]))] s.heap := hP
  have hl := lv_entry ([.ref h, .ref v, .ref E, .int 0]) (n := 4) (Nat.le_of_ble_eq_true rfl)
  rw [lg_entry_eq]
  generalize (lg_sl ([.ref h, .ref v, .ref E, .int 0]) ++ List.replicate (4 - (lg_sl ([.ref h, .ref v, .ref E, .int 0])).length) Slot.unset).toArray = ls at hl ⊢
  have hl : lv_has ls 4 [(0, .ref h), (1, .ref v), (2, .ref E), (3, .int 0)] := hl
  refine f_start (A := A) hP (fun H hP hS => ?_)
  refine lv_iload_n hx hb dJx4a65c_add_72be8_0 rfl (lv_at hl 3 rfl) ?_
  refine lv_aload_n hx hb dJx4a65c_add_72be8_1 rfl (lv_at hl 2 rfl) ?_
  refine va_tlen (v := 0) hx hb hE.2.2.1 hS (by decide) dJx4a65c_add_72be8_2 ?_
  refine lv_icmp_ne (tgt := 11) hx hb dJx4a65c_add_72be8_3 (by decide) (fun h => absurd h (by decide)) (fun _ => ?_)
  refine lv_aload_n hx hb dJx4a65c_add_72be8_6 rfl (lv_at hl 0 rfl) ?_
  refine f_aft_r (wr := [(v, .inr (12, [f0, f1, f2, f3, f4]))]) (f_runV (As := []) (rest := []) hx hb hml hown hts (kJx4a65c_grow_d5877 l D cI cO cL E M h m0 H.size) (fcwV 0 hts q117 q118 q119 q15 q120 rfl rfl (by decide +kernel) ⟨(Nat.le_of_ble_eq_true rfl), (Nat.le_of_ble_eq_true rfl)⟩) hE hP hD hS hA [0] rfl (by decide) (q0 := 0) (ci := 0) rfl rfl rfl rfl hl.1 rfl (Nat.le_of_ble_eq_true rfl) dJx4a65c_add_72be8_7 ⟨(Nat.le_of_ble_eq_true rfl), (Nat.le_of_ble_eq_true rfl)⟩) hP hD hS hA [0] [1] rfl rfl (by decide) (by decide) (fun u n_1 H locs hr0 hP hD hS => ?_)
  have hP : va_P D vwCl [(v, .inr (12, [f0, f1, f2, f3, f4])), (h, .inr (0, [.int m0, .ref n_1, .int 0])), (n_1, .inl (cO, 10, .inr (.inr (.inr (.inr (fun _ => none))))))] H := hP
  have hD : va_D A [(v, .inr (12, [f0, f1, f2, f3, f4])), (h, .inr (0, [.int m0, .ref n_1, .int 0])), (n_1, .inl (cO, 10, .inr (.inr (.inr (.inr (fun _ => none))))))] := hD
  refine lv_astore_n (lv' := [(2, .ref n_1), (0, .ref h), (1, .ref v), (3, .int 0)]) hx hb dJx4a65c_add_72be8_10 rfl hl (by decide) rfl (fun ls hl => ?_)
  refine lv_aload_n hx hb dJx4a65c_add_72be8_11 rfl (lv_at hl 0 rfl) ?_
  refine lv_iload_n hx hb dJx4a65c_add_72be8_12 rfl (lv_at hl 3 rfl) ?_
  refine lv_aload_n hx hb dJx4a65c_add_72be8_13 rfl (lv_at hl 2 rfl) ?_
  refine vb_astq (E := "java/lang/Object") (C := RX11) hx hb hE.1.1 hP hD hS 2 1 rfl rfl (va_recv hE.1.1 hP (ci := 12) (q0 := 0) (q := (RX11, TX11, 5)) rfl rfl) (vb_asgC (hE.1.2.2.2.2.2.2.2.2.2.1 RX11 (by decide))) (by unfold vp_in; decide) dJx4a65c_add_72be8_14 (fun H locs hP hD hS => ?_)
  rw [show (0 : Int32).toNatClampNeg = 0 from by decide] at hP hD
  have hP : va_P D vwCl [(v, .inr (12, [f0, f1, f2, f3, f4])), (h, .inr (0, [.int m0, .ref n_1, .int 0])), (n_1, .inl (cO, 10, .inr (.inr (.inr (.inr (va_up (fun _ => none) 0 (some v)))))))] H := hP
  have hD : va_D A [(v, .inr (12, [f0, f1, f2, f3, f4])), (h, .inr (0, [.int m0, .ref n_1, .int 0])), (n_1, .inl (cO, 10, .inr (.inr (.inr (.inr (va_up (fun _ => none) 0 (some v)))))))] := hD
  refine lv_aload_n hx hb dJx4a65c_add_72be8_15 rfl (lv_at hl 1 rfl) ?_
  refine lv_iload_n hx hb dJx4a65c_add_72be8_16 rfl (lv_at hl 3 rfl) ?_
  refine lv_iconst (v := 1) hx hb dJx4a65c_add_72be8_17 (by decide) ?_
  refine f_iadd (v := 1) hx hb dJx4a65c_add_72be8_18 (by decide) ?_
  refine va_put (D := D) (ci := 0) (v := .int 1) (ty := .int) (C := RJx4a65c) (T := TJx4a65c) (N := 3) hx hb hts uJx4a65c tyJx4a65c tyJx4a65c_ok nmJx4a65c hown hE.1.1 hP hD hS 1 rfl rfl 2 (by decide) (hts _ q100) (fun _ h9 => h9) rfl (by decide +kernel) rfl rfl (Nat.le_of_ble_eq_true rfl) dJx4a65c_add_72be8_19 (fun H locs hP hD hS => ?_)
  have hP : va_P D vwCl [(v, .inr (12, [f0, f1, f2, f3, f4])), (h, .inr (0, [.int m0, .ref n_1, .int 1])), (n_1, .inl (cO, 10, .inr (.inr (.inr (.inr (va_up (fun _ => none) 0 (some v)))))))] H := hP
  have hD : va_D A [(v, .inr (12, [f0, f1, f2, f3, f4])), (h, .inr (0, [.int m0, .ref n_1, .int 1])), (n_1, .inl (cO, 10, .inr (.inr (.inr (.inr (va_up (fun _ => none) 0 (some v)))))))] := hD
  have hP9 := hP.sub (ws' := [(h, .inr (0, [.int m0, .ref n_1, .int 1])), (v, .inr (12, [f0, f1, f2, f3, f4])), (n_1, .inl (cO, 10, .inr (.inr (.inr (.inr (va_up (fun _ => none) 0 (some v)))))))]) [1, 0, 2] rfl
  have hD9 := hD.sub (ws' := [(h, .inr (0, [.int m0, .ref n_1, .int 1])), (v, .inr (12, [f0, f1, f2, f3, f4])), (n_1, .inl (cO, 10, .inr (.inr (.inr (.inr (va_up (fun _ => none) 0 (some v)))))))]) [1, 0, 2] (by decide) rfl
  refine W.widen (k := 1) (n := 10) (Nat.le_of_ble_eq_true rfl) (Nat.le_of_ble_eq_true rfl) ?_
  exact W.vret hx hb hr (fun t ht hW => ⟨⟨n_1, rfl, trivial, by rw [ht]; exact hP9, hD9⟩, hS.F ht⟩) hS.2.2 dJx4a65c_add_72be8_22
set_option maxHeartbeats 4000000 in
set_option maxRecDepth 100000 in
theorem kJx4a65c_add_9ea2d_q (l : Launch) (D : va_G) (cI cO cL : ClassId) (E M : Nat) (h : Nat) (m0 : Int32) (v : Nat) (f0 : Value) (f1 : Value) (f2 : Value) (f3 : Value) (f4 : Value)  (sz : Nat) : Met l yJx4a65c_add_9ea2d (fW yJx4a65c_add_9ea2d cJx4a65c_add_9ea2d 2 (some .boolean)) { frames := 4, cells := 1, slots := 10, locals := 80 } (fPre D cI cO cL E M [.ref h, .ref v] sz [(h, .inr (0, [.int m0, .ref E, .int 0])), (v, .inr (12, [f0, f1, f2, f3, f4]))]) (va_Qi (fun (r : Int32) (_ : Nat) => r = 1) (fB D (va_A [(h, .inr (0, [.int m0, .ref E, .int 0])), (v, .inr (12, [f0, f1, f2, f3, f4]))] sz) (fun u : Nat => [(h, .inr (0, [.int (m0 + 1), .ref u, .int 1])), (v, .inr (12, [f0, f1, f2, f3, f4])), (u, .inl (cO, 10, .inr (.inr (.inr (.inr (va_up (fun _ => none) 0 (some v)))))))])) (va_A [(h, .inr (0, [.int m0, .ref E, .int 0])), (v, .inr (12, [f0, f1, f2, f3, f4]))] sz)) 1 10 (va_A [(h, .inr (0, [.int m0, .ref E, .int 0])), (v, .inr (12, [f0, f1, f2, f3, f4]))] sz) := by
  refine Met.ofW (cc := cJx4a65c_add_9ea2d) (maxL := 2) (ret := (some .boolean)) (by decide) rfl ?_
  intro p e s m args below meth c s₁ B hml hv
  obtain ⟨rfl, hsz, hP, hD0, hE⟩ := hv
  have hx := B.exec
  have hb := B.bytes
  have hr := B.returns
  have hts0 := atoms_spec (ws := (fW yJx4a65c_add_9ea2d cJx4a65c_add_9ea2d 2 (some .boolean))) B.pre
  have hts : ∀ w ∈ fA, w.before _ s = true := fun w h => hts0 w (List.mem_cons_of_mem _ h)
  have hown : s.vm.findClass RJx4a65c = some m.cls := findClass_of_methodNamed B.named
  have hlocks := B.notSynchronized
  subst hsz
  have hD := hD0.self (sz := s.heap.size)
  generalize hAe : va_A [(h, .inr (0, [.int m0, .ref E, .int 0])), (v, .inr (12, [f0, f1, f2, f3, f4]))] s.heap.size = A at hD hE ⊢
  have hA : ∀ q : Nat, s.heap.size ≤ q → A q := fun q h => by rw [← hAe]; exact Or.inr h
  have hP : va_P D vwCl [(h, .inr (0, [.int m0, .ref E, .int 0])), (v, .inr (12, [f0, f1, f2, f3, f4]))] s.heap := hP
  have hl := lv_entry ([.ref h, .ref v]) (n := 2) (Nat.le_of_ble_eq_true rfl)
  rw [lg_entry_eq]
  generalize (lg_sl ([.ref h, .ref v]) ++ List.replicate (2 - (lg_sl ([.ref h, .ref v])).length) Slot.unset).toArray = ls at hl ⊢
  have hl : lv_has ls 2 [(0, .ref h), (1, .ref v)] := hl
  refine f_start (A := A) hP (fun H hP hS => ?_)
  refine lv_aload_n hx hb dJx4a65c_add_9ea2d_0 rfl (lv_at hl 0 rfl) ?_
  refine lv_dup hx hb dJx4a65c_add_9ea2d_1 rfl ?_
  refine va_get (D := D) (ci := 0) (v := .int m0) (C := RJx4a65c) (T := TJx4a65c) (N := 3) hx hb hts uJx4a65c hown hE.1.1 hP 0 rfl rfl 0 (by decide) (hts _ q111) (f_same (hts _ q112)) rfl dJx4a65c_add_9ea2d_2 ?_
  refine lv_iconst (v := 1) hx hb dJx4a65c_add_9ea2d_5 (by decide) ?_
  refine f_iadd (v := m0 + 1) hx hb dJx4a65c_add_9ea2d_6 rfl ?_
  refine va_put (D := D) (ci := 0) (v := .int (m0 + 1)) (ty := .int) (C := RJx4a65c) (T := TJx4a65c) (N := 3) hx hb hts uJx4a65c tyJx4a65c tyJx4a65c_ok nmJx4a65c hown hE.1.1 hP hD hS 0 rfl rfl 0 (by decide) (hts _ q111) (f_same (hts _ q112)) rfl (by decide +kernel) rfl rfl (Nat.le_of_ble_eq_true rfl) dJx4a65c_add_9ea2d_7 (fun H locs hP hD hS => ?_)
  have hP : va_P D vwCl [(h, .inr (0, [.int (m0 + 1), .ref E, .int 0])), (v, .inr (12, [f0, f1, f2, f3, f4]))] H := hP
  have hD : va_D A [(h, .inr (0, [.int (m0 + 1), .ref E, .int 0])), (v, .inr (12, [f0, f1, f2, f3, f4]))] := hD
  refine lv_aload_n hx hb dJx4a65c_add_9ea2d_10 rfl (lv_at hl 0 rfl) ?_
  refine lv_aload_n hx hb dJx4a65c_add_9ea2d_11 rfl (lv_at hl 1 rfl) ?_
  refine lv_aload_n hx hb dJx4a65c_add_9ea2d_12 rfl (lv_at hl 0 rfl) ?_
  refine va_get (D := D) (ci := 0) (v := .ref E) (C := RJx4a65c) (T := TJx4a65c) (N := 3) hx hb hts uJx4a65c hown hE.1.1 hP 0 rfl rfl 1 (by decide) (hts _ q26) (fun _ h9 => h9) rfl dJx4a65c_add_9ea2d_13 ?_
  refine lv_aload_n hx hb dJx4a65c_add_9ea2d_16 rfl (lv_at hl 0 rfl) ?_
  refine va_get (D := D) (ci := 0) (v := .int 0) (C := RJx4a65c) (T := TJx4a65c) (N := 3) hx hb hts uJx4a65c hown hE.1.1 hP 0 rfl rfl 2 (by decide) (hts _ q100) (fun _ h9 => h9) rfl dJx4a65c_add_9ea2d_17 ?_
  refine f_aft_v (wr := []) (f_runV (As := [.ref v, .ref E, .int 0]) (rest := []) hx hb hml hown hts (kJx4a65c_add_72be8_q l D cI cO cL E M h (m0 + 1) v (f0) (f1) (f2) (f3) (f4) H.size) (fcwV 3 hts q113 q114 q115 q15 q116 rfl rfl (by decide +kernel) ⟨(Nat.le_of_ble_eq_true rfl), (Nat.le_of_ble_eq_true rfl)⟩) hE hP hD hS hA [0, 1] rfl (by decide) (q0 := 0) (ci := 0) rfl rfl rfl rfl hl.1 rfl (Nat.le_of_ble_eq_true rfl) dJx4a65c_add_9ea2d_20 ⟨(Nat.le_of_ble_eq_true rfl), (Nat.le_of_ble_eq_true rfl)⟩) hP hD hS hA [0, 1] [] rfl rfl (by decide) (by decide) (fun u H locs hr0 hP hD hS => ?_)
  obtain ⟨n_1, rfl⟩ : ∃ z, z = u := ⟨_, rfl⟩
  have hP : va_P D vwCl [(h, .inr (0, [.int (m0 + 1), .ref n_1, .int 1])), (v, .inr (12, [f0, f1, f2, f3, f4])), (n_1, .inl (cO, 10, .inr (.inr (.inr (.inr (va_up (fun _ => none) 0 (some v)))))))] H := hP
  have hD : va_D A [(h, .inr (0, [.int (m0 + 1), .ref n_1, .int 1])), (v, .inr (12, [f0, f1, f2, f3, f4])), (n_1, .inl (cO, 10, .inr (.inr (.inr (.inr (va_up (fun _ => none) 0 (some v)))))))] := hD
  refine lv_iconst (v := 1) hx hb dJx4a65c_add_9ea2d_23 (by decide) ?_
  have hP9 := hP.sub (ws' := [(h, .inr (0, [.int (m0 + 1), .ref n_1, .int 1])), (v, .inr (12, [f0, f1, f2, f3, f4])), (n_1, .inl (cO, 10, .inr (.inr (.inr (.inr (va_up (fun _ => none) 0 (some v)))))))]) [0, 1, 2] rfl
  have hD9 := hD.sub (ws' := [(h, .inr (0, [.int (m0 + 1), .ref n_1, .int 1])), (v, .inr (12, [f0, f1, f2, f3, f4])), (n_1, .inl (cO, 10, .inr (.inr (.inr (.inr (va_up (fun _ => none) 0 (some v)))))))]) [0, 1, 2] (by decide) rfl
  refine W.widen (k := 1) (n := 10) (Nat.le_of_ble_eq_true rfl) (Nat.le_of_ble_eq_true rfl) ?_
  exact W.zret (v := 1) hx hb hr (by decide) (fun t ht hW => ⟨⟨1, n_1, rfl, rfl, by rw [ht]; exact hP9, hD9⟩, hS.F ht⟩) hS.2.2 dJx4a65c_add_9ea2d_24
set_option maxHeartbeats 4000000 in
set_option maxRecDepth 100000 in
theorem kJx4a65c_add_72be8_l (l : Launch) (D : va_G) (cI cO cL : ClassId) (E M : Nat) (h : Nat) (m0 : Int32) (v : Nat) (f0 : Value) (f1 : Value) (f2 : Value)  (sz : Nat) : Met l yJx4a65c_add_72be8 (fW yJx4a65c_add_72be8 cJx4a65c_add_72be8 4 none) { frames := 3, cells := 1, slots := 10, locals := 57 } (fPre D cI cO cL E M [.ref h, .ref v, .ref E, .int 0] sz [(h, .inr (0, [.int m0, .ref E, .int 0])), (v, .inr (0, [f0, f1, f2]))]) (va_Qv (fun _ : Nat => True) (fB D (va_A [(h, .inr (0, [.int m0, .ref E, .int 0])), (v, .inr (0, [f0, f1, f2]))] sz) (fun u : Nat => [(h, .inr (0, [.int m0, .ref u, .int 1])), (v, .inr (0, [f0, f1, f2])), (u, .inl (cO, 10, .inr (.inr (.inr (.inr (va_up (fun _ => none) 0 (some v)))))))])) (va_A [(h, .inr (0, [.int m0, .ref E, .int 0])), (v, .inr (0, [f0, f1, f2]))] sz)) 1 10 (va_A [(h, .inr (0, [.int m0, .ref E, .int 0])), (v, .inr (0, [f0, f1, f2]))] sz) := by
  refine Met.ofW (cc := cJx4a65c_add_72be8) (maxL := 4) (ret := none) (by decide) rfl ?_
  intro p e s m args below meth c s₁ B hml hv
  obtain ⟨rfl, hsz, hP, hD0, hE⟩ := hv
  have hx := B.exec
  have hb := B.bytes
  have hr := B.returns
  have hts0 := atoms_spec (ws := (fW yJx4a65c_add_72be8 cJx4a65c_add_72be8 4 none)) B.pre
  have hts : ∀ w ∈ fA, w.before _ s = true := fun w h => hts0 w (List.mem_cons_of_mem _ h)
  have hown : s.vm.findClass RJx4a65c = some m.cls := findClass_of_methodNamed B.named
  have hlocks := B.notSynchronized
  subst hsz
  have hD := hD0.self (sz := s.heap.size)
  generalize hAe : va_A [(h, .inr (0, [.int m0, .ref E, .int 0])), (v, .inr (0, [f0, f1, f2]))] s.heap.size = A at hD hE ⊢
  have hA : ∀ q : Nat, s.heap.size ≤ q → A q := fun q h => by rw [← hAe]; exact Or.inr h
  have hP : va_P D vwCl [(h, .inr (0, [.int m0, .ref E, .int 0])), (v, .inr (0, [f0, f1, f2]))] s.heap := hP
  have hl := lv_entry ([.ref h, .ref v, .ref E, .int 0]) (n := 4) (Nat.le_of_ble_eq_true rfl)
  rw [lg_entry_eq]
  generalize (lg_sl ([.ref h, .ref v, .ref E, .int 0]) ++ List.replicate (4 - (lg_sl ([.ref h, .ref v, .ref E, .int 0])).length) Slot.unset).toArray = ls at hl ⊢
  have hl : lv_has ls 4 [(0, .ref h), (1, .ref v), (2, .ref E), (3, .int 0)] := hl
  refine f_start (A := A) hP (fun H hP hS => ?_)
  refine lv_iload_n hx hb dJx4a65c_add_72be8_0 rfl (lv_at hl 3 rfl) ?_
  refine lv_aload_n hx hb dJx4a65c_add_72be8_1 rfl (lv_at hl 2 rfl) ?_
  refine va_tlen (v := 0) hx hb hE.2.2.1 hS (by decide) dJx4a65c_add_72be8_2 ?_
  refine lv_icmp_ne (tgt := 11) hx hb dJx4a65c_add_72be8_3 (by decide) (fun h => absurd h (by decide)) (fun _ => ?_)
  refine lv_aload_n hx hb dJx4a65c_add_72be8_6 rfl (lv_at hl 0 rfl) ?_
  refine f_aft_r (wr := [(v, .inr (0, [f0, f1, f2]))]) (f_runV (As := []) (rest := []) hx hb hml hown hts (kJx4a65c_grow_d5877 l D cI cO cL E M h m0 H.size) (fcwV 0 hts q117 q118 q119 q15 q120 rfl rfl (by decide +kernel) ⟨(Nat.le_of_ble_eq_true rfl), (Nat.le_of_ble_eq_true rfl)⟩) hE hP hD hS hA [0] rfl (by decide) (q0 := 0) (ci := 0) rfl rfl rfl rfl hl.1 rfl (Nat.le_of_ble_eq_true rfl) dJx4a65c_add_72be8_7 ⟨(Nat.le_of_ble_eq_true rfl), (Nat.le_of_ble_eq_true rfl)⟩) hP hD hS hA [0] [1] rfl rfl (by decide) (by decide) (fun u n_1 H locs hr0 hP hD hS => ?_)
  have hP : va_P D vwCl [(v, .inr (0, [f0, f1, f2])), (h, .inr (0, [.int m0, .ref n_1, .int 0])), (n_1, .inl (cO, 10, .inr (.inr (.inr (.inr (fun _ => none))))))] H := hP
  have hD : va_D A [(v, .inr (0, [f0, f1, f2])), (h, .inr (0, [.int m0, .ref n_1, .int 0])), (n_1, .inl (cO, 10, .inr (.inr (.inr (.inr (fun _ => none))))))] := hD
  refine lv_astore_n (lv' := [(2, .ref n_1), (0, .ref h), (1, .ref v), (3, .int 0)]) hx hb dJx4a65c_add_72be8_10 rfl hl (by decide) rfl (fun ls hl => ?_)
  refine lv_aload_n hx hb dJx4a65c_add_72be8_11 rfl (lv_at hl 0 rfl) ?_
  refine lv_iload_n hx hb dJx4a65c_add_72be8_12 rfl (lv_at hl 3 rfl) ?_
  refine lv_aload_n hx hb dJx4a65c_add_72be8_13 rfl (lv_at hl 2 rfl) ?_
  refine vb_astq (E := "java/lang/Object") (C := RJx4a65c) hx hb hE.1.1 hP hD hS 2 1 rfl rfl (va_recv hE.1.1 hP (ci := 0) (q0 := 0) (q := (RJx4a65c, TJx4a65c, 3)) rfl rfl) (vb_asgC (hE.1.2.2.2.2.2.2.2.2.2.1 RJx4a65c (by decide))) (by unfold vp_in; decide) dJx4a65c_add_72be8_14 (fun H locs hP hD hS => ?_)
  rw [show (0 : Int32).toNatClampNeg = 0 from by decide] at hP hD
  have hP : va_P D vwCl [(v, .inr (0, [f0, f1, f2])), (h, .inr (0, [.int m0, .ref n_1, .int 0])), (n_1, .inl (cO, 10, .inr (.inr (.inr (.inr (va_up (fun _ => none) 0 (some v)))))))] H := hP
  have hD : va_D A [(v, .inr (0, [f0, f1, f2])), (h, .inr (0, [.int m0, .ref n_1, .int 0])), (n_1, .inl (cO, 10, .inr (.inr (.inr (.inr (va_up (fun _ => none) 0 (some v)))))))] := hD
  refine lv_aload_n hx hb dJx4a65c_add_72be8_15 rfl (lv_at hl 1 rfl) ?_
  refine lv_iload_n hx hb dJx4a65c_add_72be8_16 rfl (lv_at hl 3 rfl) ?_
  refine lv_iconst (v := 1) hx hb dJx4a65c_add_72be8_17 (by decide) ?_
  refine f_iadd (v := 1) hx hb dJx4a65c_add_72be8_18 (by decide) ?_
  refine va_put (D := D) (ci := 0) (v := .int 1) (ty := .int) (C := RJx4a65c) (T := TJx4a65c) (N := 3) hx hb hts uJx4a65c tyJx4a65c tyJx4a65c_ok nmJx4a65c hown hE.1.1 hP hD hS 1 rfl rfl 2 (by decide) (hts _ q100) (fun _ h9 => h9) rfl (by decide +kernel) rfl rfl (Nat.le_of_ble_eq_true rfl) dJx4a65c_add_72be8_19 (fun H locs hP hD hS => ?_)
  have hP : va_P D vwCl [(v, .inr (0, [f0, f1, f2])), (h, .inr (0, [.int m0, .ref n_1, .int 1])), (n_1, .inl (cO, 10, .inr (.inr (.inr (.inr (va_up (fun _ => none) 0 (some v)))))))] H := hP
  have hD : va_D A [(v, .inr (0, [f0, f1, f2])), (h, .inr (0, [.int m0, .ref n_1, .int 1])), (n_1, .inl (cO, 10, .inr (.inr (.inr (.inr (va_up (fun _ => none) 0 (some v)))))))] := hD
  have hP9 := hP.sub (ws' := [(h, .inr (0, [.int m0, .ref n_1, .int 1])), (v, .inr (0, [f0, f1, f2])), (n_1, .inl (cO, 10, .inr (.inr (.inr (.inr (va_up (fun _ => none) 0 (some v)))))))]) [1, 0, 2] rfl
  have hD9 := hD.sub (ws' := [(h, .inr (0, [.int m0, .ref n_1, .int 1])), (v, .inr (0, [f0, f1, f2])), (n_1, .inl (cO, 10, .inr (.inr (.inr (.inr (va_up (fun _ => none) 0 (some v)))))))]) [1, 0, 2] (by decide) rfl
  refine W.widen (k := 1) (n := 10) (Nat.le_of_ble_eq_true rfl) (Nat.le_of_ble_eq_true rfl) ?_
  exact W.vret hx hb hr (fun t ht hW => ⟨⟨n_1, rfl, trivial, by rw [ht]; exact hP9, hD9⟩, hS.F ht⟩) hS.2.2 dJx4a65c_add_72be8_22
set_option maxHeartbeats 4000000 in
set_option maxRecDepth 100000 in
theorem kJx4a65c_add_9ea2d_l (l : Launch) (D : va_G) (cI cO cL : ClassId) (E M : Nat) (h : Nat) (m0 : Int32) (v : Nat) (f0 : Value) (f1 : Value) (f2 : Value)  (sz : Nat) : Met l yJx4a65c_add_9ea2d (fW yJx4a65c_add_9ea2d cJx4a65c_add_9ea2d 2 (some .boolean)) { frames := 4, cells := 1, slots := 10, locals := 80 } (fPre D cI cO cL E M [.ref h, .ref v] sz [(h, .inr (0, [.int m0, .ref E, .int 0])), (v, .inr (0, [f0, f1, f2]))]) (va_Qi (fun (r : Int32) (_ : Nat) => r = 1) (fB D (va_A [(h, .inr (0, [.int m0, .ref E, .int 0])), (v, .inr (0, [f0, f1, f2]))] sz) (fun u : Nat => [(h, .inr (0, [.int (m0 + 1), .ref u, .int 1])), (v, .inr (0, [f0, f1, f2])), (u, .inl (cO, 10, .inr (.inr (.inr (.inr (va_up (fun _ => none) 0 (some v)))))))])) (va_A [(h, .inr (0, [.int m0, .ref E, .int 0])), (v, .inr (0, [f0, f1, f2]))] sz)) 1 10 (va_A [(h, .inr (0, [.int m0, .ref E, .int 0])), (v, .inr (0, [f0, f1, f2]))] sz) := by
  refine Met.ofW (cc := cJx4a65c_add_9ea2d) (maxL := 2) (ret := (some .boolean)) (by decide) rfl ?_
  intro p e s m args below meth c s₁ B hml hv
  obtain ⟨rfl, hsz, hP, hD0, hE⟩ := hv
  have hx := B.exec
  have hb := B.bytes
  have hr := B.returns
  have hts0 := atoms_spec (ws := (fW yJx4a65c_add_9ea2d cJx4a65c_add_9ea2d 2 (some .boolean))) B.pre
  have hts : ∀ w ∈ fA, w.before _ s = true := fun w h => hts0 w (List.mem_cons_of_mem _ h)
  have hown : s.vm.findClass RJx4a65c = some m.cls := findClass_of_methodNamed B.named
  have hlocks := B.notSynchronized
  subst hsz
  have hD := hD0.self (sz := s.heap.size)
  generalize hAe : va_A [(h, .inr (0, [.int m0, .ref E, .int 0])), (v, .inr (0, [f0, f1, f2]))] s.heap.size = A at hD hE ⊢
  have hA : ∀ q : Nat, s.heap.size ≤ q → A q := fun q h => by rw [← hAe]; exact Or.inr h
  have hP : va_P D vwCl [(h, .inr (0, [.int m0, .ref E, .int 0])), (v, .inr (0, [f0, f1, f2]))] s.heap := hP
  have hl := lv_entry ([.ref h, .ref v]) (n := 2) (Nat.le_of_ble_eq_true rfl)
  rw [lg_entry_eq]
  generalize (lg_sl ([.ref h, .ref v]) ++ List.replicate (2 - (lg_sl ([.ref h, .ref v])).length) Slot.unset).toArray = ls at hl ⊢
  have hl : lv_has ls 2 [(0, .ref h), (1, .ref v)] := hl
  refine f_start (A := A) hP (fun H hP hS => ?_)
  refine lv_aload_n hx hb dJx4a65c_add_9ea2d_0 rfl (lv_at hl 0 rfl) ?_
  refine lv_dup hx hb dJx4a65c_add_9ea2d_1 rfl ?_
  refine va_get (D := D) (ci := 0) (v := .int m0) (C := RJx4a65c) (T := TJx4a65c) (N := 3) hx hb hts uJx4a65c hown hE.1.1 hP 0 rfl rfl 0 (by decide) (hts _ q111) (f_same (hts _ q112)) rfl dJx4a65c_add_9ea2d_2 ?_
  refine lv_iconst (v := 1) hx hb dJx4a65c_add_9ea2d_5 (by decide) ?_
  refine f_iadd (v := m0 + 1) hx hb dJx4a65c_add_9ea2d_6 rfl ?_
  refine va_put (D := D) (ci := 0) (v := .int (m0 + 1)) (ty := .int) (C := RJx4a65c) (T := TJx4a65c) (N := 3) hx hb hts uJx4a65c tyJx4a65c tyJx4a65c_ok nmJx4a65c hown hE.1.1 hP hD hS 0 rfl rfl 0 (by decide) (hts _ q111) (f_same (hts _ q112)) rfl (by decide +kernel) rfl rfl (Nat.le_of_ble_eq_true rfl) dJx4a65c_add_9ea2d_7 (fun H locs hP hD hS => ?_)
  have hP : va_P D vwCl [(h, .inr (0, [.int (m0 + 1), .ref E, .int 0])), (v, .inr (0, [f0, f1, f2]))] H := hP
  have hD : va_D A [(h, .inr (0, [.int (m0 + 1), .ref E, .int 0])), (v, .inr (0, [f0, f1, f2]))] := hD
  refine lv_aload_n hx hb dJx4a65c_add_9ea2d_10 rfl (lv_at hl 0 rfl) ?_
  refine lv_aload_n hx hb dJx4a65c_add_9ea2d_11 rfl (lv_at hl 1 rfl) ?_
  refine lv_aload_n hx hb dJx4a65c_add_9ea2d_12 rfl (lv_at hl 0 rfl) ?_
  refine va_get (D := D) (ci := 0) (v := .ref E) (C := RJx4a65c) (T := TJx4a65c) (N := 3) hx hb hts uJx4a65c hown hE.1.1 hP 0 rfl rfl 1 (by decide) (hts _ q26) (fun _ h9 => h9) rfl dJx4a65c_add_9ea2d_13 ?_
  refine lv_aload_n hx hb dJx4a65c_add_9ea2d_16 rfl (lv_at hl 0 rfl) ?_
  refine va_get (D := D) (ci := 0) (v := .int 0) (C := RJx4a65c) (T := TJx4a65c) (N := 3) hx hb hts uJx4a65c hown hE.1.1 hP 0 rfl rfl 2 (by decide) (hts _ q100) (fun _ h9 => h9) rfl dJx4a65c_add_9ea2d_17 ?_
  refine f_aft_v (wr := []) (f_runV (As := [.ref v, .ref E, .int 0]) (rest := []) hx hb hml hown hts (kJx4a65c_add_72be8_l l D cI cO cL E M h (m0 + 1) v (f0) (f1) (f2) H.size) (fcwV 3 hts q113 q114 q115 q15 q116 rfl rfl (by decide +kernel) ⟨(Nat.le_of_ble_eq_true rfl), (Nat.le_of_ble_eq_true rfl)⟩) hE hP hD hS hA [0, 1] rfl (by decide) (q0 := 0) (ci := 0) rfl rfl rfl rfl hl.1 rfl (Nat.le_of_ble_eq_true rfl) dJx4a65c_add_9ea2d_20 ⟨(Nat.le_of_ble_eq_true rfl), (Nat.le_of_ble_eq_true rfl)⟩) hP hD hS hA [0, 1] [] rfl rfl (by decide) (by decide) (fun u H locs hr0 hP hD hS => ?_)
  obtain ⟨n_1, rfl⟩ : ∃ z, z = u := ⟨_, rfl⟩
  have hP : va_P D vwCl [(h, .inr (0, [.int (m0 + 1), .ref n_1, .int 1])), (v, .inr (0, [f0, f1, f2])), (n_1, .inl (cO, 10, .inr (.inr (.inr (.inr (va_up (fun _ => none) 0 (some v)))))))] H := hP
  have hD : va_D A [(h, .inr (0, [.int (m0 + 1), .ref n_1, .int 1])), (v, .inr (0, [f0, f1, f2])), (n_1, .inl (cO, 10, .inr (.inr (.inr (.inr (va_up (fun _ => none) 0 (some v)))))))] := hD
  refine lv_iconst (v := 1) hx hb dJx4a65c_add_9ea2d_23 (by decide) ?_
  have hP9 := hP.sub (ws' := [(h, .inr (0, [.int (m0 + 1), .ref n_1, .int 1])), (v, .inr (0, [f0, f1, f2])), (n_1, .inl (cO, 10, .inr (.inr (.inr (.inr (va_up (fun _ => none) 0 (some v)))))))]) [0, 1, 2] rfl
  have hD9 := hD.sub (ws' := [(h, .inr (0, [.int (m0 + 1), .ref n_1, .int 1])), (v, .inr (0, [f0, f1, f2])), (n_1, .inl (cO, 10, .inr (.inr (.inr (.inr (va_up (fun _ => none) 0 (some v)))))))]) [0, 1, 2] (by decide) rfl
  refine W.widen (k := 1) (n := 10) (Nat.le_of_ble_eq_true rfl) (Nat.le_of_ble_eq_true rfl) ?_
  exact W.zret (v := 1) hx hb hr (by decide) (fun t ht hW => ⟨⟨1, n_1, rfl, rfl, by rw [ht]; exact hP9, hD9⟩, hS.F ht⟩) hS.2.2 dJx4a65c_add_9ea2d_24
set_option maxHeartbeats 4000000 in
set_option maxRecDepth 100000 in
theorem kJ7_copyOf_6403c (l : Launch) (D : va_G) (cI cO cL : ClassId) (E M : Nat)   (sz : Nat) : Met l yJ7_copyOf_6403c (fW yJ7_copyOf_6403c cJ7_copyOf_6403c 4 (some (.array (.object "java/lang/Object")))) { frames := 1, cells := 1, slots := 0, locals := 18 } (fPre D cI cO cL E M [.ref E, .int 0, .ref M] sz []) (va_Qr (fun _ : Unit => True) (fBr D (va_A [] sz) (fun (u : Unit) (n : Nat) => [(n, .inl (cO, 0, .inr (.inr (.inr (.inr (fun _ => none))))))])) (va_A [] sz)) 1 0 (va_A [] sz) := by
  refine Met.ofW (cc := cJ7_copyOf_6403c) (maxL := 4) (ret := (some (.array (.object "java/lang/Object")))) (by decide) rfl ?_
  intro p e s m args below meth c s₁ B hml hv
  obtain ⟨rfl, hsz, hP, hD0, hE⟩ := hv
  have hx := B.exec
  have hb := B.bytes
  have hr := B.returns
  have hts0 := atoms_spec (ws := (fW yJ7_copyOf_6403c cJ7_copyOf_6403c 4 (some (.array (.object "java/lang/Object"))))) B.pre
  have hts : ∀ w ∈ fA, w.before _ s = true := fun w h => hts0 w (List.mem_cons_of_mem _ h)
  have hown : s.vm.findClass RJ7 = some m.cls := findClass_of_methodNamed B.named
  have hlocks := B.notSynchronized
  subst hsz
  have hD := hD0.self (sz := s.heap.size)
  generalize hAe : va_A [] s.heap.size = A at hD hE ⊢
  have hA : ∀ q : Nat, s.heap.size ≤ q → A q := fun q h => by rw [← hAe]; exact Or.inr h
  have hP : va_P D vwCl [] s.heap := hP
  have hl := lv_entry ([.ref E, .int 0, .ref M]) (n := 4) (Nat.le_of_ble_eq_true rfl)
  rw [lg_entry_eq]
  generalize (lg_sl ([.ref E, .int 0, .ref M]) ++ List.replicate (4 - (lg_sl ([.ref E, .int 0, .ref M])).length) Slot.unset).toArray = ls at hl ⊢
  have hl : lv_has ls 4 [(0, .ref E), (1, .int 0), (2, .ref M)] := hl
  refine f_start (A := A) hP (fun H hP hS => ?_)
  refine lv_aload_n hx hb dJ7_copyOf_6403c_0 rfl (lv_at hl 2 rfl) ?_
  refine va_ldcM hx hb hown (hts _ q150) hE.1.2.1 dJ7_copyOf_6403c_1 ?_
  refine lv_acmp_ne (rx := (some M)) (ry := (some M)) (tgt := 13) hx hb dJ7_copyOf_6403c_3 (by decide) (fun h => absurd rfl h) (fun _ => ?_)
  refine lv_iload_n hx hb dJ7_copyOf_6403c_6 rfl (lv_at hl 1 rfl) ?_
  refine va_newq (N' := 0) (C := "java/lang/Object") hx hb hown (hts _ q151) hE.1.2.2.2.1 hE.1.1 hP hD hS hA (by decide) (by decide) (Nat.le_of_ble_eq_true rfl) (Nat.le_of_ble_eq_true rfl) (Nat.le_of_ble_eq_true rfl) dJ7_copyOf_6403c_7 (fun n_1 cA H hK9 hP hD hS => ?_)
  obtain rfl : cO = cA := f_sameO hK9 (i := 1) (j := 3) rfl rfl
  have hP : va_P D vwCl [(n_1, .inl (cO, 0, .inr (.inr (.inr (.inr (fun _ => none))))))] H := hP
  have hD : va_D A [(n_1, .inl (cO, 0, .inr (.inr (.inr (.inr (fun _ => none))))))] := hD
  refine lv_goto (tgt := 24) hx hb dJ7_copyOf_6403c_10 (by decide) ?_
  refine lv_astore_n (lv' := [(3, .ref n_1), (0, .ref E), (1, .int 0), (2, .ref M)]) hx hb dJ7_copyOf_6403c_24 rfl hl (by decide) rfl (fun ls hl => ?_)
  refine lv_aload_n hx hb dJ7_copyOf_6403c_25 rfl (lv_at hl 1 rfl) ?_
  refine lv_iconst (v := 0) hx hb dJ7_copyOf_6403c_26 (by decide) ?_
  refine lv_aload_n hx hb dJ7_copyOf_6403c_27 rfl (lv_at hl 0 rfl) ?_
  refine lv_iconst (v := 0) hx hb dJ7_copyOf_6403c_28 (by decide) ?_
  refine lv_aload_n hx hb dJ7_copyOf_6403c_29 rfl (lv_at hl 1 rfl) ?_
  refine va_tlen (v := 0) hx hb hE.2.2.1 hS (by decide) dJ7_copyOf_6403c_30 ?_
  refine lv_iload_n hx hb dJ7_copyOf_6403c_31 rfl (lv_at hl 2 rfl) ?_
  refine va_mmin hx hb (hml.trans hl.1.symm) hown (hts _ q152) (hts _ q153) (hts _ q127) (hts _ q154) (Nat.le_of_ble_eq_true rfl) (Nat.le_of_ble_eq_true rfl) (Nat.le_of_ble_eq_true rfl) (Nat.le_of_ble_eq_true rfl) dJ7_copyOf_6403c_32 ?_
  refine f_topi (v := 0) (by decide) ?_
  refine va_copyg hx hb (hml.trans hl.1.symm) hown (hts _ q155) (hts _ q156) (hts _ q157) (hts _ q158) hE.1.1 hP hD hS 0 1 hE.2.2.1 rfl rfl (by decide) (by decide) (by decide) (by decide) (by decide) (Nat.le_of_ble_eq_true rfl) (by rw [f_nfw]; exact Nat.le_of_ble_eq_true rfl) dJ7_copyOf_6403c_35 (fun H locs hP hD hS => ?_)
  rw [f_cpyg] at hP hD
  have hP : va_P D vwCl [(n_1, .inl (cO, 0, .inr (.inr (.inr (.inr (fun _ => none))))))] H := hP
  have hD : va_D A [(n_1, .inl (cO, 0, .inr (.inr (.inr (.inr (fun _ => none))))))] := hD
  refine lv_aload_n hx hb dJ7_copyOf_6403c_38 rfl (lv_at hl 0 rfl) ?_
  have hP9 := hP.sub (ws' := [(n_1, .inl (cO, 0, .inr (.inr (.inr (.inr (fun _ => none))))))]) [0] rfl
  have hD9 := hD.sub (ws' := [(n_1, .inl (cO, 0, .inr (.inr (.inr (.inr (fun _ => none))))))]) [0] (by decide) rfl
  refine W.widen (k := 1) (n := 0) (Nat.le_of_ble_eq_true rfl) (Nat.le_of_ble_eq_true rfl) ?_
  exact W.aret hx hb hr (Or.inr ⟨_, rfl⟩) (Or.inr ⟨_, rfl⟩) (fun t ht hW => ⟨⟨(), n_1, rfl, trivial, by rw [ht]; exact hP9, hD9⟩, hS.F ht⟩) hS.2.2 dJ7_copyOf_6403c_39
set_option maxHeartbeats 4000000 in
set_option maxRecDepth 100000 in
theorem kJ7_copyOf_1904c (l : Launch) (D : va_G) (cI cO cL : ClassId) (E M : Nat)   (sz : Nat) : Met l yJ7_copyOf_1904c (fW yJ7_copyOf_1904c cJ7_copyOf_1904c 2 (some (.array (.object "java/lang/Object")))) { frames := 2, cells := 1, slots := 0, locals := 41 } (fPre D cI cO cL E M [.ref E, .int 0] sz []) (va_Qr (fun _ : Unit => True) (fBr D (va_A [] sz) (fun (u : Unit) (n : Nat) => [(n, .inl (cO, 0, .inr (.inr (.inr (.inr (fun _ => none))))))])) (va_A [] sz)) 1 0 (va_A [] sz) := by
  refine Met.ofW (cc := cJ7_copyOf_1904c) (maxL := 2) (ret := (some (.array (.object "java/lang/Object")))) (by decide) rfl ?_
  intro p e s m args below meth c s₁ B hml hv
  obtain ⟨rfl, hsz, hP, hD0, hE⟩ := hv
  have hx := B.exec
  have hb := B.bytes
  have hr := B.returns
  have hts0 := atoms_spec (ws := (fW yJ7_copyOf_1904c cJ7_copyOf_1904c 2 (some (.array (.object "java/lang/Object"))))) B.pre
  have hts : ∀ w ∈ fA, w.before _ s = true := fun w h => hts0 w (List.mem_cons_of_mem _ h)
  have hown : s.vm.findClass RJ7 = some m.cls := findClass_of_methodNamed B.named
  have hlocks := B.notSynchronized
  subst hsz
  have hD := hD0.self (sz := s.heap.size)
  generalize hAe : va_A [] s.heap.size = A at hD hE ⊢
  have hA : ∀ q : Nat, s.heap.size ≤ q → A q := fun q h => by rw [← hAe]; exact Or.inr h
  have hP : va_P D vwCl [] s.heap := hP
  have hl := lv_entry ([.ref E, .int 0]) (n := 2) (Nat.le_of_ble_eq_true rfl)
  rw [lg_entry_eq]
  generalize (lg_sl ([.ref E, .int 0]) ++ List.replicate (2 - (lg_sl ([.ref E, .int 0])).length) Slot.unset).toArray = ls at hl ⊢
  have hl : lv_has ls 2 [(0, .ref E), (1, .int 0)] := hl
  refine f_start (A := A) hP (fun H hP hS => ?_)
  refine lv_aload_n hx hb dJ7_copyOf_1904c_0 rfl (lv_at hl 0 rfl) ?_
  refine lv_iload_n hx hb dJ7_copyOf_1904c_1 rfl (lv_at hl 1 rfl) ?_
  refine lv_aload_n hx hb dJ7_copyOf_1904c_2 rfl (lv_at hl 0 rfl) ?_
  refine va_getC hx hb (hml.trans hl.1.symm) hown (hts _ q143) (va_Dc.use hE.1.2.2.1) (hts _ q144) (hts _ q145) (hts _ q146) hE.1.2.1 (f_atE hE hS) (Nat.le_of_ble_eq_true rfl) (Nat.le_of_ble_eq_true rfl) dJ7_copyOf_1904c_3 ?_
  refine f_aft_r (wr := []) (f_runS (As := [.ref E, .int 0, .ref M]) (rest := []) hx hb hml hown hts (kJ7_copyOf_6403c l D cI cO cL E M  H.size) (fcwS 3 hts q147 q148 q141 q149 rfl rfl (by decide +kernel) ⟨(Nat.le_of_ble_eq_true rfl), (Nat.le_of_ble_eq_true rfl)⟩) hE hP hD hS hA [] rfl (by decide) rfl hl.1 rfl (Nat.le_of_ble_eq_true rfl) dJ7_copyOf_1904c_6 ⟨(Nat.le_of_ble_eq_true rfl), (Nat.le_of_ble_eq_true rfl)⟩) hP hD hS hA [] [] rfl rfl (by decide) (by decide) (fun u n_1 H locs hr0 hP hD hS => ?_)
  have hP : va_P D vwCl [(n_1, .inl (cO, 0, .inr (.inr (.inr (.inr (fun _ => none))))))] H := hP
  have hD : va_D A [(n_1, .inl (cO, 0, .inr (.inr (.inr (.inr (fun _ => none))))))] := hD
  have hP9 := hP.sub (ws' := [(n_1, .inl (cO, 0, .inr (.inr (.inr (.inr (fun _ => none))))))]) [0] rfl
  have hD9 := hD.sub (ws' := [(n_1, .inl (cO, 0, .inr (.inr (.inr (.inr (fun _ => none))))))]) [0] (by decide) rfl
  refine W.widen (k := 1) (n := 0) (Nat.le_of_ble_eq_true rfl) (Nat.le_of_ble_eq_true rfl) ?_
  exact W.aret hx hb hr (Or.inr ⟨_, rfl⟩) (Or.inr ⟨_, rfl⟩) (fun t ht hW => ⟨⟨(), n_1, rfl, trivial, by rw [ht]; exact hP9, hD9⟩, hS.F ht⟩) hS.2.2 dJ7_copyOf_1904c_9
set_option maxHeartbeats 4000000 in
set_option maxRecDepth 100000 in
theorem kJx4a65c_toArray_d5877 (l : Launch) (D : va_G) (cI cO cL : ClassId) (E M : Nat) (h : Nat) (m0 : Int32)  (sz : Nat) : Met l yJx4a65c_toArray_d5877 (fW yJx4a65c_toArray_d5877 cJx4a65c_toArray_d5877 1 (some (.array (.object "java/lang/Object")))) { frames := 3, cells := 1, slots := 0, locals := 62 } (fPre D cI cO cL E M [.ref h] sz [(h, .inr (0, [.int m0, .ref E, .int 0]))]) (va_Qr (fun _ : Unit => True) (fBr D (va_A [(h, .inr (0, [.int m0, .ref E, .int 0]))] sz) (fun (u : Unit) (n : Nat) => [(h, .inr (0, [.int m0, .ref E, .int 0])), (n, .inl (cO, 0, .inr (.inr (.inr (.inr (fun _ => none))))))])) (va_A [(h, .inr (0, [.int m0, .ref E, .int 0]))] sz)) 1 0 (va_A [(h, .inr (0, [.int m0, .ref E, .int 0]))] sz) := by
  refine Met.ofW (cc := cJx4a65c_toArray_d5877) (maxL := 1) (ret := (some (.array (.object "java/lang/Object")))) (by decide) rfl ?_
  intro p e s m args below meth c s₁ B hml hv
  obtain ⟨rfl, hsz, hP, hD0, hE⟩ := hv
  have hx := B.exec
  have hb := B.bytes
  have hr := B.returns
  have hts0 := atoms_spec (ws := (fW yJx4a65c_toArray_d5877 cJx4a65c_toArray_d5877 1 (some (.array (.object "java/lang/Object"))))) B.pre
  have hts : ∀ w ∈ fA, w.before _ s = true := fun w h => hts0 w (List.mem_cons_of_mem _ h)
  have hown : s.vm.findClass RJx4a65c = some m.cls := findClass_of_methodNamed B.named
  have hlocks := B.notSynchronized
  subst hsz
  have hD := hD0.self (sz := s.heap.size)
  generalize hAe : va_A [(h, .inr (0, [.int m0, .ref E, .int 0]))] s.heap.size = A at hD hE ⊢
  have hA : ∀ q : Nat, s.heap.size ≤ q → A q := fun q h => by rw [← hAe]; exact Or.inr h
  have hP : va_P D vwCl [(h, .inr (0, [.int m0, .ref E, .int 0]))] s.heap := hP
  have hl := lv_entry ([.ref h]) (n := 1) (Nat.le_of_ble_eq_true rfl)
  rw [lg_entry_eq]
  generalize (lg_sl ([.ref h]) ++ List.replicate (1 - (lg_sl ([.ref h])).length) Slot.unset).toArray = ls at hl ⊢
  have hl : lv_has ls 1 [(0, .ref h)] := hl
  refine f_start (A := A) hP (fun H hP hS => ?_)
  refine lv_aload_n hx hb dJx4a65c_toArray_d5877_0 rfl (lv_at hl 0 rfl) ?_
  refine va_get (D := D) (ci := 0) (v := .ref E) (C := RJx4a65c) (T := TJx4a65c) (N := 3) hx hb hts uJx4a65c hown hE.1.1 hP 0 rfl rfl 1 (by decide) (hts _ q26) (fun _ h9 => h9) rfl dJx4a65c_toArray_d5877_1 ?_
  refine lv_aload_n hx hb dJx4a65c_toArray_d5877_4 rfl (lv_at hl 0 rfl) ?_
  refine va_get (D := D) (ci := 0) (v := .int 0) (C := RJx4a65c) (T := TJx4a65c) (N := 3) hx hb hts uJx4a65c hown hE.1.1 hP 0 rfl rfl 2 (by decide) (hts _ q100) (fun _ h9 => h9) rfl dJx4a65c_toArray_d5877_5 ?_
  refine f_aft_r (wr := [(h, .inr (0, [.int m0, .ref E, .int 0]))]) (f_runS (As := [.ref E, .int 0]) (rest := []) hx hb hml hown hts (kJ7_copyOf_1904c l D cI cO cL E M  H.size) (fcwS 2 hts q139 q140 q141 q142 rfl rfl (by decide +kernel) ⟨(Nat.le_of_ble_eq_true rfl), (Nat.le_of_ble_eq_true rfl)⟩) hE hP hD hS hA [] rfl (by decide) rfl hl.1 rfl (Nat.le_of_ble_eq_true rfl) dJx4a65c_toArray_d5877_8 ⟨(Nat.le_of_ble_eq_true rfl), (Nat.le_of_ble_eq_true rfl)⟩) hP hD hS hA [] [0] rfl rfl (by decide) (by decide) (fun u n_1 H locs hr0 hP hD hS => ?_)
  have hP : va_P D vwCl [(h, .inr (0, [.int m0, .ref E, .int 0])), (n_1, .inl (cO, 0, .inr (.inr (.inr (.inr (fun _ => none))))))] H := hP
  have hD : va_D A [(h, .inr (0, [.int m0, .ref E, .int 0])), (n_1, .inl (cO, 0, .inr (.inr (.inr (.inr (fun _ => none))))))] := hD
  have hP9 := hP.sub (ws' := [(h, .inr (0, [.int m0, .ref E, .int 0])), (n_1, .inl (cO, 0, .inr (.inr (.inr (.inr (fun _ => none))))))]) [0, 1] rfl
  have hD9 := hD.sub (ws' := [(h, .inr (0, [.int m0, .ref E, .int 0])), (n_1, .inl (cO, 0, .inr (.inr (.inr (.inr (fun _ => none))))))]) [0, 1] (by decide) rfl
  refine W.widen (k := 1) (n := 0) (Nat.le_of_ble_eq_true rfl) (Nat.le_of_ble_eq_true rfl) ?_
  exact W.aret hx hb hr (Or.inr ⟨_, rfl⟩) (Or.inr ⟨_, rfl⟩) (fun t ht hW => ⟨⟨(), n_1, rfl, trivial, by rw [ht]; exact hP9, hD9⟩, hS.F ht⟩) hS.2.2 dJx4a65c_toArray_d5877_11
set_option maxHeartbeats 4000000 in
set_option maxRecDepth 100000 in
theorem kJx4a65c_addAll_f0b43 (l : Launch) (D : va_G) (cI cO cL : ClassId) (E M : Nat) (h : Nat) (m0 : Int32) (g : Nat) (k0 : Int32)  (sz : Nat) : Met l yJx4a65c_addAll_f0b43 (fW yJx4a65c_addAll_f0b43 cJx4a65c_addAll_f0b43 6 (some .boolean)) { frames := 4, cells := 1, slots := 0, locals := 82 } (fPre D cI cO cL E M [.ref h, .ref g] sz [(h, .inr (0, [.int m0, .ref E, .int 0])), (g, .inr (0, [.int k0, .ref E, .int 0]))]) (va_Qi (fun (r : Int32) (_ : Unit) => r = 0) (fB D (va_A [(h, .inr (0, [.int m0, .ref E, .int 0])), (g, .inr (0, [.int k0, .ref E, .int 0]))] sz) (fun u : Unit => [(h, .inr (0, [.int (m0 + 1), .ref E, .int 0])), (g, .inr (0, [.int k0, .ref E, .int 0]))])) (va_A [(h, .inr (0, [.int m0, .ref E, .int 0])), (g, .inr (0, [.int k0, .ref E, .int 0]))] sz)) 1 0 (va_A [(h, .inr (0, [.int m0, .ref E, .int 0])), (g, .inr (0, [.int k0, .ref E, .int 0]))] sz) := by
  refine Met.ofW (cc := cJx4a65c_addAll_f0b43) (maxL := 6) (ret := (some .boolean)) (by decide) rfl ?_
  intro p e s m args below meth c s₁ B hml hv
  obtain ⟨rfl, hsz, hP, hD0, hE⟩ := hv
  have hx := B.exec
  have hb := B.bytes
  have hr := B.returns
  have hts0 := atoms_spec (ws := (fW yJx4a65c_addAll_f0b43 cJx4a65c_addAll_f0b43 6 (some .boolean))) B.pre
  have hts : ∀ w ∈ fA, w.before _ s = true := fun w h => hts0 w (List.mem_cons_of_mem _ h)
  have hown : s.vm.findClass RJx4a65c = some m.cls := findClass_of_methodNamed B.named
  have hlocks := B.notSynchronized
  subst hsz
  have hD := hD0.self (sz := s.heap.size)
  generalize hAe : va_A [(h, .inr (0, [.int m0, .ref E, .int 0])), (g, .inr (0, [.int k0, .ref E, .int 0]))] s.heap.size = A at hD hE ⊢
  have hA : ∀ q : Nat, s.heap.size ≤ q → A q := fun q h => by rw [← hAe]; exact Or.inr h
  have hP : va_P D vwCl [(h, .inr (0, [.int m0, .ref E, .int 0])), (g, .inr (0, [.int k0, .ref E, .int 0]))] s.heap := hP
  have hl := lv_entry ([.ref h, .ref g]) (n := 6) (Nat.le_of_ble_eq_true rfl)
  rw [lg_entry_eq]
  generalize (lg_sl ([.ref h, .ref g]) ++ List.replicate (6 - (lg_sl ([.ref h, .ref g])).length) Slot.unset).toArray = ls at hl ⊢
  have hl : lv_has ls 6 [(0, .ref h), (1, .ref g)] := hl
  refine f_start (A := A) hP (fun H hP hS => ?_)
  refine lv_aload_n hx hb dJx4a65c_addAll_f0b43_0 rfl (lv_at hl 1 rfl) ?_
  refine f_aft_Fr (wr := [(h, .inr (0, [.int m0, .ref E, .int 0]))]) (f_runF (x := ⟨"java/util/Collection", "toArray", "()[Ljava/lang/Object;"⟩) (As := []) (rest := []) hx hb hml hown hts (kJx4a65c_toArray_d5877 l D cI cO cL E M g k0 H.size) (fcwF 0 hts q1033 q1034 q1035 q15 q1036 rfl rfl hE.1.2.2.2.2.2.2.2.2.2.2 (by decide +kernel) ⟨(Nat.le_of_ble_eq_true rfl), (Nat.le_of_ble_eq_true rfl)⟩) hE hP hD hS hA [1] rfl (by decide) (q0 := 1) (ci := 0) rfl rfl rfl rfl hl.1 rfl (Nat.le_of_ble_eq_true rfl) dJx4a65c_addAll_f0b43_1 ⟨(Nat.le_of_ble_eq_true rfl), (Nat.le_of_ble_eq_true rfl)⟩) hP hD hS hA [1] [0] rfl rfl (by decide) (by decide) (fun u n_1 H locs hr0 hP hD hS => ?_)
  have hP : va_P D vwCl [(h, .inr (0, [.int m0, .ref E, .int 0])), (g, .inr (0, [.int k0, .ref E, .int 0])), (n_1, .inl (cO, 0, .inr (.inr (.inr (.inr (fun _ => none))))))] H := hP
  have hD : va_D A [(h, .inr (0, [.int m0, .ref E, .int 0])), (g, .inr (0, [.int k0, .ref E, .int 0])), (n_1, .inl (cO, 0, .inr (.inr (.inr (.inr (fun _ => none))))))] := hD
  refine lv_astore_n (lv' := [(2, .ref n_1), (0, .ref h), (1, .ref g)]) hx hb dJx4a65c_addAll_f0b43_6 rfl hl (by decide) rfl (fun ls hl => ?_)
  refine lv_aload_n hx hb dJx4a65c_addAll_f0b43_7 rfl (lv_at hl 1 rfl) ?_
  refine lv_dup hx hb dJx4a65c_addAll_f0b43_8 rfl ?_
  refine va_get (D := D) (ci := 0) (v := .int m0) (C := RJx4a65c) (T := TJx4a65c) (N := 3) hx hb hts uJx4a65c hown hE.1.1 hP 0 rfl rfl 0 (by decide) (hts _ q111) (f_same (hts _ q112)) rfl dJx4a65c_addAll_f0b43_9 ?_
  refine lv_iconst (v := 1) hx hb dJx4a65c_addAll_f0b43_12 (by decide) ?_
  refine f_iadd (v := m0 + 1) hx hb dJx4a65c_addAll_f0b43_13 rfl ?_
  refine va_put (D := D) (ci := 0) (v := .int (m0 + 1)) (ty := .int) (C := RJx4a65c) (T := TJx4a65c) (N := 3) hx hb hts uJx4a65c tyJx4a65c tyJx4a65c_ok nmJx4a65c hown hE.1.1 hP hD hS 0 rfl rfl 0 (by decide) (hts _ q111) (f_same (hts _ q112)) rfl (by decide +kernel) rfl rfl (Nat.le_of_ble_eq_true rfl) dJx4a65c_addAll_f0b43_14 (fun H locs hP hD hS => ?_)
  have hP : va_P D vwCl [(h, .inr (0, [.int (m0 + 1), .ref E, .int 0])), (g, .inr (0, [.int k0, .ref E, .int 0])), (n_1, .inl (cO, 0, .inr (.inr (.inr (.inr (fun _ => none))))))] H := hP
  have hD : va_D A [(h, .inr (0, [.int (m0 + 1), .ref E, .int 0])), (g, .inr (0, [.int k0, .ref E, .int 0])), (n_1, .inl (cO, 0, .inr (.inr (.inr (.inr (fun _ => none))))))] := hD
  refine lv_aload_n hx hb dJx4a65c_addAll_f0b43_17 rfl (lv_at hl 0 rfl) ?_
  refine va_alen (v := 0) hx hb hE.1.1 hP 2 1 rfl rfl (by decide) dJx4a65c_addAll_f0b43_18 ?_
  refine lv_istore_n (lv' := [(3, .int 0), (2, .ref n_1), (0, .ref h), (1, .ref g)]) hx hb dJx4a65c_addAll_f0b43_19 rfl hl (by decide) rfl (fun ls hl => ?_)
  refine lv_iload_n hx hb dJx4a65c_addAll_f0b43_20 rfl (lv_at hl 0 rfl) ?_
  refine lv_if_ne (tgt := 26) hx hb dJx4a65c_addAll_f0b43_21 (by decide) (fun h => absurd h (by decide)) (fun _ => ?_)
  refine lv_iconst (v := 0) hx hb dJx4a65c_addAll_f0b43_24 (by decide) ?_
  have hP9 := hP.sub (ws' := [(h, .inr (0, [.int (m0 + 1), .ref E, .int 0])), (g, .inr (0, [.int k0, .ref E, .int 0]))]) [0, 1] rfl
  have hD9 := hD.sub (ws' := [(h, .inr (0, [.int (m0 + 1), .ref E, .int 0])), (g, .inr (0, [.int k0, .ref E, .int 0]))]) [0, 1] (by decide) rfl
  refine W.widen (k := 1) (n := 0) (Nat.le_of_ble_eq_true rfl) (Nat.le_of_ble_eq_true rfl) ?_
  exact W.zret (v := 0) hx hb hr (by decide) (fun t ht hW => ⟨⟨0, (), rfl, rfl, by rw [ht]; exact hP9, hD9⟩, hS.F ht⟩) hS.2.2 dJx4a65c_addAll_f0b43_25
set_option maxHeartbeats 4000000 in
set_option maxRecDepth 100000 in
theorem kJ9_floorMod_7cf53 (l : Launch) (D : va_G) (cI cO cL : ClassId) (E M : Nat) (k : Nat) (hk : k < 6010) (sz : Nat) : Met l yJ9_floorMod_7cf53 (fW yJ9_floorMod_7cf53 cJ9_floorMod_7cf53 3 (some .int)) { frames := 0, cells := 0, slots := 0, locals := 0 } (fPre D cI cO cL E M [.int (nI k), .int 9] sz []) (va_Qi (fun (r : Int32) (_ : Unit) => r = nI (k % 9)) (fB D (va_A [] sz) (fun u : Unit => [])) (va_A [] sz)) 0 0 (va_A [] sz) := by
  refine va_MetF (cc := cJ9_floorMod_7cf53) (maxL := 3) (ret := (some .int)) (by decide +kernel) rfl ?_
  intro p e s m args below meth c s₁ B hml hv
  obtain ⟨rfl, hsz, hP, hD0, hE⟩ := hv
  have hx := B.exec
  have hb := B.bytes
  have hr := B.returns
  have hts0 := atoms_spec (ws := (fW yJ9_floorMod_7cf53 cJ9_floorMod_7cf53 3 (some .int))) B.pre
  have hts : ∀ w ∈ fA, w.before _ s = true := fun w h => hts0 w (List.mem_cons_of_mem _ h)
  have hown : s.vm.findClass RJ9 = some m.cls := findClass_of_methodNamed B.named
  have hlocks := B.notSynchronized
  subst hsz
  have hD := hD0.self (sz := s.heap.size)
  generalize hAe : va_A [] s.heap.size = A at hD hE ⊢
  have hA : ∀ q : Nat, s.heap.size ≤ q → A q := fun q h => by rw [← hAe]; exact Or.inr h
  have hP : va_P D vwCl [] s.heap := hP
  have hl := lv_entry ([.int (nI k), .int 9]) (n := 3) (Nat.le_of_ble_eq_true rfl)
  rw [lg_entry_eq]
  generalize (lg_sl ([.int (nI k), .int 9]) ++ List.replicate (3 - (lg_sl ([.int (nI k), .int 9])).length) Slot.unset).toArray = ls at hl ⊢
  have hl : lv_has ls 3 [(0, .int (nI k)), (1, .int 9)] := hl
  refine f_start (A := A) hP (fun H hP hS => ?_)
  refine lv_iload_n hx hb dJ9_floorMod_7cf53_0 rfl (lv_at hl 0 rfl) ?_
  refine lv_iload_n hx hb dJ9_floorMod_7cf53_1 rfl (lv_at hl 1 rfl) ?_
  refine f_irem (v := nI (k % 9)) hx hb dJ9_floorMod_7cf53_2 (by decide) (f_rem9 hk) ?_
  refine lv_istore_n (lv' := [(2, .int (nI (k % 9))), (0, .int (nI k)), (1, .int 9)]) hx hb dJ9_floorMod_7cf53_3 rfl hl (by decide) rfl (fun ls hl => ?_)
  refine lv_iload_n hx hb dJ9_floorMod_7cf53_4 rfl (lv_at hl 1 rfl) ?_
  refine lv_iload_n hx hb dJ9_floorMod_7cf53_5 rfl (lv_at hl 2 rfl) ?_
  refine f_ixor (v := (nI k) ^^^ 9) hx hb dJ9_floorMod_7cf53_6 rfl ?_
  refine lv_if_ge (tgt := 18) hx hb dJ9_floorMod_7cf53_7 (by decide) (fun _ => ?_) (fun h => absurd (f_xor9 hk) h)
  refine lv_iload_n hx hb dJ9_floorMod_7cf53_18 rfl (lv_at hl 0 rfl) ?_
  have hP9 := f_P0 (D := D) (H := H)
  have hD9 := f_D0 (A := A)
  refine W.widen (k := 0) (n := 0) (Nat.le_of_ble_eq_true rfl) (Nat.le_of_ble_eq_true rfl) ?_
  exact W.iret (v := nI (k % 9)) hx hb hr (fun t ht hW => ⟨⟨nI (k % 9), (), rfl, rfl, by rw [ht]; exact hP9, hD9⟩, hS.F ht⟩) hS.2.2 dJ9_floorMod_7cf53_19
set_option maxHeartbeats 4000000 in
set_option maxRecDepth 100000 in
theorem kJ6_bitCount_0f7a4 (l : Launch) (D : va_G) (cI cO cL : ClassId) (E M : Nat)   (sz : Nat) : Met l yJ6_bitCount_0f7a4 (fW yJ6_bitCount_0f7a4 cJ6_bitCount_0f7a4 1 (some .int)) { frames := 0, cells := 0, slots := 0, locals := 0 } (fPre D cI cO cL E M [.int 0] sz []) (va_Qi (fun (r : Int32) (_ : Unit) => r = 0) (fB D (va_A [] sz) (fun u : Unit => [])) (va_A [] sz)) 0 0 (va_A [] sz) := by
  refine Met.ofW (cc := cJ6_bitCount_0f7a4) (maxL := 1) (ret := (some .int)) (by decide) rfl ?_
  intro p e s m args below meth c s₁ B hml hv
  obtain ⟨rfl, hsz, hP, hD0, hE⟩ := hv
  have hx := B.exec
  have hb := B.bytes
  have hr := B.returns
  have hts0 := atoms_spec (ws := (fW yJ6_bitCount_0f7a4 cJ6_bitCount_0f7a4 1 (some .int))) B.pre
  have hts : ∀ w ∈ fA, w.before _ s = true := fun w h => hts0 w (List.mem_cons_of_mem _ h)
  have hown : s.vm.findClass RJ6 = some m.cls := findClass_of_methodNamed B.named
  have hlocks := B.notSynchronized
  subst hsz
  have hD := hD0.self (sz := s.heap.size)
  generalize hAe : va_A [] s.heap.size = A at hD hE ⊢
  have hA : ∀ q : Nat, s.heap.size ≤ q → A q := fun q h => by rw [← hAe]; exact Or.inr h
  have hP : va_P D vwCl [] s.heap := hP
  have hl := lv_entry ([.int 0]) (n := 1) (Nat.le_of_ble_eq_true rfl)
  rw [lg_entry_eq]
  generalize (lg_sl ([.int 0]) ++ List.replicate (1 - (lg_sl ([.int 0])).length) Slot.unset).toArray = ls at hl ⊢
  have hl : lv_has ls 1 [(0, .int 0)] := hl
  refine f_start (A := A) hP (fun H hP hS => ?_)
  refine lv_iload_n hx hb dJ6_bitCount_0f7a4_0 rfl (lv_at hl 0 rfl) ?_
  refine lv_iload_n hx hb dJ6_bitCount_0f7a4_1 rfl (lv_at hl 0 rfl) ?_
  refine lv_iconst (v := 1) hx hb dJ6_bitCount_0f7a4_2 (by decide) ?_
  refine f_ushr (v := 0) hx hb dJ6_bitCount_0f7a4_3 (by decide) ?_
  refine lv_ldcw hx hb hown (hts _ q668) dJ6_bitCount_0f7a4_4 ?_
  refine f_iand (v := 0) hx hb dJ6_bitCount_0f7a4_7 (by decide) ?_
  refine f_isub (v := 0) hx hb dJ6_bitCount_0f7a4_8 (by decide) ?_
  refine lv_istore_n (lv' := [(0, .int 0)]) hx hb dJ6_bitCount_0f7a4_9 rfl hl (by decide) rfl (fun ls hl => ?_)
  refine lv_iload_n hx hb dJ6_bitCount_0f7a4_10 rfl (lv_at hl 0 rfl) ?_
  refine lv_ldcw hx hb hown (hts _ q669) dJ6_bitCount_0f7a4_11 ?_
  refine f_iand (v := 0) hx hb dJ6_bitCount_0f7a4_14 (by decide) ?_
  refine lv_iload_n hx hb dJ6_bitCount_0f7a4_15 rfl (lv_at hl 0 rfl) ?_
  refine lv_iconst (v := 2) hx hb dJ6_bitCount_0f7a4_16 (by decide) ?_
  refine f_ushr (v := 0) hx hb dJ6_bitCount_0f7a4_17 (by decide) ?_
  refine lv_ldcw hx hb hown (hts _ q669) dJ6_bitCount_0f7a4_18 ?_
  refine f_iand (v := 0) hx hb dJ6_bitCount_0f7a4_21 (by decide) ?_
  refine f_iadd (v := 0) hx hb dJ6_bitCount_0f7a4_22 (by decide) ?_
  refine lv_istore_n (lv' := [(0, .int 0)]) hx hb dJ6_bitCount_0f7a4_23 rfl hl (by decide) rfl (fun ls hl => ?_)
  refine lv_iload_n hx hb dJ6_bitCount_0f7a4_24 rfl (lv_at hl 0 rfl) ?_
  refine lv_iload_n hx hb dJ6_bitCount_0f7a4_25 rfl (lv_at hl 0 rfl) ?_
  refine lv_iconst (v := 4) hx hb dJ6_bitCount_0f7a4_26 (by decide) ?_
  refine f_ushr (v := 0) hx hb dJ6_bitCount_0f7a4_27 (by decide) ?_
  refine f_iadd (v := 0) hx hb dJ6_bitCount_0f7a4_28 (by decide) ?_
  refine lv_ldcw hx hb hown (hts _ q670) dJ6_bitCount_0f7a4_29 ?_
  refine f_iand (v := 0) hx hb dJ6_bitCount_0f7a4_32 (by decide) ?_
  refine lv_istore_n (lv' := [(0, .int 0)]) hx hb dJ6_bitCount_0f7a4_33 rfl hl (by decide) rfl (fun ls hl => ?_)
  refine lv_iload_n hx hb dJ6_bitCount_0f7a4_34 rfl (lv_at hl 0 rfl) ?_
  refine lv_iload_n hx hb dJ6_bitCount_0f7a4_35 rfl (lv_at hl 0 rfl) ?_
  refine lv_bipush (v := 8) hx hb dJ6_bitCount_0f7a4_36 (by decide) ?_
  refine f_ushr (v := 0) hx hb dJ6_bitCount_0f7a4_38 (by decide) ?_
  refine f_iadd (v := 0) hx hb dJ6_bitCount_0f7a4_39 (by decide) ?_
  refine lv_istore_n (lv' := [(0, .int 0)]) hx hb dJ6_bitCount_0f7a4_40 rfl hl (by decide) rfl (fun ls hl => ?_)
  refine lv_iload_n hx hb dJ6_bitCount_0f7a4_41 rfl (lv_at hl 0 rfl) ?_
  refine lv_iload_n hx hb dJ6_bitCount_0f7a4_42 rfl (lv_at hl 0 rfl) ?_
  refine lv_bipush (v := 16) hx hb dJ6_bitCount_0f7a4_43 (by decide) ?_
  refine f_ushr (v := 0) hx hb dJ6_bitCount_0f7a4_45 (by decide) ?_
  refine f_iadd (v := 0) hx hb dJ6_bitCount_0f7a4_46 (by decide) ?_
  refine lv_istore_n (lv' := [(0, .int 0)]) hx hb dJ6_bitCount_0f7a4_47 rfl hl (by decide) rfl (fun ls hl => ?_)
  refine lv_iload_n hx hb dJ6_bitCount_0f7a4_48 rfl (lv_at hl 0 rfl) ?_
  refine lv_bipush (v := 63) hx hb dJ6_bitCount_0f7a4_49 (by decide) ?_
  refine f_iand (v := 0) hx hb dJ6_bitCount_0f7a4_51 (by decide) ?_
  have hP9 := f_P0 (D := D) (H := H)
  have hD9 := f_D0 (A := A)
  refine W.widen (k := 0) (n := 0) (Nat.le_of_ble_eq_true rfl) (Nat.le_of_ble_eq_true rfl) ?_
  exact W.iret (v := 0) hx hb hr (fun t ht hW => ⟨⟨0, (), rfl, rfl, by rw [ht]; exact hP9, hD9⟩, hS.F ht⟩) hS.2.2 dJ6_bitCount_0f7a4_52
