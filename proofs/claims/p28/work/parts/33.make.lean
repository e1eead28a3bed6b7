set_option maxHeartbeats 4000000 in
set_option maxRecDepth 100000 in
theorem kJxa1e45_init_da8c8 (l : Launch) (G : gT) (al : Nat → Nat) (c : mC) (li : Nat)  : Met l yJxa1e45_init_da8c8 (fW yJxa1e45_init_da8c8 cJxa1e45_init_da8c8 1 none) { frames := 1, cells := 0, slots := 0, locals := 12 } (gPre G al (c) [.ref (al li)]) (gQv (S := Unit) G (fun _ => al) (fun _ => c)) 0 0 (gA G) := by
  refine Met.ofW (cc := cJxa1e45_init_da8c8) (maxL := 1) (ret := none) (by decide) rfl ?_
  intro pz ez s m args below meth c₀ s₁ Bo hml hv
  obtain ⟨rfl, hb0, hP, hE⟩ := hv
  have hx := Bo.exec
  have hb := Bo.bytes
  have hr := Bo.returns
  have hts0 := atoms_spec (ws := (fW yJxa1e45_init_da8c8 cJxa1e45_init_da8c8 1 none)) Bo.pre
  have hts : ∀ w ∈ fA, w.before _ s = true := fun w h => hts0 w (List.mem_cons_of_mem _ h)
  have hown : s.vm.findClass RJxa1e45 = some m.cls := findClass_of_methodNamed Bo.named
  have hlocks := Bo.notSynchronized
  have hin : meth.name = "<init>" := (name_of_methodNamed Bo.named Bo.method).1
  have hl := lv_entry ([.ref (al li)]) (n := 1) (Nat.le_of_ble_eq_true rfl)
  rw [lg_entry_eq]
  generalize (lg_sl ([.ref (al li)]) ++ List.replicate (1 - (lg_sl ([.ref (al li)])).length) Slot.unset).toArray = ls at hl ⊢
  have hl : lv_has ls 1 [(0, .ref (al li))] := hl
  refine g_start hP (fun H hP hS => ?_)
  refine lv_aload_n hx hb dJxa1e45_init_da8c8_0 rfl (lv_at hl 0 rfl) ?_
  refine W.objInit hx hb hown (hts _ q64) (hts _ q2) (hts _ q3) rfl (by rw [hml]; exact hl.1) rfl dJxa1e45_init_da8c8_1 (Nat.le_of_ble_eq_true rfl) (Nat.le_of_ble_eq_true rfl) ?_
  refine W.eq (g2 := F0 m 4 ls []) rfl ?_
  refine W.widen (k := 0) (n := 0) (Nat.le_of_ble_eq_true rfl) (Nat.le_of_ble_eq_true rfl) ?_
  exact W.vret hx hb hr (fun tz htz hW => ⟨⟨(), rfl, trivial, g_end htz hP⟩, hS.F htz⟩) hS.2.2 dJxa1e45_init_da8c8_4
set_option maxHeartbeats 4000000 in
set_option maxRecDepth 100000 in
theorem kJxc12de_init_da8c8 (l : Launch) (G : gT) (al : Nat → Nat) (c : mC) (li : Nat) (e1 : c li = some (.inr (0, [.int 0, .null, .int 0]))) : Met l yJxc12de_init_da8c8 (fW yJxc12de_init_da8c8 cJxc12de_init_da8c8 1 none) { frames := 2, cells := 0, slots := 0, locals := 32 } (gPre G al (c) [.ref (al li)]) (gQv (S := Unit) G (fun _ => al) (fun _ => up c li (.inr (0, [.int 0, .null, .int 0])))) 0 0 (gA G) := by
  refine Met.ofW (cc := cJxc12de_init_da8c8) (maxL := 1) (ret := none) (by decide) rfl ?_
  intro pz ez s m args below meth c₀ s₁ Bo hml hv
  obtain ⟨rfl, hb0, hP, hE⟩ := hv
  have hx := Bo.exec
  have hb := Bo.bytes
  have hr := Bo.returns
  have hts0 := atoms_spec (ws := (fW yJxc12de_init_da8c8 cJxc12de_init_da8c8 1 none)) Bo.pre
  have hts : ∀ w ∈ fA, w.before _ s = true := fun w h => hts0 w (List.mem_cons_of_mem _ h)
  have hown : s.vm.findClass RJxc12de = some m.cls := findClass_of_methodNamed Bo.named
  have hlocks := Bo.notSynchronized
  have hin : meth.name = "<init>" := (name_of_methodNamed Bo.named Bo.method).1
  have hl := lv_entry ([.ref (al li)]) (n := 1) (Nat.le_of_ble_eq_true rfl)
  rw [lg_entry_eq]
  generalize (lg_sl ([.ref (al li)]) ++ List.replicate (1 - (lg_sl ([.ref (al li)])).length) Slot.unset).toArray = ls at hl ⊢
  have hl : lv_has ls 1 [(0, .ref (al li))] := hl
  refine g_start hP (fun H hP hS => ?_)
  refine lv_aload_n hx hb dJxc12de_init_da8c8_0 rfl (lv_at hl 0 rfl) ?_
  refine g_aft_v (g_runI (As := []) (rest := []) hx hb hml hown hts (kJxa1e45_init_da8c8 l G al c li) (fcwI 0 hts q67 q68 q69 q63 rfl rfl rfl (by decide +kernel) ⟨(Nat.le_of_ble_eq_true rfl), (Nat.le_of_ble_eq_true rfl)⟩) hE hb0 hP hS rfl hl.1 rfl (Nat.le_of_ble_eq_true rfl) dJxc12de_init_da8c8_1 ⟨(Nat.le_of_ble_eq_true rfl), (Nat.le_of_ble_eq_true rfl)⟩) hS (fun u H locs hP hS => ?_)
  refine lv_aload_n hx hb dJxc12de_init_da8c8_4 rfl (lv_at hl 0 rfl) ?_
  refine lv_iconst (v := 0) hx hb dJxc12de_init_da8c8_5 (by decide) ?_
  refine m_put (v := .int 0) (ty := .int) (C := RJx4a65c) (T := TJx4a65c) (N := 3) (ci := 0) hx hb hts uJx4a65c tyJx4a65c tyJx4a65c_ok nmJx4a65c hown hE hP hS li rfl e1 rfl 0 (by decide) (hts _ q66) (fun _ h9 => h9) rfl (by decide +kernel) rfl rfl (Nat.le_of_ble_eq_true rfl) dJxc12de_init_da8c8_6 (fun H locs hP hS => ?_)
  have hP : mP G al (up c li (.inr (0, [.int 0, .null, .int 0]))) H := hP
  refine W.widen (k := 0) (n := 0) (Nat.le_of_ble_eq_true rfl) (Nat.le_of_ble_eq_true rfl) ?_
  exact W.vret hx hb hr (fun tz htz hW => ⟨⟨(), rfl, trivial, g_end htz hP⟩, hS.F htz⟩) hS.2.2 dJxc12de_init_da8c8_9
set_option maxHeartbeats 4000000 in
set_option maxRecDepth 100000 in
theorem kJx4a65c_init_da8c8 (l : Launch) (G : gT) (al : Nat → Nat) (c : mC) (li : Nat) (e1 : c li = some (.inr (0, [.int 0, .null, .int 0]))) : Met l yJx4a65c_init_da8c8 (fW yJx4a65c_init_da8c8 cJx4a65c_init_da8c8 1 none) { frames := 3, cells := 0, slots := 0, locals := 52 } (gPre G al (c) [.ref (al li)]) (gQv (S := Unit) G (fun _ => al) (fun _ => up c li (.inr (0, [.int 0, .ref (gEm G), .int 0])))) 0 0 (gA G) := by
  refine Met.ofW (cc := cJx4a65c_init_da8c8) (maxL := 1) (ret := none) (by decide) rfl ?_
  intro pz ez s m args below meth c₀ s₁ Bo hml hv
  obtain ⟨rfl, hb0, hP, hE⟩ := hv
  have hx := Bo.exec
  have hb := Bo.bytes
  have hr := Bo.returns
  have hts0 := atoms_spec (ws := (fW yJx4a65c_init_da8c8 cJx4a65c_init_da8c8 1 none)) Bo.pre
  have hts : ∀ w ∈ fA, w.before _ s = true := fun w h => hts0 w (List.mem_cons_of_mem _ h)
  have hown : s.vm.findClass RJx4a65c = some m.cls := findClass_of_methodNamed Bo.named
  have hlocks := Bo.notSynchronized
  have hin : meth.name = "<init>" := (name_of_methodNamed Bo.named Bo.method).1
  have hl := lv_entry ([.ref (al li)]) (n := 1) (Nat.le_of_ble_eq_true rfl)
  rw [lg_entry_eq]
  generalize (lg_sl ([.ref (al li)]) ++ List.replicate (1 - (lg_sl ([.ref (al li)])).length) Slot.unset).toArray = ls at hl ⊢
  have hl : lv_has ls 1 [(0, .ref (al li))] := hl
  refine g_start hP (fun H hP hS => ?_)
  refine lv_aload_n hx hb dJx4a65c_init_da8c8_0 rfl (lv_at hl 0 rfl) ?_
  refine g_aft_v (g_runI (As := []) (rest := []) hx hb hml hown hts (kJxc12de_init_da8c8 l G al c li e1) (fcwI 0 hts q72 q73 q74 q65 rfl rfl rfl (by decide +kernel) ⟨(Nat.le_of_ble_eq_true rfl), (Nat.le_of_ble_eq_true rfl)⟩) hE hb0 hP hS rfl hl.1 rfl (Nat.le_of_ble_eq_true rfl) dJx4a65c_init_da8c8_1 ⟨(Nat.le_of_ble_eq_true rfl), (Nat.le_of_ble_eq_true rfl)⟩) hS (fun u H locs hP hS => ?_)
  have hP : mP G al (up c li (.inr (0, [.int 0, .null, .int 0]))) H := hP
  refine lv_aload_n hx hb dJx4a65c_init_da8c8_4 rfl (lv_at hl 0 rfl) ?_
  refine va_gets hx hb hE.1.2.1 hS hown (hts _ q71) (fun _ h => h) dJx4a65c_init_da8c8_5 ?_
  refine m_put (v := .ref (gEm G)) (ty := .array (.object "java/lang/Object")) (C := RJx4a65c) (T := TJx4a65c) (N := 3) (ci := 0) hx hb hts uJx4a65c tyJx4a65c tyJx4a65c_ok nmJx4a65c hown hE hP hS li rfl (up_s _ _ _) rfl 1 (by decide) (hts _ q42) (fun _ h9 => h9) rfl (by decide +kernel) rfl rfl (Nat.le_of_ble_eq_true rfl) dJx4a65c_init_da8c8_8 (fun H locs hP hS => ?_)
  have hP := m_cv hP (up_up _ _ _ _)
  have hP : mP G al (up c li (.inr (0, [.int 0, .ref (gEm G), .int 0]))) H := hP
  refine W.widen (k := 0) (n := 0) (Nat.le_of_ble_eq_true rfl) (Nat.le_of_ble_eq_true rfl) ?_
  exact W.vret hx hb hr (fun tz htz hW => ⟨⟨(), rfl, trivial, g_end htz hP⟩, hS.F htz⟩) hS.2.2 dJx4a65c_init_da8c8_11
set_option maxHeartbeats 4000000 in
set_option maxRecDepth 100000 in
theorem kX1_init (l : Launch) (G : gT) (al : Nat → Nat) (c : mC) (i : Nat) (si : Nat) (sh : Int32) (ca : Int32) (e1 : c i = some (.inr (2, [.null, .int 0, .int 0]))) : Met l yX1_init (fW yX1_init cX1_init 4 none) { frames := 1, cells := 0, slots := 0, locals := 12 } (gPre G al (c) [.ref (al i), .ref (al si), .int sh, .int ca]) (gQv (S := Unit) G (fun _ => al) (fun _ => up c i (.inr (2, [.ref (al si), .int sh, .int ca])))) 0 0 (gA G) := by
  refine Met.ofW (cc := cX1_init) (maxL := 4) (ret := none) (by decide) rfl ?_
  intro pz ez s m args below meth c₀ s₁ Bo hml hv
  obtain ⟨rfl, hb0, hP, hE⟩ := hv
  have hx := Bo.exec
  have hb := Bo.bytes
  have hr := Bo.returns
  have hts0 := atoms_spec (ws := (fW yX1_init cX1_init 4 none)) Bo.pre
  have hts : ∀ w ∈ fA, w.before _ s = true := fun w h => hts0 w (List.mem_cons_of_mem _ h)
  have hown : s.vm.findClass RX1 = some m.cls := findClass_of_methodNamed Bo.named
  have hlocks := Bo.notSynchronized
  have hin : meth.name = "<init>" := (name_of_methodNamed Bo.named Bo.method).1
  have hl := lv_entry ([.ref (al i), .ref (al si), .int sh, .int ca]) (n := 4) (Nat.le_of_ble_eq_true rfl)
  rw [lg_entry_eq]
  generalize (lg_sl ([.ref (al i), .ref (al si), .int sh, .int ca]) ++ List.replicate (4 - (lg_sl ([.ref (al i), .ref (al si), .int sh, .int ca])).length) Slot.unset).toArray = ls at hl ⊢
  have hl : lv_has ls 4 [(0, .ref (al i)), (1, .ref (al si)), (2, .int sh), (3, .int ca)] := hl
  refine g_start hP (fun H hP hS => ?_)
  refine lv_aload_n hx hb dX1_init_0 rfl (lv_at hl 0 rfl) ?_
  refine W.objInit hx hb hown (hts _ q28) (hts _ q2) (hts _ q3) rfl (by rw [hml]; exact hl.1) rfl dX1_init_1 (Nat.le_of_ble_eq_true rfl) (Nat.le_of_ble_eq_true rfl) ?_
  refine W.eq (g2 := F0 m 4 ls []) rfl ?_
  refine lv_aload_n hx hb dX1_init_4 rfl (lv_at hl 0 rfl) ?_
  refine lv_aload_n hx hb dX1_init_5 rfl (lv_at hl 1 rfl) ?_
  refine m_putF (v := .ref (al si)) (ty := .object "java/util/ArrayList") (C := RX1) (T := TX1) (N := 3) (ci := 2) hx hb hts uX1 tyX1 tyX1_ok nmX1 hown hE hP hS i rfl e1 rfl 0 (by decide) (hts _ q29) (fun _ h9 => h9) rfl hin rfl (by decide +kernel) rfl rfl (Nat.le_of_ble_eq_true rfl) dX1_init_6 (fun H locs hP hS => ?_)
  have hP : mP G al (up c i (.inr (2, [.ref (al si), .int 0, .int 0]))) H := hP
  refine lv_aload_n hx hb dX1_init_9 rfl (lv_at hl 0 rfl) ?_
  refine lv_iload_n hx hb dX1_init_10 rfl (lv_at hl 2 rfl) ?_
  refine m_putF (v := .int sh) (ty := .int) (C := RX1) (T := TX1) (N := 3) (ci := 2) hx hb hts uX1 tyX1 tyX1_ok nmX1 hown hE hP hS i rfl (up_s _ _ _) rfl 1 (by decide) (hts _ q30) (fun _ h9 => h9) rfl hin rfl (by decide +kernel) rfl rfl (Nat.le_of_ble_eq_true rfl) dX1_init_11 (fun H locs hP hS => ?_)
  have hP := m_cv hP (up_up _ _ _ _)
  have hP : mP G al (up c i (.inr (2, [.ref (al si), .int sh, .int 0]))) H := hP
  refine lv_aload_n hx hb dX1_init_14 rfl (lv_at hl 0 rfl) ?_
  refine lv_iload_n hx hb dX1_init_15 rfl (lv_at hl 3 rfl) ?_
  refine m_putF (v := .int ca) (ty := .int) (C := RX1) (T := TX1) (N := 3) (ci := 2) hx hb hts uX1 tyX1 tyX1_ok nmX1 hown hE hP hS i rfl (up_s _ _ _) rfl 2 (by decide) (hts _ q31) (fun _ h9 => h9) rfl hin rfl (by decide +kernel) rfl rfl (Nat.le_of_ble_eq_true rfl) dX1_init_16 (fun H locs hP hS => ?_)
  have hP := m_cv hP (up_up _ _ _ _)
  have hP : mP G al (up c i (.inr (2, [.ref (al si), .int sh, .int ca]))) H := hP
  refine W.widen (k := 0) (n := 0) (Nat.le_of_ble_eq_true rfl) (Nat.le_of_ble_eq_true rfl) ?_
  exact W.vret hx hb hr (fun tz htz hW => ⟨⟨(), rfl, trivial, g_end htz hP⟩, hS.F htz⟩) hS.2.2 dX1_init_19
set_option maxHeartbeats 4000000 in
set_option maxRecDepth 100000 in
theorem kX4_init (l : Launch) (G : gT) (al : Nat → Nat) (c : mC) (i : Nat) (nu : Int32) (po : Int32) (e1 : c i = some (.inr (5, [.int 0, .int 0, .int 0, .int 0, .int 0, .int 0]))) : Met l yX4_init (fW yX4_init cX4_init 3 none) { frames := 1, cells := 0, slots := 0, locals := 12 } (gPre G al (c) [.ref (al i), .int nu, .int po]) (gQv (S := Unit) G (fun _ => al) (fun _ => up c i (.inr (5, [.int nu, .int po, .int 0, .int 0, .int 0, .int 0])))) 0 0 (gA G) := by
  refine Met.ofW (cc := cX4_init) (maxL := 3) (ret := none) (by decide) rfl ?_
  intro pz ez s m args below meth c₀ s₁ Bo hml hv
  obtain ⟨rfl, hb0, hP, hE⟩ := hv
  have hx := Bo.exec
  have hb := Bo.bytes
  have hr := Bo.returns
  have hts0 := atoms_spec (ws := (fW yX4_init cX4_init 3 none)) Bo.pre
  have hts : ∀ w ∈ fA, w.before _ s = true := fun w h => hts0 w (List.mem_cons_of_mem _ h)
  have hown : s.vm.findClass RX4 = some m.cls := findClass_of_methodNamed Bo.named
  have hlocks := Bo.notSynchronized
  have hin : meth.name = "<init>" := (name_of_methodNamed Bo.named Bo.method).1
  have hl := lv_entry ([.ref (al i), .int nu, .int po]) (n := 3) (Nat.le_of_ble_eq_true rfl)
  rw [lg_entry_eq]
  generalize (lg_sl ([.ref (al i), .int nu, .int po]) ++ List.replicate (3 - (lg_sl ([.ref (al i), .int nu, .int po])).length) Slot.unset).toArray = ls at hl ⊢
  have hl : lv_has ls 3 [(0, .ref (al i)), (1, .int nu), (2, .int po)] := hl
  refine g_start hP (fun H hP hS => ?_)
  refine lv_aload_n hx hb dX4_init_0 rfl (lv_at hl 0 rfl) ?_
  refine W.objInit hx hb hown (hts _ q163) (hts _ q2) (hts _ q3) rfl (by rw [hml]; exact hl.1) rfl dX4_init_1 (Nat.le_of_ble_eq_true rfl) (Nat.le_of_ble_eq_true rfl) ?_
  refine W.eq (g2 := F0 m 4 ls []) rfl ?_
  refine lv_aload_n hx hb dX4_init_4 rfl (lv_at hl 0 rfl) ?_
  refine lv_iload_n hx hb dX4_init_5 rfl (lv_at hl 1 rfl) ?_
  refine m_putF (v := .int nu) (ty := .int) (C := RX4) (T := TX4) (N := 6) (ci := 5) hx hb hts uX4 tyX4 tyX4_ok nmX4 hown hE hP hS i rfl e1 rfl 0 (by decide) (hts _ q164) (fun _ h9 => h9) rfl hin rfl (by decide +kernel) rfl rfl (Nat.le_of_ble_eq_true rfl) dX4_init_6 (fun H locs hP hS => ?_)
  have hP : mP G al (up c i (.inr (5, [.int nu, .int 0, .int 0, .int 0, .int 0, .int 0]))) H := hP
  refine lv_aload_n hx hb dX4_init_9 rfl (lv_at hl 0 rfl) ?_
  refine lv_iload_n hx hb dX4_init_10 rfl (lv_at hl 2 rfl) ?_
  refine m_putF (v := .int po) (ty := .int) (C := RX4) (T := TX4) (N := 6) (ci := 5) hx hb hts uX4 tyX4 tyX4_ok nmX4 hown hE hP hS i rfl (up_s _ _ _) rfl 1 (by decide) (hts _ q165) (fun _ h9 => h9) rfl hin rfl (by decide +kernel) rfl rfl (Nat.le_of_ble_eq_true rfl) dX4_init_11 (fun H locs hP hS => ?_)
  have hP := m_cv hP (up_up _ _ _ _)
  have hP : mP G al (up c i (.inr (5, [.int nu, .int po, .int 0, .int 0, .int 0, .int 0]))) H := hP
  refine W.widen (k := 0) (n := 0) (Nat.le_of_ble_eq_true rfl) (Nat.le_of_ble_eq_true rfl) ?_
  exact W.vret hx hb hr (fun tz htz hW => ⟨⟨(), rfl, trivial, g_end htz hP⟩, hS.F htz⟩) hS.2.2 dX4_init_14
set_option maxHeartbeats 4000000 in
set_option maxRecDepth 100000 in
theorem kX3_init (l : Launch) (G : gT) (al : Nat → Nat) (c : mC) (i : Nat) (pi : Nat) (pl : Int32) (no : Int32) (sl : Int32) (e1 : c i = some (.inr (4, [.null, .int 0, .int 0, .int 0, .int 0, .int 0, .int 0, .int 0, .int 0, .int 0]))) : Met l yX3_init (fW yX3_init cX3_init 5 none) { frames := 1, cells := 0, slots := 0, locals := 12 } (gPre G al (c) [.ref (al i), .ref (al pi), .int pl, .int no, .int sl]) (gQv (S := Unit) G (fun _ => al) (fun _ => up c i (.inr (4, [.ref (al pi), .int pl, .int no, .int sl, .int 0, .int 0, .int 0, .int 0, .int 0, .int 0])))) 0 0 (gA G) := by
  refine Met.ofW (cc := cX3_init) (maxL := 5) (ret := none) (by decide) rfl ?_
  intro pz ez s m args below meth c₀ s₁ Bo hml hv
  obtain ⟨rfl, hb0, hP, hE⟩ := hv
  have hx := Bo.exec
  have hb := Bo.bytes
  have hr := Bo.returns
  have hts0 := atoms_spec (ws := (fW yX3_init cX3_init 5 none)) Bo.pre
  have hts : ∀ w ∈ fA, w.before _ s = true := fun w h => hts0 w (List.mem_cons_of_mem _ h)
  have hown : s.vm.findClass RX3 = some m.cls := findClass_of_methodNamed Bo.named
  have hlocks := Bo.notSynchronized
  have hin : meth.name = "<init>" := (name_of_methodNamed Bo.named Bo.method).1
  have hl := lv_entry ([.ref (al i), .ref (al pi), .int pl, .int no, .int sl]) (n := 5) (Nat.le_of_ble_eq_true rfl)
  rw [lg_entry_eq]
  generalize (lg_sl ([.ref (al i), .ref (al pi), .int pl, .int no, .int sl]) ++ List.replicate (5 - (lg_sl ([.ref (al i), .ref (al pi), .int pl, .int no, .int sl])).length) Slot.unset).toArray = ls at hl ⊢
  have hl : lv_has ls 5 [(0, .ref (al i)), (1, .ref (al pi)), (2, .int pl), (3, .int no), (4, .int sl)] := hl
  refine g_start hP (fun H hP hS => ?_)
  refine lv_aload_n hx hb dX3_init_0 rfl (lv_at hl 0 rfl) ?_
  refine W.objInit hx hb hown (hts _ q136) (hts _ q2) (hts _ q3) rfl (by rw [hml]; exact hl.1) rfl dX3_init_1 (Nat.le_of_ble_eq_true rfl) (Nat.le_of_ble_eq_true rfl) ?_
  refine W.eq (g2 := F0 m 4 ls []) rfl ?_
  refine lv_aload_n hx hb dX3_init_4 rfl (lv_at hl 0 rfl) ?_
  refine lv_aload_n hx hb dX3_init_5 rfl (lv_at hl 1 rfl) ?_
  refine m_putF (v := .ref (al pi)) (ty := .object "JetWaltz$Pump") (C := RX3) (T := TX3) (N := 10) (ci := 4) hx hb hts uX3 tyX3 tyX3_ok nmX3 hown hE hP hS i rfl e1 rfl 0 (by decide) (hts _ q137) (fun _ h9 => h9) rfl hin rfl (by decide +kernel) rfl rfl (Nat.le_of_ble_eq_true rfl) dX3_init_6 (fun H locs hP hS => ?_)
  have hP : mP G al (up c i (.inr (4, [.ref (al pi), .int 0, .int 0, .int 0, .int 0, .int 0, .int 0, .int 0, .int 0, .int 0]))) H := hP
  refine lv_aload_n hx hb dX3_init_9 rfl (lv_at hl 0 rfl) ?_
  refine lv_iload_n hx hb dX3_init_10 rfl (lv_at hl 2 rfl) ?_
  refine m_putF (v := .int pl) (ty := .int) (C := RX3) (T := TX3) (N := 10) (ci := 4) hx hb hts uX3 tyX3 tyX3_ok nmX3 hown hE hP hS i rfl (up_s _ _ _) rfl 1 (by decide) (hts _ q138) (fun _ h9 => h9) rfl hin rfl (by decide +kernel) rfl rfl (Nat.le_of_ble_eq_true rfl) dX3_init_11 (fun H locs hP hS => ?_)
  have hP := m_cv hP (up_up _ _ _ _)
  have hP : mP G al (up c i (.inr (4, [.ref (al pi), .int pl, .int 0, .int 0, .int 0, .int 0, .int 0, .int 0, .int 0, .int 0]))) H := hP
  refine lv_aload_n hx hb dX3_init_14 rfl (lv_at hl 0 rfl) ?_
  refine lv_iload_n hx hb dX3_init_15 rfl (lv_at hl 3 rfl) ?_
  refine m_putF (v := .int no) (ty := .int) (C := RX3) (T := TX3) (N := 10) (ci := 4) hx hb hts uX3 tyX3 tyX3_ok nmX3 hown hE hP hS i rfl (up_s _ _ _) rfl 2 (by decide) (hts _ q139) (fun _ h9 => h9) rfl hin rfl (by decide +kernel) rfl rfl (Nat.le_of_ble_eq_true rfl) dX3_init_16 (fun H locs hP hS => ?_)
  have hP := m_cv hP (up_up _ _ _ _)
  have hP : mP G al (up c i (.inr (4, [.ref (al pi), .int pl, .int no, .int 0, .int 0, .int 0, .int 0, .int 0, .int 0, .int 0]))) H := hP
  refine lv_aload_n hx hb dX3_init_19 rfl (lv_at hl 0 rfl) ?_
  refine lv_iload hx hb dX3_init_20 (lv_at hl 4 rfl) ?_
  refine m_putF (v := .int sl) (ty := .int) (C := RX3) (T := TX3) (N := 10) (ci := 4) hx hb hts uX3 tyX3 tyX3_ok nmX3 hown hE hP hS i rfl (up_s _ _ _) rfl 3 (by decide) (hts _ q140) (fun _ h9 => h9) rfl hin rfl (by decide +kernel) rfl rfl (Nat.le_of_ble_eq_true rfl) dX3_init_22 (fun H locs hP hS => ?_)
  have hP := m_cv hP (up_up _ _ _ _)
  have hP : mP G al (up c i (.inr (4, [.ref (al pi), .int pl, .int no, .int sl, .int 0, .int 0, .int 0, .int 0, .int 0, .int 0]))) H := hP
  refine W.widen (k := 0) (n := 0) (Nat.le_of_ble_eq_true rfl) (Nat.le_of_ble_eq_true rfl) ?_
  exact W.vret hx hb hr (fun tz htz hW => ⟨⟨(), rfl, trivial, g_end htz hP⟩, hS.F htz⟩) hS.2.2 dX3_init_25
set_option maxHeartbeats 4000000 in
set_option maxRecDepth 100000 in
theorem kX6_init (l : Launch) (G : gT) (al : Nat → Nat) (c : mC) (i : Nat) (ti : Int32) (je : Int32) (va : Int32) (e1 : c i = some (.inr (7, [.int 0, .int 0, .int 0]))) : Met l yX6_init (fW yX6_init cX6_init 4 none) { frames := 1, cells := 0, slots := 0, locals := 12 } (gPre G al (c) [.ref (al i), .int ti, .int je, .int va]) (gQv (S := Unit) G (fun _ => al) (fun _ => up c i (.inr (7, [.int ti, .int je, .int va])))) 0 0 (gA G) := by
  refine Met.ofW (cc := cX6_init) (maxL := 4) (ret := none) (by decide) rfl ?_
  intro pz ez s m args below meth c₀ s₁ Bo hml hv
  obtain ⟨rfl, hb0, hP, hE⟩ := hv
  have hx := Bo.exec
  have hb := Bo.bytes
  have hr := Bo.returns
  have hts0 := atoms_spec (ws := (fW yX6_init cX6_init 4 none)) Bo.pre
  have hts : ∀ w ∈ fA, w.before _ s = true := fun w h => hts0 w (List.mem_cons_of_mem _ h)
  have hown : s.vm.findClass RX6 = some m.cls := findClass_of_methodNamed Bo.named
  have hlocks := Bo.notSynchronized
  have hin : meth.name = "<init>" := (name_of_methodNamed Bo.named Bo.method).1
  have hl := lv_entry ([.ref (al i), .int ti, .int je, .int va]) (n := 4) (Nat.le_of_ble_eq_true rfl)
  rw [lg_entry_eq]
  generalize (lg_sl ([.ref (al i), .int ti, .int je, .int va]) ++ List.replicate (4 - (lg_sl ([.ref (al i), .int ti, .int je, .int va])).length) Slot.unset).toArray = ls at hl ⊢
  have hl : lv_has ls 4 [(0, .ref (al i)), (1, .int ti), (2, .int je), (3, .int va)] := hl
  refine g_start hP (fun H hP hS => ?_)
  refine lv_aload_n hx hb dX6_init_0 rfl (lv_at hl 0 rfl) ?_
  refine W.objInit hx hb hown (hts _ q360) (hts _ q2) (hts _ q3) rfl (by rw [hml]; exact hl.1) rfl dX6_init_1 (Nat.le_of_ble_eq_true rfl) (Nat.le_of_ble_eq_true rfl) ?_
  refine W.eq (g2 := F0 m 4 ls []) rfl ?_
  refine lv_aload_n hx hb dX6_init_4 rfl (lv_at hl 0 rfl) ?_
  refine lv_iload_n hx hb dX6_init_5 rfl (lv_at hl 1 rfl) ?_
  refine m_putF (v := .int ti) (ty := .int) (C := RX6) (T := TX6) (N := 3) (ci := 7) hx hb hts uX6 tyX6 tyX6_ok nmX6 hown hE hP hS i rfl e1 rfl 0 (by decide) (hts _ q361) (fun _ h9 => h9) rfl hin rfl (by decide +kernel) rfl rfl (Nat.le_of_ble_eq_true rfl) dX6_init_6 (fun H locs hP hS => ?_)
  have hP : mP G al (up c i (.inr (7, [.int ti, .int 0, .int 0]))) H := hP
  refine lv_aload_n hx hb dX6_init_9 rfl (lv_at hl 0 rfl) ?_
  refine lv_iload_n hx hb dX6_init_10 rfl (lv_at hl 2 rfl) ?_
  refine m_putF (v := .int je) (ty := .int) (C := RX6) (T := TX6) (N := 3) (ci := 7) hx hb hts uX6 tyX6 tyX6_ok nmX6 hown hE hP hS i rfl (up_s _ _ _) rfl 1 (by decide) (hts _ q219) (fun _ h9 => h9) rfl hin rfl (by decide +kernel) rfl rfl (Nat.le_of_ble_eq_true rfl) dX6_init_11 (fun H locs hP hS => ?_)
  have hP := m_cv hP (up_up _ _ _ _)
  have hP : mP G al (up c i (.inr (7, [.int ti, .int je, .int 0]))) H := hP
  refine lv_aload_n hx hb dX6_init_14 rfl (lv_at hl 0 rfl) ?_
  refine lv_iload_n hx hb dX6_init_15 rfl (lv_at hl 3 rfl) ?_
  refine m_putF (v := .int va) (ty := .int) (C := RX6) (T := TX6) (N := 3) (ci := 7) hx hb hts uX6 tyX6 tyX6_ok nmX6 hown hE hP hS i rfl (up_s _ _ _) rfl 2 (by decide) (hts _ q362) (fun _ h9 => h9) rfl hin rfl (by decide +kernel) rfl rfl (Nat.le_of_ble_eq_true rfl) dX6_init_16 (fun H locs hP hS => ?_)
  have hP := m_cv hP (up_up _ _ _ _)
  have hP : mP G al (up c i (.inr (7, [.int ti, .int je, .int va]))) H := hP
  refine W.widen (k := 0) (n := 0) (Nat.le_of_ble_eq_true rfl) (Nat.le_of_ble_eq_true rfl) ?_
  exact W.vret hx hb hr (fun tz htz hW => ⟨⟨(), rfl, trivial, g_end htz hP⟩, hS.F htz⟩) hS.2.2 dX6_init_19
set_option maxHeartbeats 4000000 in
set_option maxRecDepth 100000 in
theorem kX2_stepsNow (l : Launch) (G : gT) (al : Nat → Nat) (c : mC) (f : Nat) (nc : Nat) (w : Nat → Nat → Int32) (hf : f < 2) (hm : nc < 20) (efg : c (10 + f) = some (.inr (3, [.ref (al (12 + f))]))) (hlst : gLs G al c (12 + f) (14 + f) 3 (fun s => 20 + (3 * f + s))) (hst : ∀ q, q < 6 → c (20 + q) = some (.inr (7, [.int (w q 0), .int (w q 1), .int (w q 2)]))) : Met l yX2_stepsNow (fW yX2_stepsNow cX2_stepsNow 3 (some (.object "java/util/ArrayList"))) { frames := 7, cells := 4, slots := 69, locals := 149 } (gPre G al (c) [.ref (al (10 + f))]) (gQrp (S := (Nat → Nat) × mC) G (fun u => gLs G u.1 u.2 (300 + 3 * nc + 1) (300 + 3 * nc + 2) 3 (fun s => 20 + (3 * f + s)) ∧ (∀ i, (i ≠ 300 + 3 * nc + 1 ∧ i ≠ 300 + 3 * nc + 2) → u.2 i = c i) ∧ ∀ i, (i ≠ 300 + 3 * nc + 1 ∧ i ≠ 300 + 3 * nc + 2) → u.1 i = al i) (fun u => u.1 (300 + 3 * nc + 1)) (fun u => u.1) (fun u => u.2)) 4 69 (gA G) := by
  refine Met.ofW (cc := cX2_stepsNow) (maxL := 3) (ret := (some (.object "java/util/ArrayList"))) (by decide) rfl ?_
  intro pz ez s m args below meth c₀ s₁ Bo hml hv
  obtain ⟨rfl, hb0, hP, hE⟩ := hv
  have hx := Bo.exec
  have hb := Bo.bytes
  have hr := Bo.returns
  have hts0 := atoms_spec (ws := (fW yX2_stepsNow cX2_stepsNow 3 (some (.object "java/util/ArrayList")))) Bo.pre
  have hts : ∀ w ∈ fA, w.before _ s = true := fun w h => hts0 w (List.mem_cons_of_mem _ h)
  have hown : s.vm.findClass RX2 = some m.cls := findClass_of_methodNamed Bo.named
  have hlocks := Bo.notSynchronized
  have hl := lv_entry ([.ref (al (10 + f))]) (n := 3) (Nat.le_of_ble_eq_true rfl)
  rw [lg_entry_eq]
  generalize (lg_sl ([.ref (al (10 + f))]) ++ List.replicate (3 - (lg_sl ([.ref (al (10 + f))])).length) Slot.unset).toArray = ls at hl ⊢
  have hl : lv_has ls 3 [(0, .ref (al (10 + f)))] := hl
  obtain ⟨al0, hal0⟩ : ∃ z, z = al := ⟨_, rfl⟩
  obtain ⟨c0, hc0⟩ : ∃ z, z = c := ⟨_, rfl⟩
  have hfc : ∀ i, (i ≠ 300 + 3 * nc + 1 ∧ i ≠ 300 + 3 * nc + 2) → c i = c0 i := fun i _ => by rw [hc0]
  have hfa : ∀ i, (i ≠ 300 + 3 * nc + 1 ∧ i ≠ 300 + 3 * nc + 2) → al i = al0 i := fun i _ => by rw [hal0]
  refine g_start hP (fun H hP hS => ?_)
  refine m_new (300 + 3 * nc + 1) (ci := 0) (fs := [.int 0, .null, .int 0]) (C := RJx4a65c) (T := TJx4a65c) (N := 3) hx hb hts uJx4a65c tyJx4a65c tyJx4a65c_ok hown (hts _ q77) (hts _ q78) (hts _ q50) hE hb0 hP hS rfl (fun j hj => by rcases f_lt3 hj with rfl | rfl | rfl <;> rfl) (Nat.le_of_ble_eq_true rfl) (Nat.le_of_ble_eq_true rfl) dX2_stepsNow_0 (fun n_1 H hP hS => ?_)
  have hP : mP G (va_up al (300 + 3 * nc + 1) n_1) (up c (300 + 3 * nc + 1) (.inr (0, [.int 0, .null, .int 0]))) H := hP
  have hax0 : ∀ x, x ≠ 300 + 3 * nc + 1 → va_up al (300 + 3 * nc + 1) n_1 x = al x := fun x hx => au_n _ _ hx
  have has0 : va_up al (300 + 3 * nc + 1) n_1 (300 + 3 * nc + 1) = n_1 := au_s _ _ _
  obtain ⟨al, hau⟩ : ∃ z, z = va_up al (300 + 3 * nc + 1) n_1 := ⟨_, rfl⟩
  rw [← hau] at hax0 has0 hP
  have hcx0 : ∀ x, x ≠ 300 + 3 * nc + 1 → (up c (300 + 3 * nc + 1) (.inr (0, [.int 0, .null, .int 0]))) x = c x := fun x hx => up_n _ _ hx
  have hcs0 : (up c (300 + 3 * nc + 1) (.inr (0, [.int 0, .null, .int 0]))) (300 + 3 * nc + 1) = some (.inr (0, [.int 0, .null, .int 0])) := up_s _ _ _
  obtain ⟨c, hcu⟩ : ∃ z, z = up c (300 + 3 * nc + 1) (.inr (0, [.int 0, .null, .int 0])) := ⟨_, rfl⟩
  rw [← hcu] at hcx0 hcs0 hP
  have efg : c (10 + f) = some (.inr (3, [.ref (al (12 + f))])) := by rw [hcx0 (10 + f) (by omega), hax0 (12 + f) (by omega)]; exact efg
  have hlst : gLs G al c (12 + f) (14 + f) 3 (fun s => 20 + (3 * f + s)) := (gLs_al (gLs_cv hlst (hcx0 _ (by omega)) (hcx0 _ (by omega))) (hax0 _ (by omega)) (fun s hs => hax0 _ (by show 20 + (3 * f + s) ≠ 300 + 3 * nc + 1; omega)))
  have hst : ∀ q, q < 6 → c (20 + q) = some (.inr (7, [.int (w q 0), .int (w q 1), .int (w q 2)])) := fun q hq => (hcx0 (20 + q) (by omega)).trans (hst q hq)
  have hfc : ∀ i, (i ≠ 300 + 3 * nc + 1 ∧ i ≠ 300 + 3 * nc + 2) → c i = c0 i := fun i hi => (hcx0 i (by omega)).trans (hfc i hi)
  have hfa : ∀ i, (i ≠ 300 + 3 * nc + 1 ∧ i ≠ 300 + 3 * nc + 2) → al i = al0 i := fun i hi => (hax0 i (by omega)).trans (hfa i hi)
  have e_2 : c (300 + 3 * nc + 1) = some (.inr (0, [.int 0, .null, .int 0])) := hcs0
  rw [← has0]
  have hl : lv_has ls 3 [(0, .ref (al (10 + f)))] := by rw [hax0 (10 + f) (by omega)]; exact hl
  refine lv_dup hx hb dX2_stepsNow_3 rfl ?_
  refine g_aft_v (g_runI (As := []) (rest := [.ref (al (300 + 3 * nc + 1))]) hx hb hml hown hts (kJx4a65c_init_da8c8 l G al c (300 + 3 * nc + 1) e_2) (fcwI 0 hts q80 q81 q50 q70 rfl rfl rfl (by decide +kernel) ⟨(Nat.le_of_ble_eq_true rfl), (Nat.le_of_ble_eq_true rfl)⟩) hE hb0 hP hS rfl hl.1 rfl (Nat.le_of_ble_eq_true rfl) dX2_stepsNow_4 ⟨(Nat.le_of_ble_eq_true rfl), (Nat.le_of_ble_eq_true rfl)⟩) hS (fun u H locs hP hS => ?_)
  have hP : mP G al (up c (300 + 3 * nc + 1) (.inr (0, [.int 0, .ref (gEm G), .int 0]))) H := hP
  have hcx0 : ∀ x, x ≠ 300 + 3 * nc + 1 → (up c (300 + 3 * nc + 1) (.inr (0, [.int 0, .ref (gEm G), .int 0]))) x = c x := fun x hx => up_n _ _ hx
  have hcs0 : (up c (300 + 3 * nc + 1) (.inr (0, [.int 0, .ref (gEm G), .int 0]))) (300 + 3 * nc + 1) = some (.inr (0, [.int 0, .ref (gEm G), .int 0])) := up_s _ _ _
  obtain ⟨c, hcu⟩ : ∃ z, z = up c (300 + 3 * nc + 1) (.inr (0, [.int 0, .ref (gEm G), .int 0])) := ⟨_, rfl⟩
  rw [← hcu] at hcx0 hcs0 hP
  have efg : c (10 + f) = some (.inr (3, [.ref (al (12 + f))])) := by rw [hcx0 (10 + f) (by omega)]; exact efg
  have hlst : gLs G al c (12 + f) (14 + f) 3 (fun s => 20 + (3 * f + s)) := (gLs_cv hlst (hcx0 _ (by omega)) (hcx0 _ (by omega)))
  have hst : ∀ q, q < 6 → c (20 + q) = some (.inr (7, [.int (w q 0), .int (w q 1), .int (w q 2)])) := fun q hq => (hcx0 (20 + q) (by omega)).trans (hst q hq)
  have hfc : ∀ i, (i ≠ 300 + 3 * nc + 1 ∧ i ≠ 300 + 3 * nc + 2) → c i = c0 i := fun i hi => (hcx0 i (by omega)).trans (hfc i hi)
  have e_2 : c (300 + 3 * nc + 1) = some (.inr (0, [.int 0, .ref (gEm G), .int 0])) := hcs0
  have l_3 : gLs G al c (300 + 3 * nc + 1) (300 + 3 * nc + 2) 0 (fun i => i) := Or.inl ⟨rfl, _, e_2⟩
  refine lv_astore_n (lv' := [(1, .ref (al (300 + 3 * nc + 1))), (0, .ref (al (10 + f)))]) hx hb dX2_stepsNow_7 rfl hl (by decide) rfl (fun ls hl => ?_)
  refine lv_iconst (v := 0) hx hb dX2_stepsNow_8 (by decide) ?_
  refine lv_istore_n (lv' := [(2, .int 0), (1, .ref (al (300 + 3 * nc + 1))), (0, .ref (al (10 + f)))]) hx hb dX2_stepsNow_9 rfl hl (by decide) rfl (fun ls hl => ?_)
  refine lv_iload_n hx hb dX2_stepsNow_10 rfl (lv_at hl 0 rfl) ?_
  refine lv_aload_n hx hb dX2_stepsNow_11 rfl (lv_at hl 2 rfl) ?_
  refine m_get (C := RX2) (T := TX2) (N := 1) (ci := 3) (v := .ref (al (12 + f))) hx hb hts uX2 hown hE hP (10 + f) rfl efg rfl 0 (by decide) (hts _ q79) (fun _ h9 => h9) rfl dX2_stepsNow_12 ?_
  refine g_aft_i (g_runV (As := []) (rest := [.int 0]) hx hb hml hown hts (kJx4a65c_size_8abf5 l G al c (12 + f) (14 + f) 3 (fun s => 20 + (3 * f + s)) hlst) (fcwV 0 hts q129 q53 q54 q50 q34 rfl rfl (by decide +kernel) ⟨(Nat.le_of_ble_eq_true rfl), (Nat.le_of_ble_eq_true rfl)⟩) hE hb0 hP hS (m_recvL hE hP hlst rfl) rfl hl.1 rfl (Nat.le_of_ble_eq_true rfl) dX2_stepsNow_15 ⟨(Nat.le_of_ble_eq_true rfl), (Nat.le_of_ble_eq_true rfl)⟩) hS (fun u H locs hP hS => ?_)
  refine f_topi (v := 3) rfl ?_
  refine f_topi (v := 3) rfl ?_
  refine lv_icmp_ge (tgt := 43) hx hb dX2_stepsNow_18 (by decide) (fun h => absurd h (by decide)) (fun _ => ?_)
  refine lv_aload_n hx hb dX2_stepsNow_21 rfl (lv_at hl 1 rfl) ?_
  refine lv_aload_n hx hb dX2_stepsNow_22 rfl (lv_at hl 2 rfl) ?_
  refine m_get (C := RX2) (T := TX2) (N := 1) (ci := 3) (v := .ref (al (12 + f))) hx hb hts uX2 hown hE hP (10 + f) rfl efg rfl 0 (by decide) (hts _ q79) (fun _ h9 => h9) rfl dX2_stepsNow_23 ?_
  refine lv_iload_n hx hb dX2_stepsNow_26 rfl (lv_at hl 0 rfl) ?_
  refine g_aft_r (g_runV (As := [.int 0]) (rest := [.ref (al (300 + 3 * nc + 1))]) hx hb hml hown hts (kJx4a65c_get_915e3 l G al c (12 + f) (14 + f) 3 (fun s => 20 + (3 * f + s)) 0 hlst (by decide)) (fcwV 1 hts q130 q56 q57 q50 q43 rfl rfl (by decide +kernel) ⟨(Nat.le_of_ble_eq_true rfl), (Nat.le_of_ble_eq_true rfl)⟩) hE hb0 hP hS (m_recvL hE hP hlst rfl) rfl hl.1 rfl (Nat.le_of_ble_eq_true rfl) dX2_stepsNow_27 ⟨(Nat.le_of_ble_eq_true rfl), (Nat.le_of_ble_eq_true rfl)⟩) hS (fun u H locs hP hS => ?_)
  refine g_topr (v := al (20 + (3 * f + 0))) rfl ?_
  refine m_cast hx hb hown (hts _ q128) hE hP (20 + (3 * f + 0)) rfl (hst (3 * f + 0) (by omega)) rfl dX2_stepsNow_30 ?_
  refine g_aft_ip (g_runV (As := [.ref (al (20 + (3 * f + 0)))]) (rest := []) hx hb hml hown hts (kJx4a65c_add_9ea2d l G al c (300 + 3 * nc + 1) (300 + 3 * nc + 2) 0 (fun i => i) (20 + (3 * f + 0)) 7 ([.int (w (3 * f + 0) 0), .int (w (3 * f + 0) 1), .int (w (3 * f + 0) 2)]) _ l_3 (hst (3 * f + 0) (by omega)) rfl (by decide +kernel) (by omega) (by omega) (by omega) (by omega) (fun i hi => absurd hi (by omega)) (fun i hi => absurd hi (by omega)) (Or.inl (by omega))) (fcwV 1 hts q131 q132 q133 q50 q127 rfl rfl (by decide +kernel) ⟨(Nat.le_of_ble_eq_true rfl), (Nat.le_of_ble_eq_true rfl)⟩) hE hb0 hP hS (m_recvL hE hP l_3 rfl) rfl hl.1 rfl (Nat.le_of_ble_eq_true rfl) dX2_stepsNow_33 ⟨(Nat.le_of_ble_eq_true rfl), (Nat.le_of_ble_eq_true rfl)⟩) hS (fun u_4 H locs hu_4 hP hS => ?_)
  obtain ⟨al, c⟩ := u_4
  have hP : mP G al c H := hP
  obtain ⟨hL9, hcx0, hax0⟩ := hu_4
  dsimp only at hL9 hcx0 hax0
  have efg : c (10 + f) = some (.inr (3, [.ref (al (12 + f))])) := by rw [hcx0 (10 + f) (by omega) (by omega), hax0 (12 + f) (by omega)]; exact efg
  have hlst : gLs G al c (12 + f) (14 + f) 3 (fun s => 20 + (3 * f + s)) := (gLs_al (gLs_cv hlst (hcx0 _ (by omega) (by omega)) (hcx0 _ (by omega) (by omega))) (hax0 _ (by omega)) (fun s hs => hax0 _ (by show 20 + (3 * f + s) ≠ 300 + 3 * nc + 2; omega)))
  have hst : ∀ q, q < 6 → c (20 + q) = some (.inr (7, [.int (w q 0), .int (w q 1), .int (w q 2)])) := fun q hq => (hcx0 (20 + q) (by omega) (by omega)).trans (hst q hq)
  have hfc : ∀ i, (i ≠ 300 + 3 * nc + 1 ∧ i ≠ 300 + 3 * nc + 2) → c i = c0 i := fun i hi => (hcx0 i (by omega) (by omega)).trans (hfc i hi)
  have hfa : ∀ i, (i ≠ 300 + 3 * nc + 1 ∧ i ≠ 300 + 3 * nc + 2) → al i = al0 i := fun i hi => (hax0 i (by omega)).trans (hfa i hi)
  have l_3 : gLs G al c (300 + 3 * nc + 1) (300 + 3 * nc + 2) 1 (va_up (fun i => i) 0 (20 + (3 * f + 0))) := hL9
  have hl : lv_has ls 3 [(2, .int 0), (1, .ref (al (300 + 3 * nc + 1))), (0, .ref (al (10 + f)))] := by rw [hax0 (10 + f) (by omega), hax0 (300 + 3 * nc + 1) (by omega)]; exact hl
  refine f_topi (v := 1) rfl ?_
  refine lv_pop hx hb dX2_stepsNow_36 rfl ?_
  refine lv_iinc (v := 1) (lv' := [(2, .int 1), (1, .ref (al (300 + 3 * nc + 1))), (0, .ref (al (10 + f)))]) hx hb dX2_stepsNow_37 hl (k := 0) rfl (by decide) (by decide) rfl (fun ls hl => ?_)
  refine lv_goto (tgt := 10) hx hb dX2_stepsNow_40 (by decide) ?_
  refine lv_iload_n hx hb dX2_stepsNow_10 rfl (lv_at hl 0 rfl) ?_
  refine lv_aload_n hx hb dX2_stepsNow_11 rfl (lv_at hl 2 rfl) ?_
  refine m_get (C := RX2) (T := TX2) (N := 1) (ci := 3) (v := .ref (al (12 + f))) hx hb hts uX2 hown hE hP (10 + f) rfl efg rfl 0 (by decide) (hts _ q79) (fun _ h9 => h9) rfl dX2_stepsNow_12 ?_
  refine g_aft_i (g_runV (As := []) (rest := [.int 1]) hx hb hml hown hts (kJx4a65c_size_8abf5 l G al c (12 + f) (14 + f) 3 (fun s => 20 + (3 * f + s)) hlst) (fcwV 0 hts q129 q53 q54 q50 q34 rfl rfl (by decide +kernel) ⟨(Nat.le_of_ble_eq_true rfl), (Nat.le_of_ble_eq_true rfl)⟩) hE hb0 hP hS (m_recvL hE hP hlst rfl) rfl hl.1 rfl (Nat.le_of_ble_eq_true rfl) dX2_stepsNow_15 ⟨(Nat.le_of_ble_eq_true rfl), (Nat.le_of_ble_eq_true rfl)⟩) hS (fun u H locs hP hS => ?_)
  refine f_topi (v := 3) rfl ?_
  refine f_topi (v := 3) rfl ?_
  refine lv_icmp_ge (tgt := 43) hx hb dX2_stepsNow_18 (by decide) (fun h => absurd h (by decide)) (fun _ => ?_)
  refine lv_aload_n hx hb dX2_stepsNow_21 rfl (lv_at hl 1 rfl) ?_
  refine lv_aload_n hx hb dX2_stepsNow_22 rfl (lv_at hl 2 rfl) ?_
  refine m_get (C := RX2) (T := TX2) (N := 1) (ci := 3) (v := .ref (al (12 + f))) hx hb hts uX2 hown hE hP (10 + f) rfl efg rfl 0 (by decide) (hts _ q79) (fun _ h9 => h9) rfl dX2_stepsNow_23 ?_
  refine lv_iload_n hx hb dX2_stepsNow_26 rfl (lv_at hl 0 rfl) ?_
  refine g_aft_r (g_runV (As := [.int 1]) (rest := [.ref (al (300 + 3 * nc + 1))]) hx hb hml hown hts (kJx4a65c_get_915e3 l G al c (12 + f) (14 + f) 3 (fun s => 20 + (3 * f + s)) 1 hlst (by decide)) (fcwV 1 hts q130 q56 q57 q50 q43 rfl rfl (by decide +kernel) ⟨(Nat.le_of_ble_eq_true rfl), (Nat.le_of_ble_eq_true rfl)⟩) hE hb0 hP hS (m_recvL hE hP hlst rfl) rfl hl.1 rfl (Nat.le_of_ble_eq_true rfl) dX2_stepsNow_27 ⟨(Nat.le_of_ble_eq_true rfl), (Nat.le_of_ble_eq_true rfl)⟩) hS (fun u H locs hP hS => ?_)
  refine g_topr (v := al (20 + (3 * f + 1))) rfl ?_
  refine m_cast hx hb hown (hts _ q128) hE hP (20 + (3 * f + 1)) rfl (hst (3 * f + 1) (by omega)) rfl dX2_stepsNow_30 ?_
  refine g_aft_ip (g_runV (As := [.ref (al (20 + (3 * f + 1)))]) (rest := []) hx hb hml hown hts (kJx4a65c_add_9ea2d l G al c (300 + 3 * nc + 1) (300 + 3 * nc + 2) 1 (va_up (fun i => i) 0 (20 + (3 * f + 0))) (20 + (3 * f + 1)) 7 ([.int (w (3 * f + 1) 0), .int (w (3 * f + 1) 1), .int (w (3 * f + 1) 2)]) _ l_3 (hst (3 * f + 1) (by omega)) rfl (by decide +kernel) (by omega) (by omega) (by omega) (by omega) (fun i hi => by obtain rfl : i = 0 := (by omega); exact (by show 20 + (3 * f + 0) ≠ 300 + 3 * nc + 2; omega)) (fun i hi => by obtain rfl : i = 0 := (by omega); exact (by show 20 + (3 * f + 0) ≠ 300 + 3 * nc + 1; omega)) (Or.inl (by omega))) (fcwV 1 hts q131 q132 q133 q50 q127 rfl rfl (by decide +kernel) ⟨(Nat.le_of_ble_eq_true rfl), (Nat.le_of_ble_eq_true rfl)⟩) hE hb0 hP hS (m_recvL hE hP l_3 rfl) rfl hl.1 rfl (Nat.le_of_ble_eq_true rfl) dX2_stepsNow_33 ⟨(Nat.le_of_ble_eq_true rfl), (Nat.le_of_ble_eq_true rfl)⟩) hS (fun u_5 H locs hu_5 hP hS => ?_)
  obtain ⟨al, c⟩ := u_5
  have hP : mP G al c H := hP
  obtain ⟨hL9, hcx0, hax0⟩ := hu_5
  dsimp only at hL9 hcx0 hax0
  have efg : c (10 + f) = some (.inr (3, [.ref (al (12 + f))])) := by rw [hcx0 (10 + f) (by omega) (by omega), hax0 (12 + f) (by omega)]; exact efg
  have hlst : gLs G al c (12 + f) (14 + f) 3 (fun s => 20 + (3 * f + s)) := (gLs_al (gLs_cv hlst (hcx0 _ (by omega) (by omega)) (hcx0 _ (by omega) (by omega))) (hax0 _ (by omega)) (fun s hs => hax0 _ (by show 20 + (3 * f + s) ≠ 300 + 3 * nc + 2; omega)))
  have hst : ∀ q, q < 6 → c (20 + q) = some (.inr (7, [.int (w q 0), .int (w q 1), .int (w q 2)])) := fun q hq => (hcx0 (20 + q) (by omega) (by omega)).trans (hst q hq)
  have hfc : ∀ i, (i ≠ 300 + 3 * nc + 1 ∧ i ≠ 300 + 3 * nc + 2) → c i = c0 i := fun i hi => (hcx0 i (by omega) (by omega)).trans (hfc i hi)
  have hfa : ∀ i, (i ≠ 300 + 3 * nc + 1 ∧ i ≠ 300 + 3 * nc + 2) → al i = al0 i := fun i hi => (hax0 i (by omega)).trans (hfa i hi)
  have l_3 : gLs G al c (300 + 3 * nc + 1) (300 + 3 * nc + 2) 2 (va_up (va_up (fun i => i) 0 (20 + (3 * f + 0))) 1 (20 + (3 * f + 1))) := hL9
  have hl : lv_has ls 3 [(2, .int 1), (1, .ref (al (300 + 3 * nc + 1))), (0, .ref (al (10 + f)))] := by rw [hax0 (10 + f) (by omega), hax0 (300 + 3 * nc + 1) (by omega)]; exact hl
  refine f_topi (v := 1) rfl ?_
  refine lv_pop hx hb dX2_stepsNow_36 rfl ?_
  refine lv_iinc (v := 2) (lv' := [(2, .int 2), (1, .ref (al (300 + 3 * nc + 1))), (0, .ref (al (10 + f)))]) hx hb dX2_stepsNow_37 hl (k := 0) rfl (by decide) (by decide) rfl (fun ls hl => ?_)
  refine lv_goto (tgt := 10) hx hb dX2_stepsNow_40 (by decide) ?_
  refine lv_iload_n hx hb dX2_stepsNow_10 rfl (lv_at hl 0 rfl) ?_
  refine lv_aload_n hx hb dX2_stepsNow_11 rfl (lv_at hl 2 rfl) ?_
  refine m_get (C := RX2) (T := TX2) (N := 1) (ci := 3) (v := .ref (al (12 + f))) hx hb hts uX2 hown hE hP (10 + f) rfl efg rfl 0 (by decide) (hts _ q79) (fun _ h9 => h9) rfl dX2_stepsNow_12 ?_
  refine g_aft_i (g_runV (As := []) (rest := [.int 2]) hx hb hml hown hts (kJx4a65c_size_8abf5 l G al c (12 + f) (14 + f) 3 (fun s => 20 + (3 * f + s)) hlst) (fcwV 0 hts q129 q53 q54 q50 q34 rfl rfl (by decide +kernel) ⟨(Nat.le_of_ble_eq_true rfl), (Nat.le_of_ble_eq_true rfl)⟩) hE hb0 hP hS (m_recvL hE hP hlst rfl) rfl hl.1 rfl (Nat.le_of_ble_eq_true rfl) dX2_stepsNow_15 ⟨(Nat.le_of_ble_eq_true rfl), (Nat.le_of_ble_eq_true rfl)⟩) hS (fun u H locs hP hS => ?_)
  refine f_topi (v := 3) rfl ?_
  refine f_topi (v := 3) rfl ?_
  refine lv_icmp_ge (tgt := 43) hx hb dX2_stepsNow_18 (by decide) (fun h => absurd h (by decide)) (fun _ => ?_)
  refine lv_aload_n hx hb dX2_stepsNow_21 rfl (lv_at hl 1 rfl) ?_
  refine lv_aload_n hx hb dX2_stepsNow_22 rfl (lv_at hl 2 rfl) ?_
  refine m_get (C := RX2) (T := TX2) (N := 1) (ci := 3) (v := .ref (al (12 + f))) hx hb hts uX2 hown hE hP (10 + f) rfl efg rfl 0 (by decide) (hts _ q79) (fun _ h9 => h9) rfl dX2_stepsNow_23 ?_
  refine lv_iload_n hx hb dX2_stepsNow_26 rfl (lv_at hl 0 rfl) ?_
  refine g_aft_r (g_runV (As := [.int 2]) (rest := [.ref (al (300 + 3 * nc + 1))]) hx hb hml hown hts (kJx4a65c_get_915e3 l G al c (12 + f) (14 + f) 3 (fun s => 20 + (3 * f + s)) 2 hlst (by decide)) (fcwV 1 hts q130 q56 q57 q50 q43 rfl rfl (by decide +kernel) ⟨(Nat.le_of_ble_eq_true rfl), (Nat.le_of_ble_eq_true rfl)⟩) hE hb0 hP hS (m_recvL hE hP hlst rfl) rfl hl.1 rfl (Nat.le_of_ble_eq_true rfl) dX2_stepsNow_27 ⟨(Nat.le_of_ble_eq_true rfl), (Nat.le_of_ble_eq_true rfl)⟩) hS (fun u H locs hP hS => ?_)
  refine g_topr (v := al (20 + (3 * f + 2))) rfl ?_
  refine m_cast hx hb hown (hts _ q128) hE hP (20 + (3 * f + 2)) rfl (hst (3 * f + 2) (by omega)) rfl dX2_stepsNow_30 ?_
  refine g_aft_ip (g_runV (As := [.ref (al (20 + (3 * f + 2)))]) (rest := []) hx hb hml hown hts (kJx4a65c_add_9ea2d l G al c (300 + 3 * nc + 1) (300 + 3 * nc + 2) 2 (va_up (va_up (fun i => i) 0 (20 + (3 * f + 0))) 1 (20 + (3 * f + 1))) (20 + (3 * f + 2)) 7 ([.int (w (3 * f + 2) 0), .int (w (3 * f + 2) 1), .int (w (3 * f + 2) 2)]) _ l_3 (hst (3 * f + 2) (by omega)) rfl (by decide +kernel) (by omega) (by omega) (by omega) (by omega) (fun i hi => by rcases (show i = 0 ∨ i = 1 by omega) with rfl | rfl; exact (by show 20 + (3 * f + 0) ≠ 300 + 3 * nc + 2; omega); exact (by show 20 + (3 * f + 1) ≠ 300 + 3 * nc + 2; omega)) (fun i hi => by rcases (show i = 0 ∨ i = 1 by omega) with rfl | rfl; exact (by show 20 + (3 * f + 0) ≠ 300 + 3 * nc + 1; omega); exact (by show 20 + (3 * f + 1) ≠ 300 + 3 * nc + 1; omega)) (Or.inl (by omega))) (fcwV 1 hts q131 q132 q133 q50 q127 rfl rfl (by decide +kernel) ⟨(Nat.le_of_ble_eq_true rfl), (Nat.le_of_ble_eq_true rfl)⟩) hE hb0 hP hS (m_recvL hE hP l_3 rfl) rfl hl.1 rfl (Nat.le_of_ble_eq_true rfl) dX2_stepsNow_33 ⟨(Nat.le_of_ble_eq_true rfl), (Nat.le_of_ble_eq_true rfl)⟩) hS (fun u_6 H locs hu_6 hP hS => ?_)
  obtain ⟨al, c⟩ := u_6
  have hP : mP G al c H := hP
  obtain ⟨hL9, hcx0, hax0⟩ := hu_6
  dsimp only at hL9 hcx0 hax0
  have efg : c (10 + f) = some (.inr (3, [.ref (al (12 + f))])) := by rw [hcx0 (10 + f) (by omega) (by omega), hax0 (12 + f) (by omega)]; exact efg
  have hlst : gLs G al c (12 + f) (14 + f) 3 (fun s => 20 + (3 * f + s)) := (gLs_al (gLs_cv hlst (hcx0 _ (by omega) (by omega)) (hcx0 _ (by omega) (by omega))) (hax0 _ (by omega)) (fun s hs => hax0 _ (by show 20 + (3 * f + s) ≠ 300 + 3 * nc + 2; omega)))
  have hst : ∀ q, q < 6 → c (20 + q) = some (.inr (7, [.int (w q 0), .int (w q 1), .int (w q 2)])) := fun q hq => (hcx0 (20 + q) (by omega) (by omega)).trans (hst q hq)
  have hfc : ∀ i, (i ≠ 300 + 3 * nc + 1 ∧ i ≠ 300 + 3 * nc + 2) → c i = c0 i := fun i hi => (hcx0 i (by omega) (by omega)).trans (hfc i hi)
  have hfa : ∀ i, (i ≠ 300 + 3 * nc + 1 ∧ i ≠ 300 + 3 * nc + 2) → al i = al0 i := fun i hi => (hax0 i (by omega)).trans (hfa i hi)
  have l_3 : gLs G al c (300 + 3 * nc + 1) (300 + 3 * nc + 2) 3 (va_up (va_up (va_up (fun i => i) 0 (20 + (3 * f + 0))) 1 (20 + (3 * f + 1))) 2 (20 + (3 * f + 2))) := hL9
  have hl : lv_has ls 3 [(2, .int 2), (1, .ref (al (300 + 3 * nc + 1))), (0, .ref (al (10 + f)))] := by rw [hax0 (10 + f) (by omega), hax0 (300 + 3 * nc + 1) (by omega)]; exact hl
  refine f_topi (v := 1) rfl ?_
  refine lv_pop hx hb dX2_stepsNow_36 rfl ?_
  refine lv_iinc (v := 3) (lv' := [(2, .int 3), (1, .ref (al (300 + 3 * nc + 1))), (0, .ref (al (10 + f)))]) hx hb dX2_stepsNow_37 hl (k := 0) rfl (by decide) (by decide) rfl (fun ls hl => ?_)
  refine lv_goto (tgt := 10) hx hb dX2_stepsNow_40 (by decide) ?_
  refine lv_iload_n hx hb dX2_stepsNow_10 rfl (lv_at hl 0 rfl) ?_
  refine lv_aload_n hx hb dX2_stepsNow_11 rfl (lv_at hl 2 rfl) ?_
  refine m_get (C := RX2) (T := TX2) (N := 1) (ci := 3) (v := .ref (al (12 + f))) hx hb hts uX2 hown hE hP (10 + f) rfl efg rfl 0 (by decide) (hts _ q79) (fun _ h9 => h9) rfl dX2_stepsNow_12 ?_
  refine g_aft_i (g_runV (As := []) (rest := [.int 3]) hx hb hml hown hts (kJx4a65c_size_8abf5 l G al c (12 + f) (14 + f) 3 (fun s => 20 + (3 * f + s)) hlst) (fcwV 0 hts q129 q53 q54 q50 q34 rfl rfl (by decide +kernel) ⟨(Nat.le_of_ble_eq_true rfl), (Nat.le_of_ble_eq_true rfl)⟩) hE hb0 hP hS (m_recvL hE hP hlst rfl) rfl hl.1 rfl (Nat.le_of_ble_eq_true rfl) dX2_stepsNow_15 ⟨(Nat.le_of_ble_eq_true rfl), (Nat.le_of_ble_eq_true rfl)⟩) hS (fun u H locs hP hS => ?_)
  refine f_topi (v := 3) rfl ?_
  refine f_topi (v := 3) rfl ?_
  refine lv_icmp_ge (tgt := 43) hx hb dX2_stepsNow_18 (by decide) (fun _ => ?_) (fun h => absurd (by decide) h)
  refine lv_aload_n hx hb dX2_stepsNow_43 rfl (lv_at hl 1 rfl) ?_
  refine W.widen (k := 4) (n := 69) (Nat.le_of_ble_eq_true rfl) (Nat.le_of_ble_eq_true rfl) ?_
  exact W.aret hx hb hr (Or.inl ⟨_, rfl⟩) (Or.inr ⟨_, rfl⟩) (fun tz htz hW => ⟨⟨(al, c), al (300 + 3 * nc + 1), rfl, ⟨gLs_al l_3 rfl (fun i hi => by rcases (show i = 0 ∨ i = 1 ∨ i = 2 by omega) with rfl | rfl | rfl <;> rfl), fun i hi => (hfc i hi).trans (congrFun hc0 i), fun i hi => (hfa i hi).trans (congrFun hal0 i)⟩, rfl, g_end htz hP⟩, hS.F htz⟩) hS.2.2 dX2_stepsNow_44
