set_option maxHeartbeats 4000000 in
set_option maxRecDepth 100000 in
theorem kX0_init_100 (l : Launch) (G : gT) (al : Nat → Nat) (c : mC) (e1 : c (100 + 7) = some (.inr (1, [.null, .null, .null]))) : Met l yX0_init (fW yX0_init cX0_init 1 none) { frames := 1, cells := 3, slots := 27, locals := 12 } (gPre G al (c) [.ref (al (100 + 7))]) (gQvp (S := (Nat → Nat) × mC) G (fun u => u.2 (100 + 7) = some (.inr (1, [.ref (u.1 (100 + 8)), .ref (u.1 (100 + 9)), .ref (u.1 (100 + 10))])) ∧ u.2 (100 + 8) = some (.inl (gI G, 9, .inl (fun _ => 0))) ∧ u.2 (100 + 9) = some (.inl (gI G, 9, .inl (fun _ => 0))) ∧ u.2 (100 + 10) = some (.inl (gI G, 9, .inl (fun _ => 0))) ∧ (∀ i, (i ≠ 100 + 7 ∧ i ≠ 100 + 8 ∧ i ≠ 100 + 9 ∧ i ≠ 100 + 10) → u.2 i = c i) ∧ ∀ i, (i ≠ 100 + 8 ∧ i ≠ 100 + 9 ∧ i ≠ 100 + 10) → u.1 i = al i) (fun u => u.1) (fun u => u.2)) 3 27 (gA G) := by
  refine Met.ofW (cc := cX0_init) (maxL := 1) (ret := none) (by decide) rfl ?_
  intro pz ez s m args below meth c₀ s₁ Bo hml hv
  obtain ⟨rfl, hb0, hP, hE⟩ := hv
  have hx := Bo.exec
  have hb := Bo.bytes
  have hr := Bo.returns
  have hts0 := atoms_spec (ws := (fW yX0_init cX0_init 1 none)) Bo.pre
  have hts : ∀ w ∈ fA, w.before _ s = true := fun w h => hts0 w (List.mem_cons_of_mem _ h)
  have hown : s.vm.findClass RX0 = some m.cls := findClass_of_methodNamed Bo.named
  have hlocks := Bo.notSynchronized
  have hin : meth.name = "<init>" := (name_of_methodNamed Bo.named Bo.method).1
  have hl := lv_entry ([.ref (al (100 + 7))]) (n := 1) (Nat.le_of_ble_eq_true rfl)
  rw [lg_entry_eq]
  generalize (lg_sl ([.ref (al (100 + 7))]) ++ List.replicate (1 - (lg_sl ([.ref (al (100 + 7))])).length) Slot.unset).toArray = ls at hl ⊢
  have hl : lv_has ls 1 [(0, .ref (al (100 + 7)))] := hl
  obtain ⟨al0, hal0⟩ : ∃ z, z = al := ⟨_, rfl⟩
  obtain ⟨c0, hc0⟩ : ∃ z, z = c := ⟨_, rfl⟩
  have hfc : ∀ i, (i ≠ 100 + 7 ∧ i ≠ 100 + 8 ∧ i ≠ 100 + 9 ∧ i ≠ 100 + 10) → c i = c0 i := fun i _ => by rw [hc0]
  have hfa : ∀ i, (i ≠ 100 + 8 ∧ i ≠ 100 + 9 ∧ i ≠ 100 + 10) → al i = al0 i := fun i _ => by rw [hal0]
  generalize (#[.ref (al (100 + 7))] : Array Value) = ar9 at hts ⊢
  refine g_start hP (fun H hP hS => ?_)
  refine lv_aload_n hx hb dX0_init_0 rfl (lv_at hl 0 rfl) ?_
  refine W.objInit hx hb hown (hts _ q1) (hts _ q2) (hts _ q3) rfl (by rw [hml]; exact hl.1) rfl dX0_init_1 (Nat.le_of_ble_eq_true rfl) (Nat.le_of_ble_eq_true rfl) ?_
  refine W.eq (g2 := F0 m 4 ls []) rfl ?_
  refine lv_aload_n hx hb dX0_init_4 rfl (lv_at hl 0 rfl) ?_
  refine lv_bipush (v := 9) hx hb dX0_init_5 (by decide) ?_
  refine m_newI (100 + 8) (N := 9) hx hb (hts _ q4) hE hb0 hP hS (by decide) (by decide) (Nat.le_of_ble_eq_true rfl) (Nat.le_of_ble_eq_true rfl) (Nat.le_of_ble_eq_true rfl) dX0_init_7 (fun n_1 H hP hS => ?_)
  have hP : mP G (va_up al (100 + 8) n_1) (up c (100 + 8) (.inl (gI G, 9, .inl (fun _ => 0)))) H := hP
  have hax0 : ∀ x, x ≠ 100 + 8 → va_up al (100 + 8) n_1 x = al x := fun x hx => au_n _ _ hx
  have has0 : va_up al (100 + 8) n_1 (100 + 8) = n_1 := au_s _ _ _
  obtain ⟨al, hau⟩ : ∃ z, z = va_up al (100 + 8) n_1 := ⟨_, rfl⟩
  rw [← hau] at hax0 has0 hP
  have hcx0 : ∀ x, x ≠ 100 + 8 → (up c (100 + 8) (.inl (gI G, 9, .inl (fun _ => 0)))) x = c x := fun x hx => up_n _ _ hx
  have hcs0 : (up c (100 + 8) (.inl (gI G, 9, .inl (fun _ => 0)))) (100 + 8) = some (.inl (gI G, 9, .inl (fun _ => 0))) := up_s _ _ _
  obtain ⟨c, hcu⟩ : ∃ z, z = up c (100 + 8) (.inl (gI G, 9, .inl (fun _ => 0))) := ⟨_, rfl⟩
  rw [← hcu] at hcx0 hcs0 hP
  have e1 : c (100 + 7) = some (.inr (1, [.null, .null, .null])) := by rw [hcx0 (100 + 7) (by omega)]; exact e1
  have hfc : ∀ i, (i ≠ 100 + 7 ∧ i ≠ 100 + 8 ∧ i ≠ 100 + 9 ∧ i ≠ 100 + 10) → c i = c0 i := fun i hi => (hcx0 i (by omega)).trans (hfc i hi)
  have hfa : ∀ i, (i ≠ 100 + 8 ∧ i ≠ 100 + 9 ∧ i ≠ 100 + 10) → al i = al0 i := fun i hi => (hax0 i (by omega)).trans (hfa i hi)
  have e_2 : c (100 + 8) = some (.inl (gI G, 9, .inl (fun _ => 0))) := hcs0
  rw [← has0]
  have hl : lv_has ls 1 [(0, .ref (al (100 + 7)))] := by rw [hax0 (100 + 7) (by omega)]; exact hl
  rw [← hax0 (100 + 7) (by omega)]
  refine m_putF (v := .ref (al (100 + 8))) (ty := .array .int) (C := RX0) (T := TX0) (N := 3) (ci := 1) hx hb hts uX0 tyX0 tyX0_ok nmX0 hown hE hP hS (100 + 7) rfl e1 rfl 0 (by decide) (hts _ q5) (fun _ h9 => h9) rfl hin rfl (by decide +kernel) rfl rfl (Nat.le_of_ble_eq_true rfl) dX0_init_9 (fun H locs hP hS => ?_)
  have hP : mP G al (up c (100 + 7) (.inr (1, [.ref (al (100 + 8)), .null, .null]))) H := hP
  have hcx0 : ∀ x, x ≠ 100 + 7 → (up c (100 + 7) (.inr (1, [.ref (al (100 + 8)), .null, .null]))) x = c x := fun x hx => up_n _ _ hx
  have hcs0 : (up c (100 + 7) (.inr (1, [.ref (al (100 + 8)), .null, .null]))) (100 + 7) = some (.inr (1, [.ref (al (100 + 8)), .null, .null])) := up_s _ _ _
  obtain ⟨c, hcu⟩ : ∃ z, z = up c (100 + 7) (.inr (1, [.ref (al (100 + 8)), .null, .null])) := ⟨_, rfl⟩
  rw [← hcu] at hcx0 hcs0 hP
  have e_2 : c (100 + 8) = some (.inl (gI G, 9, .inl (fun _ => 0))) := by rw [hcx0 (100 + 8) (by omega)]; exact e_2
  have hfc : ∀ i, (i ≠ 100 + 7 ∧ i ≠ 100 + 8 ∧ i ≠ 100 + 9 ∧ i ≠ 100 + 10) → c i = c0 i := fun i hi => (hcx0 i (by omega)).trans (hfc i hi)
  have e1 : c (100 + 7) = some (.inr (1, [.ref (al (100 + 8)), .null, .null])) := hcs0
  refine lv_aload_n hx hb dX0_init_12 rfl (lv_at hl 0 rfl) ?_
  refine lv_bipush (v := 9) hx hb dX0_init_13 (by decide) ?_
  refine m_newI (100 + 9) (N := 9) hx hb (hts _ q4) hE hb0 hP hS (by decide) (by decide) (Nat.le_of_ble_eq_true rfl) (Nat.le_of_ble_eq_true rfl) (Nat.le_of_ble_eq_true rfl) dX0_init_15 (fun n_3 H hP hS => ?_)
  have hP : mP G (va_up al (100 + 9) n_3) (up c (100 + 9) (.inl (gI G, 9, .inl (fun _ => 0)))) H := hP
  have hax0 : ∀ x, x ≠ 100 + 9 → va_up al (100 + 9) n_3 x = al x := fun x hx => au_n _ _ hx
  have has0 : va_up al (100 + 9) n_3 (100 + 9) = n_3 := au_s _ _ _
  obtain ⟨al, hau⟩ : ∃ z, z = va_up al (100 + 9) n_3 := ⟨_, rfl⟩
  rw [← hau] at hax0 has0 hP
  have hcx0 : ∀ x, x ≠ 100 + 9 → (up c (100 + 9) (.inl (gI G, 9, .inl (fun _ => 0)))) x = c x := fun x hx => up_n _ _ hx
  have hcs0 : (up c (100 + 9) (.inl (gI G, 9, .inl (fun _ => 0)))) (100 + 9) = some (.inl (gI G, 9, .inl (fun _ => 0))) := up_s _ _ _
  obtain ⟨c, hcu⟩ : ∃ z, z = up c (100 + 9) (.inl (gI G, 9, .inl (fun _ => 0))) := ⟨_, rfl⟩
  rw [← hcu] at hcx0 hcs0 hP
  have e1 : c (100 + 7) = some (.inr (1, [.ref (al (100 + 8)), .null, .null])) := by rw [hcx0 (100 + 7) (by omega), hax0 (100 + 8) (by omega)]; exact e1
  have e_2 : c (100 + 8) = some (.inl (gI G, 9, .inl (fun _ => 0))) := by rw [hcx0 (100 + 8) (by omega)]; exact e_2
  have hfc : ∀ i, (i ≠ 100 + 7 ∧ i ≠ 100 + 8 ∧ i ≠ 100 + 9 ∧ i ≠ 100 + 10) → c i = c0 i := fun i hi => (hcx0 i (by omega)).trans (hfc i hi)
  have hfa : ∀ i, (i ≠ 100 + 8 ∧ i ≠ 100 + 9 ∧ i ≠ 100 + 10) → al i = al0 i := fun i hi => (hax0 i (by omega)).trans (hfa i hi)
  have e_4 : c (100 + 9) = some (.inl (gI G, 9, .inl (fun _ => 0))) := hcs0
  rw [← has0]
  have hl : lv_has ls 1 [(0, .ref (al (100 + 7)))] := by rw [hax0 (100 + 7) (by omega)]; exact hl
  rw [← hax0 (100 + 7) (by omega)]
  refine m_putF (v := .ref (al (100 + 9))) (ty := .array .int) (C := RX0) (T := TX0) (N := 3) (ci := 1) hx hb hts uX0 tyX0 tyX0_ok nmX0 hown hE hP hS (100 + 7) rfl e1 rfl 1 (by decide) (hts _ q6) (fun _ h9 => h9) rfl hin rfl (by decide +kernel) rfl rfl (Nat.le_of_ble_eq_true rfl) dX0_init_17 (fun H locs hP hS => ?_)
  have hP : mP G al (up c (100 + 7) (.inr (1, [.ref (al (100 + 8)), .ref (al (100 + 9)), .null]))) H := hP
  have hcx0 : ∀ x, x ≠ 100 + 7 → (up c (100 + 7) (.inr (1, [.ref (al (100 + 8)), .ref (al (100 + 9)), .null]))) x = c x := fun x hx => up_n _ _ hx
  have hcs0 : (up c (100 + 7) (.inr (1, [.ref (al (100 + 8)), .ref (al (100 + 9)), .null]))) (100 + 7) = some (.inr (1, [.ref (al (100 + 8)), .ref (al (100 + 9)), .null])) := up_s _ _ _
  obtain ⟨c, hcu⟩ : ∃ z, z = up c (100 + 7) (.inr (1, [.ref (al (100 + 8)), .ref (al (100 + 9)), .null])) := ⟨_, rfl⟩
  rw [← hcu] at hcx0 hcs0 hP
  have e_2 : c (100 + 8) = some (.inl (gI G, 9, .inl (fun _ => 0))) := by rw [hcx0 (100 + 8) (by omega)]; exact e_2
  have e_4 : c (100 + 9) = some (.inl (gI G, 9, .inl (fun _ => 0))) := by rw [hcx0 (100 + 9) (by omega)]; exact e_4
  have hfc : ∀ i, (i ≠ 100 + 7 ∧ i ≠ 100 + 8 ∧ i ≠ 100 + 9 ∧ i ≠ 100 + 10) → c i = c0 i := fun i hi => (hcx0 i (by omega)).trans (hfc i hi)
  have e1 : c (100 + 7) = some (.inr (1, [.ref (al (100 + 8)), .ref (al (100 + 9)), .null])) := hcs0
  refine lv_aload_n hx hb dX0_init_20 rfl (lv_at hl 0 rfl) ?_
  refine lv_bipush (v := 9) hx hb dX0_init_21 (by decide) ?_
  refine m_newI (100 + 10) (N := 9) hx hb (hts _ q4) hE hb0 hP hS (by decide) (by decide) (Nat.le_of_ble_eq_true rfl) (Nat.le_of_ble_eq_true rfl) (Nat.le_of_ble_eq_true rfl) dX0_init_23 (fun n_5 H hP hS => ?_)
  have hP : mP G (va_up al (100 + 10) n_5) (up c (100 + 10) (.inl (gI G, 9, .inl (fun _ => 0)))) H := hP
  have hax0 : ∀ x, x ≠ 100 + 10 → va_up al (100 + 10) n_5 x = al x := fun x hx => au_n _ _ hx
  have has0 : va_up al (100 + 10) n_5 (100 + 10) = n_5 := au_s _ _ _
  obtain ⟨al, hau⟩ : ∃ z, z = va_up al (100 + 10) n_5 := ⟨_, rfl⟩
  rw [← hau] at hax0 has0 hP
  have hcx0 : ∀ x, x ≠ 100 + 10 → (up c (100 + 10) (.inl (gI G, 9, .inl (fun _ => 0)))) x = c x := fun x hx => up_n _ _ hx
  have hcs0 : (up c (100 + 10) (.inl (gI G, 9, .inl (fun _ => 0)))) (100 + 10) = some (.inl (gI G, 9, .inl (fun _ => 0))) := up_s _ _ _
  obtain ⟨c, hcu⟩ : ∃ z, z = up c (100 + 10) (.inl (gI G, 9, .inl (fun _ => 0))) := ⟨_, rfl⟩
  rw [← hcu] at hcx0 hcs0 hP
  have e1 : c (100 + 7) = some (.inr (1, [.ref (al (100 + 8)), .ref (al (100 + 9)), .null])) := by rw [hcx0 (100 + 7) (by omega), hax0 (100 + 8) (by omega), hax0 (100 + 9) (by omega)]; exact e1
  have e_2 : c (100 + 8) = some (.inl (gI G, 9, .inl (fun _ => 0))) := by rw [hcx0 (100 + 8) (by omega)]; exact e_2
  have e_4 : c (100 + 9) = some (.inl (gI G, 9, .inl (fun _ => 0))) := by rw [hcx0 (100 + 9) (by omega)]; exact e_4
  have hfc : ∀ i, (i ≠ 100 + 7 ∧ i ≠ 100 + 8 ∧ i ≠ 100 + 9 ∧ i ≠ 100 + 10) → c i = c0 i := fun i hi => (hcx0 i (by omega)).trans (hfc i hi)
  have hfa : ∀ i, (i ≠ 100 + 8 ∧ i ≠ 100 + 9 ∧ i ≠ 100 + 10) → al i = al0 i := fun i hi => (hax0 i (by omega)).trans (hfa i hi)
  have e_6 : c (100 + 10) = some (.inl (gI G, 9, .inl (fun _ => 0))) := hcs0
  rw [← has0]
  have hl : lv_has ls 1 [(0, .ref (al (100 + 7)))] := by rw [hax0 (100 + 7) (by omega)]; exact hl
  rw [← hax0 (100 + 7) (by omega)]
  refine m_putF (v := .ref (al (100 + 10))) (ty := .array .int) (C := RX0) (T := TX0) (N := 3) (ci := 1) hx hb hts uX0 tyX0 tyX0_ok nmX0 hown hE hP hS (100 + 7) rfl e1 rfl 2 (by decide) (hts _ q7) (fun _ h9 => h9) rfl hin rfl (by decide +kernel) rfl rfl (Nat.le_of_ble_eq_true rfl) dX0_init_25 (fun H locs hP hS => ?_)
  have hP : mP G al (up c (100 + 7) (.inr (1, [.ref (al (100 + 8)), .ref (al (100 + 9)), .ref (al (100 + 10))]))) H := hP
  have hcx0 : ∀ x, x ≠ 100 + 7 → (up c (100 + 7) (.inr (1, [.ref (al (100 + 8)), .ref (al (100 + 9)), .ref (al (100 + 10))]))) x = c x := fun x hx => up_n _ _ hx
  have hcs0 : (up c (100 + 7) (.inr (1, [.ref (al (100 + 8)), .ref (al (100 + 9)), .ref (al (100 + 10))]))) (100 + 7) = some (.inr (1, [.ref (al (100 + 8)), .ref (al (100 + 9)), .ref (al (100 + 10))])) := up_s _ _ _
  obtain ⟨c, hcu⟩ : ∃ z, z = up c (100 + 7) (.inr (1, [.ref (al (100 + 8)), .ref (al (100 + 9)), .ref (al (100 + 10))])) := ⟨_, rfl⟩
  rw [← hcu] at hcx0 hcs0 hP
  have e_2 : c (100 + 8) = some (.inl (gI G, 9, .inl (fun _ => 0))) := by rw [hcx0 (100 + 8) (by omega)]; exact e_2
  have e_4 : c (100 + 9) = some (.inl (gI G, 9, .inl (fun _ => 0))) := by rw [hcx0 (100 + 9) (by omega)]; exact e_4
  have e_6 : c (100 + 10) = some (.inl (gI G, 9, .inl (fun _ => 0))) := by rw [hcx0 (100 + 10) (by omega)]; exact e_6
  have hfc : ∀ i, (i ≠ 100 + 7 ∧ i ≠ 100 + 8 ∧ i ≠ 100 + 9 ∧ i ≠ 100 + 10) → c i = c0 i := fun i hi => (hcx0 i (by omega)).trans (hfc i hi)
  have e1 : c (100 + 7) = some (.inr (1, [.ref (al (100 + 8)), .ref (al (100 + 9)), .ref (al (100 + 10))])) := hcs0
  refine W.widen (k := 3) (n := 27) (Nat.le_of_ble_eq_true rfl) (Nat.le_of_ble_eq_true rfl) ?_
  exact W.vret hx hb hr (fun tz htz hW => ⟨⟨(al, c), rfl, ⟨e1, e_2, e_4, e_6, fun i hi => (hfc i hi).trans (congrFun hc0 i), fun i hi => (hfa i hi).trans (congrFun hal0 i)⟩, g_end htz hP⟩, hS.F htz⟩) hS.2.2 dX0_init_28
set_option maxHeartbeats 4000000 in
set_option maxRecDepth 100000 in
theorem kX5_init_100 (l : Launch) (G : gT) (al : Nat → Nat) (c : mC) (k : gC) (e1 : c 100 = some (.inr (6, [.null, .null, .null, .null, .int 0, .int 0, .int 0, .int 0, .int 0, .int 0, .int 0, .int 0, .int 0, .int 0, .int 0]))) : Met l yX5_init (fW yX5_init cX5_init 1 none) { frames := 4, cells := 7, slots := 39, locals := 72 } (gPre G al (c) [.ref (al 100)]) (gQvp (S := (Nat → Nat) × mC) G (fun u => gUB G u.1 k 100 0 0 u.2 ∧ (∀ i, (i < 100 ∨ 100 + 30 ≤ i) → u.2 i = c i) ∧ ∀ i, (i ≤ 100 ∨ 100 + 30 ≤ i) → u.1 i = al i) (fun u => u.1) (fun u => u.2)) 7 39 (gA G) := by
  refine Met.ofW (cc := cX5_init) (maxL := 1) (ret := none) (by decide) rfl ?_
  intro pz ez s m args below meth c₀ s₁ Bo hml hv
  obtain ⟨rfl, hb0, hP, hE⟩ := hv
  have hx := Bo.exec
  have hb := Bo.bytes
  have hr := Bo.returns
  have hts0 := atoms_spec (ws := (fW yX5_init cX5_init 1 none)) Bo.pre
  have hts : ∀ w ∈ fA, w.before _ s = true := fun w h => hts0 w (List.mem_cons_of_mem _ h)
  have hown : s.vm.findClass RX5 = some m.cls := findClass_of_methodNamed Bo.named
  have hlocks := Bo.notSynchronized
  have hin : meth.name = "<init>" := (name_of_methodNamed Bo.named Bo.method).1
  have hl := lv_entry ([.ref (al 100)]) (n := 1) (Nat.le_of_ble_eq_true rfl)
  rw [lg_entry_eq]
  generalize (lg_sl ([.ref (al 100)]) ++ List.replicate (1 - (lg_sl ([.ref (al 100)])).length) Slot.unset).toArray = ls at hl ⊢
  have hl : lv_has ls 1 [(0, .ref (al 100))] := hl
  obtain ⟨al0, hal0⟩ : ∃ z, z = al := ⟨_, rfl⟩
  obtain ⟨c0, hc0⟩ : ∃ z, z = c := ⟨_, rfl⟩
  have hfc : ∀ i, (i < 100 ∨ 100 + 30 ≤ i) → c i = c0 i := fun i _ => by rw [hc0]
  have hfa : ∀ i, (i ≤ 100 ∨ 100 + 30 ≤ i) → al i = al0 i := fun i _ => by rw [hal0]
  generalize (#[.ref (al 100)] : Array Value) = ar9 at hts ⊢
  refine g_start hP (fun H hP hS => ?_)
  refine lv_aload_n hx hb dX5_init_0 rfl (lv_at hl 0 rfl) ?_
  refine W.objInit hx hb hown (hts _ q171) (hts _ q2) (hts _ q3) rfl (by rw [hml]; exact hl.1) rfl dX5_init_1 (Nat.le_of_ble_eq_true rfl) (Nat.le_of_ble_eq_true rfl) ?_
  refine W.eq (g2 := F0 m 4 ls []) rfl ?_
  refine lv_aload_n hx hb dX5_init_4 rfl (lv_at hl 0 rfl) ?_
  refine m_new (100 + 1) (ci := 0) (fs := [.int 0, .null, .int 0]) (C := RJx4a65c) (T := TJx4a65c) (N := 3) hx hb hts uJx4a65c tyJx4a65c tyJx4a65c_ok hown (hts _ q172) (hts _ q78) (hts _ q50) hE hb0 hP hS rfl (fun j hj => by rcases f_lt3 hj with rfl | rfl | rfl <;> rfl) (Nat.le_of_ble_eq_true rfl) (Nat.le_of_ble_eq_true rfl) dX5_init_5 (fun n_1 H hP hS => ?_)
  have hP : mP G (va_up al (100 + 1) n_1) (up c (100 + 1) (.inr (0, [.int 0, .null, .int 0]))) H := hP
  have hax0 : ∀ x, x ≠ 100 + 1 → va_up al (100 + 1) n_1 x = al x := fun x hx => au_n _ _ hx
  have has0 : va_up al (100 + 1) n_1 (100 + 1) = n_1 := au_s _ _ _
  obtain ⟨al, hau⟩ : ∃ z, z = va_up al (100 + 1) n_1 := ⟨_, rfl⟩
  rw [← hau] at hax0 has0 hP
  have hcx0 : ∀ x, x ≠ 100 + 1 → (up c (100 + 1) (.inr (0, [.int 0, .null, .int 0]))) x = c x := fun x hx => up_n _ _ hx
  have hcs0 : (up c (100 + 1) (.inr (0, [.int 0, .null, .int 0]))) (100 + 1) = some (.inr (0, [.int 0, .null, .int 0])) := up_s _ _ _
  obtain ⟨c, hcu⟩ : ∃ z, z = up c (100 + 1) (.inr (0, [.int 0, .null, .int 0])) := ⟨_, rfl⟩
  rw [← hcu] at hcx0 hcs0 hP
  have e1 : c 100 = some (.inr (6, [.null, .null, .null, .null, .int 0, .int 0, .int 0, .int 0, .int 0, .int 0, .int 0, .int 0, .int 0, .int 0, .int 0])) := by rw [hcx0 100 (by omega)]; exact e1
  have hfc : ∀ i, (i < 100 ∨ 100 + 30 ≤ i) → c i = c0 i := fun i hi => (hcx0 i (by omega)).trans (hfc i hi)
  have hfa : ∀ i, (i ≤ 100 ∨ 100 + 30 ≤ i) → al i = al0 i := fun i hi => (hax0 i (by omega)).trans (hfa i hi)
  have e_2 : c (100 + 1) = some (.inr (0, [.int 0, .null, .int 0])) := hcs0
  rw [← has0]
  have hl : lv_has ls 1 [(0, .ref (al 100))] := by rw [hax0 100 (by omega)]; exact hl
  rw [← hax0 100 (by omega)]
  refine lv_dup hx hb dX5_init_8 rfl ?_
  refine g_aft_v (g_runI (As := []) (rest := [.ref (al (100 + 1)), .ref (al 100)]) hx hb hml hown hts (kJx4a65c_init_da8c8 l G al c (100 + 1) e_2) (fcwI 0 hts q180 q81 q50 q70 rfl rfl rfl (by decide +kernel) ⟨(Nat.le_of_ble_eq_true rfl), (Nat.le_of_ble_eq_true rfl)⟩) hE hb0 hP hS rfl hl.1 rfl (Nat.le_of_ble_eq_true rfl) dX5_init_9 ⟨(Nat.le_of_ble_eq_true rfl), (Nat.le_of_ble_eq_true rfl)⟩) hS (fun u H locs hP hS => ?_)
  have hP : mP G al (up c (100 + 1) (.inr (0, [.int 0, .ref (gEm G), .int 0]))) H := hP
  have hcx0 : ∀ x, x ≠ 100 + 1 → (up c (100 + 1) (.inr (0, [.int 0, .ref (gEm G), .int 0]))) x = c x := fun x hx => up_n _ _ hx
  have hcs0 : (up c (100 + 1) (.inr (0, [.int 0, .ref (gEm G), .int 0]))) (100 + 1) = some (.inr (0, [.int 0, .ref (gEm G), .int 0])) := up_s _ _ _
  obtain ⟨c, hcu⟩ : ∃ z, z = up c (100 + 1) (.inr (0, [.int 0, .ref (gEm G), .int 0])) := ⟨_, rfl⟩
  rw [← hcu] at hcx0 hcs0 hP
  have e1 : c 100 = some (.inr (6, [.null, .null, .null, .null, .int 0, .int 0, .int 0, .int 0, .int 0, .int 0, .int 0, .int 0, .int 0, .int 0, .int 0])) := by rw [hcx0 100 (by omega)]; exact e1
  have hfc : ∀ i, (i < 100 ∨ 100 + 30 ≤ i) → c i = c0 i := fun i hi => (hcx0 i (by omega)).trans (hfc i hi)
  have e_2 : c (100 + 1) = some (.inr (0, [.int 0, .ref (gEm G), .int 0])) := hcs0
  have l_3 : gLs G al c (100 + 1) (100 + 2) 0 (fun i => i) := Or.inl ⟨rfl, _, e_2⟩
  refine m_putF (v := .ref (al (100 + 1))) (ty := .object "java/util/ArrayList") (C := RX5) (T := TX5) (N := 15) (ci := 6) hx hb hts uX5 tyX5 tyX5_ok nmX5 hown hE hP hS 100 rfl e1 rfl 0 (by decide) (hts _ q173) (fun _ h9 => h9) rfl hin rfl (by decide +kernel) rfl rfl (Nat.le_of_ble_eq_true rfl) dX5_init_12 (fun H locs hP hS => ?_)
  have hP : mP G al (up c 100 (.inr (6, [.ref (al (100 + 1)), .null, .null, .null, .int 0, .int 0, .int 0, .int 0, .int 0, .int 0, .int 0, .int 0, .int 0, .int 0, .int 0]))) H := hP
  have hcx0 : ∀ x, x ≠ 100 → (up c 100 (.inr (6, [.ref (al (100 + 1)), .null, .null, .null, .int 0, .int 0, .int 0, .int 0, .int 0, .int 0, .int 0, .int 0, .int 0, .int 0, .int 0]))) x = c x := fun x hx => up_n _ _ hx
  have hcs0 : (up c 100 (.inr (6, [.ref (al (100 + 1)), .null, .null, .null, .int 0, .int 0, .int 0, .int 0, .int 0, .int 0, .int 0, .int 0, .int 0, .int 0, .int 0]))) 100 = some (.inr (6, [.ref (al (100 + 1)), .null, .null, .null, .int 0, .int 0, .int 0, .int 0, .int 0, .int 0, .int 0, .int 0, .int 0, .int 0, .int 0])) := up_s _ _ _
  obtain ⟨c, hcu⟩ : ∃ z, z = up c 100 (.inr (6, [.ref (al (100 + 1)), .null, .null, .null, .int 0, .int 0, .int 0, .int 0, .int 0, .int 0, .int 0, .int 0, .int 0, .int 0, .int 0])) := ⟨_, rfl⟩
  rw [← hcu] at hcx0 hcs0 hP
  have l_3 : gLs G al c (100 + 1) (100 + 2) 0 (fun i => i) := (gLs_cv l_3 (hcx0 _ (by omega)) (hcx0 _ (by omega)))
  have hfc : ∀ i, (i < 100 ∨ 100 + 30 ≤ i) → c i = c0 i := fun i hi => (hcx0 i (by omega)).trans (hfc i hi)
  have e1 : c 100 = some (.inr (6, [.ref (al (100 + 1)), .null, .null, .null, .int 0, .int 0, .int 0, .int 0, .int 0, .int 0, .int 0, .int 0, .int 0, .int 0, .int 0])) := hcs0
  refine lv_aload_n hx hb dX5_init_15 rfl (lv_at hl 0 rfl) ?_
  refine m_new (100 + 3) (ci := 0) (fs := [.int 0, .null, .int 0]) (C := RJx4a65c) (T := TJx4a65c) (N := 3) hx hb hts uJx4a65c tyJx4a65c tyJx4a65c_ok hown (hts _ q172) (hts _ q78) (hts _ q50) hE hb0 hP hS rfl (fun j hj => by rcases f_lt3 hj with rfl | rfl | rfl <;> rfl) (Nat.le_of_ble_eq_true rfl) (Nat.le_of_ble_eq_true rfl) dX5_init_16 (fun n_4 H hP hS => ?_)
  have hP : mP G (va_up al (100 + 3) n_4) (up c (100 + 3) (.inr (0, [.int 0, .null, .int 0]))) H := hP
  have hax0 : ∀ x, x ≠ 100 + 3 → va_up al (100 + 3) n_4 x = al x := fun x hx => au_n _ _ hx
  have has0 : va_up al (100 + 3) n_4 (100 + 3) = n_4 := au_s _ _ _
  obtain ⟨al, hau⟩ : ∃ z, z = va_up al (100 + 3) n_4 := ⟨_, rfl⟩
  rw [← hau] at hax0 has0 hP
  have hcx0 : ∀ x, x ≠ 100 + 3 → (up c (100 + 3) (.inr (0, [.int 0, .null, .int 0]))) x = c x := fun x hx => up_n _ _ hx
  have hcs0 : (up c (100 + 3) (.inr (0, [.int 0, .null, .int 0]))) (100 + 3) = some (.inr (0, [.int 0, .null, .int 0])) := up_s _ _ _
  obtain ⟨c, hcu⟩ : ∃ z, z = up c (100 + 3) (.inr (0, [.int 0, .null, .int 0])) := ⟨_, rfl⟩
  rw [← hcu] at hcx0 hcs0 hP
  have e1 : c 100 = some (.inr (6, [.ref (al (100 + 1)), .null, .null, .null, .int 0, .int 0, .int 0, .int 0, .int 0, .int 0, .int 0, .int 0, .int 0, .int 0, .int 0])) := by rw [hcx0 100 (by omega), hax0 (100 + 1) (by omega)]; exact e1
  have l_3 : gLs G al c (100 + 1) (100 + 2) 0 (fun i => i) := (gLs_al (gLs_cv l_3 (hcx0 _ (by omega)) (hcx0 _ (by omega))) (hax0 _ (by omega)) (fun z9 hz9 => absurd hz9 (by omega)))
  have hfc : ∀ i, (i < 100 ∨ 100 + 30 ≤ i) → c i = c0 i := fun i hi => (hcx0 i (by omega)).trans (hfc i hi)
  have hfa : ∀ i, (i ≤ 100 ∨ 100 + 30 ≤ i) → al i = al0 i := fun i hi => (hax0 i (by omega)).trans (hfa i hi)
  have e_5 : c (100 + 3) = some (.inr (0, [.int 0, .null, .int 0])) := hcs0
  rw [← has0]
  have hl : lv_has ls 1 [(0, .ref (al 100))] := by rw [hax0 100 (by omega)]; exact hl
  rw [← hax0 100 (by omega)]
  refine lv_dup hx hb dX5_init_19 rfl ?_
  refine g_aft_v (g_runI (As := []) (rest := [.ref (al (100 + 3)), .ref (al 100)]) hx hb hml hown hts (kJx4a65c_init_da8c8 l G al c (100 + 3) e_5) (fcwI 0 hts q180 q81 q50 q70 rfl rfl rfl (by decide +kernel) ⟨(Nat.le_of_ble_eq_true rfl), (Nat.le_of_ble_eq_true rfl)⟩) hE hb0 hP hS rfl hl.1 rfl (Nat.le_of_ble_eq_true rfl) dX5_init_20 ⟨(Nat.le_of_ble_eq_true rfl), (Nat.le_of_ble_eq_true rfl)⟩) hS (fun u H locs hP hS => ?_)
  have hP : mP G al (up c (100 + 3) (.inr (0, [.int 0, .ref (gEm G), .int 0]))) H := hP
  have hcx0 : ∀ x, x ≠ 100 + 3 → (up c (100 + 3) (.inr (0, [.int 0, .ref (gEm G), .int 0]))) x = c x := fun x hx => up_n _ _ hx
  have hcs0 : (up c (100 + 3) (.inr (0, [.int 0, .ref (gEm G), .int 0]))) (100 + 3) = some (.inr (0, [.int 0, .ref (gEm G), .int 0])) := up_s _ _ _
  obtain ⟨c, hcu⟩ : ∃ z, z = up c (100 + 3) (.inr (0, [.int 0, .ref (gEm G), .int 0])) := ⟨_, rfl⟩
  rw [← hcu] at hcx0 hcs0 hP
  have e1 : c 100 = some (.inr (6, [.ref (al (100 + 1)), .null, .null, .null, .int 0, .int 0, .int 0, .int 0, .int 0, .int 0, .int 0, .int 0, .int 0, .int 0, .int 0])) := by rw [hcx0 100 (by omega)]; exact e1
  have l_3 : gLs G al c (100 + 1) (100 + 2) 0 (fun i => i) := (gLs_cv l_3 (hcx0 _ (by omega)) (hcx0 _ (by omega)))
  have hfc : ∀ i, (i < 100 ∨ 100 + 30 ≤ i) → c i = c0 i := fun i hi => (hcx0 i (by omega)).trans (hfc i hi)
  have e_5 : c (100 + 3) = some (.inr (0, [.int 0, .ref (gEm G), .int 0])) := hcs0
  have l_6 : gLs G al c (100 + 3) (100 + 4) 0 (fun i => i) := Or.inl ⟨rfl, _, e_5⟩
  refine m_putF (v := .ref (al (100 + 3))) (ty := .object "java/util/ArrayList") (C := RX5) (T := TX5) (N := 15) (ci := 6) hx hb hts uX5 tyX5 tyX5_ok nmX5 hown hE hP hS 100 rfl e1 rfl 1 (by decide) (hts _ q174) (fun _ h9 => h9) rfl hin rfl (by decide +kernel) rfl rfl (Nat.le_of_ble_eq_true rfl) dX5_init_23 (fun H locs hP hS => ?_)
  have hP : mP G al (up c 100 (.inr (6, [.ref (al (100 + 1)), .ref (al (100 + 3)), .null, .null, .int 0, .int 0, .int 0, .int 0, .int 0, .int 0, .int 0, .int 0, .int 0, .int 0, .int 0]))) H := hP
  have hcx0 : ∀ x, x ≠ 100 → (up c 100 (.inr (6, [.ref (al (100 + 1)), .ref (al (100 + 3)), .null, .null, .int 0, .int 0, .int 0, .int 0, .int 0, .int 0, .int 0, .int 0, .int 0, .int 0, .int 0]))) x = c x := fun x hx => up_n _ _ hx
  have hcs0 : (up c 100 (.inr (6, [.ref (al (100 + 1)), .ref (al (100 + 3)), .null, .null, .int 0, .int 0, .int 0, .int 0, .int 0, .int 0, .int 0, .int 0, .int 0, .int 0, .int 0]))) 100 = some (.inr (6, [.ref (al (100 + 1)), .ref (al (100 + 3)), .null, .null, .int 0, .int 0, .int 0, .int 0, .int 0, .int 0, .int 0, .int 0, .int 0, .int 0, .int 0])) := up_s _ _ _
  obtain ⟨c, hcu⟩ : ∃ z, z = up c 100 (.inr (6, [.ref (al (100 + 1)), .ref (al (100 + 3)), .null, .null, .int 0, .int 0, .int 0, .int 0, .int 0, .int 0, .int 0, .int 0, .int 0, .int 0, .int 0])) := ⟨_, rfl⟩
  rw [← hcu] at hcx0 hcs0 hP
  have l_3 : gLs G al c (100 + 1) (100 + 2) 0 (fun i => i) := (gLs_cv l_3 (hcx0 _ (by omega)) (hcx0 _ (by omega)))
  have l_6 : gLs G al c (100 + 3) (100 + 4) 0 (fun i => i) := (gLs_cv l_6 (hcx0 _ (by omega)) (hcx0 _ (by omega)))
  have hfc : ∀ i, (i < 100 ∨ 100 + 30 ≤ i) → c i = c0 i := fun i hi => (hcx0 i (by omega)).trans (hfc i hi)
  have e1 : c 100 = some (.inr (6, [.ref (al (100 + 1)), .ref (al (100 + 3)), .null, .null, .int 0, .int 0, .int 0, .int 0, .int 0, .int 0, .int 0, .int 0, .int 0, .int 0, .int 0])) := hcs0
  refine lv_aload_n hx hb dX5_init_26 rfl (lv_at hl 0 rfl) ?_
  refine m_new (100 + 5) (ci := 0) (fs := [.int 0, .null, .int 0]) (C := RJx4a65c) (T := TJx4a65c) (N := 3) hx hb hts uJx4a65c tyJx4a65c tyJx4a65c_ok hown (hts _ q172) (hts _ q78) (hts _ q50) hE hb0 hP hS rfl (fun j hj => by rcases f_lt3 hj with rfl | rfl | rfl <;> rfl) (Nat.le_of_ble_eq_true rfl) (Nat.le_of_ble_eq_true rfl) dX5_init_27 (fun n_7 H hP hS => ?_)
  have hP : mP G (va_up al (100 + 5) n_7) (up c (100 + 5) (.inr (0, [.int 0, .null, .int 0]))) H := hP
  have hax0 : ∀ x, x ≠ 100 + 5 → va_up al (100 + 5) n_7 x = al x := fun x hx => au_n _ _ hx
  have has0 : va_up al (100 + 5) n_7 (100 + 5) = n_7 := au_s _ _ _
  obtain ⟨al, hau⟩ : ∃ z, z = va_up al (100 + 5) n_7 := ⟨_, rfl⟩
  rw [← hau] at hax0 has0 hP
  have hcx0 : ∀ x, x ≠ 100 + 5 → (up c (100 + 5) (.inr (0, [.int 0, .null, .int 0]))) x = c x := fun x hx => up_n _ _ hx
  have hcs0 : (up c (100 + 5) (.inr (0, [.int 0, .null, .int 0]))) (100 + 5) = some (.inr (0, [.int 0, .null, .int 0])) := up_s _ _ _
  obtain ⟨c, hcu⟩ : ∃ z, z = up c (100 + 5) (.inr (0, [.int 0, .null, .int 0])) := ⟨_, rfl⟩
  rw [← hcu] at hcx0 hcs0 hP
  have e1 : c 100 = some (.inr (6, [.ref (al (100 + 1)), .ref (al (100 + 3)), .null, .null, .int 0, .int 0, .int 0, .int 0, .int 0, .int 0, .int 0, .int 0, .int 0, .int 0, .int 0])) := by rw [hcx0 100 (by omega), hax0 (100 + 1) (by omega), hax0 (100 + 3) (by omega)]; exact e1
  have l_3 : gLs G al c (100 + 1) (100 + 2) 0 (fun i => i) := (gLs_al (gLs_cv l_3 (hcx0 _ (by omega)) (hcx0 _ (by omega))) (hax0 _ (by omega)) (fun z9 hz9 => absurd hz9 (by omega)))
  have l_6 : gLs G al c (100 + 3) (100 + 4) 0 (fun i => i) := (gLs_al (gLs_cv l_6 (hcx0 _ (by omega)) (hcx0 _ (by omega))) (hax0 _ (by omega)) (fun z9 hz9 => absurd hz9 (by omega)))
  have hfc : ∀ i, (i < 100 ∨ 100 + 30 ≤ i) → c i = c0 i := fun i hi => (hcx0 i (by omega)).trans (hfc i hi)
  have hfa : ∀ i, (i ≤ 100 ∨ 100 + 30 ≤ i) → al i = al0 i := fun i hi => (hax0 i (by omega)).trans (hfa i hi)
  have e_8 : c (100 + 5) = some (.inr (0, [.int 0, .null, .int 0])) := hcs0
  rw [← has0]
  have hl : lv_has ls 1 [(0, .ref (al 100))] := by rw [hax0 100 (by omega)]; exact hl
  rw [← hax0 100 (by omega)]
  refine lv_dup hx hb dX5_init_30 rfl ?_
  refine g_aft_v (g_runI (As := []) (rest := [.ref (al (100 + 5)), .ref (al 100)]) hx hb hml hown hts (kJx4a65c_init_da8c8 l G al c (100 + 5) e_8) (fcwI 0 hts q180 q81 q50 q70 rfl rfl rfl (by decide +kernel) ⟨(Nat.le_of_ble_eq_true rfl), (Nat.le_of_ble_eq_true rfl)⟩) hE hb0 hP hS rfl hl.1 rfl (Nat.le_of_ble_eq_true rfl) dX5_init_31 ⟨(Nat.le_of_ble_eq_true rfl), (Nat.le_of_ble_eq_true rfl)⟩) hS (fun u H locs hP hS => ?_)
  have hP : mP G al (up c (100 + 5) (.inr (0, [.int 0, .ref (gEm G), .int 0]))) H := hP
  have hcx0 : ∀ x, x ≠ 100 + 5 → (up c (100 + 5) (.inr (0, [.int 0, .ref (gEm G), .int 0]))) x = c x := fun x hx => up_n _ _ hx
  have hcs0 : (up c (100 + 5) (.inr (0, [.int 0, .ref (gEm G), .int 0]))) (100 + 5) = some (.inr (0, [.int 0, .ref (gEm G), .int 0])) := up_s _ _ _
  obtain ⟨c, hcu⟩ : ∃ z, z = up c (100 + 5) (.inr (0, [.int 0, .ref (gEm G), .int 0])) := ⟨_, rfl⟩
  rw [← hcu] at hcx0 hcs0 hP
  have e1 : c 100 = some (.inr (6, [.ref (al (100 + 1)), .ref (al (100 + 3)), .null, .null, .int 0, .int 0, .int 0, .int 0, .int 0, .int 0, .int 0, .int 0, .int 0, .int 0, .int 0])) := by rw [hcx0 100 (by omega)]; exact e1
  have l_3 : gLs G al c (100 + 1) (100 + 2) 0 (fun i => i) := (gLs_cv l_3 (hcx0 _ (by omega)) (hcx0 _ (by omega)))
  have l_6 : gLs G al c (100 + 3) (100 + 4) 0 (fun i => i) := (gLs_cv l_6 (hcx0 _ (by omega)) (hcx0 _ (by omega)))
  have hfc : ∀ i, (i < 100 ∨ 100 + 30 ≤ i) → c i = c0 i := fun i hi => (hcx0 i (by omega)).trans (hfc i hi)
  have e_8 : c (100 + 5) = some (.inr (0, [.int 0, .ref (gEm G), .int 0])) := hcs0
  have l_9 : gLs G al c (100 + 5) (100 + 6) 0 (fun i => i) := Or.inl ⟨rfl, _, e_8⟩
  refine m_putF (v := .ref (al (100 + 5))) (ty := .object "java/util/ArrayList") (C := RX5) (T := TX5) (N := 15) (ci := 6) hx hb hts uX5 tyX5 tyX5_ok nmX5 hown hE hP hS 100 rfl e1 rfl 2 (by decide) (hts _ q175) (fun _ h9 => h9) rfl hin rfl (by decide +kernel) rfl rfl (Nat.le_of_ble_eq_true rfl) dX5_init_34 (fun H locs hP hS => ?_)
  have hP : mP G al (up c 100 (.inr (6, [.ref (al (100 + 1)), .ref (al (100 + 3)), .ref (al (100 + 5)), .null, .int 0, .int 0, .int 0, .int 0, .int 0, .int 0, .int 0, .int 0, .int 0, .int 0, .int 0]))) H := hP
  have hcx0 : ∀ x, x ≠ 100 → (up c 100 (.inr (6, [.ref (al (100 + 1)), .ref (al (100 + 3)), .ref (al (100 + 5)), .null, .int 0, .int 0, .int 0, .int 0, .int 0, .int 0, .int 0, .int 0, .int 0, .int 0, .int 0]))) x = c x := fun x hx => up_n _ _ hx
  have hcs0 : (up c 100 (.inr (6, [.ref (al (100 + 1)), .ref (al (100 + 3)), .ref (al (100 + 5)), .null, .int 0, .int 0, .int 0, .int 0, .int 0, .int 0, .int 0, .int 0, .int 0, .int 0, .int 0]))) 100 = some (.inr (6, [.ref (al (100 + 1)), .ref (al (100 + 3)), .ref (al (100 + 5)), .null, .int 0, .int 0, .int 0, .int 0, .int 0, .int 0, .int 0, .int 0, .int 0, .int 0, .int 0])) := up_s _ _ _
  obtain ⟨c, hcu⟩ : ∃ z, z = up c 100 (.inr (6, [.ref (al (100 + 1)), .ref (al (100 + 3)), .ref (al (100 + 5)), .null, .int 0, .int 0, .int 0, .int 0, .int 0, .int 0, .int 0, .int 0, .int 0, .int 0, .int 0])) := ⟨_, rfl⟩
  rw [← hcu] at hcx0 hcs0 hP
  have l_3 : gLs G al c (100 + 1) (100 + 2) 0 (fun i => i) := (gLs_cv l_3 (hcx0 _ (by omega)) (hcx0 _ (by omega)))
  have l_6 : gLs G al c (100 + 3) (100 + 4) 0 (fun i => i) := (gLs_cv l_6 (hcx0 _ (by omega)) (hcx0 _ (by omega)))
  have l_9 : gLs G al c (100 + 5) (100 + 6) 0 (fun i => i) := (gLs_cv l_9 (hcx0 _ (by omega)) (hcx0 _ (by omega)))
  have hfc : ∀ i, (i < 100 ∨ 100 + 30 ≤ i) → c i = c0 i := fun i hi => (hcx0 i (by omega)).trans (hfc i hi)
  have e1 : c 100 = some (.inr (6, [.ref (al (100 + 1)), .ref (al (100 + 3)), .ref (al (100 + 5)), .null, .int 0, .int 0, .int 0, .int 0, .int 0, .int 0, .int 0, .int 0, .int 0, .int 0, .int 0])) := hcs0
  refine lv_aload_n hx hb dX5_init_37 rfl (lv_at hl 0 rfl) ?_
  refine m_new (100 + 7) (ci := 1) (fs := [.null, .null, .null]) (C := RX0) (T := TX0) (N := 3) hx hb hts uX0 tyX0 tyX0_ok hown (hts _ q176) (hts _ q177) (hts _ q16) hE hb0 hP hS rfl (fun j hj => by rcases f_lt3 hj with rfl | rfl | rfl <;> rfl) (Nat.le_of_ble_eq_true rfl) (Nat.le_of_ble_eq_true rfl) dX5_init_38 (fun n_10 H hP hS => ?_)
  have hP : mP G (va_up al (100 + 7) n_10) (up c (100 + 7) (.inr (1, [.null, .null, .null]))) H := hP
  have hax0 : ∀ x, x ≠ 100 + 7 → va_up al (100 + 7) n_10 x = al x := fun x hx => au_n _ _ hx
  have has0 : va_up al (100 + 7) n_10 (100 + 7) = n_10 := au_s _ _ _
  obtain ⟨al, hau⟩ : ∃ z, z = va_up al (100 + 7) n_10 := ⟨_, rfl⟩
  rw [← hau] at hax0 has0 hP
  have hcx0 : ∀ x, x ≠ 100 + 7 → (up c (100 + 7) (.inr (1, [.null, .null, .null]))) x = c x := fun x hx => up_n _ _ hx
  have hcs0 : (up c (100 + 7) (.inr (1, [.null, .null, .null]))) (100 + 7) = some (.inr (1, [.null, .null, .null])) := up_s _ _ _
  obtain ⟨c, hcu⟩ : ∃ z, z = up c (100 + 7) (.inr (1, [.null, .null, .null])) := ⟨_, rfl⟩
  rw [← hcu] at hcx0 hcs0 hP
  have e1 : c 100 = some (.inr (6, [.ref (al (100 + 1)), .ref (al (100 + 3)), .ref (al (100 + 5)), .null, .int 0, .int 0, .int 0, .int 0, .int 0, .int 0, .int 0, .int 0, .int 0, .int 0, .int 0])) := by rw [hcx0 100 (by omega), hax0 (100 + 1) (by omega), hax0 (100 + 3) (by omega), hax0 (100 + 5) (by omega)]; exact e1
  have l_3 : gLs G al c (100 + 1) (100 + 2) 0 (fun i => i) := (gLs_al (gLs_cv l_3 (hcx0 _ (by omega)) (hcx0 _ (by omega))) (hax0 _ (by omega)) (fun z9 hz9 => absurd hz9 (by omega)))
  have l_6 : gLs G al c (100 + 3) (100 + 4) 0 (fun i => i) := (gLs_al (gLs_cv l_6 (hcx0 _ (by omega)) (hcx0 _ (by omega))) (hax0 _ (by omega)) (fun z9 hz9 => absurd hz9 (by omega)))
  have l_9 : gLs G al c (100 + 5) (100 + 6) 0 (fun i => i) := (gLs_al (gLs_cv l_9 (hcx0 _ (by omega)) (hcx0 _ (by omega))) (hax0 _ (by omega)) (fun z9 hz9 => absurd hz9 (by omega)))
  have hfc : ∀ i, (i < 100 ∨ 100 + 30 ≤ i) → c i = c0 i := fun i hi => (hcx0 i (by omega)).trans (hfc i hi)
  have hfa : ∀ i, (i ≤ 100 ∨ 100 + 30 ≤ i) → al i = al0 i := fun i hi => (hax0 i (by omega)).trans (hfa i hi)
  have e_11 : c (100 + 7) = some (.inr (1, [.null, .null, .null])) := hcs0
  rw [← has0]
  have hl : lv_has ls 1 [(0, .ref (al 100))] := by rw [hax0 100 (by omega)]; exact hl
  rw [← hax0 100 (by omega)]
  refine lv_dup hx hb dX5_init_41 rfl ?_
  refine g_aft_vp (g_runIN (As := []) (rest := [.ref (al (100 + 7)), .ref (al 100)]) hx hb hml hown hts (kX0_init_100 l G al c e_11) (fcwIN 0 hts (hE.1.1.2.2.2.2.1 (RX5, 26, yX0_init, RX7) (by decide +kernel)) q181 q16 q0 rfl rfl rfl (by decide +kernel) ⟨(Nat.le_of_ble_eq_true rfl), (Nat.le_of_ble_eq_true rfl)⟩) hE hb0 hP hS rfl hl.1 rfl (Nat.le_of_ble_eq_true rfl) dX5_init_42 ⟨(Nat.le_of_ble_eq_true rfl), (Nat.le_of_ble_eq_true rfl)⟩) hS (fun u_12 H locs hu_12 hP hS => ?_)
  obtain ⟨al, c⟩ := u_12
  have hP : mP G al c H := hP
  obtain ⟨e_13, e_14, e_15, e_16, hcx9, hax9⟩ := hu_12
  dsimp only at e_13 e_14 e_15 e_16 hcx9 hax9
  have hcx0 := fun x (h0 : x ≠ 100 + 7) (h1 : x ≠ 100 + 8) (h2 : x ≠ 100 + 9) (h3 : x ≠ 100 + 10) => hcx9 x ⟨h0, h1, h2, h3⟩
  have hax0 := fun x (h0 : x ≠ 100 + 8) (h1 : x ≠ 100 + 9) (h2 : x ≠ 100 + 10) => hax9 x ⟨h0, h1, h2⟩
  have e1 : c 100 = some (.inr (6, [.ref (al (100 + 1)), .ref (al (100 + 3)), .ref (al (100 + 5)), .null, .int 0, .int 0, .int 0, .int 0, .int 0, .int 0, .int 0, .int 0, .int 0, .int 0, .int 0])) := by rw [hcx0 100 (by omega) (by omega) (by omega) (by omega), hax0 (100 + 1) (by omega) (by omega) (by omega), hax0 (100 + 3) (by omega) (by omega) (by omega), hax0 (100 + 5) (by omega) (by omega) (by omega)]; exact e1
  have l_3 : gLs G al c (100 + 1) (100 + 2) 0 (fun i => i) := (gLs_al (gLs_cv l_3 (hcx0 _ (by omega) (by omega) (by omega) (by omega)) (hcx0 _ (by omega) (by omega) (by omega) (by omega))) (hax0 _ (by omega) (by omega) (by omega)) (fun z9 hz9 => absurd hz9 (by omega)))
  have l_6 : gLs G al c (100 + 3) (100 + 4) 0 (fun i => i) := (gLs_al (gLs_cv l_6 (hcx0 _ (by omega) (by omega) (by omega) (by omega)) (hcx0 _ (by omega) (by omega) (by omega) (by omega))) (hax0 _ (by omega) (by omega) (by omega)) (fun z9 hz9 => absurd hz9 (by omega)))
  have l_9 : gLs G al c (100 + 5) (100 + 6) 0 (fun i => i) := (gLs_al (gLs_cv l_9 (hcx0 _ (by omega) (by omega) (by omega) (by omega)) (hcx0 _ (by omega) (by omega) (by omega) (by omega))) (hax0 _ (by omega) (by omega) (by omega)) (fun z9 hz9 => absurd hz9 (by omega)))
  have hfc : ∀ i, (i < 100 ∨ 100 + 30 ≤ i) → c i = c0 i := fun i hi => (hcx0 i (by omega) (by omega) (by omega) (by omega)).trans (hfc i hi)
  have hfa : ∀ i, (i ≤ 100 ∨ 100 + 30 ≤ i) → al i = al0 i := fun i hi => (hax0 i (by omega) (by omega) (by omega)).trans (hfa i hi)
  have hl : lv_has ls 1 [(0, .ref (al 100))] := by rw [hax0 100 (by omega) (by omega) (by omega)]; exact hl
  rw [← hax0 100 (by omega) (by omega) (by omega)]
  rw [← hax0 (100 + 7) (by omega) (by omega) (by omega)]
  refine m_putF (v := .ref (al (100 + 7))) (ty := .object "JetWaltz$Air") (C := RX5) (T := TX5) (N := 15) (ci := 6) hx hb hts uX5 tyX5 tyX5_ok nmX5 hown hE hP hS 100 rfl e1 rfl 3 (by decide) (hts _ q178) (fun _ h9 => h9) rfl hin rfl (by decide +kernel) rfl rfl (Nat.le_of_ble_eq_true rfl) dX5_init_45 (fun H locs hP hS => ?_)
  have hP : mP G al (up c 100 (.inr (6, [.ref (al (100 + 1)), .ref (al (100 + 3)), .ref (al (100 + 5)), .ref (al (100 + 7)), .int 0, .int 0, .int 0, .int 0, .int 0, .int 0, .int 0, .int 0, .int 0, .int 0, .int 0]))) H := hP
  have hcx0 : ∀ x, x ≠ 100 → (up c 100 (.inr (6, [.ref (al (100 + 1)), .ref (al (100 + 3)), .ref (al (100 + 5)), .ref (al (100 + 7)), .int 0, .int 0, .int 0, .int 0, .int 0, .int 0, .int 0, .int 0, .int 0, .int 0, .int 0]))) x = c x := fun x hx => up_n _ _ hx
  have hcs0 : (up c 100 (.inr (6, [.ref (al (100 + 1)), .ref (al (100 + 3)), .ref (al (100 + 5)), .ref (al (100 + 7)), .int 0, .int 0, .int 0, .int 0, .int 0, .int 0, .int 0, .int 0, .int 0, .int 0, .int 0]))) 100 = some (.inr (6, [.ref (al (100 + 1)), .ref (al (100 + 3)), .ref (al (100 + 5)), .ref (al (100 + 7)), .int 0, .int 0, .int 0, .int 0, .int 0, .int 0, .int 0, .int 0, .int 0, .int 0, .int 0])) := up_s _ _ _
  obtain ⟨c, hcu⟩ : ∃ z, z = up c 100 (.inr (6, [.ref (al (100 + 1)), .ref (al (100 + 3)), .ref (al (100 + 5)), .ref (al (100 + 7)), .int 0, .int 0, .int 0, .int 0, .int 0, .int 0, .int 0, .int 0, .int 0, .int 0, .int 0])) := ⟨_, rfl⟩
  rw [← hcu] at hcx0 hcs0 hP
  have e_13 : c (100 + 7) = some (.inr (1, [.ref (al (100 + 8)), .ref (al (100 + 9)), .ref (al (100 + 10))])) := by rw [hcx0 (100 + 7) (by omega)]; exact e_13
  have e_14 : c (100 + 8) = some (.inl (gI G, 9, .inl (fun _ => 0))) := by rw [hcx0 (100 + 8) (by omega)]; exact e_14
  have e_15 : c (100 + 9) = some (.inl (gI G, 9, .inl (fun _ => 0))) := by rw [hcx0 (100 + 9) (by omega)]; exact e_15
  have e_16 : c (100 + 10) = some (.inl (gI G, 9, .inl (fun _ => 0))) := by rw [hcx0 (100 + 10) (by omega)]; exact e_16
  have l_3 : gLs G al c (100 + 1) (100 + 2) 0 (fun i => i) := (gLs_cv l_3 (hcx0 _ (by omega)) (hcx0 _ (by omega)))
  have l_6 : gLs G al c (100 + 3) (100 + 4) 0 (fun i => i) := (gLs_cv l_6 (hcx0 _ (by omega)) (hcx0 _ (by omega)))
  have l_9 : gLs G al c (100 + 5) (100 + 6) 0 (fun i => i) := (gLs_cv l_9 (hcx0 _ (by omega)) (hcx0 _ (by omega)))
  have hfc : ∀ i, (i < 100 ∨ 100 + 30 ≤ i) → c i = c0 i := fun i hi => (hcx0 i (by omega)).trans (hfc i hi)
  have e1 : c 100 = some (.inr (6, [.ref (al (100 + 1)), .ref (al (100 + 3)), .ref (al (100 + 5)), .ref (al (100 + 7)), .int 0, .int 0, .int 0, .int 0, .int 0, .int 0, .int 0, .int 0, .int 0, .int 0, .int 0])) := hcs0
  refine lv_aload_n hx hb dX5_init_48 rfl (lv_at hl 0 rfl) ?_
  refine lv_sipush (v := 3000) hx hb dX5_init_49 (by decide) ?_
  refine m_put (v := .int 3000) (ty := .int) (C := RX5) (T := TX5) (N := 15) (ci := 6) hx hb hts uX5 tyX5 tyX5_ok nmX5 hown hE hP hS 100 rfl e1 rfl 5 (by decide) (hts _ q179) (fun _ h9 => h9) rfl (by decide +kernel) rfl rfl (Nat.le_of_ble_eq_true rfl) dX5_init_52 (fun H locs hP hS => ?_)
  have hP : mP G al (up c 100 (.inr (6, [.ref (al (100 + 1)), .ref (al (100 + 3)), .ref (al (100 + 5)), .ref (al (100 + 7)), .int 0, .int 3000, .int 0, .int 0, .int 0, .int 0, .int 0, .int 0, .int 0, .int 0, .int 0]))) H := hP
  have hcx0 : ∀ x, x ≠ 100 → (up c 100 (.inr (6, [.ref (al (100 + 1)), .ref (al (100 + 3)), .ref (al (100 + 5)), .ref (al (100 + 7)), .int 0, .int 3000, .int 0, .int 0, .int 0, .int 0, .int 0, .int 0, .int 0, .int 0, .int 0]))) x = c x := fun x hx => up_n _ _ hx
  have hcs0 : (up c 100 (.inr (6, [.ref (al (100 + 1)), .ref (al (100 + 3)), .ref (al (100 + 5)), .ref (al (100 + 7)), .int 0, .int 3000, .int 0, .int 0, .int 0, .int 0, .int 0, .int 0, .int 0, .int 0, .int 0]))) 100 = some (.inr (6, [.ref (al (100 + 1)), .ref (al (100 + 3)), .ref (al (100 + 5)), .ref (al (100 + 7)), .int 0, .int 3000, .int 0, .int 0, .int 0, .int 0, .int 0, .int 0, .int 0, .int 0, .int 0])) := up_s _ _ _
  obtain ⟨c, hcu⟩ : ∃ z, z = up c 100 (.inr (6, [.ref (al (100 + 1)), .ref (al (100 + 3)), .ref (al (100 + 5)), .ref (al (100 + 7)), .int 0, .int 3000, .int 0, .int 0, .int 0, .int 0, .int 0, .int 0, .int 0, .int 0, .int 0])) := ⟨_, rfl⟩
  rw [← hcu] at hcx0 hcs0 hP
  have e_13 : c (100 + 7) = some (.inr (1, [.ref (al (100 + 8)), .ref (al (100 + 9)), .ref (al (100 + 10))])) := by rw [hcx0 (100 + 7) (by omega)]; exact e_13
  have e_14 : c (100 + 8) = some (.inl (gI G, 9, .inl (fun _ => 0))) := by rw [hcx0 (100 + 8) (by omega)]; exact e_14
  have e_15 : c (100 + 9) = some (.inl (gI G, 9, .inl (fun _ => 0))) := by rw [hcx0 (100 + 9) (by omega)]; exact e_15
  have e_16 : c (100 + 10) = some (.inl (gI G, 9, .inl (fun _ => 0))) := by rw [hcx0 (100 + 10) (by omega)]; exact e_16
  have l_3 : gLs G al c (100 + 1) (100 + 2) 0 (fun i => i) := (gLs_cv l_3 (hcx0 _ (by omega)) (hcx0 _ (by omega)))
  have l_6 : gLs G al c (100 + 3) (100 + 4) 0 (fun i => i) := (gLs_cv l_6 (hcx0 _ (by omega)) (hcx0 _ (by omega)))
  have l_9 : gLs G al c (100 + 5) (100 + 6) 0 (fun i => i) := (gLs_cv l_9 (hcx0 _ (by omega)) (hcx0 _ (by omega)))
  have hfc : ∀ i, (i < 100 ∨ 100 + 30 ≤ i) → c i = c0 i := fun i hi => (hcx0 i (by omega)).trans (hfc i hi)
  have e1 : c 100 = some (.inr (6, [.ref (al (100 + 1)), .ref (al (100 + 3)), .ref (al (100 + 5)), .ref (al (100 + 7)), .int 0, .int 3000, .int 0, .int 0, .int 0, .int 0, .int 0, .int 0, .int 0, .int 0, .int 0])) := hcs0
  refine W.widen (k := 7) (n := 39) (Nat.le_of_ble_eq_true rfl) (Nat.le_of_ble_eq_true rfl) ?_
  exact W.vret hx hb hr (fun tz htz hW => ⟨⟨(al, c), rfl, ⟨⟨e1, gLs_al l_3 rfl (fun i hi => absurd hi (by omega)), gLs_al l_6 rfl (fun i hi => absurd hi (by omega)), gLs_al l_9 rfl (fun i hi => absurd hi (by omega)), e_13, (fun a ha => match a, ha with | 0, _ => e_14 | 1, _ => e_15 | 2, _ => e_16 | n + 3, h9 => absurd h9 (by omega)), fun p hp => absurd hp (by omega), fun j hj => absurd hj (by omega)⟩, fun i hi => (hfc i hi).trans (congrFun hc0 i), fun i hi => (hfa i hi).trans (congrFun hal0 i)⟩, g_end htz hP⟩, hS.F htz⟩) hS.2.2 dX5_init_55
set_option maxHeartbeats 4000000 in
set_option maxRecDepth 100000 in
theorem kX0_init_200 (l : Launch) (G : gT) (al : Nat → Nat) (c : mC) (e1 : c (200 + 7) = some (.inr (1, [.null, .null, .null]))) : Met l yX0_init (fW yX0_init cX0_init 1 none) { frames := 1, cells := 3, slots := 27, locals := 12 } (gPre G al (c) [.ref (al (200 + 7))]) (gQvp (S := (Nat → Nat) × mC) G (fun u => u.2 (200 + 7) = some (.inr (1, [.ref (u.1 (200 + 8)), .ref (u.1 (200 + 9)), .ref (u.1 (200 + 10))])) ∧ u.2 (200 + 8) = some (.inl (gI G, 9, .inl (fun _ => 0))) ∧ u.2 (200 + 9) = some (.inl (gI G, 9, .inl (fun _ => 0))) ∧ u.2 (200 + 10) = some (.inl (gI G, 9, .inl (fun _ => 0))) ∧ (∀ i, (i ≠ 200 + 7 ∧ i ≠ 200 + 8 ∧ i ≠ 200 + 9 ∧ i ≠ 200 + 10) → u.2 i = c i) ∧ ∀ i, (i ≠ 200 + 8 ∧ i ≠ 200 + 9 ∧ i ≠ 200 + 10) → u.1 i = al i) (fun u => u.1) (fun u => u.2)) 3 27 (gA G) := by
  refine Met.ofW (cc := cX0_init) (maxL := 1) (ret := none) (by decide) rfl ?_
  intro pz ez s m args below meth c₀ s₁ Bo hml hv
  obtain ⟨rfl, hb0, hP, hE⟩ := hv
  have hx := Bo.exec
  have hb := Bo.bytes
  have hr := Bo.returns
  have hts0 := atoms_spec (ws := (fW yX0_init cX0_init 1 none)) Bo.pre
  have hts : ∀ w ∈ fA, w.before _ s = true := fun w h => hts0 w (List.mem_cons_of_mem _ h)
  have hown : s.vm.findClass RX0 = some m.cls := findClass_of_methodNamed Bo.named
  have hlocks := Bo.notSynchronized
  have hin : meth.name = "<init>" := (name_of_methodNamed Bo.named Bo.method).1
  have hl := lv_entry ([.ref (al (200 + 7))]) (n := 1) (Nat.le_of_ble_eq_true rfl)
  rw [lg_entry_eq]
  generalize (lg_sl ([.ref (al (200 + 7))]) ++ List.replicate (1 - (lg_sl ([.ref (al (200 + 7))])).length) Slot.unset).toArray = ls at hl ⊢
  have hl : lv_has ls 1 [(0, .ref (al (200 + 7)))] := hl
  obtain ⟨al0, hal0⟩ : ∃ z, z = al := ⟨_, rfl⟩
  obtain ⟨c0, hc0⟩ : ∃ z, z = c := ⟨_, rfl⟩
  have hfc : ∀ i, (i ≠ 200 + 7 ∧ i ≠ 200 + 8 ∧ i ≠ 200 + 9 ∧ i ≠ 200 + 10) → c i = c0 i := fun i _ => by rw [hc0]
  have hfa : ∀ i, (i ≠ 200 + 8 ∧ i ≠ 200 + 9 ∧ i ≠ 200 + 10) → al i = al0 i := fun i _ => by rw [hal0]
  generalize (#[.ref (al (200 + 7))] : Array Value) = ar9 at hts ⊢
  refine g_start hP (fun H hP hS => ?_)
  refine lv_aload_n hx hb dX0_init_0 rfl (lv_at hl 0 rfl) ?_
  refine W.objInit hx hb hown (hts _ q1) (hts _ q2) (hts _ q3) rfl (by rw [hml]; exact hl.1) rfl dX0_init_1 (Nat.le_of_ble_eq_true rfl) (Nat.le_of_ble_eq_true rfl) ?_
  refine W.eq (g2 := F0 m 4 ls []) rfl ?_
  refine lv_aload_n hx hb dX0_init_4 rfl (lv_at hl 0 rfl) ?_
  refine lv_bipush (v := 9) hx hb dX0_init_5 (by decide) ?_
  refine m_newI (200 + 8) (N := 9) hx hb (hts _ q4) hE hb0 hP hS (by decide) (by decide) (Nat.le_of_ble_eq_true rfl) (Nat.le_of_ble_eq_true rfl) (Nat.le_of_ble_eq_true rfl) dX0_init_7 (fun n_1 H hP hS => ?_)
  have hP : mP G (va_up al (200 + 8) n_1) (up c (200 + 8) (.inl (gI G, 9, .inl (fun _ => 0)))) H := hP
  have hax0 : ∀ x, x ≠ 200 + 8 → va_up al (200 + 8) n_1 x = al x := fun x hx => au_n _ _ hx
  have has0 : va_up al (200 + 8) n_1 (200 + 8) = n_1 := au_s _ _ _
  obtain ⟨al, hau⟩ : ∃ z, z = va_up al (200 + 8) n_1 := ⟨_, rfl⟩
  rw [← hau] at hax0 has0 hP
  have hcx0 : ∀ x, x ≠ 200 + 8 → (up c (200 + 8) (.inl (gI G, 9, .inl (fun _ => 0)))) x = c x := fun x hx => up_n _ _ hx
  have hcs0 : (up c (200 + 8) (.inl (gI G, 9, .inl (fun _ => 0)))) (200 + 8) = some (.inl (gI G, 9, .inl (fun _ => 0))) := up_s _ _ _
  obtain ⟨c, hcu⟩ : ∃ z, z = up c (200 + 8) (.inl (gI G, 9, .inl (fun _ => 0))) := ⟨_, rfl⟩
  rw [← hcu] at hcx0 hcs0 hP
  have e1 : c (200 + 7) = some (.inr (1, [.null, .null, .null])) := by rw [hcx0 (200 + 7) (by omega)]; exact e1
  have hfc : ∀ i, (i ≠ 200 + 7 ∧ i ≠ 200 + 8 ∧ i ≠ 200 + 9 ∧ i ≠ 200 + 10) → c i = c0 i := fun i hi => (hcx0 i (by omega)).trans (hfc i hi)
  have hfa : ∀ i, (i ≠ 200 + 8 ∧ i ≠ 200 + 9 ∧ i ≠ 200 + 10) → al i = al0 i := fun i hi => (hax0 i (by omega)).trans (hfa i hi)
  have e_2 : c (200 + 8) = some (.inl (gI G, 9, .inl (fun _ => 0))) := hcs0
  rw [← has0]
  have hl : lv_has ls 1 [(0, .ref (al (200 + 7)))] := by rw [hax0 (200 + 7) (by omega)]; exact hl
  rw [← hax0 (200 + 7) (by omega)]
  refine m_putF (v := .ref (al (200 + 8))) (ty := .array .int) (C := RX0) (T := TX0) (N := 3) (ci := 1) hx hb hts uX0 tyX0 tyX0_ok nmX0 hown hE hP hS (200 + 7) rfl e1 rfl 0 (by decide) (hts _ q5) (fun _ h9 => h9) rfl hin rfl (by decide +kernel) rfl rfl (Nat.le_of_ble_eq_true rfl) dX0_init_9 (fun H locs hP hS => ?_)
  have hP : mP G al (up c (200 + 7) (.inr (1, [.ref (al (200 + 8)), .null, .null]))) H := hP
  have hcx0 : ∀ x, x ≠ 200 + 7 → (up c (200 + 7) (.inr (1, [.ref (al (200 + 8)), .null, .null]))) x = c x := fun x hx => up_n _ _ hx
  have hcs0 : (up c (200 + 7) (.inr (1, [.ref (al (200 + 8)), .null, .null]))) (200 + 7) = some (.inr (1, [.ref (al (200 + 8)), .null, .null])) := up_s _ _ _
  obtain ⟨c, hcu⟩ : ∃ z, z = up c (200 + 7) (.inr (1, [.ref (al (200 + 8)), .null, .null])) := ⟨_, rfl⟩
  rw [← hcu] at hcx0 hcs0 hP
  have e_2 : c (200 + 8) = some (.inl (gI G, 9, .inl (fun _ => 0))) := by rw [hcx0 (200 + 8) (by omega)]; exact e_2
  have hfc : ∀ i, (i ≠ 200 + 7 ∧ i ≠ 200 + 8 ∧ i ≠ 200 + 9 ∧ i ≠ 200 + 10) → c i = c0 i := fun i hi => (hcx0 i (by omega)).trans (hfc i hi)
  have e1 : c (200 + 7) = some (.inr (1, [.ref (al (200 + 8)), .null, .null])) := hcs0
  refine lv_aload_n hx hb dX0_init_12 rfl (lv_at hl 0 rfl) ?_
  refine lv_bipush (v := 9) hx hb dX0_init_13 (by decide) ?_
  refine m_newI (200 + 9) (N := 9) hx hb (hts _ q4) hE hb0 hP hS (by decide) (by decide) (Nat.le_of_ble_eq_true rfl) (Nat.le_of_ble_eq_true rfl) (Nat.le_of_ble_eq_true rfl) dX0_init_15 (fun n_3 H hP hS => ?_)
  have hP : mP G (va_up al (200 + 9) n_3) (up c (200 + 9) (.inl (gI G, 9, .inl (fun _ => 0)))) H := hP
  have hax0 : ∀ x, x ≠ 200 + 9 → va_up al (200 + 9) n_3 x = al x := fun x hx => au_n _ _ hx
  have has0 : va_up al (200 + 9) n_3 (200 + 9) = n_3 := au_s _ _ _
  obtain ⟨al, hau⟩ : ∃ z, z = va_up al (200 + 9) n_3 := ⟨_, rfl⟩
  rw [← hau] at hax0 has0 hP
  have hcx0 : ∀ x, x ≠ 200 + 9 → (up c (200 + 9) (.inl (gI G, 9, .inl (fun _ => 0)))) x = c x := fun x hx => up_n _ _ hx
  have hcs0 : (up c (200 + 9) (.inl (gI G, 9, .inl (fun _ => 0)))) (200 + 9) = some (.inl (gI G, 9, .inl (fun _ => 0))) := up_s _ _ _
  obtain ⟨c, hcu⟩ : ∃ z, z = up c (200 + 9) (.inl (gI G, 9, .inl (fun _ => 0))) := ⟨_, rfl⟩
  rw [← hcu] at hcx0 hcs0 hP
  have e1 : c (200 + 7) = some (.inr (1, [.ref (al (200 + 8)), .null, .null])) := by rw [hcx0 (200 + 7) (by omega), hax0 (200 + 8) (by omega)]; exact e1
  have e_2 : c (200 + 8) = some (.inl (gI G, 9, .inl (fun _ => 0))) := by rw [hcx0 (200 + 8) (by omega)]; exact e_2
  have hfc : ∀ i, (i ≠ 200 + 7 ∧ i ≠ 200 + 8 ∧ i ≠ 200 + 9 ∧ i ≠ 200 + 10) → c i = c0 i := fun i hi => (hcx0 i (by omega)).trans (hfc i hi)
  have hfa : ∀ i, (i ≠ 200 + 8 ∧ i ≠ 200 + 9 ∧ i ≠ 200 + 10) → al i = al0 i := fun i hi => (hax0 i (by omega)).trans (hfa i hi)
  have e_4 : c (200 + 9) = some (.inl (gI G, 9, .inl (fun _ => 0))) := hcs0
  rw [← has0]
  have hl : lv_has ls 1 [(0, .ref (al (200 + 7)))] := by rw [hax0 (200 + 7) (by omega)]; exact hl
  rw [← hax0 (200 + 7) (by omega)]
  refine m_putF (v := .ref (al (200 + 9))) (ty := .array .int) (C := RX0) (T := TX0) (N := 3) (ci := 1) hx hb hts uX0 tyX0 tyX0_ok nmX0 hown hE hP hS (200 + 7) rfl e1 rfl 1 (by decide) (hts _ q6) (fun _ h9 => h9) rfl hin rfl (by decide +kernel) rfl rfl (Nat.le_of_ble_eq_true rfl) dX0_init_17 (fun H locs hP hS => ?_)
  have hP : mP G al (up c (200 + 7) (.inr (1, [.ref (al (200 + 8)), .ref (al (200 + 9)), .null]))) H := hP
  have hcx0 : ∀ x, x ≠ 200 + 7 → (up c (200 + 7) (.inr (1, [.ref (al (200 + 8)), .ref (al (200 + 9)), .null]))) x = c x := fun x hx => up_n _ _ hx
  have hcs0 : (up c (200 + 7) (.inr (1, [.ref (al (200 + 8)), .ref (al (200 + 9)), .null]))) (200 + 7) = some (.inr (1, [.ref (al (200 + 8)), .ref (al (200 + 9)), .null])) := up_s _ _ _
  obtain ⟨c, hcu⟩ : ∃ z, z = up c (200 + 7) (.inr (1, [.ref (al (200 + 8)), .ref (al (200 + 9)), .null])) := ⟨_, rfl⟩
  rw [← hcu] at hcx0 hcs0 hP
  have e_2 : c (200 + 8) = some (.inl (gI G, 9, .inl (fun _ => 0))) := by rw [hcx0 (200 + 8) (by omega)]; exact e_2
  have e_4 : c (200 + 9) = some (.inl (gI G, 9, .inl (fun _ => 0))) := by rw [hcx0 (200 + 9) (by omega)]; exact e_4
  have hfc : ∀ i, (i ≠ 200 + 7 ∧ i ≠ 200 + 8 ∧ i ≠ 200 + 9 ∧ i ≠ 200 + 10) → c i = c0 i := fun i hi => (hcx0 i (by omega)).trans (hfc i hi)
  have e1 : c (200 + 7) = some (.inr (1, [.ref (al (200 + 8)), .ref (al (200 + 9)), .null])) := hcs0
  refine lv_aload_n hx hb dX0_init_20 rfl (lv_at hl 0 rfl) ?_
  refine lv_bipush (v := 9) hx hb dX0_init_21 (by decide) ?_
  refine m_newI (200 + 10) (N := 9) hx hb (hts _ q4) hE hb0 hP hS (by decide) (by decide) (Nat.le_of_ble_eq_true rfl) (Nat.le_of_ble_eq_true rfl) (Nat.le_of_ble_eq_true rfl) dX0_init_23 (fun n_5 H hP hS => ?_)
  have hP : mP G (va_up al (200 + 10) n_5) (up c (200 + 10) (.inl (gI G, 9, .inl (fun _ => 0)))) H := hP
  have hax0 : ∀ x, x ≠ 200 + 10 → va_up al (200 + 10) n_5 x = al x := fun x hx => au_n _ _ hx
  have has0 : va_up al (200 + 10) n_5 (200 + 10) = n_5 := au_s _ _ _
  obtain ⟨al, hau⟩ : ∃ z, z = va_up al (200 + 10) n_5 := ⟨_, rfl⟩
  rw [← hau] at hax0 has0 hP
  have hcx0 : ∀ x, x ≠ 200 + 10 → (up c (200 + 10) (.inl (gI G, 9, .inl (fun _ => 0)))) x = c x := fun x hx => up_n _ _ hx
  have hcs0 : (up c (200 + 10) (.inl (gI G, 9, .inl (fun _ => 0)))) (200 + 10) = some (.inl (gI G, 9, .inl (fun _ => 0))) := up_s _ _ _
  obtain ⟨c, hcu⟩ : ∃ z, z = up c (200 + 10) (.inl (gI G, 9, .inl (fun _ => 0))) := ⟨_, rfl⟩
  rw [← hcu] at hcx0 hcs0 hP
  have e1 : c (200 + 7) = some (.inr (1, [.ref (al (200 + 8)), .ref (al (200 + 9)), .null])) := by rw [hcx0 (200 + 7) (by omega), hax0 (200 + 8) (by omega), hax0 (200 + 9) (by omega)]; exact e1
  have e_2 : c (200 + 8) = some (.inl (gI G, 9, .inl (fun _ => 0))) := by rw [hcx0 (200 + 8) (by omega)]; exact e_2
  have e_4 : c (200 + 9) = some (.inl (gI G, 9, .inl (fun _ => 0))) := by rw [hcx0 (200 + 9) (by omega)]; exact e_4
  have hfc : ∀ i, (i ≠ 200 + 7 ∧ i ≠ 200 + 8 ∧ i ≠ 200 + 9 ∧ i ≠ 200 + 10) → c i = c0 i := fun i hi => (hcx0 i (by omega)).trans (hfc i hi)
  have hfa : ∀ i, (i ≠ 200 + 8 ∧ i ≠ 200 + 9 ∧ i ≠ 200 + 10) → al i = al0 i := fun i hi => (hax0 i (by omega)).trans (hfa i hi)
  have e_6 : c (200 + 10) = some (.inl (gI G, 9, .inl (fun _ => 0))) := hcs0
  rw [← has0]
  have hl : lv_has ls 1 [(0, .ref (al (200 + 7)))] := by rw [hax0 (200 + 7) (by omega)]; exact hl
  rw [← hax0 (200 + 7) (by omega)]
  refine m_putF (v := .ref (al (200 + 10))) (ty := .array .int) (C := RX0) (T := TX0) (N := 3) (ci := 1) hx hb hts uX0 tyX0 tyX0_ok nmX0 hown hE hP hS (200 + 7) rfl e1 rfl 2 (by decide) (hts _ q7) (fun _ h9 => h9) rfl hin rfl (by decide +kernel) rfl rfl (Nat.le_of_ble_eq_true rfl) dX0_init_25 (fun H locs hP hS => ?_)
  have hP : mP G al (up c (200 + 7) (.inr (1, [.ref (al (200 + 8)), .ref (al (200 + 9)), .ref (al (200 + 10))]))) H := hP
  have hcx0 : ∀ x, x ≠ 200 + 7 → (up c (200 + 7) (.inr (1, [.ref (al (200 + 8)), .ref (al (200 + 9)), .ref (al (200 + 10))]))) x = c x := fun x hx => up_n _ _ hx
  have hcs0 : (up c (200 + 7) (.inr (1, [.ref (al (200 + 8)), .ref (al (200 + 9)), .ref (al (200 + 10))]))) (200 + 7) = some (.inr (1, [.ref (al (200 + 8)), .ref (al (200 + 9)), .ref (al (200 + 10))])) := up_s _ _ _
  obtain ⟨c, hcu⟩ : ∃ z, z = up c (200 + 7) (.inr (1, [.ref (al (200 + 8)), .ref (al (200 + 9)), .ref (al (200 + 10))])) := ⟨_, rfl⟩
  rw [← hcu] at hcx0 hcs0 hP
  have e_2 : c (200 + 8) = some (.inl (gI G, 9, .inl (fun _ => 0))) := by rw [hcx0 (200 + 8) (by omega)]; exact e_2
  have e_4 : c (200 + 9) = some (.inl (gI G, 9, .inl (fun _ => 0))) := by rw [hcx0 (200 + 9) (by omega)]; exact e_4
  have e_6 : c (200 + 10) = some (.inl (gI G, 9, .inl (fun _ => 0))) := by rw [hcx0 (200 + 10) (by omega)]; exact e_6
  have hfc : ∀ i, (i ≠ 200 + 7 ∧ i ≠ 200 + 8 ∧ i ≠ 200 + 9 ∧ i ≠ 200 + 10) → c i = c0 i := fun i hi => (hcx0 i (by omega)).trans (hfc i hi)
  have e1 : c (200 + 7) = some (.inr (1, [.ref (al (200 + 8)), .ref (al (200 + 9)), .ref (al (200 + 10))])) := hcs0
  refine W.widen (k := 3) (n := 27) (Nat.le_of_ble_eq_true rfl) (Nat.le_of_ble_eq_true rfl) ?_
  exact W.vret hx hb hr (fun tz htz hW => ⟨⟨(al, c), rfl, ⟨e1, e_2, e_4, e_6, fun i hi => (hfc i hi).trans (congrFun hc0 i), fun i hi => (hfa i hi).trans (congrFun hal0 i)⟩, g_end htz hP⟩, hS.F htz⟩) hS.2.2 dX0_init_28
set_option maxHeartbeats 4000000 in
set_option maxRecDepth 100000 in
theorem kX5_init_200 (l : Launch) (G : gT) (al : Nat → Nat) (c : mC) (k : gC) (e1 : c 200 = some (.inr (6, [.null, .null, .null, .null, .int 0, .int 0, .int 0, .int 0, .int 0, .int 0, .int 0, .int 0, .int 0, .int 0, .int 0]))) : Met l yX5_init (fW yX5_init cX5_init 1 none) { frames := 4, cells := 7, slots := 39, locals := 72 } (gPre G al (c) [.ref (al 200)]) (gQvp (S := (Nat → Nat) × mC) G (fun u => gUB G u.1 k 200 0 0 u.2 ∧ (∀ i, (i < 200 ∨ 200 + 30 ≤ i) → u.2 i = c i) ∧ ∀ i, (i ≤ 200 ∨ 200 + 30 ≤ i) → u.1 i = al i) (fun u => u.1) (fun u => u.2)) 7 39 (gA G) := by
  refine Met.ofW (cc := cX5_init) (maxL := 1) (ret := none) (by decide) rfl ?_
  intro pz ez s m args below meth c₀ s₁ Bo hml hv
  obtain ⟨rfl, hb0, hP, hE⟩ := hv
  have hx := Bo.exec
  have hb := Bo.bytes
  have hr := Bo.returns
  have hts0 := atoms_spec (ws := (fW yX5_init cX5_init 1 none)) Bo.pre
  have hts : ∀ w ∈ fA, w.before _ s = true := fun w h => hts0 w (List.mem_cons_of_mem _ h)
  have hown : s.vm.findClass RX5 = some m.cls := findClass_of_methodNamed Bo.named
  have hlocks := Bo.notSynchronized
  have hin : meth.name = "<init>" := (name_of_methodNamed Bo.named Bo.method).1
  have hl := lv_entry ([.ref (al 200)]) (n := 1) (Nat.le_of_ble_eq_true rfl)
  rw [lg_entry_eq]
  generalize (lg_sl ([.ref (al 200)]) ++ List.replicate (1 - (lg_sl ([.ref (al 200)])).length) Slot.unset).toArray = ls at hl ⊢
  have hl : lv_has ls 1 [(0, .ref (al 200))] := hl
  obtain ⟨al0, hal0⟩ : ∃ z, z = al := ⟨_, rfl⟩
  obtain ⟨c0, hc0⟩ : ∃ z, z = c := ⟨_, rfl⟩
  have hfc : ∀ i, (i < 200 ∨ 200 + 30 ≤ i) → c i = c0 i := fun i _ => by rw [hc0]
  have hfa : ∀ i, (i ≤ 200 ∨ 200 + 30 ≤ i) → al i = al0 i := fun i _ => by rw [hal0]
  generalize (#[.ref (al 200)] : Array Value) = ar9 at hts ⊢
  refine g_start hP (fun H hP hS => ?_)
  refine lv_aload_n hx hb dX5_init_0 rfl (lv_at hl 0 rfl) ?_
  refine W.objInit hx hb hown (hts _ q171) (hts _ q2) (hts _ q3) rfl (by rw [hml]; exact hl.1) rfl dX5_init_1 (Nat.le_of_ble_eq_true rfl) (Nat.le_of_ble_eq_true rfl) ?_
  refine W.eq (g2 := F0 m 4 ls []) rfl ?_
  refine lv_aload_n hx hb dX5_init_4 rfl (lv_at hl 0 rfl) ?_
  refine m_new (200 + 1) (ci := 0) (fs := [.int 0, .null, .int 0]) (C := RJx4a65c) (T := TJx4a65c) (N := 3) hx hb hts uJx4a65c tyJx4a65c tyJx4a65c_ok hown (hts _ q172) (hts _ q78) (hts _ q50) hE hb0 hP hS rfl (fun j hj => by rcases f_lt3 hj with rfl | rfl | rfl <;> rfl) (Nat.le_of_ble_eq_true rfl) (Nat.le_of_ble_eq_true rfl) dX5_init_5 (fun n_1 H hP hS => ?_)
  have hP : mP G (va_up al (200 + 1) n_1) (up c (200 + 1) (.inr (0, [.int 0, .null, .int 0]))) H := hP
  have hax0 : ∀ x, x ≠ 200 + 1 → va_up al (200 + 1) n_1 x = al x := fun x hx => au_n _ _ hx
  have has0 : va_up al (200 + 1) n_1 (200 + 1) = n_1 := au_s _ _ _
  obtain ⟨al, hau⟩ : ∃ z, z = va_up al (200 + 1) n_1 := ⟨_, rfl⟩
  rw [← hau] at hax0 has0 hP
  have hcx0 : ∀ x, x ≠ 200 + 1 → (up c (200 + 1) (.inr (0, [.int 0, .null, .int 0]))) x = c x := fun x hx => up_n _ _ hx
  have hcs0 : (up c (200 + 1) (.inr (0, [.int 0, .null, .int 0]))) (200 + 1) = some (.inr (0, [.int 0, .null, .int 0])) := up_s _ _ _
  obtain ⟨c, hcu⟩ : ∃ z, z = up c (200 + 1) (.inr (0, [.int 0, .null, .int 0])) := ⟨_, rfl⟩
  rw [← hcu] at hcx0 hcs0 hP
  have e1 : c 200 = some (.inr (6, [.null, .null, .null, .null, .int 0, .int 0, .int 0, .int 0, .int 0, .int 0, .int 0, .int 0, .int 0, .int 0, .int 0])) := by rw [hcx0 200 (by omega)]; exact e1
  have hfc : ∀ i, (i < 200 ∨ 200 + 30 ≤ i) → c i = c0 i := fun i hi => (hcx0 i (by omega)).trans (hfc i hi)
  have hfa : ∀ i, (i ≤ 200 ∨ 200 + 30 ≤ i) → al i = al0 i := fun i hi => (hax0 i (by omega)).trans (hfa i hi)
  have e_2 : c (200 + 1) = some (.inr (0, [.int 0, .null, .int 0])) := hcs0
  rw [← has0]
  have hl : lv_has ls 1 [(0, .ref (al 200))] := by rw [hax0 200 (by omega)]; exact hl
  rw [← hax0 200 (by omega)]
  refine lv_dup hx hb dX5_init_8 rfl ?_
  refine g_aft_v (g_runI (As := []) (rest := [.ref (al (200 + 1)), .ref (al 200)]) hx hb hml hown hts (kJx4a65c_init_da8c8 l G al c (200 + 1) e_2) (fcwI 0 hts q180 q81 q50 q70 rfl rfl rfl (by decide +kernel) ⟨(Nat.le_of_ble_eq_true rfl), (Nat.le_of_ble_eq_true rfl)⟩) hE hb0 hP hS rfl hl.1 rfl (Nat.le_of_ble_eq_true rfl) dX5_init_9 ⟨(Nat.le_of_ble_eq_true rfl), (Nat.le_of_ble_eq_true rfl)⟩) hS (fun u H locs hP hS => ?_)
  have hP : mP G al (up c (200 + 1) (.inr (0, [.int 0, .ref (gEm G), .int 0]))) H := hP
  have hcx0 : ∀ x, x ≠ 200 + 1 → (up c (200 + 1) (.inr (0, [.int 0, .ref (gEm G), .int 0]))) x = c x := fun x hx => up_n _ _ hx
  have hcs0 : (up c (200 + 1) (.inr (0, [.int 0, .ref (gEm G), .int 0]))) (200 + 1) = some (.inr (0, [.int 0, .ref (gEm G), .int 0])) := up_s _ _ _
  obtain ⟨c, hcu⟩ : ∃ z, z = up c (200 + 1) (.inr (0, [.int 0, .ref (gEm G), .int 0])) := ⟨_, rfl⟩
  rw [← hcu] at hcx0 hcs0 hP
  have e1 : c 200 = some (.inr (6, [.null, .null, .null, .null, .int 0, .int 0, .int 0, .int 0, .int 0, .int 0, .int 0, .int 0, .int 0, .int 0, .int 0])) := by rw [hcx0 200 (by omega)]; exact e1
  have hfc : ∀ i, (i < 200 ∨ 200 + 30 ≤ i) → c i = c0 i := fun i hi => (hcx0 i (by omega)).trans (hfc i hi)
  have e_2 : c (200 + 1) = some (.inr (0, [.int 0, .ref (gEm G), .int 0])) := hcs0
  have l_3 : gLs G al c (200 + 1) (200 + 2) 0 (fun i => i) := Or.inl ⟨rfl, _, e_2⟩
  refine m_putF (v := .ref (al (200 + 1))) (ty := .object "java/util/ArrayList") (C := RX5) (T := TX5) (N := 15) (ci := 6) hx hb hts uX5 tyX5 tyX5_ok nmX5 hown hE hP hS 200 rfl e1 rfl 0 (by decide) (hts _ q173) (fun _ h9 => h9) rfl hin rfl (by decide +kernel) rfl rfl (Nat.le_of_ble_eq_true rfl) dX5_init_12 (fun H locs hP hS => ?_)
  have hP : mP G al (up c 200 (.inr (6, [.ref (al (200 + 1)), .null, .null, .null, .int 0, .int 0, .int 0, .int 0, .int 0, .int 0, .int 0, .int 0, .int 0, .int 0, .int 0]))) H := hP
  have hcx0 : ∀ x, x ≠ 200 → (up c 200 (.inr (6, [.ref (al (200 + 1)), .null, .null, .null, .int 0, .int 0, .int 0, .int 0, .int 0, .int 0, .int 0, .int 0, .int 0, .int 0, .int 0]))) x = c x := fun x hx => up_n _ _ hx
  have hcs0 : (up c 200 (.inr (6, [.ref (al (200 + 1)), .null, .null, .null, .int 0, .int 0, .int 0, .int 0, .int 0, .int 0, .int 0, .int 0, .int 0, .int 0, .int 0]))) 200 = some (.inr (6, [.ref (al (200 + 1)), .null, .null, .null, .int 0, .int 0, .int 0, .int 0, .int 0, .int 0, .int 0, .int 0, .int 0, .int 0, .int 0])) := up_s _ _ _
  obtain ⟨c, hcu⟩ : ∃ z, z = up c 200 (.inr (6, [.ref (al (200 + 1)), .null, .null, .null, .int 0, .int 0, .int 0, .int 0, .int 0, .int 0, .int 0, .int 0, .int 0, .int 0, .int 0])) := ⟨_, rfl⟩
  rw [← hcu] at hcx0 hcs0 hP
  have l_3 : gLs G al c (200 + 1) (200 + 2) 0 (fun i => i) := (gLs_cv l_3 (hcx0 _ (by omega)) (hcx0 _ (by omega)))
  have hfc : ∀ i, (i < 200 ∨ 200 + 30 ≤ i) → c i = c0 i := fun i hi => (hcx0 i (by omega)).trans (hfc i hi)
  have e1 : c 200 = some (.inr (6, [.ref (al (200 + 1)), .null, .null, .null, .int 0, .int 0, .int 0, .int 0, .int 0, .int 0, .int 0, .int 0, .int 0, .int 0, .int 0])) := hcs0
  refine lv_aload_n hx hb dX5_init_15 rfl (lv_at hl 0 rfl) ?_
  refine m_new (200 + 3) (ci := 0) (fs := [.int 0, .null, .int 0]) (C := RJx4a65c) (T := TJx4a65c) (N := 3) hx hb hts uJx4a65c tyJx4a65c tyJx4a65c_ok hown (hts _ q172) (hts _ q78) (hts _ q50) hE hb0 hP hS rfl (fun j hj => by rcases f_lt3 hj with rfl | rfl | rfl <;> rfl) (Nat.le_of_ble_eq_true rfl) (Nat.le_of_ble_eq_true rfl) dX5_init_16 (fun n_4 H hP hS => ?_)
  have hP : mP G (va_up al (200 + 3) n_4) (up c (200 + 3) (.inr (0, [.int 0, .null, .int 0]))) H := hP
  have hax0 : ∀ x, x ≠ 200 + 3 → va_up al (200 + 3) n_4 x = al x := fun x hx => au_n _ _ hx
  have has0 : va_up al (200 + 3) n_4 (200 + 3) = n_4 := au_s _ _ _
  obtain ⟨al, hau⟩ : ∃ z, z = va_up al (200 + 3) n_4 := ⟨_, rfl⟩
  rw [← hau] at hax0 has0 hP
  have hcx0 : ∀ x, x ≠ 200 + 3 → (up c (200 + 3) (.inr (0, [.int 0, .null, .int 0]))) x = c x := fun x hx => up_n _ _ hx
  have hcs0 : (up c (200 + 3) (.inr (0, [.int 0, .null, .int 0]))) (200 + 3) = some (.inr (0, [.int 0, .null, .int 0])) := up_s _ _ _
  obtain ⟨c, hcu⟩ : ∃ z, z = up c (200 + 3) (.inr (0, [.int 0, .null, .int 0])) := ⟨_, rfl⟩
  rw [← hcu] at hcx0 hcs0 hP
  have e1 : c 200 = some (.inr (6, [.ref (al (200 + 1)), .null, .null, .null, .int 0, .int 0, .int 0, .int 0, .int 0, .int 0, .int 0, .int 0, .int 0, .int 0, .int 0])) := by rw [hcx0 200 (by omega), hax0 (200 + 1) (by omega)]; exact e1
  have l_3 : gLs G al c (200 + 1) (200 + 2) 0 (fun i => i) := (gLs_al (gLs_cv l_3 (hcx0 _ (by omega)) (hcx0 _ (by omega))) (hax0 _ (by omega)) (fun z9 hz9 => absurd hz9 (by omega)))
  have hfc : ∀ i, (i < 200 ∨ 200 + 30 ≤ i) → c i = c0 i := fun i hi => (hcx0 i (by omega)).trans (hfc i hi)
  have hfa : ∀ i, (i ≤ 200 ∨ 200 + 30 ≤ i) → al i = al0 i := fun i hi => (hax0 i (by omega)).trans (hfa i hi)
  have e_5 : c (200 + 3) = some (.inr (0, [.int 0, .null, .int 0])) := hcs0
  rw [← has0]
  have hl : lv_has ls 1 [(0, .ref (al 200))] := by rw [hax0 200 (by omega)]; exact hl
  rw [← hax0 200 (by omega)]
  refine lv_dup hx hb dX5_init_19 rfl ?_
  refine g_aft_v (g_runI (As := []) (rest := [.ref (al (200 + 3)), .ref (al 200)]) hx hb hml hown hts (kJx4a65c_init_da8c8 l G al c (200 + 3) e_5) (fcwI 0 hts q180 q81 q50 q70 rfl rfl rfl (by decide +kernel) ⟨(Nat.le_of_ble_eq_true rfl), (Nat.le_of_ble_eq_true rfl)⟩) hE hb0 hP hS rfl hl.1 rfl (Nat.le_of_ble_eq_true rfl) dX5_init_20 ⟨(Nat.le_of_ble_eq_true rfl), (Nat.le_of_ble_eq_true rfl)⟩) hS (fun u H locs hP hS => ?_)
  have hP : mP G al (up c (200 + 3) (.inr (0, [.int 0, .ref (gEm G), .int 0]))) H := hP
  have hcx0 : ∀ x, x ≠ 200 + 3 → (up c (200 + 3) (.inr (0, [.int 0, .ref (gEm G), .int 0]))) x = c x := fun x hx => up_n _ _ hx
  have hcs0 : (up c (200 + 3) (.inr (0, [.int 0, .ref (gEm G), .int 0]))) (200 + 3) = some (.inr (0, [.int 0, .ref (gEm G), .int 0])) := up_s _ _ _
  obtain ⟨c, hcu⟩ : ∃ z, z = up c (200 + 3) (.inr (0, [.int 0, .ref (gEm G), .int 0])) := ⟨_, rfl⟩
  rw [← hcu] at hcx0 hcs0 hP
  have e1 : c 200 = some (.inr (6, [.ref (al (200 + 1)), .null, .null, .null, .int 0, .int 0, .int 0, .int 0, .int 0, .int 0, .int 0, .int 0, .int 0, .int 0, .int 0])) := by rw [hcx0 200 (by omega)]; exact e1
  have l_3 : gLs G al c (200 + 1) (200 + 2) 0 (fun i => i) := (gLs_cv l_3 (hcx0 _ (by omega)) (hcx0 _ (by omega)))
  have hfc : ∀ i, (i < 200 ∨ 200 + 30 ≤ i) → c i = c0 i := fun i hi => (hcx0 i (by omega)).trans (hfc i hi)
  have e_5 : c (200 + 3) = some (.inr (0, [.int 0, .ref (gEm G), .int 0])) := hcs0
  have l_6 : gLs G al c (200 + 3) (200 + 4) 0 (fun i => i) := Or.inl ⟨rfl, _, e_5⟩
  refine m_putF (v := .ref (al (200 + 3))) (ty := .object "java/util/ArrayList") (C := RX5) (T := TX5) (N := 15) (ci := 6) hx hb hts uX5 tyX5 tyX5_ok nmX5 hown hE hP hS 200 rfl e1 rfl 1 (by decide) (hts _ q174) (fun _ h9 => h9) rfl hin rfl (by decide +kernel) rfl rfl (Nat.le_of_ble_eq_true rfl) dX5_init_23 (fun H locs hP hS => ?_)
  have hP : mP G al (up c 200 (.inr (6, [.ref (al (200 + 1)), .ref (al (200 + 3)), .null, .null, .int 0, .int 0, .int 0, .int 0, .int 0, .int 0, .int 0, .int 0, .int 0, .int 0, .int 0]))) H := hP
  have hcx0 : ∀ x, x ≠ 200 → (up c 200 (.inr (6, [.ref (al (200 + 1)), .ref (al (200 + 3)), .null, .null, .int 0, .int 0, .int 0, .int 0, .int 0, .int 0, .int 0, .int 0, .int 0, .int 0, .int 0]))) x = c x := fun x hx => up_n _ _ hx
  have hcs0 : (up c 200 (.inr (6, [.ref (al (200 + 1)), .ref (al (200 + 3)), .null, .null, .int 0, .int 0, .int 0, .int 0, .int 0, .int 0, .int 0, .int 0, .int 0, .int 0, .int 0]))) 200 = some (.inr (6, [.ref (al (200 + 1)), .ref (al (200 + 3)), .null, .null, .int 0, .int 0, .int 0, .int 0, .int 0, .int 0, .int 0, .int 0, .int 0, .int 0, .int 0])) := up_s _ _ _
  obtain ⟨c, hcu⟩ : ∃ z, z = up c 200 (.inr (6, [.ref (al (200 + 1)), .ref (al (200 + 3)), .null, .null, .int 0, .int 0, .int 0, .int 0, .int 0, .int 0, .int 0, .int 0, .int 0, .int 0, .int 0])) := ⟨_, rfl⟩
  rw [← hcu] at hcx0 hcs0 hP
  have l_3 : gLs G al c (200 + 1) (200 + 2) 0 (fun i => i) := (gLs_cv l_3 (hcx0 _ (by omega)) (hcx0 _ (by omega)))
  have l_6 : gLs G al c (200 + 3) (200 + 4) 0 (fun i => i) := (gLs_cv l_6 (hcx0 _ (by omega)) (hcx0 _ (by omega)))
  have hfc : ∀ i, (i < 200 ∨ 200 + 30 ≤ i) → c i = c0 i := fun i hi => (hcx0 i (by omega)).trans (hfc i hi)
  have e1 : c 200 = some (.inr (6, [.ref (al (200 + 1)), .ref (al (200 + 3)), .null, .null, .int 0, .int 0, .int 0, .int 0, .int 0, .int 0, .int 0, .int 0, .int 0, .int 0, .int 0])) := hcs0
  refine lv_aload_n hx hb dX5_init_26 rfl (lv_at hl 0 rfl) ?_
  refine m_new (200 + 5) (ci := 0) (fs := [.int 0, .null, .int 0]) (C := RJx4a65c) (T := TJx4a65c) (N := 3) hx hb hts uJx4a65c tyJx4a65c tyJx4a65c_ok hown (hts _ q172) (hts _ q78) (hts _ q50) hE hb0 hP hS rfl (fun j hj => by rcases f_lt3 hj with rfl | rfl | rfl <;> rfl) (Nat.le_of_ble_eq_true rfl) (Nat.le_of_ble_eq_true rfl) dX5_init_27 (fun n_7 H hP hS => ?_)
  have hP : mP G (va_up al (200 + 5) n_7) (up c (200 + 5) (.inr (0, [.int 0, .null, .int 0]))) H := hP
  have hax0 : ∀ x, x ≠ 200 + 5 → va_up al (200 + 5) n_7 x = al x := fun x hx => au_n _ _ hx
  have has0 : va_up al (200 + 5) n_7 (200 + 5) = n_7 := au_s _ _ _
  obtain ⟨al, hau⟩ : ∃ z, z = va_up al (200 + 5) n_7 := ⟨_, rfl⟩
  rw [← hau] at hax0 has0 hP
  have hcx0 : ∀ x, x ≠ 200 + 5 → (up c (200 + 5) (.inr (0, [.int 0, .null, .int 0]))) x = c x := fun x hx => up_n _ _ hx
  have hcs0 : (up c (200 + 5) (.inr (0, [.int 0, .null, .int 0]))) (200 + 5) = some (.inr (0, [.int 0, .null, .int 0])) := up_s _ _ _
  obtain ⟨c, hcu⟩ : ∃ z, z = up c (200 + 5) (.inr (0, [.int 0, .null, .int 0])) := ⟨_, rfl⟩
  rw [← hcu] at hcx0 hcs0 hP
  have e1 : c 200 = some (.inr (6, [.ref (al (200 + 1)), .ref (al (200 + 3)), .null, .null, .int 0, .int 0, .int 0, .int 0, .int 0, .int 0, .int 0, .int 0, .int 0, .int 0, .int 0])) := by rw [hcx0 200 (by omega), hax0 (200 + 1) (by omega), hax0 (200 + 3) (by omega)]; exact e1
  have l_3 : gLs G al c (200 + 1) (200 + 2) 0 (fun i => i) := (gLs_al (gLs_cv l_3 (hcx0 _ (by omega)) (hcx0 _ (by omega))) (hax0 _ (by omega)) (fun z9 hz9 => absurd hz9 (by omega)))
  have l_6 : gLs G al c (200 + 3) (200 + 4) 0 (fun i => i) := (gLs_al (gLs_cv l_6 (hcx0 _ (by omega)) (hcx0 _ (by omega))) (hax0 _ (by omega)) (fun z9 hz9 => absurd hz9 (by omega)))
  have hfc : ∀ i, (i < 200 ∨ 200 + 30 ≤ i) → c i = c0 i := fun i hi => (hcx0 i (by omega)).trans (hfc i hi)
  have hfa : ∀ i, (i ≤ 200 ∨ 200 + 30 ≤ i) → al i = al0 i := fun i hi => (hax0 i (by omega)).trans (hfa i hi)
  have e_8 : c (200 + 5) = some (.inr (0, [.int 0, .null, .int 0])) := hcs0
  rw [← has0]
  have hl : lv_has ls 1 [(0, .ref (al 200))] := by rw [hax0 200 (by omega)]; exact hl
  rw [← hax0 200 (by omega)]
  refine lv_dup hx hb dX5_init_30 rfl ?_
  refine g_aft_v (g_runI (As := []) (rest := [.ref (al (200 + 5)), .ref (al 200)]) hx hb hml hown hts (kJx4a65c_init_da8c8 l G al c (200 + 5) e_8) (fcwI 0 hts q180 q81 q50 q70 rfl rfl rfl (by decide +kernel) ⟨(Nat.le_of_ble_eq_true rfl), (Nat.le_of_ble_eq_true rfl)⟩) hE hb0 hP hS rfl hl.1 rfl (Nat.le_of_ble_eq_true rfl) dX5_init_31 ⟨(Nat.le_of_ble_eq_true rfl), (Nat.le_of_ble_eq_true rfl)⟩) hS (fun u H locs hP hS => ?_)
  have hP : mP G al (up c (200 + 5) (.inr (0, [.int 0, .ref (gEm G), .int 0]))) H := hP
  have hcx0 : ∀ x, x ≠ 200 + 5 → (up c (200 + 5) (.inr (0, [.int 0, .ref (gEm G), .int 0]))) x = c x := fun x hx => up_n _ _ hx
  have hcs0 : (up c (200 + 5) (.inr (0, [.int 0, .ref (gEm G), .int 0]))) (200 + 5) = some (.inr (0, [.int 0, .ref (gEm G), .int 0])) := up_s _ _ _
  obtain ⟨c, hcu⟩ : ∃ z, z = up c (200 + 5) (.inr (0, [.int 0, .ref (gEm G), .int 0])) := ⟨_, rfl⟩
  rw [← hcu] at hcx0 hcs0 hP
  have e1 : c 200 = some (.inr (6, [.ref (al (200 + 1)), .ref (al (200 + 3)), .null, .null, .int 0, .int 0, .int 0, .int 0, .int 0, .int 0, .int 0, .int 0, .int 0, .int 0, .int 0])) := by rw [hcx0 200 (by omega)]; exact e1
  have l_3 : gLs G al c (200 + 1) (200 + 2) 0 (fun i => i) := (gLs_cv l_3 (hcx0 _ (by omega)) (hcx0 _ (by omega)))
  have l_6 : gLs G al c (200 + 3) (200 + 4) 0 (fun i => i) := (gLs_cv l_6 (hcx0 _ (by omega)) (hcx0 _ (by omega)))
  have hfc : ∀ i, (i < 200 ∨ 200 + 30 ≤ i) → c i = c0 i := fun i hi => (hcx0 i (by omega)).trans (hfc i hi)
  have e_8 : c (200 + 5) = some (.inr (0, [.int 0, .ref (gEm G), .int 0])) := hcs0
  have l_9 : gLs G al c (200 + 5) (200 + 6) 0 (fun i => i) := Or.inl ⟨rfl, _, e_8⟩
  refine m_putF (v := .ref (al (200 + 5))) (ty := .object "java/util/ArrayList") (C := RX5) (T := TX5) (N := 15) (ci := 6) hx hb hts uX5 tyX5 tyX5_ok nmX5 hown hE hP hS 200 rfl e1 rfl 2 (by decide) (hts _ q175) (fun _ h9 => h9) rfl hin rfl (by decide +kernel) rfl rfl (Nat.le_of_ble_eq_true rfl) dX5_init_34 (fun H locs hP hS => ?_)
  have hP : mP G al (up c 200 (.inr (6, [.ref (al (200 + 1)), .ref (al (200 + 3)), .ref (al (200 + 5)), .null, .int 0, .int 0, .int 0, .int 0, .int 0, .int 0, .int 0, .int 0, .int 0, .int 0, .int 0]))) H := hP
  have hcx0 : ∀ x, x ≠ 200 → (up c 200 (.inr (6, [.ref (al (200 + 1)), .ref (al (200 + 3)), .ref (al (200 + 5)), .null, .int 0, .int 0, .int 0, .int 0, .int 0, .int 0, .int 0, .int 0, .int 0, .int 0, .int 0]))) x = c x := fun x hx => up_n _ _ hx
  have hcs0 : (up c 200 (.inr (6, [.ref (al (200 + 1)), .ref (al (200 + 3)), .ref (al (200 + 5)), .null, .int 0, .int 0, .int 0, .int 0, .int 0, .int 0, .int 0, .int 0, .int 0, .int 0, .int 0]))) 200 = some (.inr (6, [.ref (al (200 + 1)), .ref (al (200 + 3)), .ref (al (200 + 5)), .null, .int 0, .int 0, .int 0, .int 0, .int 0, .int 0, .int 0, .int 0, .int 0, .int 0, .int 0])) := up_s _ _ _
  obtain ⟨c, hcu⟩ : ∃ z, z = up c 200 (.inr (6, [.ref (al (200 + 1)), .ref (al (200 + 3)), .ref (al (200 + 5)), .null, .int 0, .int 0, .int 0, .int 0, .int 0, .int 0, .int 0, .int 0, .int 0, .int 0, .int 0])) := ⟨_, rfl⟩
  rw [← hcu] at hcx0 hcs0 hP
  have l_3 : gLs G al c (200 + 1) (200 + 2) 0 (fun i => i) := (gLs_cv l_3 (hcx0 _ (by omega)) (hcx0 _ (by omega)))
  have l_6 : gLs G al c (200 + 3) (200 + 4) 0 (fun i => i) := (gLs_cv l_6 (hcx0 _ (by omega)) (hcx0 _ (by omega)))
  have l_9 : gLs G al c (200 + 5) (200 + 6) 0 (fun i => i) := (gLs_cv l_9 (hcx0 _ (by omega)) (hcx0 _ (by omega)))
  have hfc : ∀ i, (i < 200 ∨ 200 + 30 ≤ i) → c i = c0 i := fun i hi => (hcx0 i (by omega)).trans (hfc i hi)
  have e1 : c 200 = some (.inr (6, [.ref (al (200 + 1)), .ref (al (200 + 3)), .ref (al (200 + 5)), .null, .int 0, .int 0, .int 0, .int 0, .int 0, .int 0, .int 0, .int 0, .int 0, .int 0, .int 0])) := hcs0
  refine lv_aload_n hx hb dX5_init_37 rfl (lv_at hl 0 rfl) ?_
  refine m_new (200 + 7) (ci := 1) (fs := [.null, .null, .null]) (C := RX0) (T := TX0) (N := 3) hx hb hts uX0 tyX0 tyX0_ok hown (hts _ q176) (hts _ q177) (hts _ q16) hE hb0 hP hS rfl (fun j hj => by rcases f_lt3 hj with rfl | rfl | rfl <;> rfl) (Nat.le_of_ble_eq_true rfl) (Nat.le_of_ble_eq_true rfl) dX5_init_38 (fun n_10 H hP hS => ?_)
  have hP : mP G (va_up al (200 + 7) n_10) (up c (200 + 7) (.inr (1, [.null, .null, .null]))) H := hP
  have hax0 : ∀ x, x ≠ 200 + 7 → va_up al (200 + 7) n_10 x = al x := fun x hx => au_n _ _ hx
  have has0 : va_up al (200 + 7) n_10 (200 + 7) = n_10 := au_s _ _ _
  obtain ⟨al, hau⟩ : ∃ z, z = va_up al (200 + 7) n_10 := ⟨_, rfl⟩
  rw [← hau] at hax0 has0 hP
  have hcx0 : ∀ x, x ≠ 200 + 7 → (up c (200 + 7) (.inr (1, [.null, .null, .null]))) x = c x := fun x hx => up_n _ _ hx
  have hcs0 : (up c (200 + 7) (.inr (1, [.null, .null, .null]))) (200 + 7) = some (.inr (1, [.null, .null, .null])) := up_s _ _ _
  obtain ⟨c, hcu⟩ : ∃ z, z = up c (200 + 7) (.inr (1, [.null, .null, .null])) := ⟨_, rfl⟩
  rw [← hcu] at hcx0 hcs0 hP
  have e1 : c 200 = some (.inr (6, [.ref (al (200 + 1)), .ref (al (200 + 3)), .ref (al (200 + 5)), .null, .int 0, .int 0, .int 0, .int 0, .int 0, .int 0, .int 0, .int 0, .int 0, .int 0, .int 0])) := by rw [hcx0 200 (by omega), hax0 (200 + 1) (by omega), hax0 (200 + 3) (by omega), hax0 (200 + 5) (by omega)]; exact e1
  have l_3 : gLs G al c (200 + 1) (200 + 2) 0 (fun i => i) := (gLs_al (gLs_cv l_3 (hcx0 _ (by omega)) (hcx0 _ (by omega))) (hax0 _ (by omega)) (fun z9 hz9 => absurd hz9 (by omega)))
  have l_6 : gLs G al c (200 + 3) (200 + 4) 0 (fun i => i) := (gLs_al (gLs_cv l_6 (hcx0 _ (by omega)) (hcx0 _ (by omega))) (hax0 _ (by omega)) (fun z9 hz9 => absurd hz9 (by omega)))
  have l_9 : gLs G al c (200 + 5) (200 + 6) 0 (fun i => i) := (gLs_al (gLs_cv l_9 (hcx0 _ (by omega)) (hcx0 _ (by omega))) (hax0 _ (by omega)) (fun z9 hz9 => absurd hz9 (by omega)))
  have hfc : ∀ i, (i < 200 ∨ 200 + 30 ≤ i) → c i = c0 i := fun i hi => (hcx0 i (by omega)).trans (hfc i hi)
  have hfa : ∀ i, (i ≤ 200 ∨ 200 + 30 ≤ i) → al i = al0 i := fun i hi => (hax0 i (by omega)).trans (hfa i hi)
  have e_11 : c (200 + 7) = some (.inr (1, [.null, .null, .null])) := hcs0
  rw [← has0]
  have hl : lv_has ls 1 [(0, .ref (al 200))] := by rw [hax0 200 (by omega)]; exact hl
  rw [← hax0 200 (by omega)]
  refine lv_dup hx hb dX5_init_41 rfl ?_
  refine g_aft_vp (g_runIN (As := []) (rest := [.ref (al (200 + 7)), .ref (al 200)]) hx hb hml hown hts (kX0_init_200 l G al c e_11) (fcwIN 0 hts (hE.1.1.2.2.2.2.1 (RX5, 26, yX0_init, RX7) (by decide +kernel)) q181 q16 q0 rfl rfl rfl (by decide +kernel) ⟨(Nat.le_of_ble_eq_true rfl), (Nat.le_of_ble_eq_true rfl)⟩) hE hb0 hP hS rfl hl.1 rfl (Nat.le_of_ble_eq_true rfl) dX5_init_42 ⟨(Nat.le_of_ble_eq_true rfl), (Nat.le_of_ble_eq_true rfl)⟩) hS (fun u_12 H locs hu_12 hP hS => ?_)
  obtain ⟨al, c⟩ := u_12
  have hP : mP G al c H := hP
  obtain ⟨e_13, e_14, e_15, e_16, hcx9, hax9⟩ := hu_12
  dsimp only at e_13 e_14 e_15 e_16 hcx9 hax9
  have hcx0 := fun x (h0 : x ≠ 200 + 7) (h1 : x ≠ 200 + 8) (h2 : x ≠ 200 + 9) (h3 : x ≠ 200 + 10) => hcx9 x ⟨h0, h1, h2, h3⟩
  have hax0 := fun x (h0 : x ≠ 200 + 8) (h1 : x ≠ 200 + 9) (h2 : x ≠ 200 + 10) => hax9 x ⟨h0, h1, h2⟩
  have e1 : c 200 = some (.inr (6, [.ref (al (200 + 1)), .ref (al (200 + 3)), .ref (al (200 + 5)), .null, .int 0, .int 0, .int 0, .int 0, .int 0, .int 0, .int 0, .int 0, .int 0, .int 0, .int 0])) := by rw [hcx0 200 (by omega) (by omega) (by omega) (by omega), hax0 (200 + 1) (by omega) (by omega) (by omega), hax0 (200 + 3) (by omega) (by omega) (by omega), hax0 (200 + 5) (by omega) (by omega) (by omega)]; exact e1
  have l_3 : gLs G al c (200 + 1) (200 + 2) 0 (fun i => i) := (gLs_al (gLs_cv l_3 (hcx0 _ (by omega) (by omega) (by omega) (by omega)) (hcx0 _ (by omega) (by omega) (by omega) (by omega))) (hax0 _ (by omega) (by omega) (by omega)) (fun z9 hz9 => absurd hz9 (by omega)))
  have l_6 : gLs G al c (200 + 3) (200 + 4) 0 (fun i => i) := (gLs_al (gLs_cv l_6 (hcx0 _ (by omega) (by omega) (by omega) (by omega)) (hcx0 _ (by omega) (by omega) (by omega) (by omega))) (hax0 _ (by omega) (by omega) (by omega)) (fun z9 hz9 => absurd hz9 (by omega)))
  have l_9 : gLs G al c (200 + 5) (200 + 6) 0 (fun i => i) := (gLs_al (gLs_cv l_9 (hcx0 _ (by omega) (by omega) (by omega) (by omega)) (hcx0 _ (by omega) (by omega) (by omega) (by omega))) (hax0 _ (by omega) (by omega) (by omega)) (fun z9 hz9 => absurd hz9 (by omega)))
  have hfc : ∀ i, (i < 200 ∨ 200 + 30 ≤ i) → c i = c0 i := fun i hi => (hcx0 i (by omega) (by omega) (by omega) (by omega)).trans (hfc i hi)
  have hfa : ∀ i, (i ≤ 200 ∨ 200 + 30 ≤ i) → al i = al0 i := fun i hi => (hax0 i (by omega) (by omega) (by omega)).trans (hfa i hi)
  have hl : lv_has ls 1 [(0, .ref (al 200))] := by rw [hax0 200 (by omega) (by omega) (by omega)]; exact hl
  rw [← hax0 200 (by omega) (by omega) (by omega)]
  rw [← hax0 (200 + 7) (by omega) (by omega) (by omega)]
  refine m_putF (v := .ref (al (200 + 7))) (ty := .object "JetWaltz$Air") (C := RX5) (T := TX5) (N := 15) (ci := 6) hx hb hts uX5 tyX5 tyX5_ok nmX5 hown hE hP hS 200 rfl e1 rfl 3 (by decide) (hts _ q178) (fun _ h9 => h9) rfl hin rfl (by decide +kernel) rfl rfl (Nat.le_of_ble_eq_true rfl) dX5_init_45 (fun H locs hP hS => ?_)
  have hP : mP G al (up c 200 (.inr (6, [.ref (al (200 + 1)), .ref (al (200 + 3)), .ref (al (200 + 5)), .ref (al (200 + 7)), .int 0, .int 0, .int 0, .int 0, .int 0, .int 0, .int 0, .int 0, .int 0, .int 0, .int 0]))) H := hP
  have hcx0 : ∀ x, x ≠ 200 → (up c 200 (.inr (6, [.ref (al (200 + 1)), .ref (al (200 + 3)), .ref (al (200 + 5)), .ref (al (200 + 7)), .int 0, .int 0, .int 0, .int 0, .int 0, .int 0, .int 0, .int 0, .int 0, .int 0, .int 0]))) x = c x := fun x hx => up_n _ _ hx
  have hcs0 : (up c 200 (.inr (6, [.ref (al (200 + 1)), .ref (al (200 + 3)), .ref (al (200 + 5)), .ref (al (200 + 7)), .int 0, .int 0, .int 0, .int 0, .int 0, .int 0, .int 0, .int 0, .int 0, .int 0, .int 0]))) 200 = some (.inr (6, [.ref (al (200 + 1)), .ref (al (200 + 3)), .ref (al (200 + 5)), .ref (al (200 + 7)), .int 0, .int 0, .int 0, .int 0, .int 0, .int 0, .int 0, .int 0, .int 0, .int 0, .int 0])) := up_s _ _ _
  obtain ⟨c, hcu⟩ : ∃ z, z = up c 200 (.inr (6, [.ref (al (200 + 1)), .ref (al (200 + 3)), .ref (al (200 + 5)), .ref (al (200 + 7)), .int 0, .int 0, .int 0, .int 0, .int 0, .int 0, .int 0, .int 0, .int 0, .int 0, .int 0])) := ⟨_, rfl⟩
  rw [← hcu] at hcx0 hcs0 hP
  have e_13 : c (200 + 7) = some (.inr (1, [.ref (al (200 + 8)), .ref (al (200 + 9)), .ref (al (200 + 10))])) := by rw [hcx0 (200 + 7) (by omega)]; exact e_13
  have e_14 : c (200 + 8) = some (.inl (gI G, 9, .inl (fun _ => 0))) := by rw [hcx0 (200 + 8) (by omega)]; exact e_14
  have e_15 : c (200 + 9) = some (.inl (gI G, 9, .inl (fun _ => 0))) := by rw [hcx0 (200 + 9) (by omega)]; exact e_15
  have e_16 : c (200 + 10) = some (.inl (gI G, 9, .inl (fun _ => 0))) := by rw [hcx0 (200 + 10) (by omega)]; exact e_16
  have l_3 : gLs G al c (200 + 1) (200 + 2) 0 (fun i => i) := (gLs_cv l_3 (hcx0 _ (by omega)) (hcx0 _ (by omega)))
  have l_6 : gLs G al c (200 + 3) (200 + 4) 0 (fun i => i) := (gLs_cv l_6 (hcx0 _ (by omega)) (hcx0 _ (by omega)))
  have l_9 : gLs G al c (200 + 5) (200 + 6) 0 (fun i => i) := (gLs_cv l_9 (hcx0 _ (by omega)) (hcx0 _ (by omega)))
  have hfc : ∀ i, (i < 200 ∨ 200 + 30 ≤ i) → c i = c0 i := fun i hi => (hcx0 i (by omega)).trans (hfc i hi)
  have e1 : c 200 = some (.inr (6, [.ref (al (200 + 1)), .ref (al (200 + 3)), .ref (al (200 + 5)), .ref (al (200 + 7)), .int 0, .int 0, .int 0, .int 0, .int 0, .int 0, .int 0, .int 0, .int 0, .int 0, .int 0])) := hcs0
  refine lv_aload_n hx hb dX5_init_48 rfl (lv_at hl 0 rfl) ?_
  refine lv_sipush (v := 3000) hx hb dX5_init_49 (by decide) ?_
  refine m_put (v := .int 3000) (ty := .int) (C := RX5) (T := TX5) (N := 15) (ci := 6) hx hb hts uX5 tyX5 tyX5_ok nmX5 hown hE hP hS 200 rfl e1 rfl 5 (by decide) (hts _ q179) (fun _ h9 => h9) rfl (by decide +kernel) rfl rfl (Nat.le_of_ble_eq_true rfl) dX5_init_52 (fun H locs hP hS => ?_)
  have hP : mP G al (up c 200 (.inr (6, [.ref (al (200 + 1)), .ref (al (200 + 3)), .ref (al (200 + 5)), .ref (al (200 + 7)), .int 0, .int 3000, .int 0, .int 0, .int 0, .int 0, .int 0, .int 0, .int 0, .int 0, .int 0]))) H := hP
  have hcx0 : ∀ x, x ≠ 200 → (up c 200 (.inr (6, [.ref (al (200 + 1)), .ref (al (200 + 3)), .ref (al (200 + 5)), .ref (al (200 + 7)), .int 0, .int 3000, .int 0, .int 0, .int 0, .int 0, .int 0, .int 0, .int 0, .int 0, .int 0]))) x = c x := fun x hx => up_n _ _ hx
  have hcs0 : (up c 200 (.inr (6, [.ref (al (200 + 1)), .ref (al (200 + 3)), .ref (al (200 + 5)), .ref (al (200 + 7)), .int 0, .int 3000, .int 0, .int 0, .int 0, .int 0, .int 0, .int 0, .int 0, .int 0, .int 0]))) 200 = some (.inr (6, [.ref (al (200 + 1)), .ref (al (200 + 3)), .ref (al (200 + 5)), .ref (al (200 + 7)), .int 0, .int 3000, .int 0, .int 0, .int 0, .int 0, .int 0, .int 0, .int 0, .int 0, .int 0])) := up_s _ _ _
  obtain ⟨c, hcu⟩ : ∃ z, z = up c 200 (.inr (6, [.ref (al (200 + 1)), .ref (al (200 + 3)), .ref (al (200 + 5)), .ref (al (200 + 7)), .int 0, .int 3000, .int 0, .int 0, .int 0, .int 0, .int 0, .int 0, .int 0, .int 0, .int 0])) := ⟨_, rfl⟩
  rw [← hcu] at hcx0 hcs0 hP
  have e_13 : c (200 + 7) = some (.inr (1, [.ref (al (200 + 8)), .ref (al (200 + 9)), .ref (al (200 + 10))])) := by rw [hcx0 (200 + 7) (by omega)]; exact e_13
  have e_14 : c (200 + 8) = some (.inl (gI G, 9, .inl (fun _ => 0))) := by rw [hcx0 (200 + 8) (by omega)]; exact e_14
  have e_15 : c (200 + 9) = some (.inl (gI G, 9, .inl (fun _ => 0))) := by rw [hcx0 (200 + 9) (by omega)]; exact e_15
  have e_16 : c (200 + 10) = some (.inl (gI G, 9, .inl (fun _ => 0))) := by rw [hcx0 (200 + 10) (by omega)]; exact e_16
  have l_3 : gLs G al c (200 + 1) (200 + 2) 0 (fun i => i) := (gLs_cv l_3 (hcx0 _ (by omega)) (hcx0 _ (by omega)))
  have l_6 : gLs G al c (200 + 3) (200 + 4) 0 (fun i => i) := (gLs_cv l_6 (hcx0 _ (by omega)) (hcx0 _ (by omega)))
  have l_9 : gLs G al c (200 + 5) (200 + 6) 0 (fun i => i) := (gLs_cv l_9 (hcx0 _ (by omega)) (hcx0 _ (by omega)))
  have hfc : ∀ i, (i < 200 ∨ 200 + 30 ≤ i) → c i = c0 i := fun i hi => (hcx0 i (by omega)).trans (hfc i hi)
  have e1 : c 200 = some (.inr (6, [.ref (al (200 + 1)), .ref (al (200 + 3)), .ref (al (200 + 5)), .ref (al (200 + 7)), .int 0, .int 3000, .int 0, .int 0, .int 0, .int 0, .int 0, .int 0, .int 0, .int 0, .int 0])) := hcs0
  refine W.widen (k := 7) (n := 39) (Nat.le_of_ble_eq_true rfl) (Nat.le_of_ble_eq_true rfl) ?_
  exact W.vret hx hb hr (fun tz htz hW => ⟨⟨(al, c), rfl, ⟨⟨e1, gLs_al l_3 rfl (fun i hi => absurd hi (by omega)), gLs_al l_6 rfl (fun i hi => absurd hi (by omega)), gLs_al l_9 rfl (fun i hi => absurd hi (by omega)), e_13, (fun a ha => match a, ha with | 0, _ => e_14 | 1, _ => e_15 | 2, _ => e_16 | n + 3, h9 => absurd h9 (by omega)), fun p hp => absurd hp (by omega), fun j hj => absurd hj (by omega)⟩, fun i hi => (hfc i hi).trans (congrFun hc0 i), fun i hi => (hfa i hi).trans (congrFun hal0 i)⟩, g_end htz hP⟩, hS.F htz⟩) hS.2.2 dX5_init_55
set_option maxHeartbeats 4000000 in
set_option maxRecDepth 100000 in
theorem kX7_init (l : Launch) (G : gT) (al : Nat → Nat) (c : mC) (k : gC) (w : Nat → Nat → Int32) (ns : Nat → Nat) (e1 : c 0 = some (.inr (8, [.null, .null, .null]))) (u9 : c 999 = none) : Met l yX7_init (fW yX7_init cX7_init 1 none) { frames := 5, cells := 17, slots := 111, locals := 92 } (gPre G al (c) [.ref (al 0)]) (gQvp (S := (Nat → Nat) × mC) G (fun u => gU G u.1 k w 0 0 0 ns u.2 ∧ ∀ z, z = 0 → u.1 z = al z) (fun u => u.1) (fun u => u.2)) 17 111 (gA G) := by
  refine Met.ofW (cc := cX7_init) (maxL := 1) (ret := none) (by decide) rfl ?_
  intro pz ez s m args below meth c₀ s₁ Bo hml hv
  obtain ⟨rfl, hb0, hP, hE⟩ := hv
  have hx := Bo.exec
  have hb := Bo.bytes
  have hr := Bo.returns
  have hts0 := atoms_spec (ws := (fW yX7_init cX7_init 1 none)) Bo.pre
  have hts : ∀ w ∈ fA, w.before _ s = true := fun w h => hts0 w (List.mem_cons_of_mem _ h)
  have hown : s.vm.findClass RX7 = some m.cls := findClass_of_methodNamed Bo.named
  have hlocks := Bo.notSynchronized
  have hin : meth.name = "<init>" := (name_of_methodNamed Bo.named Bo.method).1
  have hl := lv_entry ([.ref (al 0)]) (n := 1) (Nat.le_of_ble_eq_true rfl)
  rw [lg_entry_eq]
  generalize (lg_sl ([.ref (al 0)]) ++ List.replicate (1 - (lg_sl ([.ref (al 0)])).length) Slot.unset).toArray = ls at hl ⊢
  have hl : lv_has ls 1 [(0, .ref (al 0))] := hl
  obtain ⟨al0, hal0⟩ : ∃ z, z = al := ⟨_, rfl⟩
  obtain ⟨c0, hc0⟩ : ∃ z, z = c := ⟨_, rfl⟩
  have hfc : ∀ i, (300 ≤ i) → c i = c0 i := fun i _ => by rw [hc0]
  have hfa : ∀ i, (300 ≤ i ∨ i = 0) → al i = al0 i := fun i _ => by rw [hal0]
  generalize (#[.ref (al 0)] : Array Value) = ar9 at hts ⊢
  refine g_start hP (fun H hP hS => ?_)
  refine lv_aload_n hx hb dX7_init_0 rfl (lv_at hl 0 rfl) ?_
  refine W.objInit hx hb hown (hts _ q363) (hts _ q2) (hts _ q3) rfl (by rw [hml]; exact hl.1) rfl dX7_init_1 (Nat.le_of_ble_eq_true rfl) (Nat.le_of_ble_eq_true rfl) ?_
  refine W.eq (g2 := F0 m 4 ls []) rfl ?_
  refine lv_aload_n hx hb dX7_init_4 rfl (lv_at hl 0 rfl) ?_
  refine m_new 1 (ci := 0) (fs := [.int 0, .null, .int 0]) (C := RJx4a65c) (T := TJx4a65c) (N := 3) hx hb hts uJx4a65c tyJx4a65c tyJx4a65c_ok hown (hts _ q364) (hts _ q78) (hts _ q50) hE hb0 hP hS rfl (fun j hj => by rcases f_lt3 hj with rfl | rfl | rfl <;> rfl) (Nat.le_of_ble_eq_true rfl) (Nat.le_of_ble_eq_true rfl) dX7_init_5 (fun n_1 H hP hS => ?_)
  have hP : mP G (va_up al 1 n_1) (up c 1 (.inr (0, [.int 0, .null, .int 0]))) H := hP
  have hax0 : ∀ x, x ≠ 1 → va_up al 1 n_1 x = al x := fun x hx => au_n _ _ hx
  have has0 : va_up al 1 n_1 1 = n_1 := au_s _ _ _
  obtain ⟨al, hau⟩ : ∃ z, z = va_up al 1 n_1 := ⟨_, rfl⟩
  rw [← hau] at hax0 has0 hP
  have hcx0 : ∀ x, x ≠ 1 → (up c 1 (.inr (0, [.int 0, .null, .int 0]))) x = c x := fun x hx => up_n _ _ hx
  have hcs0 : (up c 1 (.inr (0, [.int 0, .null, .int 0]))) 1 = some (.inr (0, [.int 0, .null, .int 0])) := up_s _ _ _
  obtain ⟨c, hcu⟩ : ∃ z, z = up c 1 (.inr (0, [.int 0, .null, .int 0])) := ⟨_, rfl⟩
  rw [← hcu] at hcx0 hcs0 hP
  have e1 : c 0 = some (.inr (8, [.null, .null, .null])) := by rw [hcx0 0 (by decide)]; exact e1
  have hfc : ∀ i, (300 ≤ i) → c i = c0 i := fun i hi => (hcx0 i (by omega)).trans (hfc i hi)
  have hfa : ∀ i, (300 ≤ i ∨ i = 0) → al i = al0 i := fun i hi => (hax0 i (by omega)).trans (hfa i hi)
  have e_2 : c 1 = some (.inr (0, [.int 0, .null, .int 0])) := hcs0
  rw [← has0]
  have hl : lv_has ls 1 [(0, .ref (al 0))] := by rw [hax0 0 (by decide)]; exact hl
  rw [← hax0 0 (by decide)]
  refine lv_dup hx hb dX7_init_8 rfl ?_
  refine g_aft_v (g_runI (As := []) (rest := [.ref (al 1), .ref (al 0)]) hx hb hml hown hts (kJx4a65c_init_da8c8 l G al c 1 e_2) (fcwI 0 hts q370 q81 q50 q70 rfl rfl rfl (by decide +kernel) ⟨(Nat.le_of_ble_eq_true rfl), (Nat.le_of_ble_eq_true rfl)⟩) hE hb0 hP hS rfl hl.1 rfl (Nat.le_of_ble_eq_true rfl) dX7_init_9 ⟨(Nat.le_of_ble_eq_true rfl), (Nat.le_of_ble_eq_true rfl)⟩) hS (fun u H locs hP hS => ?_)
  have hP : mP G al (up c 1 (.inr (0, [.int 0, .ref (gEm G), .int 0]))) H := hP
  have hcx0 : ∀ x, x ≠ 1 → (up c 1 (.inr (0, [.int 0, .ref (gEm G), .int 0]))) x = c x := fun x hx => up_n _ _ hx
  have hcs0 : (up c 1 (.inr (0, [.int 0, .ref (gEm G), .int 0]))) 1 = some (.inr (0, [.int 0, .ref (gEm G), .int 0])) := up_s _ _ _
  obtain ⟨c, hcu⟩ : ∃ z, z = up c 1 (.inr (0, [.int 0, .ref (gEm G), .int 0])) := ⟨_, rfl⟩
  rw [← hcu] at hcx0 hcs0 hP
  have e1 : c 0 = some (.inr (8, [.null, .null, .null])) := by rw [hcx0 0 (by decide)]; exact e1
  have hfc : ∀ i, (300 ≤ i) → c i = c0 i := fun i hi => (hcx0 i (by omega)).trans (hfc i hi)
  have e_2 : c 1 = some (.inr (0, [.int 0, .ref (gEm G), .int 0])) := hcs0
  have l_3 : gLs G al c 1 2 0 (fun i => i) := Or.inl ⟨rfl, _, e_2⟩
  refine m_putF (v := .ref (al 1)) (ty := .object "java/util/ArrayList") (C := RX7) (T := TX7) (N := 3) (ci := 8) hx hb hts uX7 tyX7 tyX7_ok nmX7 hown hE hP hS 0 rfl e1 rfl 0 (by decide) (hts _ q365) (fun _ h9 => h9) rfl hin rfl (by decide +kernel) rfl rfl (Nat.le_of_ble_eq_true rfl) dX7_init_12 (fun H locs hP hS => ?_)
  have hP : mP G al (up c 0 (.inr (8, [.ref (al 1), .null, .null]))) H := hP
  have hcx0 : ∀ x, x ≠ 0 → (up c 0 (.inr (8, [.ref (al 1), .null, .null]))) x = c x := fun x hx => up_n _ _ hx
  have hcs0 : (up c 0 (.inr (8, [.ref (al 1), .null, .null]))) 0 = some (.inr (8, [.ref (al 1), .null, .null])) := up_s _ _ _
  obtain ⟨c, hcu⟩ : ∃ z, z = up c 0 (.inr (8, [.ref (al 1), .null, .null])) := ⟨_, rfl⟩
  rw [← hcu] at hcx0 hcs0 hP
  have l_3 : gLs G al c 1 2 0 (fun i => i) := (gLs_cv l_3 (hcx0 _ (by decide)) (hcx0 _ (by decide)))
  have hfc : ∀ i, (300 ≤ i) → c i = c0 i := fun i hi => (hcx0 i (by omega)).trans (hfc i hi)
  have e1 : c 0 = some (.inr (8, [.ref (al 1), .null, .null])) := hcs0
  refine lv_aload_n hx hb dX7_init_15 rfl (lv_at hl 0 rfl) ?_
  refine m_new 100 (ci := 6) (fs := [.null, .null, .null, .null, .int 0, .int 0, .int 0, .int 0, .int 0, .int 0, .int 0, .int 0, .int 0, .int 0, .int 0]) (C := RX5) (T := TX5) (N := 15) hx hb hts uX5 tyX5 tyX5_ok hown (hts _ q366) (hts _ q367) (hts _ q211) hE hb0 hP hS rfl (fun j hj => by rcases f_lt15 hj with rfl | rfl | rfl | rfl | rfl | rfl | rfl | rfl | rfl | rfl | rfl | rfl | rfl | rfl | rfl <;> rfl) (Nat.le_of_ble_eq_true rfl) (Nat.le_of_ble_eq_true rfl) dX7_init_16 (fun n_4 H hP hS => ?_)
  have hP : mP G (va_up al 100 n_4) (up c 100 (.inr (6, [.null, .null, .null, .null, .int 0, .int 0, .int 0, .int 0, .int 0, .int 0, .int 0, .int 0, .int 0, .int 0, .int 0]))) H := hP
  have hax0 : ∀ x, x ≠ 100 → va_up al 100 n_4 x = al x := fun x hx => au_n _ _ hx
  have has0 : va_up al 100 n_4 100 = n_4 := au_s _ _ _
  obtain ⟨al, hau⟩ : ∃ z, z = va_up al 100 n_4 := ⟨_, rfl⟩
  rw [← hau] at hax0 has0 hP
  have hcx0 : ∀ x, x ≠ 100 → (up c 100 (.inr (6, [.null, .null, .null, .null, .int 0, .int 0, .int 0, .int 0, .int 0, .int 0, .int 0, .int 0, .int 0, .int 0, .int 0]))) x = c x := fun x hx => up_n _ _ hx
  have hcs0 : (up c 100 (.inr (6, [.null, .null, .null, .null, .int 0, .int 0, .int 0, .int 0, .int 0, .int 0, .int 0, .int 0, .int 0, .int 0, .int 0]))) 100 = some (.inr (6, [.null, .null, .null, .null, .int 0, .int 0, .int 0, .int 0, .int 0, .int 0, .int 0, .int 0, .int 0, .int 0, .int 0])) := up_s _ _ _
  obtain ⟨c, hcu⟩ : ∃ z, z = up c 100 (.inr (6, [.null, .null, .null, .null, .int 0, .int 0, .int 0, .int 0, .int 0, .int 0, .int 0, .int 0, .int 0, .int 0, .int 0])) := ⟨_, rfl⟩
  rw [← hcu] at hcx0 hcs0 hP
  have e1 : c 0 = some (.inr (8, [.ref (al 1), .null, .null])) := by rw [hcx0 0 (by decide), hax0 1 (by decide)]; exact e1
  have l_3 : gLs G al c 1 2 0 (fun i => i) := (gLs_al (gLs_cv l_3 (hcx0 _ (by decide)) (hcx0 _ (by decide))) (hax0 _ (by decide)) (fun z9 hz9 => absurd hz9 (by omega)))
  have hfc : ∀ i, (300 ≤ i) → c i = c0 i := fun i hi => (hcx0 i (by omega)).trans (hfc i hi)
  have hfa : ∀ i, (300 ≤ i ∨ i = 0) → al i = al0 i := fun i hi => (hax0 i (by omega)).trans (hfa i hi)
  have e_5 : c 100 = some (.inr (6, [.null, .null, .null, .null, .int 0, .int 0, .int 0, .int 0, .int 0, .int 0, .int 0, .int 0, .int 0, .int 0, .int 0])) := hcs0
  rw [← has0]
  have hl : lv_has ls 1 [(0, .ref (al 0))] := by rw [hax0 0 (by decide)]; exact hl
  rw [← hax0 0 (by decide)]
  refine lv_dup hx hb dX7_init_19 rfl ?_
  refine g_aft_vp (g_runIN (As := []) (rest := [.ref (al 100), .ref (al 0)]) hx hb hml hown hts (kX5_init_100 l G al c k e_5) (fcwIN 0 hts (hE.1.1.2.2.2.2.1 (RX7, 18, yX5_init, RX7) (by decide +kernel)) q371 q211 q182 rfl rfl rfl (by decide +kernel) ⟨(Nat.le_of_ble_eq_true rfl), (Nat.le_of_ble_eq_true rfl)⟩) hE hb0 hP hS rfl hl.1 rfl (Nat.le_of_ble_eq_true rfl) dX7_init_20 ⟨(Nat.le_of_ble_eq_true rfl), (Nat.le_of_ble_eq_true rfl)⟩) hS (fun u_6 H locs hu_6 hP hS => ?_)
  obtain ⟨al, c⟩ := u_6
  have hP : mP G al c H := hP
  obtain ⟨hB100, hcx0, hax0⟩ := hu_6
  dsimp only at hB100 hcx0 hax0
  have e1 : c 0 = some (.inr (8, [.ref (al 1), .null, .null])) := by rw [hcx0 0 (by omega), hax0 1 (by omega)]; exact e1
  have l_3 : gLs G al c 1 2 0 (fun i => i) := (gLs_al (gLs_cv l_3 (hcx0 _ (by omega)) (hcx0 _ (by omega))) (hax0 _ (by omega)) (fun z9 hz9 => absurd hz9 (by omega)))
  have hfc : ∀ i, (300 ≤ i) → c i = c0 i := fun i hi => (hcx0 i (by omega)).trans (hfc i hi)
  have hfa : ∀ i, (300 ≤ i ∨ i = 0) → al i = al0 i := fun i hi => (hax0 i (by omega)).trans (hfa i hi)
  have hl : lv_has ls 1 [(0, .ref (al 0))] := by rw [hax0 0 (by omega)]; exact hl
  rw [← hax0 0 (by omega)]
  rw [← hax0 100 (by omega)]
  refine m_putF (v := .ref (al 100)) (ty := .object "JetWaltz$Show") (C := RX7) (T := TX7) (N := 3) (ci := 8) hx hb hts uX7 tyX7 tyX7_ok nmX7 hown hE hP hS 0 rfl e1 rfl 1 (by decide) (hts _ q368) (fun _ h9 => h9) rfl hin rfl (by decide +kernel) rfl rfl (Nat.le_of_ble_eq_true rfl) dX7_init_23 (fun H locs hP hS => ?_)
  have hP : mP G al (up c 0 (.inr (8, [.ref (al 1), .ref (al 100), .null]))) H := hP
  have hcx0 : ∀ x, x ≠ 0 → (up c 0 (.inr (8, [.ref (al 1), .ref (al 100), .null]))) x = c x := fun x hx => up_n _ _ hx
  have hcs0 : (up c 0 (.inr (8, [.ref (al 1), .ref (al 100), .null]))) 0 = some (.inr (8, [.ref (al 1), .ref (al 100), .null])) := up_s _ _ _
  obtain ⟨c, hcu⟩ : ∃ z, z = up c 0 (.inr (8, [.ref (al 1), .ref (al 100), .null])) := ⟨_, rfl⟩
  rw [← hcu] at hcx0 hcs0 hP
  have l_3 : gLs G al c 1 2 0 (fun i => i) := (gLs_cv l_3 (hcx0 _ (by decide)) (hcx0 _ (by decide)))
  have hB100 : gUB G al k 100 0 0 c := gUB_o hB100 (by decide) (by decide) (fun j hj => absurd hj (by omega)) (fun i h1 h2 => hcx0 i (by omega)) (fun i h1 h2 => rfl)
  have hfc : ∀ i, (300 ≤ i) → c i = c0 i := fun i hi => (hcx0 i (by omega)).trans (hfc i hi)
  have e1 : c 0 = some (.inr (8, [.ref (al 1), .ref (al 100), .null])) := hcs0
  refine lv_aload_n hx hb dX7_init_26 rfl (lv_at hl 0 rfl) ?_
  refine m_new 200 (ci := 6) (fs := [.null, .null, .null, .null, .int 0, .int 0, .int 0, .int 0, .int 0, .int 0, .int 0, .int 0, .int 0, .int 0, .int 0]) (C := RX5) (T := TX5) (N := 15) hx hb hts uX5 tyX5 tyX5_ok hown (hts _ q366) (hts _ q367) (hts _ q211) hE hb0 hP hS rfl (fun j hj => by rcases f_lt15 hj with rfl | rfl | rfl | rfl | rfl | rfl | rfl | rfl | rfl | rfl | rfl | rfl | rfl | rfl | rfl <;> rfl) (Nat.le_of_ble_eq_true rfl) (Nat.le_of_ble_eq_true rfl) dX7_init_27 (fun n_7 H hP hS => ?_)
  have hP : mP G (va_up al 200 n_7) (up c 200 (.inr (6, [.null, .null, .null, .null, .int 0, .int 0, .int 0, .int 0, .int 0, .int 0, .int 0, .int 0, .int 0, .int 0, .int 0]))) H := hP
  have hax0 : ∀ x, x ≠ 200 → va_up al 200 n_7 x = al x := fun x hx => au_n _ _ hx
  have has0 : va_up al 200 n_7 200 = n_7 := au_s _ _ _
  obtain ⟨al, hau⟩ : ∃ z, z = va_up al 200 n_7 := ⟨_, rfl⟩
  rw [← hau] at hax0 has0 hP
  have hcx0 : ∀ x, x ≠ 200 → (up c 200 (.inr (6, [.null, .null, .null, .null, .int 0, .int 0, .int 0, .int 0, .int 0, .int 0, .int 0, .int 0, .int 0, .int 0, .int 0]))) x = c x := fun x hx => up_n _ _ hx
  have hcs0 : (up c 200 (.inr (6, [.null, .null, .null, .null, .int 0, .int 0, .int 0, .int 0, .int 0, .int 0, .int 0, .int 0, .int 0, .int 0, .int 0]))) 200 = some (.inr (6, [.null, .null, .null, .null, .int 0, .int 0, .int 0, .int 0, .int 0, .int 0, .int 0, .int 0, .int 0, .int 0, .int 0])) := up_s _ _ _
  obtain ⟨c, hcu⟩ : ∃ z, z = up c 200 (.inr (6, [.null, .null, .null, .null, .int 0, .int 0, .int 0, .int 0, .int 0, .int 0, .int 0, .int 0, .int 0, .int 0, .int 0])) := ⟨_, rfl⟩
  rw [← hcu] at hcx0 hcs0 hP
  have e1 : c 0 = some (.inr (8, [.ref (al 1), .ref (al 100), .null])) := by rw [hcx0 0 (by decide), hax0 1 (by decide), hax0 100 (by decide)]; exact e1
  have l_3 : gLs G al c 1 2 0 (fun i => i) := (gLs_al (gLs_cv l_3 (hcx0 _ (by decide)) (hcx0 _ (by decide))) (hax0 _ (by decide)) (fun z9 hz9 => absurd hz9 (by omega)))
  have hB100 : gUB G al k 100 0 0 c := gUB_o hB100 (by decide) (by decide) (fun j hj => absurd hj (by omega)) (fun i h1 h2 => hcx0 i (by omega)) (fun i h1 h2 => hax0 i (by omega))
  have hfc : ∀ i, (300 ≤ i) → c i = c0 i := fun i hi => (hcx0 i (by omega)).trans (hfc i hi)
  have hfa : ∀ i, (300 ≤ i ∨ i = 0) → al i = al0 i := fun i hi => (hax0 i (by omega)).trans (hfa i hi)
  have e_8 : c 200 = some (.inr (6, [.null, .null, .null, .null, .int 0, .int 0, .int 0, .int 0, .int 0, .int 0, .int 0, .int 0, .int 0, .int 0, .int 0])) := hcs0
  rw [← has0]
  have hl : lv_has ls 1 [(0, .ref (al 0))] := by rw [hax0 0 (by decide)]; exact hl
  rw [← hax0 0 (by decide)]
  refine lv_dup hx hb dX7_init_30 rfl ?_
  refine g_aft_vp (g_runIN (As := []) (rest := [.ref (al 200), .ref (al 0)]) hx hb hml hown hts (kX5_init_200 l G al c k e_8) (fcwIN 0 hts (hE.1.1.2.2.2.2.1 (RX7, 18, yX5_init, RX7) (by decide +kernel)) q371 q211 q182 rfl rfl rfl (by decide +kernel) ⟨(Nat.le_of_ble_eq_true rfl), (Nat.le_of_ble_eq_true rfl)⟩) hE hb0 hP hS rfl hl.1 rfl (Nat.le_of_ble_eq_true rfl) dX7_init_31 ⟨(Nat.le_of_ble_eq_true rfl), (Nat.le_of_ble_eq_true rfl)⟩) hS (fun u_9 H locs hu_9 hP hS => ?_)
  obtain ⟨al, c⟩ := u_9
  have hP : mP G al c H := hP
  obtain ⟨hB200, hcx0, hax0⟩ := hu_9
  dsimp only at hB200 hcx0 hax0
  have e1 : c 0 = some (.inr (8, [.ref (al 1), .ref (al 100), .null])) := by rw [hcx0 0 (by omega), hax0 1 (by omega), hax0 100 (by omega)]; exact e1
  have l_3 : gLs G al c 1 2 0 (fun i => i) := (gLs_al (gLs_cv l_3 (hcx0 _ (by omega)) (hcx0 _ (by omega))) (hax0 _ (by omega)) (fun z9 hz9 => absurd hz9 (by omega)))
  have hB100 : gUB G al k 100 0 0 c := gUB_o hB100 (by decide) (by decide) (fun j hj => absurd hj (by omega)) (fun i h1 h2 => hcx0 i (by omega)) (fun i h1 h2 => hax0 i (by omega))
  have hfc : ∀ i, (300 ≤ i) → c i = c0 i := fun i hi => (hcx0 i (by omega)).trans (hfc i hi)
  have hfa : ∀ i, (300 ≤ i ∨ i = 0) → al i = al0 i := fun i hi => (hax0 i (by omega)).trans (hfa i hi)
  have hl : lv_has ls 1 [(0, .ref (al 0))] := by rw [hax0 0 (by omega)]; exact hl
  rw [← hax0 0 (by omega)]
  rw [← hax0 200 (by omega)]
  refine m_putF (v := .ref (al 200)) (ty := .object "JetWaltz$Show") (C := RX7) (T := TX7) (N := 3) (ci := 8) hx hb hts uX7 tyX7 tyX7_ok nmX7 hown hE hP hS 0 rfl e1 rfl 2 (by decide) (hts _ q369) (fun _ h9 => h9) rfl hin rfl (by decide +kernel) rfl rfl (Nat.le_of_ble_eq_true rfl) dX7_init_34 (fun H locs hP hS => ?_)
  have hP : mP G al (up c 0 (.inr (8, [.ref (al 1), .ref (al 100), .ref (al 200)]))) H := hP
  have hcx0 : ∀ x, x ≠ 0 → (up c 0 (.inr (8, [.ref (al 1), .ref (al 100), .ref (al 200)]))) x = c x := fun x hx => up_n _ _ hx
  have hcs0 : (up c 0 (.inr (8, [.ref (al 1), .ref (al 100), .ref (al 200)]))) 0 = some (.inr (8, [.ref (al 1), .ref (al 100), .ref (al 200)])) := up_s _ _ _
  obtain ⟨c, hcu⟩ : ∃ z, z = up c 0 (.inr (8, [.ref (al 1), .ref (al 100), .ref (al 200)])) := ⟨_, rfl⟩
  rw [← hcu] at hcx0 hcs0 hP
  have l_3 : gLs G al c 1 2 0 (fun i => i) := (gLs_cv l_3 (hcx0 _ (by decide)) (hcx0 _ (by decide)))
  have hB100 : gUB G al k 100 0 0 c := gUB_o hB100 (by decide) (by decide) (fun j hj => absurd hj (by omega)) (fun i h1 h2 => hcx0 i (by omega)) (fun i h1 h2 => rfl)
  have hB200 : gUB G al k 200 0 0 c := gUB_o hB200 (by decide) (by decide) (fun j hj => absurd hj (by omega)) (fun i h1 h2 => hcx0 i (by omega)) (fun i h1 h2 => rfl)
  have hfc : ∀ i, (300 ≤ i) → c i = c0 i := fun i hi => (hcx0 i (by omega)).trans (hfc i hi)
  have e1 : c 0 = some (.inr (8, [.ref (al 1), .ref (al 100), .ref (al 200)])) := hcs0
  refine W.widen (k := 17) (n := 111) (Nat.le_of_ble_eq_true rfl) (Nat.le_of_ble_eq_true rfl) ?_
  exact W.vret hx hb hr (fun tz htz hW => ⟨⟨(al, c), rfl, ⟨⟨e1, hB100, hB200, ⟨gLs_al l_3 rfl (fun i hi => absurd hi (by omega)), fun f hf => absurd hf (by omega), fun f sx hf => absurd hf (by omega)⟩, (hfc 999 (by omega)).trans ((congrFun hc0 999).trans u9)⟩, fun z hz => (hfa z (by omega)).trans (congrFun hal0 z)⟩, g_end htz hP⟩, hS.F htz⟩) hS.2.2 dX7_init_37
