set_option maxHeartbeats 4000000 in
set_option maxRecDepth 100000 in
theorem kX7_nearer (l : Launch) (G : gT) (al : Nat → Nat) (c : mC) (a : Int32) (b : Int32)  : Met l yX7_nearer (fW yX7_nearer cX7_nearer 2 (some .int)) { frames := 0, cells := 0, slots := 0, locals := 0 } (gPre G al (c) [.int a, .int b]) (gQi (S := Unit) G (fun _ => mNear a b) (fun _ => al) (fun _ => c)) 0 0 (gA G) := by
  refine Met.ofW (cc := cX7_nearer) (maxL := 2) (ret := (some .int)) (by decide) rfl ?_
  intro pz ez s m args below meth c₀ s₁ Bo hml hv
  obtain ⟨rfl, hb0, hP, hE⟩ := hv
  have hx := Bo.exec
  have hb := Bo.bytes
  have hr := Bo.returns
  have hts0 := atoms_spec (ws := (fW yX7_nearer cX7_nearer 2 (some .int))) Bo.pre
  have hts : ∀ w ∈ fA, w.before _ s = true := fun w h => hts0 w (List.mem_cons_of_mem _ h)
  have hown : s.vm.findClass RX7 = some m.cls := findClass_of_methodNamed Bo.named
  have hlocks := Bo.notSynchronized
  have hl := lv_entry ([.int a, .int b]) (n := 2) (Nat.le_of_ble_eq_true rfl)
  rw [lg_entry_eq]
  generalize (lg_sl ([.int a, .int b]) ++ List.replicate (2 - (lg_sl ([.int a, .int b])).length) Slot.unset).toArray = ls at hl ⊢
  have hl : lv_has ls 2 [(0, .int a), (1, .int b)] := hl
  refine g_start hP (fun H hP hS => ?_)
  refine lv_iload_n hx hb dX7_nearer_0 rfl (lv_at hl 0 rfl) ?_
  refine lv_iload_n hx hb dX7_nearer_1 rfl (lv_at hl 1 rfl) ?_
  refine lv_icmp_ge (tgt := 11) hx hb dX7_nearer_2 (by decide) (fun hc_1 => ?_) (fun hc_1 => ?_)
  · skip
    refine lv_iload_n hx hb dX7_nearer_11 rfl (lv_at hl 0 rfl) ?_
    refine lv_iload_n hx hb dX7_nearer_12 rfl (lv_at hl 1 rfl) ?_
    refine lv_icmp_le (tgt := 22) hx hb dX7_nearer_13 (by decide) (fun hc_2 => ?_) (fun hc_2 => ?_)
    · skip
      refine lv_iload_n hx hb dX7_nearer_22 rfl (lv_at hl 1 rfl) ?_
      refine W.widen (k := 0) (n := 0) (Nat.le_of_ble_eq_true rfl) (Nat.le_of_ble_eq_true rfl) ?_
      exact W.iret (v := b) hx hb hr (fun tz htz hW => ⟨⟨b, (), rfl, (by unfold mNear; rw [if_pos hc_1, if_pos hc_2]; try rfl), g_end htz hP⟩, hS.F htz⟩) hS.2.2 dX7_nearer_23
    · skip
      refine lv_iload_n hx hb dX7_nearer_16 rfl (lv_at hl 0 rfl) ?_
      refine lv_iconst (v := 1) hx hb dX7_nearer_17 (by decide) ?_
      refine lv_isub hx hb dX7_nearer_18 ?_
      refine lv_goto (tgt := 23) hx hb dX7_nearer_19 (by decide) ?_
      refine W.widen (k := 0) (n := 0) (Nat.le_of_ble_eq_true rfl) (Nat.le_of_ble_eq_true rfl) ?_
      exact W.iret (v := a - 1) hx hb hr (fun tz htz hW => ⟨⟨a - 1, (), rfl, (by unfold mNear; rw [if_pos hc_1, if_neg hc_2]; try rfl), g_end htz hP⟩, hS.F htz⟩) hS.2.2 dX7_nearer_23
  · skip
    refine lv_iload_n hx hb dX7_nearer_5 rfl (lv_at hl 0 rfl) ?_
    refine lv_iconst (v := 1) hx hb dX7_nearer_6 (by decide) ?_
    refine lv_iadd hx hb dX7_nearer_7 ?_
    refine lv_goto (tgt := 23) hx hb dX7_nearer_8 (by decide) ?_
    refine W.widen (k := 0) (n := 0) (Nat.le_of_ble_eq_true rfl) (Nat.le_of_ble_eq_true rfl) ?_
    exact W.iret (v := a + 1) hx hb hr (fun tz htz hW => ⟨⟨a + 1, (), rfl, (by unfold mNear; rw [if_neg hc_1]; try rfl), g_end htz hP⟩, hS.F htz⟩) hS.2.2 dX7_nearer_23
set_option maxHeartbeats 4000000 in
set_option maxRecDepth 100000 in
theorem kX7_pressureBy (l : Launch) (G : gT) (al : Nat → Nat) (c : mC) (d : Int32) (w : Int32) (f : Int32)  : Met l yX7_pressureBy (fW yX7_pressureBy cX7_pressureBy 4 (some .int)) { frames := 0, cells := 0, slots := 0, locals := 0 } (gPre G al (c) [.int d, .int w, .int f]) (gQi (S := Unit) G (fun _ => mPby d w f) (fun _ => al) (fun _ => c)) 0 0 (gA G) := by
  refine Met.ofW (cc := cX7_pressureBy) (maxL := 4) (ret := (some .int)) (by decide) rfl ?_
  intro pz ez s m args below meth c₀ s₁ Bo hml hv
  obtain ⟨rfl, hb0, hP, hE⟩ := hv
  have hx := Bo.exec
  have hb := Bo.bytes
  have hr := Bo.returns
  have hts0 := atoms_spec (ws := (fW yX7_pressureBy cX7_pressureBy 4 (some .int))) Bo.pre
  have hts : ∀ w ∈ fA, w.before _ s = true := fun w h => hts0 w (List.mem_cons_of_mem _ h)
  have hown : s.vm.findClass RX7 = some m.cls := findClass_of_methodNamed Bo.named
  have hlocks := Bo.notSynchronized
  have hl := lv_entry ([.int d, .int w, .int f]) (n := 4) (Nat.le_of_ble_eq_true rfl)
  rw [lg_entry_eq]
  generalize (lg_sl ([.int d, .int w, .int f]) ++ List.replicate (4 - (lg_sl ([.int d, .int w, .int f])).length) Slot.unset).toArray = ls at hl ⊢
  have hl : lv_has ls 4 [(0, .int d), (1, .int w), (2, .int f)] := hl
  refine g_start hP (fun H hP hS => ?_)
  refine lv_bipush (v := 20) hx hb dX7_pressureBy_0 (by decide) ?_
  refine lv_iload_n hx hb dX7_pressureBy_2 rfl (lv_at hl 2 rfl) ?_
  refine lv_iadd hx hb dX7_pressureBy_3 ?_
  refine lv_istore_n (lv' := [(3, .int (20 + f)), (0, .int d), (1, .int w), (2, .int f)]) hx hb dX7_pressureBy_4 rfl hl (by decide) rfl (fun ls hl => ?_)
  refine lv_iload_n hx hb dX7_pressureBy_5 rfl (lv_at hl 0 rfl) ?_
  refine lv_if_le (tgt := 20) hx hb dX7_pressureBy_6 (by decide) (fun hc_1 => ?_) (fun hc_1 => ?_)
  · skip
    refine lv_iconst (v := 0) hx hb dX7_pressureBy_20 (by decide) ?_
    refine W.widen (k := 0) (n := 0) (Nat.le_of_ble_eq_true rfl) (Nat.le_of_ble_eq_true rfl) ?_
    exact W.iret (v := 0) hx hb hr (fun tz htz hW => ⟨⟨0, (), rfl, (by unfold mPby; rw [if_pos hc_1]; try rfl), g_end htz hP⟩, hS.F htz⟩) hS.2.2 dX7_pressureBy_21
  · skip
    refine lv_bipush (v := 10) hx hb dX7_pressureBy_9 (by decide) ?_
    refine lv_iload_n hx hb dX7_pressureBy_11 rfl (lv_at hl 1 rfl) ?_
    refine lv_imul hx hb dX7_pressureBy_12 ?_
    refine lv_iload_n hx hb dX7_pressureBy_13 rfl (lv_at hl 2 rfl) ?_
    refine lv_imul hx hb dX7_pressureBy_14 ?_
    refine lv_iload_n hx hb dX7_pressureBy_15 rfl (lv_at hl 0 rfl) ?_
    refine lv_idiv hx hb dX7_pressureBy_16 (fun h9 => hc_1 (by rw [h9]; decide)) ?_
    refine lv_goto (tgt := 21) hx hb dX7_pressureBy_17 (by decide) ?_
    refine W.widen (k := 0) (n := 0) (Nat.le_of_ble_eq_true rfl) (Nat.le_of_ble_eq_true rfl) ?_
    exact W.iret (v := ((10 * d) * w) / (20 + f)) hx hb hr (fun tz htz hW => ⟨⟨((10 * d) * w) / (20 + f), (), rfl, (by unfold mPby; rw [if_neg hc_1]; try rfl), g_end htz hP⟩, hS.F htz⟩) hS.2.2 dX7_pressureBy_21
set_option maxHeartbeats 4000000 in
set_option maxRecDepth 100000 in
theorem kX7_heightBy (l : Launch) (G : gT) (al : Nat → Nat) (c : mC) (v : Int32) (u : Int32)  : Met l yX7_heightBy (fW yX7_heightBy cX7_heightBy 2 (some .int)) { frames := 1, cells := 0, slots := 0, locals := 13 } (gPre G al (c) [.int v, .int u]) (gQi (S := Unit) G (fun _ => mHby v u) (fun _ => al) (fun _ => c)) 0 0 (gA G) := by
  refine Met.ofW (cc := cX7_heightBy) (maxL := 2) (ret := (some .int)) (by decide) rfl ?_
  intro pz ez s m args below meth c₀ s₁ Bo hml hv
  obtain ⟨rfl, hb0, hP, hE⟩ := hv
  have hx := Bo.exec
  have hb := Bo.bytes
  have hr := Bo.returns
  have hts0 := atoms_spec (ws := (fW yX7_heightBy cX7_heightBy 2 (some .int))) Bo.pre
  have hts : ∀ w ∈ fA, w.before _ s = true := fun w h => hts0 w (List.mem_cons_of_mem _ h)
  have hown : s.vm.findClass RX7 = some m.cls := findClass_of_methodNamed Bo.named
  have hlocks := Bo.notSynchronized
  have hl := lv_entry ([.int v, .int u]) (n := 2) (Nat.le_of_ble_eq_true rfl)
  rw [lg_entry_eq]
  generalize (lg_sl ([.int v, .int u]) ++ List.replicate (2 - (lg_sl ([.int v, .int u])).length) Slot.unset).toArray = ls at hl ⊢
  have hl : lv_has ls 2 [(0, .int v), (1, .int u)] := hl
  refine g_start hP (fun H hP hS => ?_)
  refine lv_bipush (v := 60) hx hb dX7_heightBy_0 (by decide) ?_
  refine lv_iload_n hx hb dX7_heightBy_2 rfl (lv_at hl 0 rfl) ?_
  refine lv_iload_n hx hb dX7_heightBy_3 rfl (lv_at hl 1 rfl) ?_
  refine lv_imul hx hb dX7_heightBy_4 ?_
  refine lv_iconst (v := 4) hx hb dX7_heightBy_5 (by decide) ?_
  refine lv_idiv hx hb dX7_heightBy_6 (by decide) ?_
  refine va_mmin hx hb (hml.trans hl.1.symm) hown (hts _ q206) (hts _ q95) (hts _ q87) (hts _ q96) (Nat.le_of_ble_eq_true rfl) (Nat.le_of_ble_eq_true rfl) (Nat.le_of_ble_eq_true rfl) (Nat.le_of_ble_eq_true rfl) dX7_heightBy_7 ?_
  refine W.widen (k := 0) (n := 0) (Nat.le_of_ble_eq_true rfl) (Nat.le_of_ble_eq_true rfl) ?_
  exact W.iret (v := if ((v * u) / 4) < 60 then ((v * u) / 4) else 60) hx hb hr (fun tz htz hW => ⟨⟨if ((v * u) / 4) < 60 then ((v * u) / 4) else 60, (), rfl, (by unfold mHby; rfl), g_end htz hP⟩, hS.F htz⟩) hS.2.2 dX7_heightBy_10
set_option maxHeartbeats 4000000 in
set_option maxRecDepth 100000 in
theorem kX7_airTime (l : Launch) (G : gT) (al : Nat → Nat) (c : mC) (v : Int32)  : Met l yX7_airTime (fW yX7_airTime cX7_airTime 1 (some .int)) { frames := 0, cells := 0, slots := 0, locals := 0 } (gPre G al (c) [.int v]) (gQi (S := Unit) G (fun _ => mAir v) (fun _ => al) (fun _ => c)) 0 0 (gA G) := by
  refine Met.ofW (cc := cX7_airTime) (maxL := 1) (ret := (some .int)) (by decide) rfl ?_
  intro pz ez s m args below meth c₀ s₁ Bo hml hv
  obtain ⟨rfl, hb0, hP, hE⟩ := hv
  have hx := Bo.exec
  have hb := Bo.bytes
  have hr := Bo.returns
  have hts0 := atoms_spec (ws := (fW yX7_airTime cX7_airTime 1 (some .int))) Bo.pre
  have hts : ∀ w ∈ fA, w.before _ s = true := fun w h => hts0 w (List.mem_cons_of_mem _ h)
  have hown : s.vm.findClass RX7 = some m.cls := findClass_of_methodNamed Bo.named
  have hlocks := Bo.notSynchronized
  have hl := lv_entry ([.int v]) (n := 1) (Nat.le_of_ble_eq_true rfl)
  rw [lg_entry_eq]
  generalize (lg_sl ([.int v]) ++ List.replicate (1 - (lg_sl ([.int v])).length) Slot.unset).toArray = ls at hl ⊢
  have hl : lv_has ls 1 [(0, .int v)] := hl
  refine g_start hP (fun H hP hS => ?_)
  refine lv_iconst (v := 2) hx hb dX7_airTime_0 (by decide) ?_
  refine lv_iload_n hx hb dX7_airTime_1 rfl (lv_at hl 0 rfl) ?_
  refine lv_bipush (v := 10) hx hb dX7_airTime_2 (by decide) ?_
  refine lv_idiv hx hb dX7_airTime_4 (by decide) ?_
  refine lv_iadd hx hb dX7_airTime_5 ?_
  refine W.widen (k := 0) (n := 0) (Nat.le_of_ble_eq_true rfl) (Nat.le_of_ble_eq_true rfl) ?_
  exact W.iret (v := 2 + (v / 10)) hx hb hr (fun tz htz hW => ⟨⟨2 + (v / 10), (), rfl, (by unfold mAir; rfl), g_end htz hP⟩, hS.F htz⟩) hS.2.2 dX7_airTime_6
set_option maxHeartbeats 4000000 in
set_option maxRecDepth 100000 in
theorem kX0_slotOf (l : Launch) (G : gT) (al : Nat → Nat) (c : mC) (v : Int32)  : Met l yX0_slotOf (fW yX0_slotOf cX0_slotOf 1 (some .int)) { frames := 1, cells := 0, slots := 0, locals := 22 } (gPre G al (c) [.int v]) (gQi (S := Unit) G (fun _ => mFm v 9) (fun _ => al) (fun _ => c)) 0 0 (gA G) := by
  refine Met.ofW (cc := cX0_slotOf) (maxL := 1) (ret := (some .int)) (by decide) rfl ?_
  intro pz ez s m args below meth c₀ s₁ Bo hml hv
  obtain ⟨rfl, hb0, hP, hE⟩ := hv
  have hx := Bo.exec
  have hb := Bo.bytes
  have hr := Bo.returns
  have hts0 := atoms_spec (ws := (fW yX0_slotOf cX0_slotOf 1 (some .int))) Bo.pre
  have hts : ∀ w ∈ fA, w.before _ s = true := fun w h => hts0 w (List.mem_cons_of_mem _ h)
  have hown : s.vm.findClass RX0 = some m.cls := findClass_of_methodNamed Bo.named
  have hlocks := Bo.notSynchronized
  have hl := lv_entry ([.int v]) (n := 1) (Nat.le_of_ble_eq_true rfl)
  rw [lg_entry_eq]
  generalize (lg_sl ([.int v]) ++ List.replicate (1 - (lg_sl ([.int v])).length) Slot.unset).toArray = ls at hl ⊢
  have hl : lv_has ls 1 [(0, .int v)] := hl
  refine g_start hP (fun H hP hS => ?_)
  refine lv_iload_n hx hb dX0_slotOf_0 rfl (lv_at hl 0 rfl) ?_
  refine lv_bipush (v := 9) hx hb dX0_slotOf_1 (by decide) ?_
  refine g_aft_i (g_runS (As := [.int v, .int 9]) (rest := []) hx hb hml hown hts (kJ9_floorMod_7cf53 l G al c v 9 (by decide)) (fcwS 2 hts q10 q11 q12 q8 rfl rfl (by decide +kernel) ⟨(Nat.le_of_ble_eq_true rfl), (Nat.le_of_ble_eq_true rfl)⟩) hE hb0 hP hS rfl hl.1 rfl (Nat.le_of_ble_eq_true rfl) dX0_slotOf_3 ⟨(Nat.le_of_ble_eq_true rfl), (Nat.le_of_ble_eq_true rfl)⟩) hS (fun u H locs hP hS => ?_)
  refine f_topi (v := mFm v 9) rfl ?_
  refine W.widen (k := 0) (n := 0) (Nat.le_of_ble_eq_true rfl) (Nat.le_of_ble_eq_true rfl) ?_
  exact W.iret (v := mFm v 9) hx hb hr (fun tz htz hW => ⟨⟨mFm v 9, (), rfl, rfl, g_end htz hP⟩, hS.F htz⟩) hS.2.2 dX0_slotOf_6
set_option maxHeartbeats 4000000 in
set_option maxRecDepth 100000 in
theorem kX4_setTo (l : Launch) (G : gT) (al : Nat → Nat) (k : gC) (h : gK) (B : Nat) (c : mC) (g : St) (p : Nat) (v : Int32) (hp : p < 2) : Met l yX4_setTo (fW yX4_setTo cX4_setTo 2 none) { frames := 0, cells := 0, slots := 0, locals := 0 } (gPre G al (ov G al k B c g) [.ref (al (B + 11 + p)), .int v]) (gQv (S := Unit) G (fun _ => al) (fun _ => ov G al k B c (mSetTo g p v))) 0 0 (gA G) := by
  refine Met.ofW (cc := cX4_setTo) (maxL := 2) (ret := none) (by decide) rfl ?_
  intro pz ez s m args below meth c₀ s₁ Bo hml hv
  obtain ⟨rfl, hb0, hP, hE⟩ := hv
  have hx := Bo.exec
  have hb := Bo.bytes
  have hr := Bo.returns
  have hts0 := atoms_spec (ws := (fW yX4_setTo cX4_setTo 2 none)) Bo.pre
  have hts : ∀ w ∈ fA, w.before _ s = true := fun w h => hts0 w (List.mem_cons_of_mem _ h)
  have hown : s.vm.findClass RX4 = some m.cls := findClass_of_methodNamed Bo.named
  have hlocks := Bo.notSynchronized
  have hl := lv_entry ([.ref (al (B + 11 + p)), .int v]) (n := 2) (Nat.le_of_ble_eq_true rfl)
  rw [lg_entry_eq]
  generalize (lg_sl ([.ref (al (B + 11 + p)), .int v]) ++ List.replicate (2 - (lg_sl ([.ref (al (B + 11 + p)), .int v])).length) Slot.unset).toArray = ls at hl ⊢
  have hl : lv_has ls 2 [(0, .ref (al (B + 11 + p))), (1, .int v)] := hl
  refine g_start hP (fun H hP hS => ?_)
  refine lv_aload_n hx hb dX4_setTo_0 rfl (lv_at hl 0 rfl) ?_
  refine m_get (C := RX4) (T := TX4) (N := 6) (ci := 5) (v := .int (bz (g (1 + p) 4))) hx hb hts uX4 hown hE hP (B + 11 + p) rfl (ov_p hp) rfl 4 (by decide) (hts _ q153) (fun _ h9 => h9) rfl dX4_setTo_1 ?_
  refine lv_if_ne (tgt := 12) hx hb dX4_setTo_4 (by decide) (fun hc_1 => ?_) (fun hc_1 => ?_)
  · skip
    have hP : mP G al (ov G al k B c (mSetTo g p v)) H := m_cv hP (show ov G al k B c g = ov G al k B c (mSetTo g p v) from (by unfold mSetTo; rw [if_neg hc_1]; try rfl))
    refine W.widen (k := 0) (n := 0) (Nat.le_of_ble_eq_true rfl) (Nat.le_of_ble_eq_true rfl) ?_
    exact W.vret hx hb hr (fun tz htz hW => ⟨⟨(), rfl, trivial, g_end htz hP⟩, hS.F htz⟩) hS.2.2 dX4_setTo_12
  · skip
    refine lv_aload_n hx hb dX4_setTo_7 rfl (lv_at hl 0 rfl) ?_
    refine lv_iload_n hx hb dX4_setTo_8 rfl (lv_at hl 1 rfl) ?_
    refine m_put (v := .int v) (ty := .int) (C := RX4) (T := TX4) (N := 6) (ci := 5) hx hb hts uX4 tyX4 tyX4_ok nmX4 hown hE hP hS (B + 11 + p) rfl (ov_p hp) rfl 2 (by decide) (hts _ q154) (fun _ h9 => h9) rfl (by decide +kernel) rfl rfl (Nat.le_of_ble_eq_true rfl) dX4_setTo_9 (fun H locs hP hS => ?_)
    have hP := m_cv hP (ov_up (r := upd (g (1 + p)) 2 v) hp rfl)
    have hP : mP G al (ov G al k B c (s2 g (1 + p) 2 v)) H := hP
    have hP : mP G al (ov G al k B c (mSetTo g p v)) H := m_cv hP (show ov G al k B c (s2 g (1 + p) 2 v) = ov G al k B c (mSetTo g p v) from (by unfold mSetTo; rw [if_pos hc_1]; try rfl))
    refine W.widen (k := 0) (n := 0) (Nat.le_of_ble_eq_true rfl) (Nat.le_of_ble_eq_true rfl) ?_
    exact W.vret hx hb hr (fun tz htz hW => ⟨⟨(), rfl, trivial, g_end htz hP⟩, hS.F htz⟩) hS.2.2 dX4_setTo_12
set_option maxHeartbeats 4000000 in
set_option maxRecDepth 100000 in
theorem kX4_turn (l : Launch) (G : gT) (al : Nat → Nat) (k : gC) (h : gK) (B : Nat) (c : mC) (g : St) (p : Nat) (hp : p < 2) : Met l yX4_turn (fW yX4_turn cX4_turn 1 none) { frames := 1, cells := 0, slots := 0, locals := 21 } (gPre G al (ov G al k B c g) [.ref (al (B + 11 + p))]) (gQv (S := Unit) G (fun _ => al) (fun _ => ov G al k B c (mPTurn g p))) 0 0 (gA G) := by
  refine Met.ofW (cc := cX4_turn) (maxL := 1) (ret := none) (by decide) rfl ?_
  intro pz ez s m args below meth c₀ s₁ Bo hml hv
  obtain ⟨rfl, hb0, hP, hE⟩ := hv
  have hx := Bo.exec
  have hb := Bo.bytes
  have hr := Bo.returns
  have hts0 := atoms_spec (ws := (fW yX4_turn cX4_turn 1 none)) Bo.pre
  have hts : ∀ w ∈ fA, w.before _ s = true := fun w h => hts0 w (List.mem_cons_of_mem _ h)
  have hown : s.vm.findClass RX4 = some m.cls := findClass_of_methodNamed Bo.named
  have hlocks := Bo.notSynchronized
  have hl := lv_entry ([.ref (al (B + 11 + p))]) (n := 1) (Nat.le_of_ble_eq_true rfl)
  rw [lg_entry_eq]
  generalize (lg_sl ([.ref (al (B + 11 + p))]) ++ List.replicate (1 - (lg_sl ([.ref (al (B + 11 + p))])).length) Slot.unset).toArray = ls at hl ⊢
  have hl : lv_has ls 1 [(0, .ref (al (B + 11 + p)))] := hl
  refine g_start hP (fun H hP hS => ?_)
  refine lv_aload_n hx hb dX4_turn_0 rfl (lv_at hl 0 rfl) ?_
  refine m_get (C := RX4) (T := TX4) (N := 6) (ci := 5) (v := .int (bz (g (1 + p) 4))) hx hb hts uX4 hown hE hP (B + 11 + p) rfl (ov_p hp) rfl 4 (by decide) (hts _ q153) (fun _ h9 => h9) rfl dX4_turn_1 ?_
  refine lv_if_ne (tgt := 22) hx hb dX4_turn_4 (by decide) (fun hc_1 => ?_) (fun hc_1 => ?_)
  · skip
    have hP : mP G al (ov G al k B c (mPTurn g p)) H := m_cv hP (show ov G al k B c g = ov G al k B c (mPTurn g p) from (by unfold mPTurn; rw [if_neg hc_1]; try rfl))
    refine W.widen (k := 0) (n := 0) (Nat.le_of_ble_eq_true rfl) (Nat.le_of_ble_eq_true rfl) ?_
    exact W.vret hx hb hr (fun tz htz hW => ⟨⟨(), rfl, trivial, g_end htz hP⟩, hS.F htz⟩) hS.2.2 dX4_turn_22
  · skip
    refine lv_aload_n hx hb dX4_turn_7 rfl (lv_at hl 0 rfl) ?_
    refine lv_aload_n hx hb dX4_turn_8 rfl (lv_at hl 0 rfl) ?_
    refine m_get (C := RX4) (T := TX4) (N := 6) (ci := 5) (v := .int (g (1 + p) 3)) hx hb hts uX4 hown hE hP (B + 11 + p) rfl (ov_p hp) rfl 3 (by decide) (hts _ q167) (fun _ h9 => h9) rfl dX4_turn_9 ?_
    refine lv_aload_n hx hb dX4_turn_12 rfl (lv_at hl 0 rfl) ?_
    refine m_get (C := RX4) (T := TX4) (N := 6) (ci := 5) (v := .int (g (1 + p) 2)) hx hb hts uX4 hown hE hP (B + 11 + p) rfl (ov_p hp) rfl 2 (by decide) (hts _ q154) (fun _ h9 => h9) rfl dX4_turn_13 ?_
    refine g_aft_i (g_runSN (As := [.int (g (1 + p) 3), .int (g (1 + p) 2)]) (rest := [.ref (al (B + 11 + p))]) hx hb hml hown hts (kX7_nearer l G al (ov G al k B c g) (g (1 + p) 3) (g (1 + p) 2)) (fcwSN 2 hts (hE.1.1.2.2.2.2.1 (RX4, 26, yX7_nearer, RX7) (by decide +kernel)) q147 q148 q143 rfl rfl (by decide +kernel) ⟨(Nat.le_of_ble_eq_true rfl), (Nat.le_of_ble_eq_true rfl)⟩) hE hb0 hP hS rfl hl.1 rfl (Nat.le_of_ble_eq_true rfl) dX4_turn_16 ⟨(Nat.le_of_ble_eq_true rfl), (Nat.le_of_ble_eq_true rfl)⟩) hS (fun u H locs hP hS => ?_)
    refine f_topi (v := mNear (g (1 + p) 3) (g (1 + p) 2)) rfl ?_
    refine m_put (v := .int (mNear (g (1 + p) 3) (g (1 + p) 2))) (ty := .int) (C := RX4) (T := TX4) (N := 6) (ci := 5) hx hb hts uX4 tyX4 tyX4_ok nmX4 hown hE hP hS (B + 11 + p) rfl (ov_p hp) rfl 3 (by decide) (hts _ q167) (fun _ h9 => h9) rfl (by decide +kernel) rfl rfl (Nat.le_of_ble_eq_true rfl) dX4_turn_19 (fun H locs hP hS => ?_)
    have hP := m_cv hP (ov_up (r := upd (g (1 + p)) 3 (mNear (g (1 + p) 3) (g (1 + p) 2))) hp rfl)
    have hP : mP G al (ov G al k B c (s2 g (1 + p) 3 (mNear (g (1 + p) 3) (g (1 + p) 2)))) H := hP
    have hP : mP G al (ov G al k B c (mPTurn g p)) H := m_cv hP (show ov G al k B c (s2 g (1 + p) 3 (mNear (g (1 + p) 3) (g (1 + p) 2))) = ov G al k B c (mPTurn g p) from (by unfold mPTurn; rw [if_pos hc_1]; try rfl))
    refine W.widen (k := 0) (n := 0) (Nat.le_of_ble_eq_true rfl) (Nat.le_of_ble_eq_true rfl) ?_
    exact W.vret hx hb hr (fun tz htz hW => ⟨⟨(), rfl, trivial, g_end htz hP⟩, hS.F htz⟩) hS.2.2 dX4_turn_22
set_option maxHeartbeats 4000000 in
set_option maxRecDepth 100000 in
theorem kX4_trip (l : Launch) (G : gT) (al : Nat → Nat) (k : gC) (h : gK) (B : Nat) (c : mC) (g : St) (p : Nat) (hp : p < 2) : Met l yX4_trip (fW yX4_trip cX4_trip 1 none) { frames := 0, cells := 0, slots := 0, locals := 0 } (gPre G al (ov G al k B c g) [.ref (al (B + 11 + p))]) (gQv (S := Unit) G (fun _ => al) (fun _ => ov G al k B c (mTrip g p))) 0 0 (gA G) := by
  refine Met.ofW (cc := cX4_trip) (maxL := 1) (ret := none) (by decide) rfl ?_
  intro pz ez s m args below meth c₀ s₁ Bo hml hv
  obtain ⟨rfl, hb0, hP, hE⟩ := hv
  have hx := Bo.exec
  have hb := Bo.bytes
  have hr := Bo.returns
  have hts0 := atoms_spec (ws := (fW yX4_trip cX4_trip 1 none)) Bo.pre
  have hts : ∀ w ∈ fA, w.before _ s = true := fun w h => hts0 w (List.mem_cons_of_mem _ h)
  have hown : s.vm.findClass RX4 = some m.cls := findClass_of_methodNamed Bo.named
  have hlocks := Bo.notSynchronized
  have hl := lv_entry ([.ref (al (B + 11 + p))]) (n := 1) (Nat.le_of_ble_eq_true rfl)
  rw [lg_entry_eq]
  generalize (lg_sl ([.ref (al (B + 11 + p))]) ++ List.replicate (1 - (lg_sl ([.ref (al (B + 11 + p))])).length) Slot.unset).toArray = ls at hl ⊢
  have hl : lv_has ls 1 [(0, .ref (al (B + 11 + p)))] := hl
  refine g_start hP (fun H hP hS => ?_)
  refine lv_aload_n hx hb dX4_trip_0 rfl (lv_at hl 0 rfl) ?_
  refine lv_iconst (v := 1) hx hb dX4_trip_1 (by decide) ?_
  refine m_put (v := .int 1) (ty := .boolean) (C := RX4) (T := TX4) (N := 6) (ci := 5) hx hb hts uX4 tyX4 tyX4_ok nmX4 hown hE hP hS (B + 11 + p) rfl (ov_p hp) rfl 4 (by decide) (hts _ q153) (fun _ h9 => h9) rfl (by decide +kernel) (by decide) (by decide) (Nat.le_of_ble_eq_true rfl) dX4_trip_2 (fun H locs hP hS => ?_)
  have hP := m_cv hP (ov_up (r := upd (g (1 + p)) 4 1) hp rfl)
  have hP : mP G al (ov G al k B c (s2 g (1 + p) 4 1)) H := hP
  refine lv_aload_n hx hb dX4_trip_5 rfl (lv_at hl 0 rfl) ?_
  refine lv_dup hx hb dX4_trip_6 rfl ?_
  refine m_get (C := RX4) (T := TX4) (N := 6) (ci := 5) (v := .int ((s2 g (1 + p) 4 1) (1 + p) 5)) hx hb hts uX4 hown hE hP (B + 11 + p) rfl (ov_p hp) rfl 5 (by decide) (hts _ q169) (fun _ h9 => h9) rfl dX4_trip_7 ?_
  refine f_topi (v := g (1 + p) 5) (s2_k _ _ _ (by decide)) ?_
  refine lv_iconst (v := 1) hx hb dX4_trip_10 (by decide) ?_
  refine lv_iadd hx hb dX4_trip_11 ?_
  refine m_put (v := .int ((g (1 + p) 5) + 1)) (ty := .int) (C := RX4) (T := TX4) (N := 6) (ci := 5) hx hb hts uX4 tyX4 tyX4_ok nmX4 hown hE hP hS (B + 11 + p) rfl (ov_p hp) rfl 5 (by decide) (hts _ q169) (fun _ h9 => h9) rfl (by decide +kernel) rfl rfl (Nat.le_of_ble_eq_true rfl) dX4_trip_12 (fun H locs hP hS => ?_)
  have hP := m_cv hP (ov_up (r := upd ((s2 g (1 + p) 4 1) (1 + p)) 5 ((g (1 + p) 5) + 1)) hp rfl)
  have hP : mP G al (ov G al k B c (s2 (s2 g (1 + p) 4 1) (1 + p) 5 ((g (1 + p) 5) + 1))) H := hP
  refine lv_aload_n hx hb dX4_trip_15 rfl (lv_at hl 0 rfl) ?_
  refine lv_iconst (v := 0) hx hb dX4_trip_16 (by decide) ?_
  refine m_put (v := .int 0) (ty := .int) (C := RX4) (T := TX4) (N := 6) (ci := 5) hx hb hts uX4 tyX4 tyX4_ok nmX4 hown hE hP hS (B + 11 + p) rfl (ov_p hp) rfl 3 (by decide) (hts _ q167) (fun _ h9 => h9) rfl (by decide +kernel) rfl rfl (Nat.le_of_ble_eq_true rfl) dX4_trip_17 (fun H locs hP hS => ?_)
  have hP := m_cv hP (ov_up (r := upd ((s2 (s2 g (1 + p) 4 1) (1 + p) 5 ((g (1 + p) 5) + 1)) (1 + p)) 3 0) hp rfl)
  have hP : mP G al (ov G al k B c (s2 (s2 (s2 g (1 + p) 4 1) (1 + p) 5 ((g (1 + p) 5) + 1)) (1 + p) 3 0)) H := hP
  refine lv_aload_n hx hb dX4_trip_20 rfl (lv_at hl 0 rfl) ?_
  refine lv_iconst (v := 0) hx hb dX4_trip_21 (by decide) ?_
  refine m_put (v := .int 0) (ty := .int) (C := RX4) (T := TX4) (N := 6) (ci := 5) hx hb hts uX4 tyX4 tyX4_ok nmX4 hown hE hP hS (B + 11 + p) rfl (ov_p hp) rfl 2 (by decide) (hts _ q154) (fun _ h9 => h9) rfl (by decide +kernel) rfl rfl (Nat.le_of_ble_eq_true rfl) dX4_trip_22 (fun H locs hP hS => ?_)
  have hP := m_cv hP (ov_up (r := upd ((s2 (s2 (s2 g (1 + p) 4 1) (1 + p) 5 ((g (1 + p) 5) + 1)) (1 + p) 3 0) (1 + p)) 2 0) hp rfl)
  have hP : mP G al (ov G al k B c (s2 (s2 (s2 (s2 g (1 + p) 4 1) (1 + p) 5 ((g (1 + p) 5) + 1)) (1 + p) 3 0) (1 + p) 2 0)) H := hP
  have hP : mP G al (ov G al k B c (mTrip g p)) H := m_cv hP (show ov G al k B c (s2 (s2 (s2 (s2 g (1 + p) 4 1) (1 + p) 5 ((g (1 + p) 5) + 1)) (1 + p) 3 0) (1 + p) 2 0) = ov G al k B c (mTrip g p) from (by unfold mTrip; rfl))
  refine W.widen (k := 0) (n := 0) (Nat.le_of_ble_eq_true rfl) (Nat.le_of_ble_eq_true rfl) ?_
  exact W.vret hx hb hr (fun tz htz hW => ⟨⟨(), rfl, trivial, g_end htz hP⟩, hS.F htz⟩) hS.2.2 dX4_trip_25
set_option maxHeartbeats 4000000 in
set_option maxRecDepth 100000 in
theorem kX3_flow (l : Launch) (G : gT) (al : Nat → Nat) (k : gC) (h : gK) (B : Nat) (c : mC) (g : St) (j : Nat) (hj : j < k.1) : Met l yX3_flow (fW yX3_flow cX3_flow 1 (some .int)) { frames := 0, cells := 0, slots := 0, locals := 0 } (gPre G al (ov G al k B c g) [.ref (al (B + 20 + j))]) (gQi (S := Unit) G (fun _ => mFlow k g j) (fun _ => al) (fun _ => ov G al k B c g)) 0 0 (gA G) := by
  refine Met.ofW (cc := cX3_flow) (maxL := 1) (ret := (some .int)) (by decide) rfl ?_
  intro pz ez s m args below meth c₀ s₁ Bo hml hv
  obtain ⟨rfl, hb0, hP, hE⟩ := hv
  have hx := Bo.exec
  have hb := Bo.bytes
  have hr := Bo.returns
  have hts0 := atoms_spec (ws := (fW yX3_flow cX3_flow 1 (some .int))) Bo.pre
  have hts : ∀ w ∈ fA, w.before _ s = true := fun w h => hts0 w (List.mem_cons_of_mem _ h)
  have hown : s.vm.findClass RX3 = some m.cls := findClass_of_methodNamed Bo.named
  have hlocks := Bo.notSynchronized
  have hl := lv_entry ([.ref (al (B + 20 + j))]) (n := 1) (Nat.le_of_ble_eq_true rfl)
  rw [lg_entry_eq]
  generalize (lg_sl ([.ref (al (B + 20 + j))]) ++ List.replicate (1 - (lg_sl ([.ref (al (B + 20 + j))])).length) Slot.unset).toArray = ls at hl ⊢
  have hl : lv_has ls 1 [(0, .ref (al (B + 20 + j)))] := hl
  refine g_start hP (fun H hP hS => ?_)
  refine lv_aload_n hx hb dX3_flow_0 rfl (lv_at hl 0 rfl) ?_
  refine m_get (C := RX3) (T := TX3) (N := 10) (ci := 4) (v := .int (k.2.2 (3 + j) 2)) hx hb hts uX3 hown hE hP (B + 20 + j) rfl (ov_j hj) rfl 2 (by decide) (hts _ q139) (fun _ h9 => h9) rfl dX3_flow_1 ?_
  refine lv_aload_n hx hb dX3_flow_4 rfl (lv_at hl 0 rfl) ?_
  refine m_get (C := RX3) (T := TX3) (N := 10) (ci := 4) (v := .int (g (3 + j) 5)) hx hb hts uX3 hown hE hP (B + 20 + j) rfl (ov_j hj) rfl 5 (by decide) (hts _ q142) (fun _ h9 => h9) rfl dX3_flow_5 ?_
  refine lv_imul hx hb dX3_flow_8 ?_
  refine W.widen (k := 0) (n := 0) (Nat.le_of_ble_eq_true rfl) (Nat.le_of_ble_eq_true rfl) ?_
  exact W.iret (v := (k.2.2 (3 + j) 2) * (g (3 + j) 5)) hx hb hr (fun tz htz hW => ⟨⟨(k.2.2 (3 + j) 2) * (g (3 + j) 5), (), rfl, (by unfold mFlow; rfl), g_end htz hP⟩, hS.F htz⟩) hS.2.2 dX3_flow_9
set_option maxHeartbeats 4000000 in
set_option maxRecDepth 100000 in
theorem kX3_turn (l : Launch) (G : gT) (al : Nat → Nat) (k : gC) (h : gK) (B : Nat) (c : mC) (g : St) (j : Nat) (hF : gF G al k B c) (hj : j < k.1) : Met l yX3_turn (fW yX3_turn cX3_turn 1 none) { frames := 1, cells := 0, slots := 0, locals := 21 } (gPre G al (ov G al k B c g) [.ref (al (B + 20 + j))]) (gQv (S := Unit) G (fun _ => al) (fun _ => ov G al k B c (mJTurn g j))) 0 0 (gA G) := by
  refine Met.ofW (cc := cX3_turn) (maxL := 1) (ret := none) (by decide) rfl ?_
  intro pz ez s m args below meth c₀ s₁ Bo hml hv
  obtain ⟨rfl, hb0, hP, hE⟩ := hv
  have hx := Bo.exec
  have hb := Bo.bytes
  have hr := Bo.returns
  have hts0 := atoms_spec (ws := (fW yX3_turn cX3_turn 1 none)) Bo.pre
  have hts : ∀ w ∈ fA, w.before _ s = true := fun w h => hts0 w (List.mem_cons_of_mem _ h)
  have hown : s.vm.findClass RX3 = some m.cls := findClass_of_methodNamed Bo.named
  have hlocks := Bo.notSynchronized
  have hl := lv_entry ([.ref (al (B + 20 + j))]) (n := 1) (Nat.le_of_ble_eq_true rfl)
  rw [lg_entry_eq]
  generalize (lg_sl ([.ref (al (B + 20 + j))]) ++ List.replicate (1 - (lg_sl ([.ref (al (B + 20 + j))])).length) Slot.unset).toArray = ls at hl ⊢
  have hl : lv_has ls 1 [(0, .ref (al (B + 20 + j)))] := hl
  have hJ := gF_J hF
  refine g_start hP (fun H hP hS => ?_)
  refine lv_aload_n hx hb dX3_turn_0 rfl (lv_at hl 0 rfl) ?_
  refine m_get (C := RX3) (T := TX3) (N := 10) (ci := 4) (v := .int (bz (g (3 + j) 6))) hx hb hts uX3 hown hE hP (B + 20 + j) rfl (ov_j hj) rfl 6 (by decide) (hts _ q145) (fun _ h9 => h9) rfl dX3_turn_1 ?_
  refine lv_if_ne (tgt := 22) hx hb dX3_turn_4 (by decide) (fun hc_1 => ?_) (fun hc_1 => ?_)
  · skip
    have hP : mP G al (ov G al k B c (mJTurn g j)) H := m_cv hP (show ov G al k B c g = ov G al k B c (mJTurn g j) from (by unfold mJTurn; rw [if_neg hc_1]; try rfl))
    refine W.widen (k := 0) (n := 0) (Nat.le_of_ble_eq_true rfl) (Nat.le_of_ble_eq_true rfl) ?_
    exact W.vret hx hb hr (fun tz htz hW => ⟨⟨(), rfl, trivial, g_end htz hP⟩, hS.F htz⟩) hS.2.2 dX3_turn_22
  · skip
    refine lv_aload_n hx hb dX3_turn_7 rfl (lv_at hl 0 rfl) ?_
    refine lv_aload_n hx hb dX3_turn_8 rfl (lv_at hl 0 rfl) ?_
    refine m_get (C := RX3) (T := TX3) (N := 10) (ci := 4) (v := .int (g (3 + j) 5)) hx hb hts uX3 hown hE hP (B + 20 + j) rfl (ov_j hj) rfl 5 (by decide) (hts _ q142) (fun _ h9 => h9) rfl dX3_turn_9 ?_
    refine lv_aload_n hx hb dX3_turn_12 rfl (lv_at hl 0 rfl) ?_
    refine m_get (C := RX3) (T := TX3) (N := 10) (ci := 4) (v := .int (g (3 + j) 4)) hx hb hts uX3 hown hE hP (B + 20 + j) rfl (ov_j hj) rfl 4 (by decide) (hts _ q146) (fun _ h9 => h9) rfl dX3_turn_13 ?_
    refine g_aft_i (g_runSN (As := [.int (g (3 + j) 5), .int (g (3 + j) 4)]) (rest := [.ref (al (B + 20 + j))]) hx hb hml hown hts (kX7_nearer l G al (ov G al k B c g) (g (3 + j) 5) (g (3 + j) 4)) (fcwSN 2 hts (hE.1.1.2.2.2.2.1 (RX3, 35, yX7_nearer, RX7) (by decide +kernel)) q147 q148 q143 rfl rfl (by decide +kernel) ⟨(Nat.le_of_ble_eq_true rfl), (Nat.le_of_ble_eq_true rfl)⟩) hE hb0 hP hS rfl hl.1 rfl (Nat.le_of_ble_eq_true rfl) dX3_turn_16 ⟨(Nat.le_of_ble_eq_true rfl), (Nat.le_of_ble_eq_true rfl)⟩) hS (fun u H locs hP hS => ?_)
    refine f_topi (v := mNear (g (3 + j) 5) (g (3 + j) 4)) rfl ?_
    refine m_put (v := .int (mNear (g (3 + j) 5) (g (3 + j) 4))) (ty := .int) (C := RX3) (T := TX3) (N := 10) (ci := 4) hx hb hts uX3 tyX3 tyX3_ok nmX3 hown hE hP hS (B + 20 + j) rfl (ov_j hj) rfl 5 (by decide) (hts _ q142) (fun _ h9 => h9) rfl (by decide +kernel) rfl rfl (Nat.le_of_ble_eq_true rfl) dX3_turn_19 (fun H locs hP hS => ?_)
    have hP := m_cv hP (ov_uj (r := upd (g (3 + j)) 5 (mNear (g (3 + j) 5) (g (3 + j) 4))) hj hJ rfl)
    have hP : mP G al (ov G al k B c (s2 g (3 + j) 5 (mNear (g (3 + j) 5) (g (3 + j) 4)))) H := hP
    have hP : mP G al (ov G al k B c (mJTurn g j)) H := m_cv hP (show ov G al k B c (s2 g (3 + j) 5 (mNear (g (3 + j) 5) (g (3 + j) 4))) = ov G al k B c (mJTurn g j) from (by unfold mJTurn; rw [if_pos hc_1]; try rfl))
    refine W.widen (k := 0) (n := 0) (Nat.le_of_ble_eq_true rfl) (Nat.le_of_ble_eq_true rfl) ?_
    exact W.vret hx hb hr (fun tz htz hW => ⟨⟨(), rfl, trivial, g_end htz hP⟩, hS.F htz⟩) hS.2.2 dX3_turn_22
set_option maxHeartbeats 4000000 in
set_option maxRecDepth 100000 in
theorem kX3_isShorted (l : Launch) (G : gT) (al : Nat → Nat) (k : gC) (h : gK) (B : Nat) (c : mC) (g : St) (j : Nat) (hj : j < k.1) : Met l yX3_isShorted (fW yX3_isShorted cX3_isShorted 1 (some .boolean)) { frames := 0, cells := 0, slots := 0, locals := 0 } (gPre G al (ov G al k B c g) [.ref (al (B + 20 + j))]) (gQi (S := Unit) G (fun _ => mShort g j) (fun _ => al) (fun _ => ov G al k B c g)) 0 0 (gA G) := by
  refine Met.ofW (cc := cX3_isShorted) (maxL := 1) (ret := (some .boolean)) (by decide) rfl ?_
  intro pz ez s m args below meth c₀ s₁ Bo hml hv
  obtain ⟨rfl, hb0, hP, hE⟩ := hv
  have hx := Bo.exec
  have hb := Bo.bytes
  have hr := Bo.returns
  have hts0 := atoms_spec (ws := (fW yX3_isShorted cX3_isShorted 1 (some .boolean))) Bo.pre
  have hts : ∀ w ∈ fA, w.before _ s = true := fun w h => hts0 w (List.mem_cons_of_mem _ h)
  have hown : s.vm.findClass RX3 = some m.cls := findClass_of_methodNamed Bo.named
  have hlocks := Bo.notSynchronized
  have hl := lv_entry ([.ref (al (B + 20 + j))]) (n := 1) (Nat.le_of_ble_eq_true rfl)
  rw [lg_entry_eq]
  generalize (lg_sl ([.ref (al (B + 20 + j))]) ++ List.replicate (1 - (lg_sl ([.ref (al (B + 20 + j))])).length) Slot.unset).toArray = ls at hl ⊢
  have hl : lv_has ls 1 [(0, .ref (al (B + 20 + j)))] := hl
  refine g_start hP (fun H hP hS => ?_)
  refine lv_aload_n hx hb dX3_isShorted_0 rfl (lv_at hl 0 rfl) ?_
  refine m_get (C := RX3) (T := TX3) (N := 10) (ci := 4) (v := .int (bz (g (3 + j) 7))) hx hb hts uX3 hown hE hP (B + 20 + j) rfl (ov_j hj) rfl 7 (by decide) (hts _ q150) (fun _ h9 => h9) rfl dX3_isShorted_1 ?_
  refine lv_if_eq (tgt := 18) hx hb dX3_isShorted_4 (by decide) (fun hc_1 => ?_) (fun hc_1 => ?_)
  · skip
    refine lv_iconst (v := 0) hx hb dX3_isShorted_18 (by decide) ?_
    refine W.widen (k := 0) (n := 0) (Nat.le_of_ble_eq_true rfl) (Nat.le_of_ble_eq_true rfl) ?_
    exact W.zret (v := 0) hx hb hr (by decide) (fun tz htz hW => ⟨⟨0, (), rfl, (by unfold mShort; rw [if_pos hc_1]; try rfl), g_end htz hP⟩, hS.F htz⟩) hS.2.2 dX3_isShorted_19
  · skip
    refine lv_aload_n hx hb dX3_isShorted_7 rfl (lv_at hl 0 rfl) ?_
    refine m_get (C := RX3) (T := TX3) (N := 10) (ci := 4) (v := .int (bz (g (3 + j) 8))) hx hb hts uX3 hown hE hP (B + 20 + j) rfl (ov_j hj) rfl 8 (by decide) (hts _ q151) (fun _ h9 => h9) rfl dX3_isShorted_8 ?_
    refine lv_if_eq (tgt := 18) hx hb dX3_isShorted_11 (by decide) (fun hc_2 => ?_) (fun hc_2 => ?_)
    · skip
      refine lv_iconst (v := 0) hx hb dX3_isShorted_18 (by decide) ?_
      refine W.widen (k := 0) (n := 0) (Nat.le_of_ble_eq_true rfl) (Nat.le_of_ble_eq_true rfl) ?_
      exact W.zret (v := 0) hx hb hr (by decide) (fun tz htz hW => ⟨⟨0, (), rfl, (by unfold mShort; rw [if_neg hc_1, if_pos hc_2]; try rfl), g_end htz hP⟩, hS.F htz⟩) hS.2.2 dX3_isShorted_19
    · skip
      refine lv_iconst (v := 1) hx hb dX3_isShorted_14 (by decide) ?_
      refine lv_goto (tgt := 19) hx hb dX3_isShorted_15 (by decide) ?_
      refine W.widen (k := 0) (n := 0) (Nat.le_of_ble_eq_true rfl) (Nat.le_of_ble_eq_true rfl) ?_
      exact W.zret (v := 1) hx hb hr (by decide) (fun tz htz hW => ⟨⟨1, (), rfl, (by unfold mShort; rw [if_neg hc_1, if_neg hc_2]; try rfl), g_end htz hP⟩, hS.F htz⟩) hS.2.2 dX3_isShorted_19
set_option maxHeartbeats 4000000 in
set_option maxRecDepth 100000 in
theorem kX3_obey (l : Launch) (G : gT) (al : Nat → Nat) (k : gC) (h : gK) (B : Nat) (c : mC) (g : St) (j : Nat) (v : Int32) (hF : gF G al k B c) (hj : j < k.1) : Met l yX3_obey (fW yX3_obey cX3_obey 2 none) { frames := 1, cells := 0, slots := 0, locals := 21 } (gPre G al (ov G al k B c g) [.ref (al (B + 20 + j)), .int v]) (gQv (S := Unit) G (fun _ => al) (fun _ => ov G al k B c (mObey k g j v))) 0 0 (gA G) := by
  refine Met.ofW (cc := cX3_obey) (maxL := 2) (ret := none) (by decide) rfl ?_
  intro pz ez s m args below meth c₀ s₁ Bo hml hv
  obtain ⟨rfl, hb0, hP, hE⟩ := hv
  have hx := Bo.exec
  have hb := Bo.bytes
  have hr := Bo.returns
  have hts0 := atoms_spec (ws := (fW yX3_obey cX3_obey 2 none)) Bo.pre
  have hts : ∀ w ∈ fA, w.before _ s = true := fun w h => hts0 w (List.mem_cons_of_mem _ h)
  have hown : s.vm.findClass RX3 = some m.cls := findClass_of_methodNamed Bo.named
  have hlocks := Bo.notSynchronized
  have hl := lv_entry ([.ref (al (B + 20 + j)), .int v]) (n := 2) (Nat.le_of_ble_eq_true rfl)
  rw [lg_entry_eq]
  generalize (lg_sl ([.ref (al (B + 20 + j)), .int v]) ++ List.replicate (2 - (lg_sl ([.ref (al (B + 20 + j)), .int v])).length) Slot.unset).toArray = ls at hl ⊢
  have hl : lv_has ls 2 [(0, .ref (al (B + 20 + j))), (1, .int v)] := hl
  have hJ := gF_J hF
  refine g_start hP (fun H hP hS => ?_)
  refine lv_iload_n hx hb dX3_obey_0 rfl (lv_at hl 1 rfl) ?_
  refine lv_bipush (v := 10) hx hb dX3_obey_1 (by decide) ?_
  refine lv_icmp_lt (tgt := 20) hx hb dX3_obey_3 (by decide) (fun hc_1 => ?_) (fun hc_1 => ?_)
  · skip
    refine lv_iload_n hx hb dX3_obey_20 rfl (lv_at hl 1 rfl) ?_
    refine lv_iconst (v := 5) hx hb dX3_obey_21 (by decide) ?_
    refine lv_icmp_lt (tgt := 42) hx hb dX3_obey_22 (by decide) (fun hc_2 => ?_) (fun hc_2 => ?_)
    · skip
      refine lv_aload_n hx hb dX3_obey_42 rfl (lv_at hl 0 rfl) ?_
      refine lv_iload_n hx hb dX3_obey_43 rfl (lv_at hl 1 rfl) ?_
      refine m_put (v := .int v) (ty := .int) (C := RX3) (T := TX3) (N := 10) (ci := 4) hx hb hts uX3 tyX3 tyX3_ok nmX3 hown hE hP hS (B + 20 + j) rfl (ov_j hj) rfl 4 (by decide) (hts _ q146) (fun _ h9 => h9) rfl (by decide +kernel) rfl rfl (Nat.le_of_ble_eq_true rfl) dX3_obey_44 (fun H locs hP hS => ?_)
      have hP := m_cv hP (ov_uj (r := upd (g (3 + j)) 4 v) hj hJ rfl)
      have hP : mP G al (ov G al k B c (s2 g (3 + j) 4 v)) H := hP
      have hP : mP G al (ov G al k B c (mObey k g j v)) H := m_cv hP (show ov G al k B c (s2 g (3 + j) 4 v) = ov G al k B c (mObey k g j v) from (by unfold mObey; rw [if_pos hc_1, if_pos hc_2]; try rfl))
      refine W.widen (k := 0) (n := 0) (Nat.le_of_ble_eq_true rfl) (Nat.le_of_ble_eq_true rfl) ?_
      exact W.vret hx hb hr (fun tz htz hW => ⟨⟨(), rfl, trivial, g_end htz hP⟩, hS.F htz⟩) hS.2.2 dX3_obey_47
    · skip
      refine lv_aload_n hx hb dX3_obey_25 rfl (lv_at hl 0 rfl) ?_
      refine lv_iload_n hx hb dX3_obey_26 rfl (lv_at hl 1 rfl) ?_
      refine lv_iconst (v := 5) hx hb dX3_obey_27 (by decide) ?_
      refine lv_icmp_ne (tgt := 35) hx hb dX3_obey_28 (by decide) (fun hc_3 => ?_) (fun hc_3 => ?_)
      · skip
        refine lv_iconst (v := 0) hx hb dX3_obey_35 (by decide) ?_
        refine m_put (v := .int 0) (ty := .boolean) (C := RX3) (T := TX3) (N := 10) (ci := 4) hx hb hts uX3 tyX3 tyX3_ok nmX3 hown hE hP hS (B + 20 + j) rfl (ov_j hj) rfl 7 (by decide) (hts _ q150) (fun _ h9 => h9) rfl (by decide +kernel) (by decide) (by decide) (Nat.le_of_ble_eq_true rfl) dX3_obey_36 (fun H locs hP hS => ?_)
        have hP := m_cv hP (ov_uj (r := upd (g (3 + j)) 7 0) hj hJ rfl)
        have hP : mP G al (ov G al k B c (s2 g (3 + j) 7 0)) H := hP
        refine lv_goto (tgt := 47) hx hb dX3_obey_39 (by decide) ?_
        have hP : mP G al (ov G al k B c (mObey k g j v)) H := m_cv hP (show ov G al k B c (s2 g (3 + j) 7 0) = ov G al k B c (mObey k g j v) from (by unfold mObey; rw [if_pos hc_1, if_neg hc_2, if_neg hc_3]; try rfl))
        refine W.widen (k := 0) (n := 0) (Nat.le_of_ble_eq_true rfl) (Nat.le_of_ble_eq_true rfl) ?_
        exact W.vret hx hb hr (fun tz htz hW => ⟨⟨(), rfl, trivial, g_end htz hP⟩, hS.F htz⟩) hS.2.2 dX3_obey_47
      · skip
        refine lv_iconst (v := 1) hx hb dX3_obey_31 (by decide) ?_
        refine lv_goto (tgt := 36) hx hb dX3_obey_32 (by decide) ?_
        refine m_put (v := .int 1) (ty := .boolean) (C := RX3) (T := TX3) (N := 10) (ci := 4) hx hb hts uX3 tyX3 tyX3_ok nmX3 hown hE hP hS (B + 20 + j) rfl (ov_j hj) rfl 7 (by decide) (hts _ q150) (fun _ h9 => h9) rfl (by decide +kernel) (by decide) (by decide) (Nat.le_of_ble_eq_true rfl) dX3_obey_36 (fun H locs hP hS => ?_)
        have hP := m_cv hP (ov_uj (r := upd (g (3 + j)) 7 1) hj hJ rfl)
        have hP : mP G al (ov G al k B c (s2 g (3 + j) 7 1)) H := hP
        refine lv_goto (tgt := 47) hx hb dX3_obey_39 (by decide) ?_
        have hP : mP G al (ov G al k B c (mObey k g j v)) H := m_cv hP (show ov G al k B c (s2 g (3 + j) 7 1) = ov G al k B c (mObey k g j v) from (by unfold mObey; rw [if_pos hc_1, if_neg hc_2, if_pos hc_3]; try rfl))
        refine W.widen (k := 0) (n := 0) (Nat.le_of_ble_eq_true rfl) (Nat.le_of_ble_eq_true rfl) ?_
        exact W.vret hx hb hr (fun tz htz hW => ⟨⟨(), rfl, trivial, g_end htz hP⟩, hS.F htz⟩) hS.2.2 dX3_obey_47
  · skip
    refine lv_aload_n hx hb dX3_obey_6 rfl (lv_at hl 0 rfl) ?_
    refine m_get (C := RX3) (T := TX3) (N := 10) (ci := 4) (v := .ref (al (B + 11 + k.2.1 j))) hx hb hts uX3 hown hE hP (B + 20 + j) rfl (ov_j hj) rfl 0 (by decide) (hts _ q137) (fun _ h9 => h9) rfl dX3_obey_7 ?_
    refine lv_iload_n hx hb dX3_obey_10 rfl (lv_at hl 1 rfl) ?_
    refine lv_bipush (v := 10) hx hb dX3_obey_11 (by decide) ?_
    refine lv_isub hx hb dX3_obey_13 ?_
    refine g_aft_v (g_runV (As := [.int (v - 10)]) (rest := []) hx hb hml hown hts (kX4_setTo l G al k h B c g (k.2.1 j) (v - 10) (gF_pp hF hj)) (fcwV 1 hts q156 q157 q158 q159 q152 rfl rfl (by decide +kernel) ⟨(Nat.le_of_ble_eq_true rfl), (Nat.le_of_ble_eq_true rfl)⟩) hE hb0 hP hS (m_recvA hE hP (B + 11 + k.2.1 j) rfl (ov_p (gF_pp hF hj)) rfl) rfl hl.1 rfl (Nat.le_of_ble_eq_true rfl) dX3_obey_14 ⟨(Nat.le_of_ble_eq_true rfl), (Nat.le_of_ble_eq_true rfl)⟩) hS (fun u H locs hP hS => ?_)
    have hP : mP G al (ov G al k B c (mSetTo g (k.2.1 j) (v - 10))) H := hP
    refine lv_goto (tgt := 47) hx hb dX3_obey_17 (by decide) ?_
    have hP : mP G al (ov G al k B c (mObey k g j v)) H := m_cv hP (show ov G al k B c (mSetTo g (k.2.1 j) (v - 10)) = ov G al k B c (mObey k g j v) from (by unfold mObey; rw [if_neg hc_1]; try rfl))
    refine W.widen (k := 0) (n := 0) (Nat.le_of_ble_eq_true rfl) (Nat.le_of_ble_eq_true rfl) ?_
    exact W.vret hx hb hr (fun tz htz hW => ⟨⟨(), rfl, trivial, g_end htz hP⟩, hS.F htz⟩) hS.2.2 dX3_obey_47
set_option maxHeartbeats 4000000 in
set_option maxRecDepth 100000 in
theorem kX0_fallingIn (l : Launch) (G : gT) (al : Nat → Nat) (k : gC) (h : gK) (B : Nat) (c : mC) (g : St) (tk : Int32) (hF : gF G al k B c) : Met l yX0_fallingIn (fW yX0_fallingIn cX0_fallingIn 3 (some .int)) { frames := 2, cells := 0, slots := 0, locals := 42 } (gPre G al (ov G al k B c g) [.ref (al (B + 7)), .int tk]) (gQi (S := Unit) G (fun _ => mFallIn g tk) (fun _ => al) (fun _ => ov G al k B c g)) 0 0 (gA G) := by
  refine Met.ofW (cc := cX0_fallingIn) (maxL := 3) (ret := (some .int)) (by decide) rfl ?_
  intro pz ez s m args below meth c₀ s₁ Bo hml hv
  obtain ⟨rfl, hb0, hP, hE⟩ := hv
  have hx := Bo.exec
  have hb := Bo.bytes
  have hr := Bo.returns
  have hts0 := atoms_spec (ws := (fW yX0_fallingIn cX0_fallingIn 3 (some .int))) Bo.pre
  have hts : ∀ w ∈ fA, w.before _ s = true := fun w h => hts0 w (List.mem_cons_of_mem _ h)
  have hown : s.vm.findClass RX0 = some m.cls := findClass_of_methodNamed Bo.named
  have hlocks := Bo.notSynchronized
  have hl := lv_entry ([.ref (al (B + 7)), .int tk]) (n := 3) (Nat.le_of_ble_eq_true rfl)
  rw [lg_entry_eq]
  generalize (lg_sl ([.ref (al (B + 7)), .int tk]) ++ List.replicate (3 - (lg_sl ([.ref (al (B + 7)), .int tk])).length) Slot.unset).toArray = ls at hl ⊢
  have hl : lv_has ls 3 [(0, .ref (al (B + 7))), (1, .int tk)] := hl
  have hJ := gF_J hF
  refine g_start hP (fun H hP hS => ?_)
  refine lv_iload_n hx hb dX0_fallingIn_0 rfl (lv_at hl 1 rfl) ?_
  refine g_aft_i (g_runS (As := [.int tk]) (rest := []) hx hb hml hown hts (kX0_slotOf l G al (ov G al k B c g) tk) (fcwS 1 hts q14 q15 q16 q9 rfl rfl (by decide +kernel) ⟨(Nat.le_of_ble_eq_true rfl), (Nat.le_of_ble_eq_true rfl)⟩) hE hb0 hP hS rfl hl.1 rfl (Nat.le_of_ble_eq_true rfl) dX0_fallingIn_1 ⟨(Nat.le_of_ble_eq_true rfl), (Nat.le_of_ble_eq_true rfl)⟩) hS (fun u H locs hP hS => ?_)
  refine f_topi (v := mFm tk 9) rfl ?_
  refine lv_istore_n (lv' := [(2, .int (mFm tk 9)), (0, .ref (al (B + 7))), (1, .int tk)]) hx hb dX0_fallingIn_4 rfl hl (by decide) rfl (fun ls hl => ?_)
  refine lv_aload_n hx hb dX0_fallingIn_5 rfl (lv_at hl 1 rfl) ?_
  refine m_get (C := RX0) (T := TX0) (N := 3) (ci := 1) (v := .ref (al (B + 8))) hx hb hts uX0 hown hE hP (B + 7) rfl (gF_a hF) rfl 0 (by decide) (hts _ q5) (fun _ h9 => h9) rfl dX0_fallingIn_6 ?_
  refine lv_iload_n hx hb dX0_fallingIn_9 rfl (lv_at hl 0 rfl) ?_
  refine m_iald hx hb hE hP (B + 8) rfl (ov_a (a := 0) (by decide)) (mFm_in tk) dX0_fallingIn_10 ?_
  refine f_topi (v := g 20 (mSl tk)) rfl ?_
  refine lv_aload_n hx hb dX0_fallingIn_11 rfl (lv_at hl 1 rfl) ?_
  refine m_get (C := RX0) (T := TX0) (N := 3) (ci := 1) (v := .ref (al (B + 9))) hx hb hts uX0 hown hE hP (B + 7) rfl (gF_a hF) rfl 1 (by decide) (hts _ q6) (fun _ h9 => h9) rfl dX0_fallingIn_12 ?_
  refine lv_iload_n hx hb dX0_fallingIn_15 rfl (lv_at hl 0 rfl) ?_
  refine m_iald hx hb hE hP (B + 9) rfl (ov_a (a := 1) (by decide)) (mFm_in tk) dX0_fallingIn_16 ?_
  refine f_topi (v := g 21 (mSl tk)) rfl ?_
  refine lv_iadd hx hb dX0_fallingIn_17 ?_
  refine lv_aload_n hx hb dX0_fallingIn_18 rfl (lv_at hl 1 rfl) ?_
  refine m_get (C := RX0) (T := TX0) (N := 3) (ci := 1) (v := .ref (al (B + 10))) hx hb hts uX0 hown hE hP (B + 7) rfl (gF_a hF) rfl 2 (by decide) (hts _ q7) (fun _ h9 => h9) rfl dX0_fallingIn_19 ?_
  refine lv_iload_n hx hb dX0_fallingIn_22 rfl (lv_at hl 0 rfl) ?_
  refine m_iald hx hb hE hP (B + 10) rfl (ov_a (a := 2) (by decide)) (mFm_in tk) dX0_fallingIn_23 ?_
  refine f_topi (v := g 22 (mSl tk)) rfl ?_
  refine lv_iadd hx hb dX0_fallingIn_24 ?_
  refine W.widen (k := 0) (n := 0) (Nat.le_of_ble_eq_true rfl) (Nat.le_of_ble_eq_true rfl) ?_
  exact W.iret (v := ((g 20 (mSl tk)) + (g 21 (mSl tk))) + (g 22 (mSl tk))) hx hb hr (fun tz htz hW => ⟨⟨((g 20 (mSl tk)) + (g 21 (mSl tk))) + (g 22 (mSl tk)), (), rfl, (by unfold mFallIn; rfl), g_end htz hP⟩, hS.F htz⟩) hS.2.2 dX0_fallingIn_25
set_option maxHeartbeats 4000000 in
set_option maxRecDepth 100000 in
theorem kX0_fallingOnBasin (l : Launch) (G : gT) (al : Nat → Nat) (k : gC) (h : gK) (B : Nat) (c : mC) (g : St) (tk : Int32) (hF : gF G al k B c) : Met l yX0_fallingOnBasin (fW yX0_fallingOnBasin cX0_fallingOnBasin 2 (some .int)) { frames := 2, cells := 0, slots := 0, locals := 42 } (gPre G al (ov G al k B c g) [.ref (al (B + 7)), .int tk]) (gQi (S := Unit) G (fun _ => mFallB g tk) (fun _ => al) (fun _ => ov G al k B c g)) 0 0 (gA G) := by
  refine Met.ofW (cc := cX0_fallingOnBasin) (maxL := 2) (ret := (some .int)) (by decide) rfl ?_
  intro pz ez s m args below meth c₀ s₁ Bo hml hv
  obtain ⟨rfl, hb0, hP, hE⟩ := hv
  have hx := Bo.exec
  have hb := Bo.bytes
  have hr := Bo.returns
  have hts0 := atoms_spec (ws := (fW yX0_fallingOnBasin cX0_fallingOnBasin 2 (some .int))) Bo.pre
  have hts : ∀ w ∈ fA, w.before _ s = true := fun w h => hts0 w (List.mem_cons_of_mem _ h)
  have hown : s.vm.findClass RX0 = some m.cls := findClass_of_methodNamed Bo.named
  have hlocks := Bo.notSynchronized
  have hl := lv_entry ([.ref (al (B + 7)), .int tk]) (n := 2) (Nat.le_of_ble_eq_true rfl)
  rw [lg_entry_eq]
  generalize (lg_sl ([.ref (al (B + 7)), .int tk]) ++ List.replicate (2 - (lg_sl ([.ref (al (B + 7)), .int tk])).length) Slot.unset).toArray = ls at hl ⊢
  have hl : lv_has ls 2 [(0, .ref (al (B + 7))), (1, .int tk)] := hl
  have hJ := gF_J hF
  refine g_start hP (fun H hP hS => ?_)
  refine lv_aload_n hx hb dX0_fallingOnBasin_0 rfl (lv_at hl 0 rfl) ?_
  refine m_get (C := RX0) (T := TX0) (N := 3) (ci := 1) (v := .ref (al (B + 8))) hx hb hts uX0 hown hE hP (B + 7) rfl (gF_a hF) rfl 0 (by decide) (hts _ q5) (fun _ h9 => h9) rfl dX0_fallingOnBasin_1 ?_
  refine lv_iload_n hx hb dX0_fallingOnBasin_4 rfl (lv_at hl 1 rfl) ?_
  refine g_aft_i (g_runS (As := [.int tk]) (rest := [.ref (al (B + 8))]) hx hb hml hown hts (kX0_slotOf l G al (ov G al k B c g) tk) (fcwS 1 hts q14 q15 q16 q9 rfl rfl (by decide +kernel) ⟨(Nat.le_of_ble_eq_true rfl), (Nat.le_of_ble_eq_true rfl)⟩) hE hb0 hP hS rfl hl.1 rfl (Nat.le_of_ble_eq_true rfl) dX0_fallingOnBasin_5 ⟨(Nat.le_of_ble_eq_true rfl), (Nat.le_of_ble_eq_true rfl)⟩) hS (fun u H locs hP hS => ?_)
  refine f_topi (v := mFm tk 9) rfl ?_
  refine m_iald hx hb hE hP (B + 8) rfl (ov_a (a := 0) (by decide)) (mFm_in tk) dX0_fallingOnBasin_8 ?_
  refine f_topi (v := g 20 (mSl tk)) rfl ?_
  refine W.widen (k := 0) (n := 0) (Nat.le_of_ble_eq_true rfl) (Nat.le_of_ble_eq_true rfl) ?_
  exact W.iret (v := g 20 (mSl tk)) hx hb hr (fun tz htz hW => ⟨⟨g 20 (mSl tk), (), rfl, (by unfold mFallB; rfl), g_end htz hP⟩, hS.F htz⟩) hS.2.2 dX0_fallingOnBasin_9
set_option maxHeartbeats 4000000 in
set_option maxRecDepth 100000 in
theorem kX0_fallingOnCrowd (l : Launch) (G : gT) (al : Nat → Nat) (k : gC) (h : gK) (B : Nat) (c : mC) (g : St) (tk : Int32) (hF : gF G al k B c) : Met l yX0_fallingOnCrowd (fW yX0_fallingOnCrowd cX0_fallingOnCrowd 2 (some .int)) { frames := 2, cells := 0, slots := 0, locals := 42 } (gPre G al (ov G al k B c g) [.ref (al (B + 7)), .int tk]) (gQi (S := Unit) G (fun _ => mFallC g tk) (fun _ => al) (fun _ => ov G al k B c g)) 0 0 (gA G) := by
  refine Met.ofW (cc := cX0_fallingOnCrowd) (maxL := 2) (ret := (some .int)) (by decide) rfl ?_
  intro pz ez s m args below meth c₀ s₁ Bo hml hv
  obtain ⟨rfl, hb0, hP, hE⟩ := hv
  have hx := Bo.exec
  have hb := Bo.bytes
  have hr := Bo.returns
  have hts0 := atoms_spec (ws := (fW yX0_fallingOnCrowd cX0_fallingOnCrowd 2 (some .int))) Bo.pre
  have hts : ∀ w ∈ fA, w.before _ s = true := fun w h => hts0 w (List.mem_cons_of_mem _ h)
  have hown : s.vm.findClass RX0 = some m.cls := findClass_of_methodNamed Bo.named
  have hlocks := Bo.notSynchronized
  have hl := lv_entry ([.ref (al (B + 7)), .int tk]) (n := 2) (Nat.le_of_ble_eq_true rfl)
  rw [lg_entry_eq]
  generalize (lg_sl ([.ref (al (B + 7)), .int tk]) ++ List.replicate (2 - (lg_sl ([.ref (al (B + 7)), .int tk])).length) Slot.unset).toArray = ls at hl ⊢
  have hl : lv_has ls 2 [(0, .ref (al (B + 7))), (1, .int tk)] := hl
  have hJ := gF_J hF
  refine g_start hP (fun H hP hS => ?_)
  refine lv_aload_n hx hb dX0_fallingOnCrowd_0 rfl (lv_at hl 0 rfl) ?_
  refine m_get (C := RX0) (T := TX0) (N := 3) (ci := 1) (v := .ref (al (B + 9))) hx hb hts uX0 hown hE hP (B + 7) rfl (gF_a hF) rfl 1 (by decide) (hts _ q6) (fun _ h9 => h9) rfl dX0_fallingOnCrowd_1 ?_
  refine lv_iload_n hx hb dX0_fallingOnCrowd_4 rfl (lv_at hl 1 rfl) ?_
  refine g_aft_i (g_runS (As := [.int tk]) (rest := [.ref (al (B + 9))]) hx hb hml hown hts (kX0_slotOf l G al (ov G al k B c g) tk) (fcwS 1 hts q14 q15 q16 q9 rfl rfl (by decide +kernel) ⟨(Nat.le_of_ble_eq_true rfl), (Nat.le_of_ble_eq_true rfl)⟩) hE hb0 hP hS rfl hl.1 rfl (Nat.le_of_ble_eq_true rfl) dX0_fallingOnCrowd_5 ⟨(Nat.le_of_ble_eq_true rfl), (Nat.le_of_ble_eq_true rfl)⟩) hS (fun u H locs hP hS => ?_)
  refine f_topi (v := mFm tk 9) rfl ?_
  refine m_iald hx hb hE hP (B + 9) rfl (ov_a (a := 1) (by decide)) (mFm_in tk) dX0_fallingOnCrowd_8 ?_
  refine f_topi (v := g 21 (mSl tk)) rfl ?_
  refine W.widen (k := 0) (n := 0) (Nat.le_of_ble_eq_true rfl) (Nat.le_of_ble_eq_true rfl) ?_
  exact W.iret (v := g 21 (mSl tk)) hx hb hr (fun tz htz hW => ⟨⟨g 21 (mSl tk), (), rfl, (by unfold mFallC; rfl), g_end htz hP⟩, hS.F htz⟩) hS.2.2 dX0_fallingOnCrowd_9
set_option maxHeartbeats 4000000 in
set_option maxRecDepth 100000 in
theorem kX0_clear (l : Launch) (G : gT) (al : Nat → Nat) (k : gC) (h : gK) (B : Nat) (c : mC) (g : St) (tk : Int32) (hF : gF G al k B c) : Met l yX0_clear (fW yX0_clear cX0_clear 3 none) { frames := 2, cells := 0, slots := 0, locals := 42 } (gPre G al (ov G al k B c g) [.ref (al (B + 7)), .int tk]) (gQv (S := Unit) G (fun _ => al) (fun _ => ov G al k B c (mClear g tk))) 0 0 (gA G) := by
  refine Met.ofW (cc := cX0_clear) (maxL := 3) (ret := none) (by decide) rfl ?_
  intro pz ez s m args below meth c₀ s₁ Bo hml hv
  obtain ⟨rfl, hb0, hP, hE⟩ := hv
  have hx := Bo.exec
  have hb := Bo.bytes
  have hr := Bo.returns
  have hts0 := atoms_spec (ws := (fW yX0_clear cX0_clear 3 none)) Bo.pre
  have hts : ∀ w ∈ fA, w.before _ s = true := fun w h => hts0 w (List.mem_cons_of_mem _ h)
  have hown : s.vm.findClass RX0 = some m.cls := findClass_of_methodNamed Bo.named
  have hlocks := Bo.notSynchronized
  have hl := lv_entry ([.ref (al (B + 7)), .int tk]) (n := 3) (Nat.le_of_ble_eq_true rfl)
  rw [lg_entry_eq]
  generalize (lg_sl ([.ref (al (B + 7)), .int tk]) ++ List.replicate (3 - (lg_sl ([.ref (al (B + 7)), .int tk])).length) Slot.unset).toArray = ls at hl ⊢
  have hl : lv_has ls 3 [(0, .ref (al (B + 7))), (1, .int tk)] := hl
  have hJ := gF_J hF
  refine g_start hP (fun H hP hS => ?_)
  refine lv_iload_n hx hb dX0_clear_0 rfl (lv_at hl 1 rfl) ?_
  refine g_aft_i (g_runS (As := [.int tk]) (rest := []) hx hb hml hown hts (kX0_slotOf l G al (ov G al k B c g) tk) (fcwS 1 hts q14 q15 q16 q9 rfl rfl (by decide +kernel) ⟨(Nat.le_of_ble_eq_true rfl), (Nat.le_of_ble_eq_true rfl)⟩) hE hb0 hP hS rfl hl.1 rfl (Nat.le_of_ble_eq_true rfl) dX0_clear_1 ⟨(Nat.le_of_ble_eq_true rfl), (Nat.le_of_ble_eq_true rfl)⟩) hS (fun u H locs hP hS => ?_)
  refine f_topi (v := mFm tk 9) rfl ?_
  refine lv_istore_n (lv' := [(2, .int (mFm tk 9)), (0, .ref (al (B + 7))), (1, .int tk)]) hx hb dX0_clear_4 rfl hl (by decide) rfl (fun ls hl => ?_)
  refine lv_aload_n hx hb dX0_clear_5 rfl (lv_at hl 1 rfl) ?_
  refine m_get (C := RX0) (T := TX0) (N := 3) (ci := 1) (v := .ref (al (B + 8))) hx hb hts uX0 hown hE hP (B + 7) rfl (gF_a hF) rfl 0 (by decide) (hts _ q5) (fun _ h9 => h9) rfl dX0_clear_6 ?_
  refine lv_iload_n hx hb dX0_clear_9 rfl (lv_at hl 0 rfl) ?_
  refine lv_iconst (v := 0) hx hb dX0_clear_10 (by decide) ?_
  refine m_iast hx hb hE hP hS (B + 8) rfl (ov_a (a := 0) (by decide)) (mFm_in tk) dX0_clear_11 (fun H locs hP hS => ?_)
  have hP := m_cv hP (ov_ua (r := upd (g 20) (mSl tk) 0) (a := 0) (by decide) hJ rfl)
  have hP : mP G al (ov G al k B c (s2 g 20 (mSl tk) 0)) H := hP
  refine lv_aload_n hx hb dX0_clear_12 rfl (lv_at hl 1 rfl) ?_
  refine m_get (C := RX0) (T := TX0) (N := 3) (ci := 1) (v := .ref (al (B + 9))) hx hb hts uX0 hown hE hP (B + 7) rfl (gF_a hF) rfl 1 (by decide) (hts _ q6) (fun _ h9 => h9) rfl dX0_clear_13 ?_
  refine lv_iload_n hx hb dX0_clear_16 rfl (lv_at hl 0 rfl) ?_
  refine lv_iconst (v := 0) hx hb dX0_clear_17 (by decide) ?_
  refine m_iast hx hb hE hP hS (B + 9) rfl (ov_a (a := 1) (by decide)) (mFm_in tk) dX0_clear_18 (fun H locs hP hS => ?_)
  have hP := m_cv hP (ov_ua (r := upd ((s2 g 20 (mSl tk) 0) 21) (mSl tk) 0) (a := 1) (by decide) hJ rfl)
  have hP : mP G al (ov G al k B c (s2 (s2 g 20 (mSl tk) 0) 21 (mSl tk) 0)) H := hP
  refine lv_aload_n hx hb dX0_clear_19 rfl (lv_at hl 1 rfl) ?_
  refine m_get (C := RX0) (T := TX0) (N := 3) (ci := 1) (v := .ref (al (B + 10))) hx hb hts uX0 hown hE hP (B + 7) rfl (gF_a hF) rfl 2 (by decide) (hts _ q7) (fun _ h9 => h9) rfl dX0_clear_20 ?_
  refine lv_iload_n hx hb dX0_clear_23 rfl (lv_at hl 0 rfl) ?_
  refine lv_iconst (v := 0) hx hb dX0_clear_24 (by decide) ?_
  refine m_iast hx hb hE hP hS (B + 10) rfl (ov_a (a := 2) (by decide)) (mFm_in tk) dX0_clear_25 (fun H locs hP hS => ?_)
  have hP := m_cv hP (ov_ua (r := upd ((s2 (s2 g 20 (mSl tk) 0) 21 (mSl tk) 0) 22) (mSl tk) 0) (a := 2) (by decide) hJ rfl)
  have hP : mP G al (ov G al k B c (s2 (s2 (s2 g 20 (mSl tk) 0) 21 (mSl tk) 0) 22 (mSl tk) 0)) H := hP
  have hP : mP G al (ov G al k B c (mClear g tk)) H := m_cv hP (show ov G al k B c (s2 (s2 (s2 g 20 (mSl tk) 0) 21 (mSl tk) 0) 22 (mSl tk) 0) = ov G al k B c (mClear g tk) from (by unfold mClear; rfl))
  refine W.widen (k := 0) (n := 0) (Nat.le_of_ble_eq_true rfl) (Nat.le_of_ble_eq_true rfl) ?_
  exact W.vret hx hb hr (fun tz htz hW => ⟨⟨(), rfl, trivial, g_end htz hP⟩, hS.F htz⟩) hS.2.2 dX0_clear_26
set_option maxHeartbeats 4000000 in
set_option maxRecDepth 100000 in
theorem kX0_put (l : Launch) (G : gT) (al : Nat → Nat) (k : gC) (h : gK) (B : Nat) (c : mC) (g : St) (tk : Int32) (pl : Int32) (mu : Int32) (hF : gF G al k B c) : Met l yX0_put (fW yX0_put cX0_put 5 none) { frames := 2, cells := 0, slots := 0, locals := 42 } (gPre G al (ov G al k B c g) [.ref (al (B + 7)), .int tk, .int pl, .int mu]) (gQv (S := Unit) G (fun _ => al) (fun _ => ov G al k B c (mPut g tk pl mu))) 0 0 (gA G) := by
  refine Met.ofW (cc := cX0_put) (maxL := 5) (ret := none) (by decide) rfl ?_
  intro pz ez s m args below meth c₀ s₁ Bo hml hv
  obtain ⟨rfl, hb0, hP, hE⟩ := hv
  have hx := Bo.exec
  have hb := Bo.bytes
  have hr := Bo.returns
  have hts0 := atoms_spec (ws := (fW yX0_put cX0_put 5 none)) Bo.pre
  have hts : ∀ w ∈ fA, w.before _ s = true := fun w h => hts0 w (List.mem_cons_of_mem _ h)
  have hown : s.vm.findClass RX0 = some m.cls := findClass_of_methodNamed Bo.named
  have hlocks := Bo.notSynchronized
  have hl := lv_entry ([.ref (al (B + 7)), .int tk, .int pl, .int mu]) (n := 5) (Nat.le_of_ble_eq_true rfl)
  rw [lg_entry_eq]
  generalize (lg_sl ([.ref (al (B + 7)), .int tk, .int pl, .int mu]) ++ List.replicate (5 - (lg_sl ([.ref (al (B + 7)), .int tk, .int pl, .int mu])).length) Slot.unset).toArray = ls at hl ⊢
  have hl : lv_has ls 5 [(0, .ref (al (B + 7))), (1, .int tk), (2, .int pl), (3, .int mu)] := hl
  have hJ := gF_J hF
  refine g_start hP (fun H hP hS => ?_)
  refine lv_iload_n hx hb dX0_put_0 rfl (lv_at hl 1 rfl) ?_
  refine g_aft_i (g_runS (As := [.int tk]) (rest := []) hx hb hml hown hts (kX0_slotOf l G al (ov G al k B c g) tk) (fcwS 1 hts q14 q15 q16 q9 rfl rfl (by decide +kernel) ⟨(Nat.le_of_ble_eq_true rfl), (Nat.le_of_ble_eq_true rfl)⟩) hE hb0 hP hS rfl hl.1 rfl (Nat.le_of_ble_eq_true rfl) dX0_put_1 ⟨(Nat.le_of_ble_eq_true rfl), (Nat.le_of_ble_eq_true rfl)⟩) hS (fun u H locs hP hS => ?_)
  refine f_topi (v := mFm tk 9) rfl ?_
  refine lv_istore (lv' := [(4, .int (mFm tk 9)), (0, .ref (al (B + 7))), (1, .int tk), (2, .int pl), (3, .int mu)]) hx hb dX0_put_4 hl (by decide) rfl (fun ls hl => ?_)
  refine lv_iload_n hx hb dX0_put_6 rfl (lv_at hl 3 rfl) ?_
  refine lv_if_lt (tgt := 30) hx hb dX0_put_7 (by decide) (fun hc_1 => ?_) (fun hc_1 => ?_)
  · skip
    refine lv_iload_n hx hb dX0_put_30 rfl (lv_at hl 3 rfl) ?_
    refine lv_bipush (v := (-4)) hx hb dX0_put_31 (by decide) ?_
    refine lv_icmp_lt (tgt := 56) hx hb dX0_put_33 (by decide) (fun hc_2 => ?_) (fun hc_2 => ?_)
    · skip
      refine lv_aload_n hx hb dX0_put_56 rfl (lv_at hl 1 rfl) ?_
      refine m_get (C := RX0) (T := TX0) (N := 3) (ci := 1) (v := .ref (al (B + 10))) hx hb hts uX0 hown hE hP (B + 7) rfl (gF_a hF) rfl 2 (by decide) (hts _ q7) (fun _ h9 => h9) rfl dX0_put_57 ?_
      refine lv_iload hx hb dX0_put_60 (lv_at hl 0 rfl) ?_
      refine lv_dup2_11 hx hb dX0_put_62 rfl rfl ?_
      refine m_iald hx hb hE hP (B + 10) rfl (ov_a (a := 2) (by decide)) (mFm_in tk) dX0_put_63 ?_
      refine f_topi (v := g 22 (mSl tk)) rfl ?_
      refine lv_iload_n hx hb dX0_put_64 rfl (lv_at hl 4 rfl) ?_
      refine lv_iadd hx hb dX0_put_65 ?_
      refine m_iast hx hb hE hP hS (B + 10) rfl (ov_a (a := 2) (by decide)) (mFm_in tk) dX0_put_66 (fun H locs hP hS => ?_)
      have hP := m_cv hP (ov_ua (r := upd (g 22) (mSl tk) ((g 22 (mSl tk)) + mu)) (a := 2) (by decide) hJ rfl)
      have hP : mP G al (ov G al k B c (s2 g 22 (mSl tk) ((g 22 (mSl tk)) + mu))) H := hP
      have hP : mP G al (ov G al k B c (mPut g tk pl mu)) H := m_cv hP (show ov G al k B c (s2 g 22 (mSl tk) ((g 22 (mSl tk)) + mu)) = ov G al k B c (mPut g tk pl mu) from (by unfold mPut mPutI; rw [if_pos hc_1, if_pos hc_2]; try rfl))
      refine W.widen (k := 0) (n := 0) (Nat.le_of_ble_eq_true rfl) (Nat.le_of_ble_eq_true rfl) ?_
      exact W.vret hx hb hr (fun tz htz hW => ⟨⟨(), rfl, trivial, g_end htz hP⟩, hS.F htz⟩) hS.2.2 dX0_put_67
    · skip
      refine lv_iload_n hx hb dX0_put_36 rfl (lv_at hl 3 rfl) ?_
      refine lv_bipush (v := 23) hx hb dX0_put_37 (by decide) ?_
      refine lv_icmp_gt (tgt := 56) hx hb dX0_put_39 (by decide) (fun hc_3 => ?_) (fun hc_3 => ?_)
      · skip
        refine lv_aload_n hx hb dX0_put_56 rfl (lv_at hl 1 rfl) ?_
        refine m_get (C := RX0) (T := TX0) (N := 3) (ci := 1) (v := .ref (al (B + 10))) hx hb hts uX0 hown hE hP (B + 7) rfl (gF_a hF) rfl 2 (by decide) (hts _ q7) (fun _ h9 => h9) rfl dX0_put_57 ?_
        refine lv_iload hx hb dX0_put_60 (lv_at hl 0 rfl) ?_
        refine lv_dup2_11 hx hb dX0_put_62 rfl rfl ?_
        refine m_iald hx hb hE hP (B + 10) rfl (ov_a (a := 2) (by decide)) (mFm_in tk) dX0_put_63 ?_
        refine f_topi (v := g 22 (mSl tk)) rfl ?_
        refine lv_iload_n hx hb dX0_put_64 rfl (lv_at hl 4 rfl) ?_
        refine lv_iadd hx hb dX0_put_65 ?_
        refine m_iast hx hb hE hP hS (B + 10) rfl (ov_a (a := 2) (by decide)) (mFm_in tk) dX0_put_66 (fun H locs hP hS => ?_)
        have hP := m_cv hP (ov_ua (r := upd (g 22) (mSl tk) ((g 22 (mSl tk)) + mu)) (a := 2) (by decide) hJ rfl)
        have hP : mP G al (ov G al k B c (s2 g 22 (mSl tk) ((g 22 (mSl tk)) + mu))) H := hP
        have hP : mP G al (ov G al k B c (mPut g tk pl mu)) H := m_cv hP (show ov G al k B c (s2 g 22 (mSl tk) ((g 22 (mSl tk)) + mu)) = ov G al k B c (mPut g tk pl mu) from (by unfold mPut mPutI; rw [if_pos hc_1, if_neg hc_2, if_pos hc_3]; try rfl))
        refine W.widen (k := 0) (n := 0) (Nat.le_of_ble_eq_true rfl) (Nat.le_of_ble_eq_true rfl) ?_
        exact W.vret hx hb hr (fun tz htz hW => ⟨⟨(), rfl, trivial, g_end htz hP⟩, hS.F htz⟩) hS.2.2 dX0_put_67
      · skip
        refine lv_aload_n hx hb dX0_put_42 rfl (lv_at hl 1 rfl) ?_
        refine m_get (C := RX0) (T := TX0) (N := 3) (ci := 1) (v := .ref (al (B + 9))) hx hb hts uX0 hown hE hP (B + 7) rfl (gF_a hF) rfl 1 (by decide) (hts _ q6) (fun _ h9 => h9) rfl dX0_put_43 ?_
        refine lv_iload hx hb dX0_put_46 (lv_at hl 0 rfl) ?_
        refine lv_dup2_11 hx hb dX0_put_48 rfl rfl ?_
        refine m_iald hx hb hE hP (B + 9) rfl (ov_a (a := 1) (by decide)) (mFm_in tk) dX0_put_49 ?_
        refine f_topi (v := g 21 (mSl tk)) rfl ?_
        refine lv_iload_n hx hb dX0_put_50 rfl (lv_at hl 4 rfl) ?_
        refine lv_iadd hx hb dX0_put_51 ?_
        refine m_iast hx hb hE hP hS (B + 9) rfl (ov_a (a := 1) (by decide)) (mFm_in tk) dX0_put_52 (fun H locs hP hS => ?_)
        have hP := m_cv hP (ov_ua (r := upd (g 21) (mSl tk) ((g 21 (mSl tk)) + mu)) (a := 1) (by decide) hJ rfl)
        have hP : mP G al (ov G al k B c (s2 g 21 (mSl tk) ((g 21 (mSl tk)) + mu))) H := hP
        refine lv_goto (tgt := 67) hx hb dX0_put_53 (by decide) ?_
        have hP : mP G al (ov G al k B c (mPut g tk pl mu)) H := m_cv hP (show ov G al k B c (s2 g 21 (mSl tk) ((g 21 (mSl tk)) + mu)) = ov G al k B c (mPut g tk pl mu) from (by unfold mPut mPutI; rw [if_pos hc_1, if_neg hc_2, if_neg hc_3]; try rfl))
        refine W.widen (k := 0) (n := 0) (Nat.le_of_ble_eq_true rfl) (Nat.le_of_ble_eq_true rfl) ?_
        exact W.vret hx hb hr (fun tz htz hW => ⟨⟨(), rfl, trivial, g_end htz hP⟩, hS.F htz⟩) hS.2.2 dX0_put_67
  · skip
    refine lv_iload_n hx hb dX0_put_10 rfl (lv_at hl 3 rfl) ?_
    refine lv_bipush (v := 19) hx hb dX0_put_11 (by decide) ?_
    refine lv_icmp_gt (tgt := 30) hx hb dX0_put_13 (by decide) (fun hc_4 => ?_) (fun hc_4 => ?_)
    · skip
      refine lv_iload_n hx hb dX0_put_30 rfl (lv_at hl 3 rfl) ?_
      refine lv_bipush (v := (-4)) hx hb dX0_put_31 (by decide) ?_
      refine lv_icmp_lt (tgt := 56) hx hb dX0_put_33 (by decide) (fun hc_5 => ?_) (fun hc_5 => ?_)
      · skip
        refine lv_aload_n hx hb dX0_put_56 rfl (lv_at hl 1 rfl) ?_
        refine m_get (C := RX0) (T := TX0) (N := 3) (ci := 1) (v := .ref (al (B + 10))) hx hb hts uX0 hown hE hP (B + 7) rfl (gF_a hF) rfl 2 (by decide) (hts _ q7) (fun _ h9 => h9) rfl dX0_put_57 ?_
        refine lv_iload hx hb dX0_put_60 (lv_at hl 0 rfl) ?_
        refine lv_dup2_11 hx hb dX0_put_62 rfl rfl ?_
        refine m_iald hx hb hE hP (B + 10) rfl (ov_a (a := 2) (by decide)) (mFm_in tk) dX0_put_63 ?_
        refine f_topi (v := g 22 (mSl tk)) rfl ?_
        refine lv_iload_n hx hb dX0_put_64 rfl (lv_at hl 4 rfl) ?_
        refine lv_iadd hx hb dX0_put_65 ?_
        refine m_iast hx hb hE hP hS (B + 10) rfl (ov_a (a := 2) (by decide)) (mFm_in tk) dX0_put_66 (fun H locs hP hS => ?_)
        have hP := m_cv hP (ov_ua (r := upd (g 22) (mSl tk) ((g 22 (mSl tk)) + mu)) (a := 2) (by decide) hJ rfl)
        have hP : mP G al (ov G al k B c (s2 g 22 (mSl tk) ((g 22 (mSl tk)) + mu))) H := hP
        have hP : mP G al (ov G al k B c (mPut g tk pl mu)) H := m_cv hP (show ov G al k B c (s2 g 22 (mSl tk) ((g 22 (mSl tk)) + mu)) = ov G al k B c (mPut g tk pl mu) from (by unfold mPut mPutI; rw [if_neg hc_1, if_pos hc_4, if_pos hc_5]; try rfl))
        refine W.widen (k := 0) (n := 0) (Nat.le_of_ble_eq_true rfl) (Nat.le_of_ble_eq_true rfl) ?_
        exact W.vret hx hb hr (fun tz htz hW => ⟨⟨(), rfl, trivial, g_end htz hP⟩, hS.F htz⟩) hS.2.2 dX0_put_67
      · skip
        refine lv_iload_n hx hb dX0_put_36 rfl (lv_at hl 3 rfl) ?_
        refine lv_bipush (v := 23) hx hb dX0_put_37 (by decide) ?_
        refine lv_icmp_gt (tgt := 56) hx hb dX0_put_39 (by decide) (fun hc_6 => ?_) (fun hc_6 => ?_)
        · skip
          refine lv_aload_n hx hb dX0_put_56 rfl (lv_at hl 1 rfl) ?_
          refine m_get (C := RX0) (T := TX0) (N := 3) (ci := 1) (v := .ref (al (B + 10))) hx hb hts uX0 hown hE hP (B + 7) rfl (gF_a hF) rfl 2 (by decide) (hts _ q7) (fun _ h9 => h9) rfl dX0_put_57 ?_
          refine lv_iload hx hb dX0_put_60 (lv_at hl 0 rfl) ?_
          refine lv_dup2_11 hx hb dX0_put_62 rfl rfl ?_
          refine m_iald hx hb hE hP (B + 10) rfl (ov_a (a := 2) (by decide)) (mFm_in tk) dX0_put_63 ?_
          refine f_topi (v := g 22 (mSl tk)) rfl ?_
          refine lv_iload_n hx hb dX0_put_64 rfl (lv_at hl 4 rfl) ?_
          refine lv_iadd hx hb dX0_put_65 ?_
          refine m_iast hx hb hE hP hS (B + 10) rfl (ov_a (a := 2) (by decide)) (mFm_in tk) dX0_put_66 (fun H locs hP hS => ?_)
          have hP := m_cv hP (ov_ua (r := upd (g 22) (mSl tk) ((g 22 (mSl tk)) + mu)) (a := 2) (by decide) hJ rfl)
          have hP : mP G al (ov G al k B c (s2 g 22 (mSl tk) ((g 22 (mSl tk)) + mu))) H := hP
          have hP : mP G al (ov G al k B c (mPut g tk pl mu)) H := m_cv hP (show ov G al k B c (s2 g 22 (mSl tk) ((g 22 (mSl tk)) + mu)) = ov G al k B c (mPut g tk pl mu) from (by unfold mPut mPutI; rw [if_neg hc_1, if_pos hc_4, if_neg hc_5, if_pos hc_6]; try rfl))
          refine W.widen (k := 0) (n := 0) (Nat.le_of_ble_eq_true rfl) (Nat.le_of_ble_eq_true rfl) ?_
          exact W.vret hx hb hr (fun tz htz hW => ⟨⟨(), rfl, trivial, g_end htz hP⟩, hS.F htz⟩) hS.2.2 dX0_put_67
        · skip
          refine lv_aload_n hx hb dX0_put_42 rfl (lv_at hl 1 rfl) ?_
          refine m_get (C := RX0) (T := TX0) (N := 3) (ci := 1) (v := .ref (al (B + 9))) hx hb hts uX0 hown hE hP (B + 7) rfl (gF_a hF) rfl 1 (by decide) (hts _ q6) (fun _ h9 => h9) rfl dX0_put_43 ?_
          refine lv_iload hx hb dX0_put_46 (lv_at hl 0 rfl) ?_
          refine lv_dup2_11 hx hb dX0_put_48 rfl rfl ?_
          refine m_iald hx hb hE hP (B + 9) rfl (ov_a (a := 1) (by decide)) (mFm_in tk) dX0_put_49 ?_
          refine f_topi (v := g 21 (mSl tk)) rfl ?_
          refine lv_iload_n hx hb dX0_put_50 rfl (lv_at hl 4 rfl) ?_
          refine lv_iadd hx hb dX0_put_51 ?_
          refine m_iast hx hb hE hP hS (B + 9) rfl (ov_a (a := 1) (by decide)) (mFm_in tk) dX0_put_52 (fun H locs hP hS => ?_)
          have hP := m_cv hP (ov_ua (r := upd (g 21) (mSl tk) ((g 21 (mSl tk)) + mu)) (a := 1) (by decide) hJ rfl)
          have hP : mP G al (ov G al k B c (s2 g 21 (mSl tk) ((g 21 (mSl tk)) + mu))) H := hP
          refine lv_goto (tgt := 67) hx hb dX0_put_53 (by decide) ?_
          have hP : mP G al (ov G al k B c (mPut g tk pl mu)) H := m_cv hP (show ov G al k B c (s2 g 21 (mSl tk) ((g 21 (mSl tk)) + mu)) = ov G al k B c (mPut g tk pl mu) from (by unfold mPut mPutI; rw [if_neg hc_1, if_pos hc_4, if_neg hc_5, if_neg hc_6]; try rfl))
          refine W.widen (k := 0) (n := 0) (Nat.le_of_ble_eq_true rfl) (Nat.le_of_ble_eq_true rfl) ?_
          exact W.vret hx hb hr (fun tz htz hW => ⟨⟨(), rfl, trivial, g_end htz hP⟩, hS.F htz⟩) hS.2.2 dX0_put_67
    · skip
      refine lv_aload_n hx hb dX0_put_16 rfl (lv_at hl 1 rfl) ?_
      refine m_get (C := RX0) (T := TX0) (N := 3) (ci := 1) (v := .ref (al (B + 8))) hx hb hts uX0 hown hE hP (B + 7) rfl (gF_a hF) rfl 0 (by decide) (hts _ q5) (fun _ h9 => h9) rfl dX0_put_17 ?_
      refine lv_iload hx hb dX0_put_20 (lv_at hl 0 rfl) ?_
      refine lv_dup2_11 hx hb dX0_put_22 rfl rfl ?_
      refine m_iald hx hb hE hP (B + 8) rfl (ov_a (a := 0) (by decide)) (mFm_in tk) dX0_put_23 ?_
      refine f_topi (v := g 20 (mSl tk)) rfl ?_
      refine lv_iload_n hx hb dX0_put_24 rfl (lv_at hl 4 rfl) ?_
      refine lv_iadd hx hb dX0_put_25 ?_
      refine m_iast hx hb hE hP hS (B + 8) rfl (ov_a (a := 0) (by decide)) (mFm_in tk) dX0_put_26 (fun H locs hP hS => ?_)
      have hP := m_cv hP (ov_ua (r := upd (g 20) (mSl tk) ((g 20 (mSl tk)) + mu)) (a := 0) (by decide) hJ rfl)
      have hP : mP G al (ov G al k B c (s2 g 20 (mSl tk) ((g 20 (mSl tk)) + mu))) H := hP
      refine lv_goto (tgt := 67) hx hb dX0_put_27 (by decide) ?_
      have hP : mP G al (ov G al k B c (mPut g tk pl mu)) H := m_cv hP (show ov G al k B c (s2 g 20 (mSl tk) ((g 20 (mSl tk)) + mu)) = ov G al k B c (mPut g tk pl mu) from (by unfold mPut mPutI; rw [if_neg hc_1, if_neg hc_4]; try rfl))
      refine W.widen (k := 0) (n := 0) (Nat.le_of_ble_eq_true rfl) (Nat.le_of_ble_eq_true rfl) ?_
      exact W.vret hx hb hr (fun tz htz hW => ⟨⟨(), rfl, trivial, g_end htz hP⟩, hS.F htz⟩) hS.2.2 dX0_put_67
set_option maxHeartbeats 4000000 in
set_option maxRecDepth 100000 in
theorem kX0_all (l : Launch) (G : gT) (al : Nat → Nat) (k : gC) (h : gK) (B : Nat) (c : mC) (g : St) (hF : gF G al k B c) : Met l yX0_all (fW yX0_all cX0_all 3 (some .int)) { frames := 0, cells := 0, slots := 0, locals := 0 } (gPre G al (ov G al k B c g) [.ref (al (B + 7))]) (gQi (S := Unit) G (fun _ => mAll g) (fun _ => al) (fun _ => ov G al k B c g)) 0 0 (gA G) := by
  refine Met.ofW (cc := cX0_all) (maxL := 3) (ret := (some .int)) (by decide) rfl ?_
  intro pz ez s m args below meth c₀ s₁ Bo hml hv
  obtain ⟨rfl, hb0, hP, hE⟩ := hv
  have hx := Bo.exec
  have hb := Bo.bytes
  have hr := Bo.returns
  have hts0 := atoms_spec (ws := (fW yX0_all cX0_all 3 (some .int))) Bo.pre
  have hts : ∀ w ∈ fA, w.before _ s = true := fun w h => hts0 w (List.mem_cons_of_mem _ h)
  have hown : s.vm.findClass RX0 = some m.cls := findClass_of_methodNamed Bo.named
  have hlocks := Bo.notSynchronized
  have hl := lv_entry ([.ref (al (B + 7))]) (n := 3) (Nat.le_of_ble_eq_true rfl)
  rw [lg_entry_eq]
  generalize (lg_sl ([.ref (al (B + 7))]) ++ List.replicate (3 - (lg_sl ([.ref (al (B + 7))])).length) Slot.unset).toArray = ls at hl ⊢
  have hl : lv_has ls 3 [(0, .ref (al (B + 7)))] := hl
  have hJ := gF_J hF
  refine g_start hP (fun H hP hS => ?_)
  refine lv_iconst (v := 0) hx hb dX0_all_0 (by decide) ?_
  refine lv_istore_n (lv' := [(1, .int 0), (0, .ref (al (B + 7)))]) hx hb dX0_all_1 rfl hl (by decide) rfl (fun ls hl => ?_)
  refine lv_iconst (v := 0) hx hb dX0_all_2 (by decide) ?_
  refine lv_istore_n (lv' := [(2, .int 0), (1, .int 0), (0, .ref (al (B + 7)))]) hx hb dX0_all_3 rfl hl (by decide) rfl (fun ls hl => ?_)
  refine g_loop (al := al) (N := 9) (nL := 3) (Wi := fun i1 => ov G al k B c g) (Li := fun i1 => [(2, .int (nI i1)), (1, .int (it (fun i a => a + (g 20 i + g 21 i + g 22 i)) i1 0)), (0, .ref (al (B + 7)))]) hP hS (lv_sub hl [0, 1, 2] rfl) (fun i1 hii1 ihi1 H locs ls hP hS hl => ?_)
  have hP : mP G al (ov G al k B c g) H := hP
  have hl : lv_has ls 3 [(2, .int (nI i1)), (1, .int (it (fun i a => a + (g 20 i + g 21 i + g 22 i)) i1 0)), (0, .ref (al (B + 7)))] := hl
  refine lv_iload_n hx hb dX0_all_4 rfl (lv_at hl 0 rfl) ?_
  refine lv_bipush (v := 9) hx hb dX0_all_5 (by decide) ?_
  refine lv_icmp_ge (tgt := 39) hx hb dX0_all_7 (by decide) (fun hc_1 => ?_) (fun hc_1 => ?_)
  · skip
    have hgei1 : 9 ≤ i1 := (nI_leI (a := 9) (by omega) (by omega)).mp hc_1
    obtain rfl : 9 = i1 := Nat.le_antisymm hgei1 hii1
    have hP : mP G al (ov G al k B c g) H := hP
    have hl : lv_has ls 3 [(2, .int (nI 9)), (1, .int (it (fun i a => a + (g 20 i + g 21 i + g 22 i)) 9 0)), (0, .ref (al (B + 7)))] := hl
    refine lv_iload_n hx hb dX0_all_39 rfl (lv_at hl 1 rfl) ?_
    refine W.widen (k := 0) (n := 0) (Nat.le_of_ble_eq_true rfl) (Nat.le_of_ble_eq_true rfl) ?_
    exact W.iret (v := it (fun i a => a + (g 20 i + g 21 i + g 22 i)) 9 0) hx hb hr (fun tz htz hW => ⟨⟨it (fun i a => a + (g 20 i + g 21 i + g 22 i)) 9 0, (), rfl, (by unfold mAll; rfl), g_end htz hP⟩, hS.F htz⟩) hS.2.2 dX0_all_40
  · skip
    have hlti1 : i1 < 9 := Nat.lt_of_not_le (fun q => hc_1 (nI_le (a := 9) q (by omega)))
    refine lv_iload_n hx hb dX0_all_10 rfl (lv_at hl 1 rfl) ?_
    refine lv_aload_n hx hb dX0_all_11 rfl (lv_at hl 2 rfl) ?_
    refine m_get (C := RX0) (T := TX0) (N := 3) (ci := 1) (v := .ref (al (B + 8))) hx hb hts uX0 hown hE hP (B + 7) rfl (gF_a hF) rfl 0 (by decide) (hts _ q5) (fun _ h9 => h9) rfl dX0_all_12 ?_
    refine lv_iload_n hx hb dX0_all_15 rfl (lv_at hl 0 rfl) ?_
    refine m_iald hx hb hE hP (B + 8) rfl (ov_a (a := 0) (by decide)) (nI_in (by omega) (by omega)) dX0_all_16 ?_
    refine f_topi (v := g 20 i1) (congrArg (g 20) (nI_clamp (by omega))) ?_
    refine lv_aload_n hx hb dX0_all_17 rfl (lv_at hl 2 rfl) ?_
    refine m_get (C := RX0) (T := TX0) (N := 3) (ci := 1) (v := .ref (al (B + 9))) hx hb hts uX0 hown hE hP (B + 7) rfl (gF_a hF) rfl 1 (by decide) (hts _ q6) (fun _ h9 => h9) rfl dX0_all_18 ?_
    refine lv_iload_n hx hb dX0_all_21 rfl (lv_at hl 0 rfl) ?_
    refine m_iald hx hb hE hP (B + 9) rfl (ov_a (a := 1) (by decide)) (nI_in (by omega) (by omega)) dX0_all_22 ?_
    refine f_topi (v := g 21 i1) (congrArg (g 21) (nI_clamp (by omega))) ?_
    refine lv_iadd hx hb dX0_all_23 ?_
    refine lv_aload_n hx hb dX0_all_24 rfl (lv_at hl 2 rfl) ?_
    refine m_get (C := RX0) (T := TX0) (N := 3) (ci := 1) (v := .ref (al (B + 10))) hx hb hts uX0 hown hE hP (B + 7) rfl (gF_a hF) rfl 2 (by decide) (hts _ q7) (fun _ h9 => h9) rfl dX0_all_25 ?_
    refine lv_iload_n hx hb dX0_all_28 rfl (lv_at hl 0 rfl) ?_
    refine m_iald hx hb hE hP (B + 10) rfl (ov_a (a := 2) (by decide)) (nI_in (by omega) (by omega)) dX0_all_29 ?_
    refine f_topi (v := g 22 i1) (congrArg (g 22) (nI_clamp (by omega))) ?_
    refine lv_iadd hx hb dX0_all_30 ?_
    refine lv_iadd hx hb dX0_all_31 ?_
    refine lv_istore_n (lv' := [(1, .int ((it (fun i a => a + (g 20 i + g 21 i + g 22 i)) i1 0) + (((g 20 i1) + (g 21 i1)) + (g 22 i1)))), (2, .int (nI i1)), (0, .ref (al (B + 7)))]) hx hb dX0_all_32 rfl hl (by decide) rfl (fun ls hl => ?_)
    refine lv_iinc (v := nI (i1 + 1)) (lv' := [(2, .int (nI (i1 + 1))), (1, .int ((it (fun i a => a + (g 20 i + g 21 i + g 22 i)) i1 0) + (((g 20 i1) + (g 21 i1)) + (g 22 i1)))), (0, .ref (al (B + 7)))]) hx hb dX0_all_33 hl (k := 1) rfl (f_inc _) (by decide) rfl (fun ls hl => ?_)
    refine lv_goto (tgt := 4) hx hb dX0_all_36 (by decide) ?_
    have hl9 := lv_sub (l' := [(2, .int (nI (i1 + 1))), (1, .int ((it (fun i a => a + (g 20 i + g 21 i + g 22 i)) i1 0) + (((g 20 i1) + (g 21 i1)) + (g 22 i1)))), (0, .ref (al (B + 7)))]) hl [0, 1, 2] rfl
    rw [show ([(2, .int (nI (i1 + 1))), (1, .int ((it (fun i a => a + (g 20 i + g 21 i + g 22 i)) i1 0) + (((g 20 i1) + (g 21 i1)) + (g 22 i1)))), (0, .ref (al (B + 7)))] : List (Nat × Value)) = [(2, .int (nI (i1 + 1))), (1, .int (it (fun i a => a + (g 20 i + g 21 i + g 22 i)) (i1 + 1) 0)), (0, .ref (al (B + 7)))] from (by first | rfl | (simp only [it_s]; done) | (simp only [it_s]; rfl))] at hl9
    exact ihi1 hlti1 _ _ _ hP hS hl9
set_option maxHeartbeats 4000000 in
set_option maxRecDepth 100000 in
theorem kX5_pour (l : Launch) (G : gT) (al : Nat → Nat) (k : gC) (h : gK) (B : Nat) (c : mC) (g : St) (v : Int32) (hF : gF G al k B c) : Met l yX5_pour (fW yX5_pour cX5_pour 2 none) { frames := 0, cells := 0, slots := 0, locals := 0 } (gPre G al (ov G al k B c g) [.ref (al B), .int v]) (gQv (S := Unit) G (fun _ => al) (fun _ => ov G al k B c (mPour g v))) 0 0 (gA G) := by
  refine Met.ofW (cc := cX5_pour) (maxL := 2) (ret := none) (by decide) rfl ?_
  intro pz ez s m args below meth c₀ s₁ Bo hml hv
  obtain ⟨rfl, hb0, hP, hE⟩ := hv
  have hx := Bo.exec
  have hb := Bo.bytes
  have hr := Bo.returns
  have hts0 := atoms_spec (ws := (fW yX5_pour cX5_pour 2 none)) Bo.pre
  have hts : ∀ w ∈ fA, w.before _ s = true := fun w h => hts0 w (List.mem_cons_of_mem _ h)
  have hown : s.vm.findClass RX5 = some m.cls := findClass_of_methodNamed Bo.named
  have hlocks := Bo.notSynchronized
  have hl := lv_entry ([.ref (al B), .int v]) (n := 2) (Nat.le_of_ble_eq_true rfl)
  rw [lg_entry_eq]
  generalize (lg_sl ([.ref (al B), .int v]) ++ List.replicate (2 - (lg_sl ([.ref (al B), .int v])).length) Slot.unset).toArray = ls at hl ⊢
  have hl : lv_has ls 2 [(0, .ref (al B)), (1, .int v)] := hl
  have hJ := gF_J hF
  refine g_start hP (fun H hP hS => ?_)
  refine lv_aload_n hx hb dX5_pour_0 rfl (lv_at hl 0 rfl) ?_
  refine lv_dup hx hb dX5_pour_1 rfl ?_
  refine m_get (C := RX5) (T := TX5) (N := 15) (ci := 6) (v := .int (g 0 5)) hx hb hts uX5 hown hE hP B rfl ov_s rfl 5 (by decide) (hts _ q179) (fun _ h9 => h9) rfl dX5_pour_2 ?_
  refine lv_iload_n hx hb dX5_pour_5 rfl (lv_at hl 1 rfl) ?_
  refine lv_iadd hx hb dX5_pour_6 ?_
  refine m_put (v := .int ((g 0 5) + v)) (ty := .int) (C := RX5) (T := TX5) (N := 15) (ci := 6) hx hb hts uX5 tyX5 tyX5_ok nmX5 hown hE hP hS B rfl ov_s rfl 5 (by decide) (hts _ q179) (fun _ h9 => h9) rfl (by decide +kernel) rfl rfl (Nat.le_of_ble_eq_true rfl) dX5_pour_7 (fun H locs hP hS => ?_)
  have hP := m_cv hP (ov_us (r := upd (g 0) 5 ((g 0 5) + v)) rfl)
  have hP : mP G al (ov G al k B c (s2 g 0 5 ((g 0 5) + v))) H := hP
  refine lv_aload_n hx hb dX5_pour_10 rfl (lv_at hl 0 rfl) ?_
  refine m_get (C := RX5) (T := TX5) (N := 15) (ci := 6) (v := .int ((s2 g 0 5 ((g 0 5) + v)) 0 5)) hx hb hts uX5 hown hE hP B rfl ov_s rfl 5 (by decide) (hts _ q179) (fun _ h9 => h9) rfl dX5_pour_11 ?_
  refine f_topi (v := (g 0 5) + v) (s2_s _ _ _ _) ?_
  refine lv_sipush (v := 9000) hx hb dX5_pour_14 (by decide) ?_
  refine lv_icmp_le (tgt := 44) hx hb dX5_pour_17 (by decide) (fun hc_1 => ?_) (fun hc_1 => ?_)
  · skip
    have hP : mP G al (ov G al k B c (mPour g v)) H := m_cv hP (show ov G al k B c (s2 g 0 5 ((g 0 5) + v)) = ov G al k B c (mPour g v) from (by unfold mPour; rw [if_pos hc_1]; try rfl))
    refine W.widen (k := 0) (n := 0) (Nat.le_of_ble_eq_true rfl) (Nat.le_of_ble_eq_true rfl) ?_
    exact W.vret hx hb hr (fun tz htz hW => ⟨⟨(), rfl, trivial, g_end htz hP⟩, hS.F htz⟩) hS.2.2 dX5_pour_44
  · skip
    refine lv_aload_n hx hb dX5_pour_20 rfl (lv_at hl 0 rfl) ?_
    refine lv_dup hx hb dX5_pour_21 rfl ?_
    refine m_get (C := RX5) (T := TX5) (N := 15) (ci := 6) (v := .int ((s2 g 0 5 ((g 0 5) + v)) 0 6)) hx hb hts uX5 hown hE hP B rfl ov_s rfl 6 (by decide) (hts _ q248) (fun _ h9 => h9) rfl dX5_pour_22 ?_
    refine f_topi (v := g 0 6) (s2_k _ _ _ (by decide)) ?_
    refine lv_aload_n hx hb dX5_pour_25 rfl (lv_at hl 0 rfl) ?_
    refine m_get (C := RX5) (T := TX5) (N := 15) (ci := 6) (v := .int ((s2 g 0 5 ((g 0 5) + v)) 0 5)) hx hb hts uX5 hown hE hP B rfl ov_s rfl 5 (by decide) (hts _ q179) (fun _ h9 => h9) rfl dX5_pour_26 ?_
    refine f_topi (v := (g 0 5) + v) (s2_s _ _ _ _) ?_
    refine lv_sipush (v := 9000) hx hb dX5_pour_29 (by decide) ?_
    refine lv_isub hx hb dX5_pour_32 ?_
    refine lv_iadd hx hb dX5_pour_33 ?_
    refine m_put (v := .int ((g 0 6) + (((g 0 5) + v) - 9000))) (ty := .int) (C := RX5) (T := TX5) (N := 15) (ci := 6) hx hb hts uX5 tyX5 tyX5_ok nmX5 hown hE hP hS B rfl ov_s rfl 6 (by decide) (hts _ q248) (fun _ h9 => h9) rfl (by decide +kernel) rfl rfl (Nat.le_of_ble_eq_true rfl) dX5_pour_34 (fun H locs hP hS => ?_)
    have hP := m_cv hP (ov_us (r := upd ((s2 g 0 5 ((g 0 5) + v)) 0) 6 ((g 0 6) + (((g 0 5) + v) - 9000))) rfl)
    have hP : mP G al (ov G al k B c (s2 (s2 g 0 5 ((g 0 5) + v)) 0 6 ((g 0 6) + (((g 0 5) + v) - 9000)))) H := hP
    refine lv_aload_n hx hb dX5_pour_37 rfl (lv_at hl 0 rfl) ?_
    refine lv_sipush (v := 9000) hx hb dX5_pour_38 (by decide) ?_
    refine m_put (v := .int 9000) (ty := .int) (C := RX5) (T := TX5) (N := 15) (ci := 6) hx hb hts uX5 tyX5 tyX5_ok nmX5 hown hE hP hS B rfl ov_s rfl 5 (by decide) (hts _ q179) (fun _ h9 => h9) rfl (by decide +kernel) rfl rfl (Nat.le_of_ble_eq_true rfl) dX5_pour_41 (fun H locs hP hS => ?_)
    have hP := m_cv hP (ov_us (r := upd ((s2 (s2 g 0 5 ((g 0 5) + v)) 0 6 ((g 0 6) + (((g 0 5) + v) - 9000))) 0) 5 9000) rfl)
    have hP : mP G al (ov G al k B c (s2 (s2 (s2 g 0 5 ((g 0 5) + v)) 0 6 ((g 0 6) + (((g 0 5) + v) - 9000))) 0 5 9000)) H := hP
    have hP : mP G al (ov G al k B c (mPour g v)) H := m_cv hP (show ov G al k B c (s2 (s2 (s2 g 0 5 ((g 0 5) + v)) 0 6 ((g 0 6) + (((g 0 5) + v) - 9000))) 0 5 9000) = ov G al k B c (mPour g v) from (by unfold mPour; rw [if_neg hc_1]; try rfl))
    refine W.widen (k := 0) (n := 0) (Nat.le_of_ble_eq_true rfl) (Nat.le_of_ble_eq_true rfl) ?_
    exact W.vret hx hb hr (fun tz htz hW => ⟨⟨(), rfl, trivial, g_end htz hP⟩, hS.F htz⟩) hS.2.2 dX5_pour_44
set_option maxHeartbeats 4000000 in
set_option maxRecDepth 100000 in
theorem kX5_windWithGust (l : Launch) (G : gT) (al : Nat → Nat) (k : gC) (h : gK) (B : Nat) (c : mC) (g : St) (hF : gF G al k B c) : Met l yX5_windWithGust (fW yX5_windWithGust cX5_windWithGust 1 (some .int)) { frames := 0, cells := 0, slots := 0, locals := 0 } (gPre G al (ov G al k B c g) [.ref (al B)]) (gQi (S := Unit) G (fun _ => mWind g) (fun _ => al) (fun _ => ov G al k B c g)) 0 0 (gA G) := by
  refine Met.ofW (cc := cX5_windWithGust) (maxL := 1) (ret := (some .int)) (by decide) rfl ?_
  intro pz ez s m args below meth c₀ s₁ Bo hml hv
  obtain ⟨rfl, hb0, hP, hE⟩ := hv
  have hx := Bo.exec
  have hb := Bo.bytes
  have hr := Bo.returns
  have hts0 := atoms_spec (ws := (fW yX5_windWithGust cX5_windWithGust 1 (some .int))) Bo.pre
  have hts : ∀ w ∈ fA, w.before _ s = true := fun w h => hts0 w (List.mem_cons_of_mem _ h)
  have hown : s.vm.findClass RX5 = some m.cls := findClass_of_methodNamed Bo.named
  have hlocks := Bo.notSynchronized
  have hl := lv_entry ([.ref (al B)]) (n := 1) (Nat.le_of_ble_eq_true rfl)
  rw [lg_entry_eq]
  generalize (lg_sl ([.ref (al B)]) ++ List.replicate (1 - (lg_sl ([.ref (al B)])).length) Slot.unset).toArray = ls at hl ⊢
  have hl : lv_has ls 1 [(0, .ref (al B))] := hl
  have hJ := gF_J hF
  refine g_start hP (fun H hP hS => ?_)
  refine lv_aload_n hx hb dX5_windWithGust_0 rfl (lv_at hl 0 rfl) ?_
  refine m_get (C := RX5) (T := TX5) (N := 15) (ci := 6) (v := .int (g 0 12)) hx hb hts uX5 hown hE hP B rfl ov_s rfl 12 (by decide) (hts _ q270) (fun _ h9 => h9) rfl dX5_windWithGust_1 ?_
  refine lv_if_le (tgt := 19) hx hb dX5_windWithGust_4 (by decide) (fun hc_1 => ?_) (fun hc_1 => ?_)
  · skip
    refine lv_aload_n hx hb dX5_windWithGust_19 rfl (lv_at hl 0 rfl) ?_
    refine m_get (C := RX5) (T := TX5) (N := 15) (ci := 6) (v := .int (g 0 12)) hx hb hts uX5 hown hE hP B rfl ov_s rfl 12 (by decide) (hts _ q270) (fun _ h9 => h9) rfl dX5_windWithGust_20 ?_
    refine lv_if_ge (tgt := 38) hx hb dX5_windWithGust_23 (by decide) (fun hc_2 => ?_) (fun hc_2 => ?_)
    · skip
      refine lv_iconst (v := 0) hx hb dX5_windWithGust_38 (by decide) ?_
      refine W.widen (k := 0) (n := 0) (Nat.le_of_ble_eq_true rfl) (Nat.le_of_ble_eq_true rfl) ?_
      exact W.iret (v := 0) hx hb hr (fun tz htz hW => ⟨⟨0, (), rfl, (by unfold mWind; rw [if_pos hc_1, if_pos hc_2]; try rfl), g_end htz hP⟩, hS.F htz⟩) hS.2.2 dX5_windWithGust_39
    · skip
      refine lv_aload_n hx hb dX5_windWithGust_26 rfl (lv_at hl 0 rfl) ?_
      refine m_get (C := RX5) (T := TX5) (N := 15) (ci := 6) (v := .int (g 0 12)) hx hb hts uX5 hown hE hP B rfl ov_s rfl 12 (by decide) (hts _ q270) (fun _ h9 => h9) rfl dX5_windWithGust_27 ?_
      refine lv_aload_n hx hb dX5_windWithGust_30 rfl (lv_at hl 0 rfl) ?_
      refine m_get (C := RX5) (T := TX5) (N := 15) (ci := 6) (v := .int (g 0 13)) hx hb hts uX5 hown hE hP B rfl ov_s rfl 13 (by decide) (hts _ q271) (fun _ h9 => h9) rfl dX5_windWithGust_31 ?_
      refine lv_isub hx hb dX5_windWithGust_34 ?_
      refine lv_goto (tgt := 39) hx hb dX5_windWithGust_35 (by decide) ?_
      refine W.widen (k := 0) (n := 0) (Nat.le_of_ble_eq_true rfl) (Nat.le_of_ble_eq_true rfl) ?_
      exact W.iret (v := (g 0 12) - (g 0 13)) hx hb hr (fun tz htz hW => ⟨⟨(g 0 12) - (g 0 13), (), rfl, (by unfold mWind; rw [if_pos hc_1, if_neg hc_2]; try rfl), g_end htz hP⟩, hS.F htz⟩) hS.2.2 dX5_windWithGust_39
  · skip
    refine lv_aload_n hx hb dX5_windWithGust_7 rfl (lv_at hl 0 rfl) ?_
    refine m_get (C := RX5) (T := TX5) (N := 15) (ci := 6) (v := .int (g 0 12)) hx hb hts uX5 hown hE hP B rfl ov_s rfl 12 (by decide) (hts _ q270) (fun _ h9 => h9) rfl dX5_windWithGust_8 ?_
    refine lv_aload_n hx hb dX5_windWithGust_11 rfl (lv_at hl 0 rfl) ?_
    refine m_get (C := RX5) (T := TX5) (N := 15) (ci := 6) (v := .int (g 0 13)) hx hb hts uX5 hown hE hP B rfl ov_s rfl 13 (by decide) (hts _ q271) (fun _ h9 => h9) rfl dX5_windWithGust_12 ?_
    refine lv_iadd hx hb dX5_windWithGust_15 ?_
    refine lv_goto (tgt := 39) hx hb dX5_windWithGust_16 (by decide) ?_
    refine W.widen (k := 0) (n := 0) (Nat.le_of_ble_eq_true rfl) (Nat.le_of_ble_eq_true rfl) ?_
    exact W.iret (v := (g 0 12) + (g 0 13)) hx hb hr (fun tz htz hW => ⟨⟨(g 0 12) + (g 0 13), (), rfl, (by unfold mWind; rw [if_neg hc_1]; try rfl), g_end htz hP⟩, hS.F htz⟩) hS.2.2 dX5_windWithGust_39
set_option maxHeartbeats 4000000 in
set_option maxRecDepth 100000 in
theorem kX5_pressureOf (l : Launch) (G : gT) (al : Nat → Nat) (k : gC) (h : gK) (B : Nat) (c : mC) (g : St) (p : Nat) (hF : gF G al k B c) (hp : p < 2) : Met l yX5_pressureOf (fW yX5_pressureOf cX5_pressureOf 5 (some .int)) { frames := 3, cells := 0, slots := 0, locals := 64 } (gPre G al (ov G al k B c g) [.ref (al B), .ref (al (B + 11 + p))]) (gQi (S := Unit) G (fun _ => mPress k g p) (fun _ => al) (fun _ => ov G al k B c g)) 0 0 (gA G) := by
  refine Met.ofW (cc := cX5_pressureOf) (maxL := 5) (ret := (some .int)) (by decide) rfl ?_
  intro pz ez s m args below meth c₀ s₁ Bo hml hv
  obtain ⟨rfl, hb0, hP, hE⟩ := hv
  have hx := Bo.exec
  have hb := Bo.bytes
  have hr := Bo.returns
  have hts0 := atoms_spec (ws := (fW yX5_pressureOf cX5_pressureOf 5 (some .int))) Bo.pre
  have hts : ∀ w ∈ fA, w.before _ s = true := fun w h => hts0 w (List.mem_cons_of_mem _ h)
  have hown : s.vm.findClass RX5 = some m.cls := findClass_of_methodNamed Bo.named
  have hlocks := Bo.notSynchronized
  have hl := lv_entry ([.ref (al B), .ref (al (B + 11 + p))]) (n := 5) (Nat.le_of_ble_eq_true rfl)
  rw [lg_entry_eq]
  generalize (lg_sl ([.ref (al B), .ref (al (B + 11 + p))]) ++ List.replicate (5 - (lg_sl ([.ref (al B), .ref (al (B + 11 + p))])).length) Slot.unset).toArray = ls at hl ⊢
  have hl : lv_has ls 5 [(0, .ref (al B)), (1, .ref (al (B + 11 + p)))] := hl
  have hJ := gF_J hF
  refine g_start hP (fun H hP hS => ?_)
  refine lv_iconst (v := 0) hx hb dX5_pressureOf_0 (by decide) ?_
  refine lv_istore_n (lv' := [(2, .int 0), (0, .ref (al B)), (1, .ref (al (B + 11 + p)))]) hx hb dX5_pressureOf_1 rfl hl (by decide) rfl (fun ls hl => ?_)
  refine lv_iconst (v := 0) hx hb dX5_pressureOf_2 (by decide) ?_
  refine lv_istore_n (lv' := [(3, .int 0), (2, .int 0), (0, .ref (al B)), (1, .ref (al (B + 11 + p)))]) hx hb dX5_pressureOf_3 rfl hl (by decide) rfl (fun ls hl => ?_)
  refine g_loop (al := al) (N := k.1) (nL := 5) (Wi := fun i1 => ov G al k B c g) (Li := fun i1 => [(3, .int (nI i1)), (2, .int (it (fun j a => if k.2.1 j = p then a + mFlow k g j else a) i1 0)), (1, .ref (al (B + 11 + p))), (0, .ref (al B))]) hP hS (lv_sub hl [0, 1, 3, 2] rfl) (fun i1 hii1 ihi1 H locs ls hP hS hl => ?_)
  have hP : mP G al (ov G al k B c g) H := hP
  have hl : lv_has ls 5 [(3, .int (nI i1)), (2, .int (it (fun j a => if k.2.1 j = p then a + mFlow k g j else a) i1 0)), (1, .ref (al (B + 11 + p))), (0, .ref (al B))] := hl
  refine lv_iload_n hx hb dX5_pressureOf_4 rfl (lv_at hl 0 rfl) ?_
  refine lv_aload_n hx hb dX5_pressureOf_5 rfl (lv_at hl 3 rfl) ?_
  refine m_get (C := RX5) (T := TX5) (N := 15) (ci := 6) (v := .ref (al (B + 3))) hx hb hts uX5 hown hE hP B rfl ov_s rfl 1 (by decide) (hts _ q174) (fun _ h9 => h9) rfl dX5_pressureOf_6 ?_
  refine g_aft_i (g_runV (As := []) (rest := [.int (nI i1)]) hx hb hml hown hts (kJx4a65c_size_8abf5 l G al (ov G al k B c g) (B + 3) (B + 4) k.1 (fun j => B + 20 + j) (gF_j hF)) (fcwV 0 hts q187 q53 q54 q50 q34 rfl rfl (by decide +kernel) ⟨(Nat.le_of_ble_eq_true rfl), (Nat.le_of_ble_eq_true rfl)⟩) hE hb0 hP hS (m_recvL hE hP (gF_j hF) rfl) rfl hl.1 rfl (Nat.le_of_ble_eq_true rfl) dX5_pressureOf_9 ⟨(Nat.le_of_ble_eq_true rfl), (Nat.le_of_ble_eq_true rfl)⟩) hS (fun u H locs hP hS => ?_)
  refine f_topi (v := nI k.1) rfl ?_
  refine lv_icmp_ge (tgt := 51) hx hb dX5_pressureOf_12 (by decide) (fun hc_1 => ?_) (fun hc_1 => ?_)
  · skip
    have hgei1 : k.1 ≤ i1 := (nI_leI (by omega) (by omega)).mp hc_1
    obtain rfl : k.1 = i1 := Nat.le_antisymm hgei1 hii1
    have hP : mP G al (ov G al k B c g) H := hP
    have hl : lv_has ls 5 [(3, .int (nI k.1)), (2, .int (it (fun j a => if k.2.1 j = p then a + mFlow k g j else a) k.1 0)), (1, .ref (al (B + 11 + p))), (0, .ref (al B))] := hl
    refine lv_aload_n hx hb dX5_pressureOf_51 rfl (lv_at hl 2 rfl) ?_
    refine m_get (C := RX4) (T := TX4) (N := 6) (ci := 5) (v := .int (g (1 + p) 3)) hx hb hts uX4 hown hE hP (B + 11 + p) rfl (ov_p hp) rfl 3 (by decide) (hts _ q198) (fun _ h9 => h9) rfl dX5_pressureOf_52 ?_
    refine lv_aload_n hx hb dX5_pressureOf_55 rfl (lv_at hl 2 rfl) ?_
    refine m_get (C := RX4) (T := TX4) (N := 6) (ci := 5) (v := .int (k.2.2 (1 + p) 1)) hx hb hts uX4 hown hE hP (B + 11 + p) rfl (ov_p hp) rfl 1 (by decide) (hts _ q199) (fun _ h9 => h9) rfl dX5_pressureOf_56 ?_
    refine lv_iload_n hx hb dX5_pressureOf_59 rfl (lv_at hl 1 rfl) ?_
    refine g_aft_i (g_runSN (As := [.int (g (1 + p) 3), .int (k.2.2 (1 + p) 1), .int (it (fun j a => if k.2.1 j = p then a + mFlow k g j else a) k.1 0)]) (rest := []) hx hb hml hown hts (kX7_pressureBy l G al (ov G al k B c g) (g (1 + p) 3) (k.2.2 (1 + p) 1) (it (fun j a => if k.2.1 j = p then a + mFlow k g j else a) k.1 0)) (fcwSN 3 hts (hE.1.1.2.2.2.2.1 (RX5, 216, yX7_pressureBy, RX7) (by decide +kernel)) q203 q148 q195 rfl rfl (by decide +kernel) ⟨(Nat.le_of_ble_eq_true rfl), (Nat.le_of_ble_eq_true rfl)⟩) hE hb0 hP hS rfl hl.1 rfl (Nat.le_of_ble_eq_true rfl) dX5_pressureOf_60 ⟨(Nat.le_of_ble_eq_true rfl), (Nat.le_of_ble_eq_true rfl)⟩) hS (fun u H locs hP hS => ?_)
    refine f_topi (v := mPby (g (1 + p) 3) (k.2.2 (1 + p) 1) (it (fun j a => if k.2.1 j = p then a + mFlow k g j else a) k.1 0)) rfl ?_
    refine W.widen (k := 0) (n := 0) (Nat.le_of_ble_eq_true rfl) (Nat.le_of_ble_eq_true rfl) ?_
    exact W.iret (v := mPby (g (1 + p) 3) (k.2.2 (1 + p) 1) (it (fun j a => if k.2.1 j = p then a + mFlow k g j else a) k.1 0)) hx hb hr (fun tz htz hW => ⟨⟨mPby (g (1 + p) 3) (k.2.2 (1 + p) 1) (it (fun j a => if k.2.1 j = p then a + mFlow k g j else a) k.1 0), (), rfl, (by unfold mPress; rfl), g_end htz hP⟩, hS.F htz⟩) hS.2.2 dX5_pressureOf_63
  · skip
    have hlti1 : i1 < k.1 := Nat.lt_of_not_le (fun q => hc_1 (nI_le q (by omega)))
    refine lv_aload_n hx hb dX5_pressureOf_15 rfl (lv_at hl 3 rfl) ?_
    refine m_get (C := RX5) (T := TX5) (N := 15) (ci := 6) (v := .ref (al (B + 3))) hx hb hts uX5 hown hE hP B rfl ov_s rfl 1 (by decide) (hts _ q174) (fun _ h9 => h9) rfl dX5_pressureOf_16 ?_
    refine lv_iload_n hx hb dX5_pressureOf_19 rfl (lv_at hl 0 rfl) ?_
    refine g_aft_r (g_runV (As := [.int (nI i1)]) (rest := []) hx hb hml hown hts (kJx4a65c_get_915e3 l G al (ov G al k B c g) (B + 3) (B + 4) k.1 (fun j => B + 20 + j) i1 (gF_j hF) hlti1) (fcwV 1 hts q188 q56 q57 q50 q43 rfl rfl (by decide +kernel) ⟨(Nat.le_of_ble_eq_true rfl), (Nat.le_of_ble_eq_true rfl)⟩) hE hb0 hP hS (m_recvL hE hP (gF_j hF) rfl) rfl hl.1 rfl (Nat.le_of_ble_eq_true rfl) dX5_pressureOf_20 ⟨(Nat.le_of_ble_eq_true rfl), (Nat.le_of_ble_eq_true rfl)⟩) hS (fun u H locs hP hS => ?_)
    refine g_topr (v := al (B + 20 + i1)) rfl ?_
    refine m_cast hx hb hown (hts _ q196) hE hP (B + 20 + i1) rfl (ov_j hlti1) rfl dX5_pressureOf_23 ?_
    refine lv_astore (lv' := [(4, .ref (al (B + 20 + i1))), (3, .int (nI i1)), (2, .int (it (fun j a => if k.2.1 j = p then a + mFlow k g j else a) i1 0)), (1, .ref (al (B + 11 + p))), (0, .ref (al B))]) hx hb dX5_pressureOf_26 hl (by decide) rfl (fun ls hl => ?_)
    refine lv_aload hx hb dX5_pressureOf_28 (lv_at hl 0 rfl) ?_
    refine m_get (C := RX3) (T := TX3) (N := 10) (ci := 4) (v := .ref (al (B + 11 + k.2.1 i1))) hx hb hts uX3 hown hE hP (B + 20 + i1) rfl (ov_j hlti1) rfl 0 (by decide) (hts _ q197) (fun _ h9 => h9) rfl dX5_pressureOf_30 ?_
    refine lv_aload_n hx hb dX5_pressureOf_33 rfl (lv_at hl 3 rfl) ?_
    refine m_acmp_ne hx hb (tgt := 45) dX5_pressureOf_34 (by decide) hP (ov_p (gF_pp hF hlti1)) (ov_p hp) rfl rfl (fun hc_2 => ?_) (fun hc_2 => ?_)
    · skip
      have hc_2' : ¬ k.2.1 i1 = p := fun q => hc_2 (by rw [q])
      refine lv_iinc (v := nI (i1 + 1)) (lv' := [(3, .int (nI (i1 + 1))), (4, .ref (al (B + 20 + i1))), (2, .int (it (fun j a => if k.2.1 j = p then a + mFlow k g j else a) i1 0)), (1, .ref (al (B + 11 + p))), (0, .ref (al B))]) hx hb dX5_pressureOf_45 hl (k := 1) rfl (f_inc _) (by decide) rfl (fun ls hl => ?_)
      refine lv_goto (tgt := 4) hx hb dX5_pressureOf_48 (by decide) ?_
      have hl9 := lv_sub (l' := [(3, .int (nI (i1 + 1))), (2, .int (it (fun j a => if k.2.1 j = p then a + mFlow k g j else a) i1 0)), (1, .ref (al (B + 11 + p))), (0, .ref (al B))]) hl [0, 2, 3, 4] rfl
      rw [show ([(3, .int (nI (i1 + 1))), (2, .int (it (fun j a => if k.2.1 j = p then a + mFlow k g j else a) i1 0)), (1, .ref (al (B + 11 + p))), (0, .ref (al B))] : List (Nat × Value)) = [(3, .int (nI (i1 + 1))), (2, .int (it (fun j a => if k.2.1 j = p then a + mFlow k g j else a) (i1 + 1) 0)), (1, .ref (al (B + 11 + p))), (0, .ref (al B))] from (by first | rfl | (simp only [it_s, if_neg hc_2']; done) | (simp only [it_s, if_neg hc_2']; rfl))] at hl9
      exact ihi1 hlti1 _ _ _ hP hS hl9
    · skip
      have hc_2' : k.2.1 i1 = p := by omega
      refine lv_iload_n hx hb dX5_pressureOf_37 rfl (lv_at hl 2 rfl) ?_
      refine lv_aload hx hb dX5_pressureOf_38 (lv_at hl 0 rfl) ?_
      refine g_aft_i (g_runV (As := []) (rest := [.int (it (fun j a => if k.2.1 j = p then a + mFlow k g j else a) i1 0)]) hx hb hml hown hts (kX3_flow l G al k h B c g i1 hlti1) (fcwV 0 hts q200 q201 q202 q185 q141 rfl rfl (by decide +kernel) ⟨(Nat.le_of_ble_eq_true rfl), (Nat.le_of_ble_eq_true rfl)⟩) hE hb0 hP hS (m_recvA hE hP (B + 20 + i1) rfl (ov_j hlti1) rfl) rfl hl.1 rfl (Nat.le_of_ble_eq_true rfl) dX5_pressureOf_40 ⟨(Nat.le_of_ble_eq_true rfl), (Nat.le_of_ble_eq_true rfl)⟩) hS (fun u H locs hP hS => ?_)
      have hP : mP G al (ov G al k B c g) H := hP
      refine f_topi (v := mFlow k g i1) rfl ?_
      refine lv_iadd hx hb dX5_pressureOf_43 ?_
      refine lv_istore_n (lv' := [(2, .int ((it (fun j a => if k.2.1 j = p then a + mFlow k g j else a) i1 0) + (mFlow k g i1))), (4, .ref (al (B + 20 + i1))), (3, .int (nI i1)), (1, .ref (al (B + 11 + p))), (0, .ref (al B))]) hx hb dX5_pressureOf_44 rfl hl (by decide) rfl (fun ls hl => ?_)
      refine lv_iinc (v := nI (i1 + 1)) (lv' := [(3, .int (nI (i1 + 1))), (2, .int ((it (fun j a => if k.2.1 j = p then a + mFlow k g j else a) i1 0) + (mFlow k g i1))), (4, .ref (al (B + 20 + i1))), (1, .ref (al (B + 11 + p))), (0, .ref (al B))]) hx hb dX5_pressureOf_45 hl (k := 2) rfl (f_inc _) (by decide) rfl (fun ls hl => ?_)
      refine lv_goto (tgt := 4) hx hb dX5_pressureOf_48 (by decide) ?_
      have hl9 := lv_sub (l' := [(3, .int (nI (i1 + 1))), (2, .int ((it (fun j a => if k.2.1 j = p then a + mFlow k g j else a) i1 0) + (mFlow k g i1))), (1, .ref (al (B + 11 + p))), (0, .ref (al B))]) hl [0, 1, 3, 4] rfl
      rw [show ([(3, .int (nI (i1 + 1))), (2, .int ((it (fun j a => if k.2.1 j = p then a + mFlow k g j else a) i1 0) + (mFlow k g i1))), (1, .ref (al (B + 11 + p))), (0, .ref (al B))] : List (Nat × Value)) = [(3, .int (nI (i1 + 1))), (2, .int (it (fun j a => if k.2.1 j = p then a + mFlow k g j else a) (i1 + 1) 0)), (1, .ref (al (B + 11 + p))), (0, .ref (al B))] from (by first | rfl | (simp only [it_s, if_pos hc_2']; done) | (simp only [it_s, if_pos hc_2']; rfl))] at hl9
      exact ihi1 hlti1 _ _ _ hP hS hl9
set_option maxHeartbeats 4000000 in
set_option maxRecDepth 100000 in
theorem kX5_flowsAsSet (l : Launch) (G : gT) (al : Nat → Nat) (k : gC) (h : gK) (B : Nat) (c : mC) (g : St) (p : Nat) (hF : gF G al k B c) (hp : p < 2) : Met l yX5_flowsAsSet (fW yX5_flowsAsSet cX5_flowsAsSet 5 (some .int)) { frames := 3, cells := 0, slots := 0, locals := 64 } (gPre G al (ov G al k B c g) [.ref (al B), .ref (al (B + 11 + p))]) (gQi (S := Unit) G (fun _ => mFSet k g p) (fun _ => al) (fun _ => ov G al k B c g)) 0 0 (gA G) := by
  refine Met.ofW (cc := cX5_flowsAsSet) (maxL := 5) (ret := (some .int)) (by decide) rfl ?_
  intro pz ez s m args below meth c₀ s₁ Bo hml hv
  obtain ⟨rfl, hb0, hP, hE⟩ := hv
  have hx := Bo.exec
  have hb := Bo.bytes
  have hr := Bo.returns
  have hts0 := atoms_spec (ws := (fW yX5_flowsAsSet cX5_flowsAsSet 5 (some .int))) Bo.pre
  have hts : ∀ w ∈ fA, w.before _ s = true := fun w h => hts0 w (List.mem_cons_of_mem _ h)
  have hown : s.vm.findClass RX5 = some m.cls := findClass_of_methodNamed Bo.named
  have hlocks := Bo.notSynchronized
  have hl := lv_entry ([.ref (al B), .ref (al (B + 11 + p))]) (n := 5) (Nat.le_of_ble_eq_true rfl)
  rw [lg_entry_eq]
  generalize (lg_sl ([.ref (al B), .ref (al (B + 11 + p))]) ++ List.replicate (5 - (lg_sl ([.ref (al B), .ref (al (B + 11 + p))])).length) Slot.unset).toArray = ls at hl ⊢
  have hl : lv_has ls 5 [(0, .ref (al B)), (1, .ref (al (B + 11 + p)))] := hl
  have hJ := gF_J hF
  refine g_start hP (fun H hP hS => ?_)
  refine lv_iconst (v := 0) hx hb dX5_flowsAsSet_0 (by decide) ?_
  refine lv_istore_n (lv' := [(2, .int 0), (0, .ref (al B)), (1, .ref (al (B + 11 + p)))]) hx hb dX5_flowsAsSet_1 rfl hl (by decide) rfl (fun ls hl => ?_)
  refine lv_iconst (v := 0) hx hb dX5_flowsAsSet_2 (by decide) ?_
  refine lv_istore_n (lv' := [(3, .int 0), (2, .int 0), (0, .ref (al B)), (1, .ref (al (B + 11 + p)))]) hx hb dX5_flowsAsSet_3 rfl hl (by decide) rfl (fun ls hl => ?_)
  refine g_loop (al := al) (N := k.1) (nL := 5) (Wi := fun i1 => ov G al k B c g) (Li := fun i1 => [(3, .int (nI i1)), (2, .int (it (fun j a => if k.2.1 j = p then a + k.2.2 (3 + j) 2 * g (3 + j) 4 else a) i1 0)), (1, .ref (al (B + 11 + p))), (0, .ref (al B))]) hP hS (lv_sub hl [0, 1, 3, 2] rfl) (fun i1 hii1 ihi1 H locs ls hP hS hl => ?_)
  have hP : mP G al (ov G al k B c g) H := hP
  have hl : lv_has ls 5 [(3, .int (nI i1)), (2, .int (it (fun j a => if k.2.1 j = p then a + k.2.2 (3 + j) 2 * g (3 + j) 4 else a) i1 0)), (1, .ref (al (B + 11 + p))), (0, .ref (al B))] := hl
  refine lv_iload_n hx hb dX5_flowsAsSet_4 rfl (lv_at hl 0 rfl) ?_
  refine lv_aload_n hx hb dX5_flowsAsSet_5 rfl (lv_at hl 3 rfl) ?_
  refine m_get (C := RX5) (T := TX5) (N := 15) (ci := 6) (v := .ref (al (B + 3))) hx hb hts uX5 hown hE hP B rfl ov_s rfl 1 (by decide) (hts _ q174) (fun _ h9 => h9) rfl dX5_flowsAsSet_6 ?_
  refine g_aft_i (g_runV (As := []) (rest := [.int (nI i1)]) hx hb hml hown hts (kJx4a65c_size_8abf5 l G al (ov G al k B c g) (B + 3) (B + 4) k.1 (fun j => B + 20 + j) (gF_j hF)) (fcwV 0 hts q187 q53 q54 q50 q34 rfl rfl (by decide +kernel) ⟨(Nat.le_of_ble_eq_true rfl), (Nat.le_of_ble_eq_true rfl)⟩) hE hb0 hP hS (m_recvL hE hP (gF_j hF) rfl) rfl hl.1 rfl (Nat.le_of_ble_eq_true rfl) dX5_flowsAsSet_9 ⟨(Nat.le_of_ble_eq_true rfl), (Nat.le_of_ble_eq_true rfl)⟩) hS (fun u H locs hP hS => ?_)
  refine f_topi (v := nI k.1) rfl ?_
  refine lv_icmp_ge (tgt := 57) hx hb dX5_flowsAsSet_12 (by decide) (fun hc_1 => ?_) (fun hc_1 => ?_)
  · skip
    have hgei1 : k.1 ≤ i1 := (nI_leI (by omega) (by omega)).mp hc_1
    obtain rfl : k.1 = i1 := Nat.le_antisymm hgei1 hii1
    have hP : mP G al (ov G al k B c g) H := hP
    have hl : lv_has ls 5 [(3, .int (nI k.1)), (2, .int (it (fun j a => if k.2.1 j = p then a + k.2.2 (3 + j) 2 * g (3 + j) 4 else a) k.1 0)), (1, .ref (al (B + 11 + p))), (0, .ref (al B))] := hl
    refine lv_iload_n hx hb dX5_flowsAsSet_57 rfl (lv_at hl 1 rfl) ?_
    refine W.widen (k := 0) (n := 0) (Nat.le_of_ble_eq_true rfl) (Nat.le_of_ble_eq_true rfl) ?_
    exact W.iret (v := it (fun j a => if k.2.1 j = p then a + k.2.2 (3 + j) 2 * g (3 + j) 4 else a) k.1 0) hx hb hr (fun tz htz hW => ⟨⟨it (fun j a => if k.2.1 j = p then a + k.2.2 (3 + j) 2 * g (3 + j) 4 else a) k.1 0, (), rfl, (by unfold mFSet; rfl), g_end htz hP⟩, hS.F htz⟩) hS.2.2 dX5_flowsAsSet_58
  · skip
    have hlti1 : i1 < k.1 := Nat.lt_of_not_le (fun q => hc_1 (nI_le q (by omega)))
    refine lv_aload_n hx hb dX5_flowsAsSet_15 rfl (lv_at hl 3 rfl) ?_
    refine m_get (C := RX5) (T := TX5) (N := 15) (ci := 6) (v := .ref (al (B + 3))) hx hb hts uX5 hown hE hP B rfl ov_s rfl 1 (by decide) (hts _ q174) (fun _ h9 => h9) rfl dX5_flowsAsSet_16 ?_
    refine lv_iload_n hx hb dX5_flowsAsSet_19 rfl (lv_at hl 0 rfl) ?_
    refine g_aft_r (g_runV (As := [.int (nI i1)]) (rest := []) hx hb hml hown hts (kJx4a65c_get_915e3 l G al (ov G al k B c g) (B + 3) (B + 4) k.1 (fun j => B + 20 + j) i1 (gF_j hF) hlti1) (fcwV 1 hts q188 q56 q57 q50 q43 rfl rfl (by decide +kernel) ⟨(Nat.le_of_ble_eq_true rfl), (Nat.le_of_ble_eq_true rfl)⟩) hE hb0 hP hS (m_recvL hE hP (gF_j hF) rfl) rfl hl.1 rfl (Nat.le_of_ble_eq_true rfl) dX5_flowsAsSet_20 ⟨(Nat.le_of_ble_eq_true rfl), (Nat.le_of_ble_eq_true rfl)⟩) hS (fun u H locs hP hS => ?_)
    refine g_topr (v := al (B + 20 + i1)) rfl ?_
    refine m_cast hx hb hown (hts _ q196) hE hP (B + 20 + i1) rfl (ov_j hlti1) rfl dX5_flowsAsSet_23 ?_
    refine lv_astore (lv' := [(4, .ref (al (B + 20 + i1))), (3, .int (nI i1)), (2, .int (it (fun j a => if k.2.1 j = p then a + k.2.2 (3 + j) 2 * g (3 + j) 4 else a) i1 0)), (1, .ref (al (B + 11 + p))), (0, .ref (al B))]) hx hb dX5_flowsAsSet_26 hl (by decide) rfl (fun ls hl => ?_)
    refine lv_aload hx hb dX5_flowsAsSet_28 (lv_at hl 0 rfl) ?_
    refine m_get (C := RX3) (T := TX3) (N := 10) (ci := 4) (v := .ref (al (B + 11 + k.2.1 i1))) hx hb hts uX3 hown hE hP (B + 20 + i1) rfl (ov_j hlti1) rfl 0 (by decide) (hts _ q197) (fun _ h9 => h9) rfl dX5_flowsAsSet_30 ?_
    refine lv_aload_n hx hb dX5_flowsAsSet_33 rfl (lv_at hl 3 rfl) ?_
    refine m_acmp_ne hx hb (tgt := 51) dX5_flowsAsSet_34 (by decide) hP (ov_p (gF_pp hF hlti1)) (ov_p hp) rfl rfl (fun hc_2 => ?_) (fun hc_2 => ?_)
    · skip
      have hc_2' : ¬ k.2.1 i1 = p := fun q => hc_2 (by rw [q])
      refine lv_iinc (v := nI (i1 + 1)) (lv' := [(3, .int (nI (i1 + 1))), (4, .ref (al (B + 20 + i1))), (2, .int (it (fun j a => if k.2.1 j = p then a + k.2.2 (3 + j) 2 * g (3 + j) 4 else a) i1 0)), (1, .ref (al (B + 11 + p))), (0, .ref (al B))]) hx hb dX5_flowsAsSet_51 hl (k := 1) rfl (f_inc _) (by decide) rfl (fun ls hl => ?_)
      refine lv_goto (tgt := 4) hx hb dX5_flowsAsSet_54 (by decide) ?_
      have hl9 := lv_sub (l' := [(3, .int (nI (i1 + 1))), (2, .int (it (fun j a => if k.2.1 j = p then a + k.2.2 (3 + j) 2 * g (3 + j) 4 else a) i1 0)), (1, .ref (al (B + 11 + p))), (0, .ref (al B))]) hl [0, 2, 3, 4] rfl
      rw [show ([(3, .int (nI (i1 + 1))), (2, .int (it (fun j a => if k.2.1 j = p then a + k.2.2 (3 + j) 2 * g (3 + j) 4 else a) i1 0)), (1, .ref (al (B + 11 + p))), (0, .ref (al B))] : List (Nat × Value)) = [(3, .int (nI (i1 + 1))), (2, .int (it (fun j a => if k.2.1 j = p then a + k.2.2 (3 + j) 2 * g (3 + j) 4 else a) (i1 + 1) 0)), (1, .ref (al (B + 11 + p))), (0, .ref (al B))] from (by first | rfl | (simp only [it_s, if_neg hc_2']; done) | (simp only [it_s, if_neg hc_2']; rfl))] at hl9
      exact ihi1 hlti1 _ _ _ hP hS hl9
    · skip
      have hc_2' : k.2.1 i1 = p := by omega
      refine lv_iload_n hx hb dX5_flowsAsSet_37 rfl (lv_at hl 2 rfl) ?_
      refine lv_aload hx hb dX5_flowsAsSet_38 (lv_at hl 0 rfl) ?_
      refine m_get (C := RX3) (T := TX3) (N := 10) (ci := 4) (v := .int (k.2.2 (3 + i1) 2)) hx hb hts uX3 hown hE hP (B + 20 + i1) rfl (ov_j hlti1) rfl 2 (by decide) (hts _ q343) (fun _ h9 => h9) rfl dX5_flowsAsSet_40 ?_
      refine lv_aload hx hb dX5_flowsAsSet_43 (lv_at hl 0 rfl) ?_
      refine m_get (C := RX3) (T := TX3) (N := 10) (ci := 4) (v := .int (g (3 + i1) 4)) hx hb hts uX3 hown hE hP (B + 20 + i1) rfl (ov_j hlti1) rfl 4 (by decide) (hts _ q341) (fun _ h9 => h9) rfl dX5_flowsAsSet_45 ?_
      refine lv_imul hx hb dX5_flowsAsSet_48 ?_
      refine lv_iadd hx hb dX5_flowsAsSet_49 ?_
      refine lv_istore_n (lv' := [(2, .int ((it (fun j a => if k.2.1 j = p then a + k.2.2 (3 + j) 2 * g (3 + j) 4 else a) i1 0) + ((k.2.2 (3 + i1) 2) * (g (3 + i1) 4)))), (4, .ref (al (B + 20 + i1))), (3, .int (nI i1)), (1, .ref (al (B + 11 + p))), (0, .ref (al B))]) hx hb dX5_flowsAsSet_50 rfl hl (by decide) rfl (fun ls hl => ?_)
      refine lv_iinc (v := nI (i1 + 1)) (lv' := [(3, .int (nI (i1 + 1))), (2, .int ((it (fun j a => if k.2.1 j = p then a + k.2.2 (3 + j) 2 * g (3 + j) 4 else a) i1 0) + ((k.2.2 (3 + i1) 2) * (g (3 + i1) 4)))), (4, .ref (al (B + 20 + i1))), (1, .ref (al (B + 11 + p))), (0, .ref (al B))]) hx hb dX5_flowsAsSet_51 hl (k := 2) rfl (f_inc _) (by decide) rfl (fun ls hl => ?_)
      refine lv_goto (tgt := 4) hx hb dX5_flowsAsSet_54 (by decide) ?_
      have hl9 := lv_sub (l' := [(3, .int (nI (i1 + 1))), (2, .int ((it (fun j a => if k.2.1 j = p then a + k.2.2 (3 + j) 2 * g (3 + j) 4 else a) i1 0) + ((k.2.2 (3 + i1) 2) * (g (3 + i1) 4)))), (1, .ref (al (B + 11 + p))), (0, .ref (al B))]) hl [0, 1, 3, 4] rfl
      rw [show ([(3, .int (nI (i1 + 1))), (2, .int ((it (fun j a => if k.2.1 j = p then a + k.2.2 (3 + j) 2 * g (3 + j) 4 else a) i1 0) + ((k.2.2 (3 + i1) 2) * (g (3 + i1) 4)))), (1, .ref (al (B + 11 + p))), (0, .ref (al B))] : List (Nat × Value)) = [(3, .int (nI (i1 + 1))), (2, .int (it (fun j a => if k.2.1 j = p then a + k.2.2 (3 + j) 2 * g (3 + j) 4 else a) (i1 + 1) 0)), (1, .ref (al (B + 11 + p))), (0, .ref (al B))] from (by first | rfl | (simp only [it_s, if_pos hc_2']; done) | (simp only [it_s, if_pos hc_2']; rfl))] at hl9
      exact ihi1 hlti1 _ _ _ hP hS hl9
set_option maxHeartbeats 4000000 in
set_option maxRecDepth 100000 in
theorem kX5_jetsOf (l : Launch) (G : gT) (al : Nat → Nat) (k : gC) (h : gK) (B : Nat) (c : mC) (g : St) (p : Nat) (hF : gF G al k B c) (hp : p < 2) : Met l yX5_jetsOf (fW yX5_jetsOf cX5_jetsOf 4 (some .int)) { frames := 3, cells := 0, slots := 0, locals := 64 } (gPre G al (ov G al k B c g) [.ref (al B), .ref (al (B + 11 + p))]) (gQi (S := Unit) G (fun _ => mJets k p) (fun _ => al) (fun _ => ov G al k B c g)) 0 0 (gA G) := by
  refine Met.ofW (cc := cX5_jetsOf) (maxL := 4) (ret := (some .int)) (by decide) rfl ?_
  intro pz ez s m args below meth c₀ s₁ Bo hml hv
  obtain ⟨rfl, hb0, hP, hE⟩ := hv
  have hx := Bo.exec
  have hb := Bo.bytes
  have hr := Bo.returns
  have hts0 := atoms_spec (ws := (fW yX5_jetsOf cX5_jetsOf 4 (some .int))) Bo.pre
  have hts : ∀ w ∈ fA, w.before _ s = true := fun w h => hts0 w (List.mem_cons_of_mem _ h)
  have hown : s.vm.findClass RX5 = some m.cls := findClass_of_methodNamed Bo.named
  have hlocks := Bo.notSynchronized
  have hl := lv_entry ([.ref (al B), .ref (al (B + 11 + p))]) (n := 4) (Nat.le_of_ble_eq_true rfl)
  rw [lg_entry_eq]
  generalize (lg_sl ([.ref (al B), .ref (al (B + 11 + p))]) ++ List.replicate (4 - (lg_sl ([.ref (al B), .ref (al (B + 11 + p))])).length) Slot.unset).toArray = ls at hl ⊢
  have hl : lv_has ls 4 [(0, .ref (al B)), (1, .ref (al (B + 11 + p)))] := hl
  have hJ := gF_J hF
  refine g_start hP (fun H hP hS => ?_)
  refine lv_iconst (v := 0) hx hb dX5_jetsOf_0 (by decide) ?_
  refine lv_istore_n (lv' := [(2, .int 0), (0, .ref (al B)), (1, .ref (al (B + 11 + p)))]) hx hb dX5_jetsOf_1 rfl hl (by decide) rfl (fun ls hl => ?_)
  refine lv_iconst (v := 0) hx hb dX5_jetsOf_2 (by decide) ?_
  refine lv_istore_n (lv' := [(3, .int 0), (2, .int 0), (0, .ref (al B)), (1, .ref (al (B + 11 + p)))]) hx hb dX5_jetsOf_3 rfl hl (by decide) rfl (fun ls hl => ?_)
  refine g_loop (al := al) (N := k.1) (nL := 4) (Wi := fun i1 => ov G al k B c g) (Li := fun i1 => [(3, .int (nI i1)), (2, .int (it (fun j a => if k.2.1 j = p then a ||| 1 <<< (nI j &&& 31) else a) i1 0)), (1, .ref (al (B + 11 + p))), (0, .ref (al B))]) hP hS (lv_sub hl [0, 1, 3, 2] rfl) (fun i1 hii1 ihi1 H locs ls hP hS hl => ?_)
  have hP : mP G al (ov G al k B c g) H := hP
  have hl : lv_has ls 4 [(3, .int (nI i1)), (2, .int (it (fun j a => if k.2.1 j = p then a ||| 1 <<< (nI j &&& 31) else a) i1 0)), (1, .ref (al (B + 11 + p))), (0, .ref (al B))] := hl
  refine lv_iload_n hx hb dX5_jetsOf_4 rfl (lv_at hl 0 rfl) ?_
  refine lv_aload_n hx hb dX5_jetsOf_5 rfl (lv_at hl 3 rfl) ?_
  refine m_get (C := RX5) (T := TX5) (N := 15) (ci := 6) (v := .ref (al (B + 3))) hx hb hts uX5 hown hE hP B rfl ov_s rfl 1 (by decide) (hts _ q174) (fun _ h9 => h9) rfl dX5_jetsOf_6 ?_
  refine g_aft_i (g_runV (As := []) (rest := [.int (nI i1)]) hx hb hml hown hts (kJx4a65c_size_8abf5 l G al (ov G al k B c g) (B + 3) (B + 4) k.1 (fun j => B + 20 + j) (gF_j hF)) (fcwV 0 hts q187 q53 q54 q50 q34 rfl rfl (by decide +kernel) ⟨(Nat.le_of_ble_eq_true rfl), (Nat.le_of_ble_eq_true rfl)⟩) hE hb0 hP hS (m_recvL hE hP (gF_j hF) rfl) rfl hl.1 rfl (Nat.le_of_ble_eq_true rfl) dX5_jetsOf_9 ⟨(Nat.le_of_ble_eq_true rfl), (Nat.le_of_ble_eq_true rfl)⟩) hS (fun u H locs hP hS => ?_)
  refine f_topi (v := nI k.1) rfl ?_
  refine lv_icmp_ge (tgt := 45) hx hb dX5_jetsOf_12 (by decide) (fun hc_1 => ?_) (fun hc_1 => ?_)
  · skip
    have hgei1 : k.1 ≤ i1 := (nI_leI (by omega) (by omega)).mp hc_1
    obtain rfl : k.1 = i1 := Nat.le_antisymm hgei1 hii1
    have hP : mP G al (ov G al k B c g) H := hP
    have hl : lv_has ls 4 [(3, .int (nI k.1)), (2, .int (it (fun j a => if k.2.1 j = p then a ||| 1 <<< (nI j &&& 31) else a) k.1 0)), (1, .ref (al (B + 11 + p))), (0, .ref (al B))] := hl
    refine lv_iload_n hx hb dX5_jetsOf_45 rfl (lv_at hl 1 rfl) ?_
    refine W.widen (k := 0) (n := 0) (Nat.le_of_ble_eq_true rfl) (Nat.le_of_ble_eq_true rfl) ?_
    exact W.iret (v := it (fun j a => if k.2.1 j = p then a ||| 1 <<< (nI j &&& 31) else a) k.1 0) hx hb hr (fun tz htz hW => ⟨⟨it (fun j a => if k.2.1 j = p then a ||| 1 <<< (nI j &&& 31) else a) k.1 0, (), rfl, (by unfold mJets; rfl), g_end htz hP⟩, hS.F htz⟩) hS.2.2 dX5_jetsOf_46
  · skip
    have hlti1 : i1 < k.1 := Nat.lt_of_not_le (fun q => hc_1 (nI_le q (by omega)))
    refine lv_aload_n hx hb dX5_jetsOf_15 rfl (lv_at hl 3 rfl) ?_
    refine m_get (C := RX5) (T := TX5) (N := 15) (ci := 6) (v := .ref (al (B + 3))) hx hb hts uX5 hown hE hP B rfl ov_s rfl 1 (by decide) (hts _ q174) (fun _ h9 => h9) rfl dX5_jetsOf_16 ?_
    refine lv_iload_n hx hb dX5_jetsOf_19 rfl (lv_at hl 0 rfl) ?_
    refine g_aft_r (g_runV (As := [.int (nI i1)]) (rest := []) hx hb hml hown hts (kJx4a65c_get_915e3 l G al (ov G al k B c g) (B + 3) (B + 4) k.1 (fun j => B + 20 + j) i1 (gF_j hF) hlti1) (fcwV 1 hts q188 q56 q57 q50 q43 rfl rfl (by decide +kernel) ⟨(Nat.le_of_ble_eq_true rfl), (Nat.le_of_ble_eq_true rfl)⟩) hE hb0 hP hS (m_recvL hE hP (gF_j hF) rfl) rfl hl.1 rfl (Nat.le_of_ble_eq_true rfl) dX5_jetsOf_20 ⟨(Nat.le_of_ble_eq_true rfl), (Nat.le_of_ble_eq_true rfl)⟩) hS (fun u H locs hP hS => ?_)
    refine g_topr (v := al (B + 20 + i1)) rfl ?_
    refine m_cast hx hb hown (hts _ q196) hE hP (B + 20 + i1) rfl (ov_j hlti1) rfl dX5_jetsOf_23 ?_
    refine m_get (C := RX3) (T := TX3) (N := 10) (ci := 4) (v := .ref (al (B + 11 + k.2.1 i1))) hx hb hts uX3 hown hE hP (B + 20 + i1) rfl (ov_j hlti1) rfl 0 (by decide) (hts _ q197) (fun _ h9 => h9) rfl dX5_jetsOf_26 ?_
    refine lv_aload_n hx hb dX5_jetsOf_29 rfl (lv_at hl 2 rfl) ?_
    refine m_acmp_ne hx hb (tgt := 39) dX5_jetsOf_30 (by decide) hP (ov_p (gF_pp hF hlti1)) (ov_p hp) rfl rfl (fun hc_2 => ?_) (fun hc_2 => ?_)
    · skip
      have hc_2' : ¬ k.2.1 i1 = p := fun q => hc_2 (by rw [q])
      refine lv_iinc (v := nI (i1 + 1)) (lv' := [(3, .int (nI (i1 + 1))), (2, .int (it (fun j a => if k.2.1 j = p then a ||| 1 <<< (nI j &&& 31) else a) i1 0)), (1, .ref (al (B + 11 + p))), (0, .ref (al B))]) hx hb dX5_jetsOf_39 hl (k := 0) rfl (f_inc _) (by decide) rfl (fun ls hl => ?_)
      refine lv_goto (tgt := 4) hx hb dX5_jetsOf_42 (by decide) ?_
      have hl9 := lv_sub (l' := [(3, .int (nI (i1 + 1))), (2, .int (it (fun j a => if k.2.1 j = p then a ||| 1 <<< (nI j &&& 31) else a) i1 0)), (1, .ref (al (B + 11 + p))), (0, .ref (al B))]) hl [0, 1, 2, 3] rfl
      rw [show ([(3, .int (nI (i1 + 1))), (2, .int (it (fun j a => if k.2.1 j = p then a ||| 1 <<< (nI j &&& 31) else a) i1 0)), (1, .ref (al (B + 11 + p))), (0, .ref (al B))] : List (Nat × Value)) = [(3, .int (nI (i1 + 1))), (2, .int (it (fun j a => if k.2.1 j = p then a ||| 1 <<< (nI j &&& 31) else a) (i1 + 1) 0)), (1, .ref (al (B + 11 + p))), (0, .ref (al B))] from (by first | rfl | (simp only [it_s, if_neg hc_2']; done) | (simp only [it_s, if_neg hc_2']; rfl))] at hl9
      exact ihi1 hlti1 _ _ _ hP hS hl9
    · skip
      have hc_2' : k.2.1 i1 = p := by omega
      refine lv_iload_n hx hb dX5_jetsOf_33 rfl (lv_at hl 1 rfl) ?_
      refine lv_iconst (v := 1) hx hb dX5_jetsOf_34 (by decide) ?_
      refine lv_iload_n hx hb dX5_jetsOf_35 rfl (lv_at hl 0 rfl) ?_
      refine lv_ishl hx hb dX5_jetsOf_36 ?_
      refine lv_ior hx hb dX5_jetsOf_37 ?_
      refine lv_istore_n (lv' := [(2, .int ((it (fun j a => if k.2.1 j = p then a ||| 1 <<< (nI j &&& 31) else a) i1 0) ||| (1 <<< ((nI i1) &&& 31)))), (3, .int (nI i1)), (1, .ref (al (B + 11 + p))), (0, .ref (al B))]) hx hb dX5_jetsOf_38 rfl hl (by decide) rfl (fun ls hl => ?_)
      refine lv_iinc (v := nI (i1 + 1)) (lv' := [(3, .int (nI (i1 + 1))), (2, .int ((it (fun j a => if k.2.1 j = p then a ||| 1 <<< (nI j &&& 31) else a) i1 0) ||| (1 <<< ((nI i1) &&& 31)))), (1, .ref (al (B + 11 + p))), (0, .ref (al B))]) hx hb dX5_jetsOf_39 hl (k := 1) rfl (f_inc _) (by decide) rfl (fun ls hl => ?_)
      refine lv_goto (tgt := 4) hx hb dX5_jetsOf_42 (by decide) ?_
      have hl9 := lv_sub (l' := [(3, .int (nI (i1 + 1))), (2, .int ((it (fun j a => if k.2.1 j = p then a ||| 1 <<< (nI j &&& 31) else a) i1 0) ||| (1 <<< ((nI i1) &&& 31)))), (1, .ref (al (B + 11 + p))), (0, .ref (al B))]) hl [0, 1, 2, 3] rfl
      rw [show ([(3, .int (nI (i1 + 1))), (2, .int ((it (fun j a => if k.2.1 j = p then a ||| 1 <<< (nI j &&& 31) else a) i1 0) ||| (1 <<< ((nI i1) &&& 31)))), (1, .ref (al (B + 11 + p))), (0, .ref (al B))] : List (Nat × Value)) = [(3, .int (nI (i1 + 1))), (2, .int (it (fun j a => if k.2.1 j = p then a ||| 1 <<< (nI j &&& 31) else a) (i1 + 1) 0)), (1, .ref (al (B + 11 + p))), (0, .ref (al B))] from (by first | rfl | (simp only [it_s, if_pos hc_2']; done) | (simp only [it_s, if_pos hc_2']; rfl))] at hl9
      exact ihi1 hlti1 _ _ _ hP hS hl9
set_option maxHeartbeats 4000000 in
set_option maxRecDepth 100000 in
theorem kX5_lampsOn (l : Launch) (G : gT) (al : Nat → Nat) (k : gC) (h : gK) (B : Nat) (c : mC) (g : St) (hF : gF G al k B c) : Met l yX5_lampsOn (fW yX5_lampsOn cX5_lampsOn 3 (some .int)) { frames := 3, cells := 0, slots := 0, locals := 64 } (gPre G al (ov G al k B c g) [.ref (al B)]) (gQi (S := Unit) G (fun _ => mLamps k g) (fun _ => al) (fun _ => ov G al k B c g)) 0 0 (gA G) := by
  refine Met.ofW (cc := cX5_lampsOn) (maxL := 3) (ret := (some .int)) (by decide) rfl ?_
  intro pz ez s m args below meth c₀ s₁ Bo hml hv
  obtain ⟨rfl, hb0, hP, hE⟩ := hv
  have hx := Bo.exec
  have hb := Bo.bytes
  have hr := Bo.returns
  have hts0 := atoms_spec (ws := (fW yX5_lampsOn cX5_lampsOn 3 (some .int))) Bo.pre
  have hts : ∀ w ∈ fA, w.before _ s = true := fun w h => hts0 w (List.mem_cons_of_mem _ h)
  have hown : s.vm.findClass RX5 = some m.cls := findClass_of_methodNamed Bo.named
  have hlocks := Bo.notSynchronized
  have hl := lv_entry ([.ref (al B)]) (n := 3) (Nat.le_of_ble_eq_true rfl)
  rw [lg_entry_eq]
  generalize (lg_sl ([.ref (al B)]) ++ List.replicate (3 - (lg_sl ([.ref (al B)])).length) Slot.unset).toArray = ls at hl ⊢
  have hl : lv_has ls 3 [(0, .ref (al B))] := hl
  have hJ := gF_J hF
  refine g_start hP (fun H hP hS => ?_)
  refine lv_iconst (v := 0) hx hb dX5_lampsOn_0 (by decide) ?_
  refine lv_istore_n (lv' := [(1, .int 0), (0, .ref (al B))]) hx hb dX5_lampsOn_1 rfl hl (by decide) rfl (fun ls hl => ?_)
  refine lv_iconst (v := 0) hx hb dX5_lampsOn_2 (by decide) ?_
  refine lv_istore_n (lv' := [(2, .int 0), (1, .int 0), (0, .ref (al B))]) hx hb dX5_lampsOn_3 rfl hl (by decide) rfl (fun ls hl => ?_)
  refine g_loop (al := al) (N := k.1) (nL := 3) (Wi := fun i1 => ov G al k B c g) (Li := fun i1 => [(2, .int (nI i1)), (1, .int (it (fun j a => if bz (g (3 + j) 7) = 0 then a else a ||| 1 <<< (nI j &&& 31)) i1 0)), (0, .ref (al B))]) hP hS (lv_sub hl [0, 1, 2] rfl) (fun i1 hii1 ihi1 H locs ls hP hS hl => ?_)
  have hP : mP G al (ov G al k B c g) H := hP
  have hl : lv_has ls 3 [(2, .int (nI i1)), (1, .int (it (fun j a => if bz (g (3 + j) 7) = 0 then a else a ||| 1 <<< (nI j &&& 31)) i1 0)), (0, .ref (al B))] := hl
  refine lv_iload_n hx hb dX5_lampsOn_4 rfl (lv_at hl 0 rfl) ?_
  refine lv_aload_n hx hb dX5_lampsOn_5 rfl (lv_at hl 2 rfl) ?_
  refine m_get (C := RX5) (T := TX5) (N := 15) (ci := 6) (v := .ref (al (B + 3))) hx hb hts uX5 hown hE hP B rfl ov_s rfl 1 (by decide) (hts _ q174) (fun _ h9 => h9) rfl dX5_lampsOn_6 ?_
  refine g_aft_i (g_runV (As := []) (rest := [.int (nI i1)]) hx hb hml hown hts (kJx4a65c_size_8abf5 l G al (ov G al k B c g) (B + 3) (B + 4) k.1 (fun j => B + 20 + j) (gF_j hF)) (fcwV 0 hts q187 q53 q54 q50 q34 rfl rfl (by decide +kernel) ⟨(Nat.le_of_ble_eq_true rfl), (Nat.le_of_ble_eq_true rfl)⟩) hE hb0 hP hS (m_recvL hE hP (gF_j hF) rfl) rfl hl.1 rfl (Nat.le_of_ble_eq_true rfl) dX5_lampsOn_9 ⟨(Nat.le_of_ble_eq_true rfl), (Nat.le_of_ble_eq_true rfl)⟩) hS (fun u H locs hP hS => ?_)
  refine f_topi (v := nI k.1) rfl ?_
  refine lv_icmp_ge (tgt := 44) hx hb dX5_lampsOn_12 (by decide) (fun hc_1 => ?_) (fun hc_1 => ?_)
  · skip
    have hgei1 : k.1 ≤ i1 := (nI_leI (by omega) (by omega)).mp hc_1
    obtain rfl : k.1 = i1 := Nat.le_antisymm hgei1 hii1
    have hP : mP G al (ov G al k B c g) H := hP
    have hl : lv_has ls 3 [(2, .int (nI k.1)), (1, .int (it (fun j a => if bz (g (3 + j) 7) = 0 then a else a ||| 1 <<< (nI j &&& 31)) k.1 0)), (0, .ref (al B))] := hl
    refine lv_iload_n hx hb dX5_lampsOn_44 rfl (lv_at hl 1 rfl) ?_
    refine W.widen (k := 0) (n := 0) (Nat.le_of_ble_eq_true rfl) (Nat.le_of_ble_eq_true rfl) ?_
    exact W.iret (v := it (fun j a => if bz (g (3 + j) 7) = 0 then a else a ||| 1 <<< (nI j &&& 31)) k.1 0) hx hb hr (fun tz htz hW => ⟨⟨it (fun j a => if bz (g (3 + j) 7) = 0 then a else a ||| 1 <<< (nI j &&& 31)) k.1 0, (), rfl, (by unfold mLamps; rfl), g_end htz hP⟩, hS.F htz⟩) hS.2.2 dX5_lampsOn_45
  · skip
    have hlti1 : i1 < k.1 := Nat.lt_of_not_le (fun q => hc_1 (nI_le q (by omega)))
    refine lv_aload_n hx hb dX5_lampsOn_15 rfl (lv_at hl 2 rfl) ?_
    refine m_get (C := RX5) (T := TX5) (N := 15) (ci := 6) (v := .ref (al (B + 3))) hx hb hts uX5 hown hE hP B rfl ov_s rfl 1 (by decide) (hts _ q174) (fun _ h9 => h9) rfl dX5_lampsOn_16 ?_
    refine lv_iload_n hx hb dX5_lampsOn_19 rfl (lv_at hl 0 rfl) ?_
    refine g_aft_r (g_runV (As := [.int (nI i1)]) (rest := []) hx hb hml hown hts (kJx4a65c_get_915e3 l G al (ov G al k B c g) (B + 3) (B + 4) k.1 (fun j => B + 20 + j) i1 (gF_j hF) hlti1) (fcwV 1 hts q188 q56 q57 q50 q43 rfl rfl (by decide +kernel) ⟨(Nat.le_of_ble_eq_true rfl), (Nat.le_of_ble_eq_true rfl)⟩) hE hb0 hP hS (m_recvL hE hP (gF_j hF) rfl) rfl hl.1 rfl (Nat.le_of_ble_eq_true rfl) dX5_lampsOn_20 ⟨(Nat.le_of_ble_eq_true rfl), (Nat.le_of_ble_eq_true rfl)⟩) hS (fun u H locs hP hS => ?_)
    refine g_topr (v := al (B + 20 + i1)) rfl ?_
    refine m_cast hx hb hown (hts _ q196) hE hP (B + 20 + i1) rfl (ov_j hlti1) rfl dX5_lampsOn_23 ?_
    refine m_get (C := RX3) (T := TX3) (N := 10) (ci := 4) (v := .int (bz (g (3 + i1) 7))) hx hb hts uX3 hown hE hP (B + 20 + i1) rfl (ov_j hlti1) rfl 7 (by decide) (hts _ q290) (fun _ h9 => h9) rfl dX5_lampsOn_26 ?_
    refine lv_if_eq (tgt := 38) hx hb dX5_lampsOn_29 (by decide) (fun hc_2 => ?_) (fun hc_2 => ?_)
    · skip
      refine lv_iinc (v := nI (i1 + 1)) (lv' := [(2, .int (nI (i1 + 1))), (1, .int (it (fun j a => if bz (g (3 + j) 7) = 0 then a else a ||| 1 <<< (nI j &&& 31)) i1 0)), (0, .ref (al B))]) hx hb dX5_lampsOn_38 hl (k := 0) rfl (f_inc _) (by decide) rfl (fun ls hl => ?_)
      refine lv_goto (tgt := 4) hx hb dX5_lampsOn_41 (by decide) ?_
      have hl9 := lv_sub (l' := [(2, .int (nI (i1 + 1))), (1, .int (it (fun j a => if bz (g (3 + j) 7) = 0 then a else a ||| 1 <<< (nI j &&& 31)) i1 0)), (0, .ref (al B))]) hl [0, 1, 2] rfl
      rw [show ([(2, .int (nI (i1 + 1))), (1, .int (it (fun j a => if bz (g (3 + j) 7) = 0 then a else a ||| 1 <<< (nI j &&& 31)) i1 0)), (0, .ref (al B))] : List (Nat × Value)) = [(2, .int (nI (i1 + 1))), (1, .int (it (fun j a => if bz (g (3 + j) 7) = 0 then a else a ||| 1 <<< (nI j &&& 31)) (i1 + 1) 0)), (0, .ref (al B))] from (by first | rfl | (simp only [it_s, if_pos hc_2]; done) | (simp only [it_s, if_pos hc_2]; rfl))] at hl9
      exact ihi1 hlti1 _ _ _ hP hS hl9
    · skip
      refine lv_iload_n hx hb dX5_lampsOn_32 rfl (lv_at hl 1 rfl) ?_
      refine lv_iconst (v := 1) hx hb dX5_lampsOn_33 (by decide) ?_
      refine lv_iload_n hx hb dX5_lampsOn_34 rfl (lv_at hl 0 rfl) ?_
      refine lv_ishl hx hb dX5_lampsOn_35 ?_
      refine lv_ior hx hb dX5_lampsOn_36 ?_
      refine lv_istore_n (lv' := [(1, .int ((it (fun j a => if bz (g (3 + j) 7) = 0 then a else a ||| 1 <<< (nI j &&& 31)) i1 0) ||| (1 <<< ((nI i1) &&& 31)))), (2, .int (nI i1)), (0, .ref (al B))]) hx hb dX5_lampsOn_37 rfl hl (by decide) rfl (fun ls hl => ?_)
      refine lv_iinc (v := nI (i1 + 1)) (lv' := [(2, .int (nI (i1 + 1))), (1, .int ((it (fun j a => if bz (g (3 + j) 7) = 0 then a else a ||| 1 <<< (nI j &&& 31)) i1 0) ||| (1 <<< ((nI i1) &&& 31)))), (0, .ref (al B))]) hx hb dX5_lampsOn_38 hl (k := 1) rfl (f_inc _) (by decide) rfl (fun ls hl => ?_)
      refine lv_goto (tgt := 4) hx hb dX5_lampsOn_41 (by decide) ?_
      have hl9 := lv_sub (l' := [(2, .int (nI (i1 + 1))), (1, .int ((it (fun j a => if bz (g (3 + j) 7) = 0 then a else a ||| 1 <<< (nI j &&& 31)) i1 0) ||| (1 <<< ((nI i1) &&& 31)))), (0, .ref (al B))]) hl [0, 1, 2] rfl
      rw [show ([(2, .int (nI (i1 + 1))), (1, .int ((it (fun j a => if bz (g (3 + j) 7) = 0 then a else a ||| 1 <<< (nI j &&& 31)) i1 0) ||| (1 <<< ((nI i1) &&& 31)))), (0, .ref (al B))] : List (Nat × Value)) = [(2, .int (nI (i1 + 1))), (1, .int (it (fun j a => if bz (g (3 + j) 7) = 0 then a else a ||| 1 <<< (nI j &&& 31)) (i1 + 1) 0)), (0, .ref (al B))] from (by first | rfl | (simp only [it_s, if_neg hc_2]; done) | (simp only [it_s, if_neg hc_2]; rfl))] at hl9
      exact ihi1 hlti1 _ _ _ hP hS hl9
set_option maxHeartbeats 4000000 in
set_option maxRecDepth 100000 in
theorem kX5_heightOf (l : Launch) (G : gT) (al : Nat → Nat) (k : gC) (h : gK) (B : Nat) (c : mC) (g : St) (j : Nat) (hF : gF G al k B c) (hj : j < k.1) : Met l yX5_heightOf (fW yX5_heightOf cX5_heightOf 2 (some .int)) { frames := 4, cells := 0, slots := 0, locals := 88 } (gPre G al (ov G al k B c g) [.ref (al B), .ref (al (B + 20 + j))]) (gQi (S := Unit) G (fun _ => mHt k g j) (fun _ => al) (fun _ => ov G al k B c g)) 0 0 (gA G) := by
  refine Met.ofW (cc := cX5_heightOf) (maxL := 2) (ret := (some .int)) (by decide) rfl ?_
  intro pz ez s m args below meth c₀ s₁ Bo hml hv
  obtain ⟨rfl, hb0, hP, hE⟩ := hv
  have hx := Bo.exec
  have hb := Bo.bytes
  have hr := Bo.returns
  have hts0 := atoms_spec (ws := (fW yX5_heightOf cX5_heightOf 2 (some .int))) Bo.pre
  have hts : ∀ w ∈ fA, w.before _ s = true := fun w h => hts0 w (List.mem_cons_of_mem _ h)
  have hown : s.vm.findClass RX5 = some m.cls := findClass_of_methodNamed Bo.named
  have hlocks := Bo.notSynchronized
  have hl := lv_entry ([.ref (al B), .ref (al (B + 20 + j))]) (n := 2) (Nat.le_of_ble_eq_true rfl)
  rw [lg_entry_eq]
  generalize (lg_sl ([.ref (al B), .ref (al (B + 20 + j))]) ++ List.replicate (2 - (lg_sl ([.ref (al B), .ref (al (B + 20 + j))])).length) Slot.unset).toArray = ls at hl ⊢
  have hl : lv_has ls 2 [(0, .ref (al B)), (1, .ref (al (B + 20 + j)))] := hl
  have hJ := gF_J hF
  refine g_start hP (fun H hP hS => ?_)
  refine lv_aload_n hx hb dX5_heightOf_0 rfl (lv_at hl 0 rfl) ?_
  refine lv_aload_n hx hb dX5_heightOf_1 rfl (lv_at hl 1 rfl) ?_
  refine m_get (C := RX3) (T := TX3) (N := 10) (ci := 4) (v := .ref (al (B + 11 + k.2.1 j))) hx hb hts uX3 hown hE hP (B + 20 + j) rfl (ov_j hj) rfl 0 (by decide) (hts _ q197) (fun _ h9 => h9) rfl dX5_heightOf_2 ?_
  refine g_aft_i (g_runV (As := [.ref (al (B + 11 + k.2.1 j))]) (rest := []) hx hb hml hown hts (kX5_pressureOf l G al k h B c g (k.2.1 j) hF (gF_pp hF hj)) (fcwV 1 hts q208 q209 q210 q211 q204 rfl rfl (by decide +kernel) ⟨(Nat.le_of_ble_eq_true rfl), (Nat.le_of_ble_eq_true rfl)⟩) hE hb0 hP hS (m_recvA hE hP B rfl ov_s rfl) rfl hl.1 rfl (Nat.le_of_ble_eq_true rfl) dX5_heightOf_5 ⟨(Nat.le_of_ble_eq_true rfl), (Nat.le_of_ble_eq_true rfl)⟩) hS (fun u H locs hP hS => ?_)
  have hP : mP G al (ov G al k B c g) H := hP
  refine f_topi (v := mPress k g (k.2.1 j)) rfl ?_
  refine lv_aload_n hx hb dX5_heightOf_8 rfl (lv_at hl 1 rfl) ?_
  refine m_get (C := RX3) (T := TX3) (N := 10) (ci := 4) (v := .int (g (3 + j) 5)) hx hb hts uX3 hown hE hP (B + 20 + j) rfl (ov_j hj) rfl 5 (by decide) (hts _ q207) (fun _ h9 => h9) rfl dX5_heightOf_9 ?_
  refine g_aft_i (g_runSN (As := [.int (mPress k g (k.2.1 j)), .int (g (3 + j) 5)]) (rest := []) hx hb hml hown hts (kX7_heightBy l G al (ov G al k B c g) (mPress k g (k.2.1 j)) (g (3 + j) 5)) (fcwSN 2 hts (hE.1.1.2.2.2.2.1 (RX5, 230, yX7_heightBy, RX7) (by decide +kernel)) q212 q148 q205 rfl rfl (by decide +kernel) ⟨(Nat.le_of_ble_eq_true rfl), (Nat.le_of_ble_eq_true rfl)⟩) hE hb0 hP hS rfl hl.1 rfl (Nat.le_of_ble_eq_true rfl) dX5_heightOf_12 ⟨(Nat.le_of_ble_eq_true rfl), (Nat.le_of_ble_eq_true rfl)⟩) hS (fun u H locs hP hS => ?_)
  refine f_topi (v := mHby (mPress k g (k.2.1 j)) (g (3 + j) 5)) rfl ?_
  refine W.widen (k := 0) (n := 0) (Nat.le_of_ble_eq_true rfl) (Nat.le_of_ble_eq_true rfl) ?_
  exact W.iret (v := mHby (mPress k g (k.2.1 j)) (g (3 + j) 5)) hx hb hr (fun tz htz hW => ⟨⟨mHby (mPress k g (k.2.1 j)) (g (3 + j) 5), (), rfl, (by unfold mHt; rfl), g_end htz hP⟩, hS.F htz⟩) hS.2.2 dX5_heightOf_15
set_option maxHeartbeats 4000000 in
set_option maxRecDepth 100000 in
theorem kX5_greatestHeight (l : Launch) (G : gT) (al : Nat → Nat) (k : gC) (h : gK) (B : Nat) (c : mC) (g : St) (hF : gF G al k B c) : Met l yX5_greatestHeight (fW yX5_greatestHeight cX5_greatestHeight 3 (some .int)) { frames := 5, cells := 0, slots := 0, locals := 109 } (gPre G al (ov G al k B c g) [.ref (al B)]) (gQi (S := Unit) G (fun _ => mMaxH k g) (fun _ => al) (fun _ => ov G al k B c g)) 0 0 (gA G) := by
  refine Met.ofW (cc := cX5_greatestHeight) (maxL := 3) (ret := (some .int)) (by decide) rfl ?_
  intro pz ez s m args below meth c₀ s₁ Bo hml hv
  obtain ⟨rfl, hb0, hP, hE⟩ := hv
  have hx := Bo.exec
  have hb := Bo.bytes
  have hr := Bo.returns
  have hts0 := atoms_spec (ws := (fW yX5_greatestHeight cX5_greatestHeight 3 (some .int))) Bo.pre
  have hts : ∀ w ∈ fA, w.before _ s = true := fun w h => hts0 w (List.mem_cons_of_mem _ h)
  have hown : s.vm.findClass RX5 = some m.cls := findClass_of_methodNamed Bo.named
  have hlocks := Bo.notSynchronized
  have hl := lv_entry ([.ref (al B)]) (n := 3) (Nat.le_of_ble_eq_true rfl)
  rw [lg_entry_eq]
  generalize (lg_sl ([.ref (al B)]) ++ List.replicate (3 - (lg_sl ([.ref (al B)])).length) Slot.unset).toArray = ls at hl ⊢
  have hl : lv_has ls 3 [(0, .ref (al B))] := hl
  have hJ := gF_J hF
  refine g_start hP (fun H hP hS => ?_)
  refine lv_iconst (v := 0) hx hb dX5_greatestHeight_0 (by decide) ?_
  refine lv_istore_n (lv' := [(1, .int 0), (0, .ref (al B))]) hx hb dX5_greatestHeight_1 rfl hl (by decide) rfl (fun ls hl => ?_)
  refine lv_iconst (v := 0) hx hb dX5_greatestHeight_2 (by decide) ?_
  refine lv_istore_n (lv' := [(2, .int 0), (1, .int 0), (0, .ref (al B))]) hx hb dX5_greatestHeight_3 rfl hl (by decide) rfl (fun ls hl => ?_)
  refine g_loop (al := al) (N := k.1) (nL := 3) (Wi := fun i1 => ov G al k B c g) (Li := fun i1 => [(2, .int (nI i1)), (1, .int (it (fun j a => if a < mHt k g j then mHt k g j else a) i1 0)), (0, .ref (al B))]) hP hS (lv_sub hl [0, 1, 2] rfl) (fun i1 hii1 ihi1 H locs ls hP hS hl => ?_)
  have hP : mP G al (ov G al k B c g) H := hP
  have hl : lv_has ls 3 [(2, .int (nI i1)), (1, .int (it (fun j a => if a < mHt k g j then mHt k g j else a) i1 0)), (0, .ref (al B))] := hl
  refine lv_iload_n hx hb dX5_greatestHeight_4 rfl (lv_at hl 0 rfl) ?_
  refine lv_aload_n hx hb dX5_greatestHeight_5 rfl (lv_at hl 2 rfl) ?_
  refine m_get (C := RX5) (T := TX5) (N := 15) (ci := 6) (v := .ref (al (B + 3))) hx hb hts uX5 hown hE hP B rfl ov_s rfl 1 (by decide) (hts _ q174) (fun _ h9 => h9) rfl dX5_greatestHeight_6 ?_
  refine g_aft_i (g_runV (As := []) (rest := [.int (nI i1)]) hx hb hml hown hts (kJx4a65c_size_8abf5 l G al (ov G al k B c g) (B + 3) (B + 4) k.1 (fun j => B + 20 + j) (gF_j hF)) (fcwV 0 hts q187 q53 q54 q50 q34 rfl rfl (by decide +kernel) ⟨(Nat.le_of_ble_eq_true rfl), (Nat.le_of_ble_eq_true rfl)⟩) hE hb0 hP hS (m_recvL hE hP (gF_j hF) rfl) rfl hl.1 rfl (Nat.le_of_ble_eq_true rfl) dX5_greatestHeight_9 ⟨(Nat.le_of_ble_eq_true rfl), (Nat.le_of_ble_eq_true rfl)⟩) hS (fun u H locs hP hS => ?_)
  refine f_topi (v := nI k.1) rfl ?_
  refine lv_icmp_ge (tgt := 41) hx hb dX5_greatestHeight_12 (by decide) (fun hc_1 => ?_) (fun hc_1 => ?_)
  · skip
    have hgei1 : k.1 ≤ i1 := (nI_leI (by omega) (by omega)).mp hc_1
    obtain rfl : k.1 = i1 := Nat.le_antisymm hgei1 hii1
    have hP : mP G al (ov G al k B c g) H := hP
    have hl : lv_has ls 3 [(2, .int (nI k.1)), (1, .int (it (fun j a => if a < mHt k g j then mHt k g j else a) k.1 0)), (0, .ref (al B))] := hl
    refine lv_iload_n hx hb dX5_greatestHeight_41 rfl (lv_at hl 1 rfl) ?_
    refine W.widen (k := 0) (n := 0) (Nat.le_of_ble_eq_true rfl) (Nat.le_of_ble_eq_true rfl) ?_
    exact W.iret (v := it (fun j a => if a < mHt k g j then mHt k g j else a) k.1 0) hx hb hr (fun tz htz hW => ⟨⟨it (fun j a => if a < mHt k g j then mHt k g j else a) k.1 0, (), rfl, (by unfold mMaxH; rfl), g_end htz hP⟩, hS.F htz⟩) hS.2.2 dX5_greatestHeight_42
  · skip
    have hlti1 : i1 < k.1 := Nat.lt_of_not_le (fun q => hc_1 (nI_le q (by omega)))
    refine lv_iload_n hx hb dX5_greatestHeight_15 rfl (lv_at hl 1 rfl) ?_
    refine lv_aload_n hx hb dX5_greatestHeight_16 rfl (lv_at hl 2 rfl) ?_
    refine lv_aload_n hx hb dX5_greatestHeight_17 rfl (lv_at hl 2 rfl) ?_
    refine m_get (C := RX5) (T := TX5) (N := 15) (ci := 6) (v := .ref (al (B + 3))) hx hb hts uX5 hown hE hP B rfl ov_s rfl 1 (by decide) (hts _ q174) (fun _ h9 => h9) rfl dX5_greatestHeight_18 ?_
    refine lv_iload_n hx hb dX5_greatestHeight_21 rfl (lv_at hl 0 rfl) ?_
    refine g_aft_r (g_runV (As := [.int (nI i1)]) (rest := [.ref (al B), .int (it (fun j a => if a < mHt k g j then mHt k g j else a) i1 0)]) hx hb hml hown hts (kJx4a65c_get_915e3 l G al (ov G al k B c g) (B + 3) (B + 4) k.1 (fun j => B + 20 + j) i1 (gF_j hF) hlti1) (fcwV 1 hts q188 q56 q57 q50 q43 rfl rfl (by decide +kernel) ⟨(Nat.le_of_ble_eq_true rfl), (Nat.le_of_ble_eq_true rfl)⟩) hE hb0 hP hS (m_recvL hE hP (gF_j hF) rfl) rfl hl.1 rfl (Nat.le_of_ble_eq_true rfl) dX5_greatestHeight_22 ⟨(Nat.le_of_ble_eq_true rfl), (Nat.le_of_ble_eq_true rfl)⟩) hS (fun u H locs hP hS => ?_)
    refine g_topr (v := al (B + 20 + i1)) rfl ?_
    refine m_cast hx hb hown (hts _ q196) hE hP (B + 20 + i1) rfl (ov_j hlti1) rfl dX5_greatestHeight_25 ?_
    refine g_aft_i (g_runV (As := [.ref (al (B + 20 + i1))]) (rest := [.int (it (fun j a => if a < mHt k g j then mHt k g j else a) i1 0)]) hx hb hml hown hts (kX5_heightOf l G al k h B c g i1 hF hlti1) (fcwV 1 hts q214 q215 q216 q211 q213 rfl rfl (by decide +kernel) ⟨(Nat.le_of_ble_eq_true rfl), (Nat.le_of_ble_eq_true rfl)⟩) hE hb0 hP hS (m_recvA hE hP B rfl ov_s rfl) rfl hl.1 rfl (Nat.le_of_ble_eq_true rfl) dX5_greatestHeight_28 ⟨(Nat.le_of_ble_eq_true rfl), (Nat.le_of_ble_eq_true rfl)⟩) hS (fun u H locs hP hS => ?_)
    have hP : mP G al (ov G al k B c g) H := hP
    refine f_topi (v := mHt k g i1) rfl ?_
    refine va_mmax hx hb (hml.trans hl.1.symm) hown (hts _ q346) (hts _ q86) (hts _ q87) (hts _ q88) (Nat.le_of_ble_eq_true rfl) (Nat.le_of_ble_eq_true rfl) (Nat.le_of_ble_eq_true rfl) (Nat.le_of_ble_eq_true rfl) dX5_greatestHeight_31 ?_
    refine lv_istore_n (lv' := [(1, .int (if (it (fun j a => if a < mHt k g j then mHt k g j else a) i1 0) < (mHt k g i1) then (mHt k g i1) else (it (fun j a => if a < mHt k g j then mHt k g j else a) i1 0))), (2, .int (nI i1)), (0, .ref (al B))]) hx hb dX5_greatestHeight_34 rfl hl (by decide) rfl (fun ls hl => ?_)
    refine lv_iinc (v := nI (i1 + 1)) (lv' := [(2, .int (nI (i1 + 1))), (1, .int (if (it (fun j a => if a < mHt k g j then mHt k g j else a) i1 0) < (mHt k g i1) then (mHt k g i1) else (it (fun j a => if a < mHt k g j then mHt k g j else a) i1 0))), (0, .ref (al B))]) hx hb dX5_greatestHeight_35 hl (k := 1) rfl (f_inc _) (by decide) rfl (fun ls hl => ?_)
    refine lv_goto (tgt := 4) hx hb dX5_greatestHeight_38 (by decide) ?_
    have hl9 := lv_sub (l' := [(2, .int (nI (i1 + 1))), (1, .int (if (it (fun j a => if a < mHt k g j then mHt k g j else a) i1 0) < (mHt k g i1) then (mHt k g i1) else (it (fun j a => if a < mHt k g j then mHt k g j else a) i1 0))), (0, .ref (al B))]) hl [0, 1, 2] rfl
    rw [show ([(2, .int (nI (i1 + 1))), (1, .int (if (it (fun j a => if a < mHt k g j then mHt k g j else a) i1 0) < (mHt k g i1) then (mHt k g i1) else (it (fun j a => if a < mHt k g j then mHt k g j else a) i1 0))), (0, .ref (al B))] : List (Nat × Value)) = [(2, .int (nI (i1 + 1))), (1, .int (it (fun j a => if a < mHt k g j then mHt k g j else a) (i1 + 1) 0)), (0, .ref (al B))] from (by first | rfl | (simp only [it_s]; done) | (simp only [it_s]; rfl))] at hl9
    exact ihi1 hlti1 _ _ _ hP hS hl9
set_option maxHeartbeats 4000000 in
set_option maxRecDepth 100000 in
theorem kX5_sumOfHeights (l : Launch) (G : gT) (al : Nat → Nat) (k : gC) (h : gK) (B : Nat) (c : mC) (g : St) (hF : gF G al k B c) : Met l yX5_sumOfHeights (fW yX5_sumOfHeights cX5_sumOfHeights 3 (some .int)) { frames := 5, cells := 0, slots := 0, locals := 109 } (gPre G al (ov G al k B c g) [.ref (al B)]) (gQi (S := Unit) G (fun _ => mSumH k g) (fun _ => al) (fun _ => ov G al k B c g)) 0 0 (gA G) := by
  refine Met.ofW (cc := cX5_sumOfHeights) (maxL := 3) (ret := (some .int)) (by decide) rfl ?_
  intro pz ez s m args below meth c₀ s₁ Bo hml hv
  obtain ⟨rfl, hb0, hP, hE⟩ := hv
  have hx := Bo.exec
  have hb := Bo.bytes
  have hr := Bo.returns
  have hts0 := atoms_spec (ws := (fW yX5_sumOfHeights cX5_sumOfHeights 3 (some .int))) Bo.pre
  have hts : ∀ w ∈ fA, w.before _ s = true := fun w h => hts0 w (List.mem_cons_of_mem _ h)
  have hown : s.vm.findClass RX5 = some m.cls := findClass_of_methodNamed Bo.named
  have hlocks := Bo.notSynchronized
  have hl := lv_entry ([.ref (al B)]) (n := 3) (Nat.le_of_ble_eq_true rfl)
  rw [lg_entry_eq]
  generalize (lg_sl ([.ref (al B)]) ++ List.replicate (3 - (lg_sl ([.ref (al B)])).length) Slot.unset).toArray = ls at hl ⊢
  have hl : lv_has ls 3 [(0, .ref (al B))] := hl
  have hJ := gF_J hF
  refine g_start hP (fun H hP hS => ?_)
  refine lv_iconst (v := 0) hx hb dX5_sumOfHeights_0 (by decide) ?_
  refine lv_istore_n (lv' := [(1, .int 0), (0, .ref (al B))]) hx hb dX5_sumOfHeights_1 rfl hl (by decide) rfl (fun ls hl => ?_)
  refine lv_iconst (v := 0) hx hb dX5_sumOfHeights_2 (by decide) ?_
  refine lv_istore_n (lv' := [(2, .int 0), (1, .int 0), (0, .ref (al B))]) hx hb dX5_sumOfHeights_3 rfl hl (by decide) rfl (fun ls hl => ?_)
  refine g_loop (al := al) (N := k.1) (nL := 3) (Wi := fun i1 => ov G al k B c g) (Li := fun i1 => [(2, .int (nI i1)), (1, .int (it (fun j a => a + mHt k g j) i1 0)), (0, .ref (al B))]) hP hS (lv_sub hl [0, 1, 2] rfl) (fun i1 hii1 ihi1 H locs ls hP hS hl => ?_)
  have hP : mP G al (ov G al k B c g) H := hP
  have hl : lv_has ls 3 [(2, .int (nI i1)), (1, .int (it (fun j a => a + mHt k g j) i1 0)), (0, .ref (al B))] := hl
  refine lv_iload_n hx hb dX5_sumOfHeights_4 rfl (lv_at hl 0 rfl) ?_
  refine lv_aload_n hx hb dX5_sumOfHeights_5 rfl (lv_at hl 2 rfl) ?_
  refine m_get (C := RX5) (T := TX5) (N := 15) (ci := 6) (v := .ref (al (B + 3))) hx hb hts uX5 hown hE hP B rfl ov_s rfl 1 (by decide) (hts _ q174) (fun _ h9 => h9) rfl dX5_sumOfHeights_6 ?_
  refine g_aft_i (g_runV (As := []) (rest := [.int (nI i1)]) hx hb hml hown hts (kJx4a65c_size_8abf5 l G al (ov G al k B c g) (B + 3) (B + 4) k.1 (fun j => B + 20 + j) (gF_j hF)) (fcwV 0 hts q187 q53 q54 q50 q34 rfl rfl (by decide +kernel) ⟨(Nat.le_of_ble_eq_true rfl), (Nat.le_of_ble_eq_true rfl)⟩) hE hb0 hP hS (m_recvL hE hP (gF_j hF) rfl) rfl hl.1 rfl (Nat.le_of_ble_eq_true rfl) dX5_sumOfHeights_9 ⟨(Nat.le_of_ble_eq_true rfl), (Nat.le_of_ble_eq_true rfl)⟩) hS (fun u H locs hP hS => ?_)
  refine f_topi (v := nI k.1) rfl ?_
  refine lv_icmp_ge (tgt := 39) hx hb dX5_sumOfHeights_12 (by decide) (fun hc_1 => ?_) (fun hc_1 => ?_)
  · skip
    have hgei1 : k.1 ≤ i1 := (nI_leI (by omega) (by omega)).mp hc_1
    obtain rfl : k.1 = i1 := Nat.le_antisymm hgei1 hii1
    have hP : mP G al (ov G al k B c g) H := hP
    have hl : lv_has ls 3 [(2, .int (nI k.1)), (1, .int (it (fun j a => a + mHt k g j) k.1 0)), (0, .ref (al B))] := hl
    refine lv_iload_n hx hb dX5_sumOfHeights_39 rfl (lv_at hl 1 rfl) ?_
    refine W.widen (k := 0) (n := 0) (Nat.le_of_ble_eq_true rfl) (Nat.le_of_ble_eq_true rfl) ?_
    exact W.iret (v := it (fun j a => a + mHt k g j) k.1 0) hx hb hr (fun tz htz hW => ⟨⟨it (fun j a => a + mHt k g j) k.1 0, (), rfl, (by unfold mSumH; rfl), g_end htz hP⟩, hS.F htz⟩) hS.2.2 dX5_sumOfHeights_40
  · skip
    have hlti1 : i1 < k.1 := Nat.lt_of_not_le (fun q => hc_1 (nI_le q (by omega)))
    refine lv_iload_n hx hb dX5_sumOfHeights_15 rfl (lv_at hl 1 rfl) ?_
    refine lv_aload_n hx hb dX5_sumOfHeights_16 rfl (lv_at hl 2 rfl) ?_
    refine lv_aload_n hx hb dX5_sumOfHeights_17 rfl (lv_at hl 2 rfl) ?_
    refine m_get (C := RX5) (T := TX5) (N := 15) (ci := 6) (v := .ref (al (B + 3))) hx hb hts uX5 hown hE hP B rfl ov_s rfl 1 (by decide) (hts _ q174) (fun _ h9 => h9) rfl dX5_sumOfHeights_18 ?_
    refine lv_iload_n hx hb dX5_sumOfHeights_21 rfl (lv_at hl 0 rfl) ?_
    refine g_aft_r (g_runV (As := [.int (nI i1)]) (rest := [.ref (al B), .int (it (fun j a => a + mHt k g j) i1 0)]) hx hb hml hown hts (kJx4a65c_get_915e3 l G al (ov G al k B c g) (B + 3) (B + 4) k.1 (fun j => B + 20 + j) i1 (gF_j hF) hlti1) (fcwV 1 hts q188 q56 q57 q50 q43 rfl rfl (by decide +kernel) ⟨(Nat.le_of_ble_eq_true rfl), (Nat.le_of_ble_eq_true rfl)⟩) hE hb0 hP hS (m_recvL hE hP (gF_j hF) rfl) rfl hl.1 rfl (Nat.le_of_ble_eq_true rfl) dX5_sumOfHeights_22 ⟨(Nat.le_of_ble_eq_true rfl), (Nat.le_of_ble_eq_true rfl)⟩) hS (fun u H locs hP hS => ?_)
    refine g_topr (v := al (B + 20 + i1)) rfl ?_
    refine m_cast hx hb hown (hts _ q196) hE hP (B + 20 + i1) rfl (ov_j hlti1) rfl dX5_sumOfHeights_25 ?_
    refine g_aft_i (g_runV (As := [.ref (al (B + 20 + i1))]) (rest := [.int (it (fun j a => a + mHt k g j) i1 0)]) hx hb hml hown hts (kX5_heightOf l G al k h B c g i1 hF hlti1) (fcwV 1 hts q214 q215 q216 q211 q213 rfl rfl (by decide +kernel) ⟨(Nat.le_of_ble_eq_true rfl), (Nat.le_of_ble_eq_true rfl)⟩) hE hb0 hP hS (m_recvA hE hP B rfl ov_s rfl) rfl hl.1 rfl (Nat.le_of_ble_eq_true rfl) dX5_sumOfHeights_28 ⟨(Nat.le_of_ble_eq_true rfl), (Nat.le_of_ble_eq_true rfl)⟩) hS (fun u H locs hP hS => ?_)
    have hP : mP G al (ov G al k B c g) H := hP
    refine f_topi (v := mHt k g i1) rfl ?_
    refine lv_iadd hx hb dX5_sumOfHeights_31 ?_
    refine lv_istore_n (lv' := [(1, .int ((it (fun j a => a + mHt k g j) i1 0) + (mHt k g i1))), (2, .int (nI i1)), (0, .ref (al B))]) hx hb dX5_sumOfHeights_32 rfl hl (by decide) rfl (fun ls hl => ?_)
    refine lv_iinc (v := nI (i1 + 1)) (lv' := [(2, .int (nI (i1 + 1))), (1, .int ((it (fun j a => a + mHt k g j) i1 0) + (mHt k g i1))), (0, .ref (al B))]) hx hb dX5_sumOfHeights_33 hl (k := 1) rfl (f_inc _) (by decide) rfl (fun ls hl => ?_)
    refine lv_goto (tgt := 4) hx hb dX5_sumOfHeights_36 (by decide) ?_
    have hl9 := lv_sub (l' := [(2, .int (nI (i1 + 1))), (1, .int ((it (fun j a => a + mHt k g j) i1 0) + (mHt k g i1))), (0, .ref (al B))]) hl [0, 1, 2] rfl
    rw [show ([(2, .int (nI (i1 + 1))), (1, .int ((it (fun j a => a + mHt k g j) i1 0) + (mHt k g i1))), (0, .ref (al B))] : List (Nat × Value)) = [(2, .int (nI (i1 + 1))), (1, .int (it (fun j a => a + mHt k g j) (i1 + 1) 0)), (0, .ref (al B))] from (by first | rfl | (simp only [it_s]; done) | (simp only [it_s]; rfl))] at hl9
    exact ihi1 hlti1 _ _ _ hP hS hl9
set_option maxHeartbeats 4000000 in
set_option maxRecDepth 100000 in
theorem kX5_placeOfFall (l : Launch) (G : gT) (al : Nat → Nat) (k : gC) (h : gK) (B : Nat) (c : mC) (g : St) (j : Nat) (v : Int32) (hF : gF G al k B c) (hj : j < k.1) : Met l yX5_placeOfFall (fW yX5_placeOfFall cX5_placeOfFall 5 (some .int)) { frames := 1, cells := 0, slots := 0, locals := 22 } (gPre G al (ov G al k B c g) [.ref (al B), .ref (al (B + 20 + j)), .int v]) (gQi (S := Unit) G (fun _ => mPlace k g j v) (fun _ => al) (fun _ => ov G al k B c g)) 0 0 (gA G) := by
  refine Met.ofW (cc := cX5_placeOfFall) (maxL := 5) (ret := (some .int)) (by decide) rfl ?_
  intro pz ez s m args below meth c₀ s₁ Bo hml hv
  obtain ⟨rfl, hb0, hP, hE⟩ := hv
  have hx := Bo.exec
  have hb := Bo.bytes
  have hr := Bo.returns
  have hts0 := atoms_spec (ws := (fW yX5_placeOfFall cX5_placeOfFall 5 (some .int))) Bo.pre
  have hts : ∀ w ∈ fA, w.before _ s = true := fun w h => hts0 w (List.mem_cons_of_mem _ h)
  have hown : s.vm.findClass RX5 = some m.cls := findClass_of_methodNamed Bo.named
  have hlocks := Bo.notSynchronized
  have hl := lv_entry ([.ref (al B), .ref (al (B + 20 + j)), .int v]) (n := 5) (Nat.le_of_ble_eq_true rfl)
  rw [lg_entry_eq]
  generalize (lg_sl ([.ref (al B), .ref (al (B + 20 + j)), .int v]) ++ List.replicate (5 - (lg_sl ([.ref (al B), .ref (al (B + 20 + j)), .int v])).length) Slot.unset).toArray = ls at hl ⊢
  have hl : lv_has ls 5 [(0, .ref (al B)), (1, .ref (al (B + 20 + j))), (2, .int v)] := hl
  have hJ := gF_J hF
  refine g_start hP (fun H hP hS => ?_)
  refine lv_aload_n hx hb dX5_placeOfFall_0 rfl (lv_at hl 1 rfl) ?_
  refine m_get (C := RX3) (T := TX3) (N := 10) (ci := 4) (v := .int (k.2.2 (3 + j) 3)) hx hb hts uX3 hown hE hP (B + 20 + j) rfl (ov_j hj) rfl 3 (by decide) (hts _ q273) (fun _ h9 => h9) rfl dX5_placeOfFall_1 ?_
  refine lv_iload_n hx hb dX5_placeOfFall_4 rfl (lv_at hl 2 rfl) ?_
  refine lv_imul hx hb dX5_placeOfFall_5 ?_
  refine lv_bipush (v := 10) hx hb dX5_placeOfFall_6 (by decide) ?_
  refine g_aft_i (g_runS (As := [.int ((k.2.2 (3 + j) 3) * v), .int 10]) (rest := []) hx hb hml hown hts (kJ9_floorDiv_7cf53 l G al (ov G al k B c g) ((k.2.2 (3 + j) 3) * v) 10 (by decide)) (fcwS 2 hts q275 q276 q12 q268 rfl rfl (by decide +kernel) ⟨(Nat.le_of_ble_eq_true rfl), (Nat.le_of_ble_eq_true rfl)⟩) hE hb0 hP hS rfl hl.1 rfl (Nat.le_of_ble_eq_true rfl) dX5_placeOfFall_8 ⟨(Nat.le_of_ble_eq_true rfl), (Nat.le_of_ble_eq_true rfl)⟩) hS (fun u H locs hP hS => ?_)
  refine f_topi (v := mFd ((k.2.2 (3 + j) 3) * v) 10) rfl ?_
  refine lv_istore_n (lv' := [(3, .int (mFd ((k.2.2 (3 + j) 3) * v) 10)), (0, .ref (al B)), (1, .ref (al (B + 20 + j))), (2, .int v)]) hx hb dX5_placeOfFall_11 rfl hl (by decide) rfl (fun ls hl => ?_)
  refine lv_aload_n hx hb dX5_placeOfFall_12 rfl (lv_at hl 1 rfl) ?_
  refine g_aft_i (g_runV (As := []) (rest := []) hx hb hml hown hts (kX5_windWithGust l G al k h B c g hF) (fcwV 0 hts q277 q278 q279 q211 q269 rfl rfl (by decide +kernel) ⟨(Nat.le_of_ble_eq_true rfl), (Nat.le_of_ble_eq_true rfl)⟩) hE hb0 hP hS (m_recvA hE hP B rfl ov_s rfl) rfl hl.1 rfl (Nat.le_of_ble_eq_true rfl) dX5_placeOfFall_13 ⟨(Nat.le_of_ble_eq_true rfl), (Nat.le_of_ble_eq_true rfl)⟩) hS (fun u H locs hP hS => ?_)
  have hP : mP G al (ov G al k B c g) H := hP
  refine f_topi (v := mWind g) rfl ?_
  refine lv_iload_n hx hb dX5_placeOfFall_16 rfl (lv_at hl 3 rfl) ?_
  refine g_aft_i (g_runSN (As := [.int v]) (rest := [.int (mWind g)]) hx hb hml hown hts (kX7_airTime l G al (ov G al k B c g) v) (fcwSN 1 hts (hE.1.1.2.2.2.2.1 (RX5, 159, yX7_airTime, RX7) (by decide +kernel)) q280 q148 q267 rfl rfl (by decide +kernel) ⟨(Nat.le_of_ble_eq_true rfl), (Nat.le_of_ble_eq_true rfl)⟩) hE hb0 hP hS rfl hl.1 rfl (Nat.le_of_ble_eq_true rfl) dX5_placeOfFall_17 ⟨(Nat.le_of_ble_eq_true rfl), (Nat.le_of_ble_eq_true rfl)⟩) hS (fun u H locs hP hS => ?_)
  refine f_topi (v := mAir v) rfl ?_
  refine lv_imul hx hb dX5_placeOfFall_20 ?_
  refine lv_iconst (v := 2) hx hb dX5_placeOfFall_21 (by decide) ?_
  refine g_aft_i (g_runS (As := [.int ((mWind g) * (mAir v)), .int 2]) (rest := []) hx hb hml hown hts (kJ9_floorDiv_7cf53 l G al (ov G al k B c g) ((mWind g) * (mAir v)) 2 (by decide)) (fcwS 2 hts q275 q276 q12 q268 rfl rfl (by decide +kernel) ⟨(Nat.le_of_ble_eq_true rfl), (Nat.le_of_ble_eq_true rfl)⟩) hE hb0 hP hS rfl hl.1 rfl (Nat.le_of_ble_eq_true rfl) dX5_placeOfFall_22 ⟨(Nat.le_of_ble_eq_true rfl), (Nat.le_of_ble_eq_true rfl)⟩) hS (fun u H locs hP hS => ?_)
  refine f_topi (v := mFd ((mWind g) * (mAir v)) 2) rfl ?_
  refine lv_istore (lv' := [(4, .int (mFd ((mWind g) * (mAir v)) 2)), (3, .int (mFd ((k.2.2 (3 + j) 3) * v) 10)), (0, .ref (al B)), (1, .ref (al (B + 20 + j))), (2, .int v)]) hx hb dX5_placeOfFall_25 hl (by decide) rfl (fun ls hl => ?_)
  refine lv_aload_n hx hb dX5_placeOfFall_27 rfl (lv_at hl 3 rfl) ?_
  refine m_get (C := RX3) (T := TX3) (N := 10) (ci := 4) (v := .int (k.2.2 (3 + j) 1)) hx hb hts uX3 hown hE hP (B + 20 + j) rfl (ov_j hj) rfl 1 (by decide) (hts _ q274) (fun _ h9 => h9) rfl dX5_placeOfFall_28 ?_
  refine lv_iload_n hx hb dX5_placeOfFall_31 rfl (lv_at hl 1 rfl) ?_
  refine lv_iadd hx hb dX5_placeOfFall_32 ?_
  refine lv_iload hx hb dX5_placeOfFall_33 (lv_at hl 0 rfl) ?_
  refine lv_iadd hx hb dX5_placeOfFall_35 ?_
  refine W.widen (k := 0) (n := 0) (Nat.le_of_ble_eq_true rfl) (Nat.le_of_ble_eq_true rfl) ?_
  exact W.iret (v := ((k.2.2 (3 + j) 1) + (mFd ((k.2.2 (3 + j) 3) * v) 10)) + (mFd ((mWind g) * (mAir v)) 2)) hx hb hr (fun tz htz hW => ⟨⟨((k.2.2 (3 + j) 1) + (mFd ((k.2.2 (3 + j) 3) * v) 10)) + (mFd ((mWind g) * (mAir v)) 2), (), rfl, (by unfold mPlace; rfl), g_end htz hP⟩, hS.F htz⟩) hS.2.2 dX5_placeOfFall_36
set_option maxHeartbeats 4000000 in
set_option maxRecDepth 100000 in
theorem kX5_lampsOff (l : Launch) (G : gT) (al : Nat → Nat) (k : gC) (h : gK) (B : Nat) (c : mC) (g : St) (hF : gF G al k B c) : Met l yX5_lampsOff (fW yX5_lampsOff cX5_lampsOff 2 none) { frames := 3, cells := 0, slots := 0, locals := 64 } (gPre G al (ov G al k B c g) [.ref (al B)]) (gQv (S := Unit) G (fun _ => al) (fun _ => ov G al k B c (mOff k g))) 0 0 (gA G) := by
  refine Met.ofW (cc := cX5_lampsOff) (maxL := 2) (ret := none) (by decide) rfl ?_
  intro pz ez s m args below meth c₀ s₁ Bo hml hv
  obtain ⟨rfl, hb0, hP, hE⟩ := hv
  have hx := Bo.exec
  have hb := Bo.bytes
  have hr := Bo.returns
  have hts0 := atoms_spec (ws := (fW yX5_lampsOff cX5_lampsOff 2 none)) Bo.pre
  have hts : ∀ w ∈ fA, w.before _ s = true := fun w h => hts0 w (List.mem_cons_of_mem _ h)
  have hown : s.vm.findClass RX5 = some m.cls := findClass_of_methodNamed Bo.named
  have hlocks := Bo.notSynchronized
  have hl := lv_entry ([.ref (al B)]) (n := 2) (Nat.le_of_ble_eq_true rfl)
  rw [lg_entry_eq]
  generalize (lg_sl ([.ref (al B)]) ++ List.replicate (2 - (lg_sl ([.ref (al B)])).length) Slot.unset).toArray = ls at hl ⊢
  have hl : lv_has ls 2 [(0, .ref (al B))] := hl
  have hJ := gF_J hF
  refine g_start hP (fun H hP hS => ?_)
  refine lv_iconst (v := 0) hx hb dX5_lampsOff_0 (by decide) ?_
  refine lv_istore_n (lv' := [(1, .int 0), (0, .ref (al B))]) hx hb dX5_lampsOff_1 rfl hl (by decide) rfl (fun ls hl => ?_)
  refine g_loop (al := al) (N := k.1) (nL := 2) (Wi := fun i1 => ov G al k B c (it (fun j g => s2 g (3 + j) 7 0) i1 g)) (Li := fun i1 => [(1, .int (nI i1)), (0, .ref (al B))]) hP hS (lv_sub hl [0, 1] rfl) (fun i1 hii1 ihi1 H locs ls hP hS hl => ?_)
  have hP : mP G al (ov G al k B c (it (fun j g => s2 g (3 + j) 7 0) i1 g)) H := hP
  have hl : lv_has ls 2 [(1, .int (nI i1)), (0, .ref (al B))] := hl
  refine lv_iload_n hx hb dX5_lampsOff_2 rfl (lv_at hl 0 rfl) ?_
  refine lv_aload_n hx hb dX5_lampsOff_3 rfl (lv_at hl 1 rfl) ?_
  refine m_get (C := RX5) (T := TX5) (N := 15) (ci := 6) (v := .ref (al (B + 3))) hx hb hts uX5 hown hE hP B rfl ov_s rfl 1 (by decide) (hts _ q174) (fun _ h9 => h9) rfl dX5_lampsOff_4 ?_
  refine g_aft_i (g_runV (As := []) (rest := [.int (nI i1)]) hx hb hml hown hts (kJx4a65c_size_8abf5 l G al (ov G al k B c (it (fun j g => s2 g (3 + j) 7 0) i1 g)) (B + 3) (B + 4) k.1 (fun j => B + 20 + j) (gF_j hF)) (fcwV 0 hts q187 q53 q54 q50 q34 rfl rfl (by decide +kernel) ⟨(Nat.le_of_ble_eq_true rfl), (Nat.le_of_ble_eq_true rfl)⟩) hE hb0 hP hS (m_recvL hE hP (gF_j hF) rfl) rfl hl.1 rfl (Nat.le_of_ble_eq_true rfl) dX5_lampsOff_7 ⟨(Nat.le_of_ble_eq_true rfl), (Nat.le_of_ble_eq_true rfl)⟩) hS (fun u H locs hP hS => ?_)
  refine f_topi (v := nI k.1) rfl ?_
  refine lv_icmp_ge (tgt := 34) hx hb dX5_lampsOff_10 (by decide) (fun hc_1 => ?_) (fun hc_1 => ?_)
  · skip
    have hgei1 : k.1 ≤ i1 := (nI_leI (by omega) (by omega)).mp hc_1
    obtain rfl : k.1 = i1 := Nat.le_antisymm hgei1 hii1
    have hP : mP G al (ov G al k B c (it (fun j g => s2 g (3 + j) 7 0) k.1 g)) H := hP
    have hl : lv_has ls 2 [(1, .int (nI k.1)), (0, .ref (al B))] := hl
    have hP : mP G al (ov G al k B c (mOff k g)) H := m_cv hP (show ov G al k B c (it (fun j g => s2 g (3 + j) 7 0) k.1 g) = ov G al k B c (mOff k g) from (by unfold mOff; rfl))
    refine W.widen (k := 0) (n := 0) (Nat.le_of_ble_eq_true rfl) (Nat.le_of_ble_eq_true rfl) ?_
    exact W.vret hx hb hr (fun tz htz hW => ⟨⟨(), rfl, trivial, g_end htz hP⟩, hS.F htz⟩) hS.2.2 dX5_lampsOff_34
  · skip
    have hlti1 : i1 < k.1 := Nat.lt_of_not_le (fun q => hc_1 (nI_le q (by omega)))
    refine lv_aload_n hx hb dX5_lampsOff_13 rfl (lv_at hl 1 rfl) ?_
    refine m_get (C := RX5) (T := TX5) (N := 15) (ci := 6) (v := .ref (al (B + 3))) hx hb hts uX5 hown hE hP B rfl ov_s rfl 1 (by decide) (hts _ q174) (fun _ h9 => h9) rfl dX5_lampsOff_14 ?_
    refine lv_iload_n hx hb dX5_lampsOff_17 rfl (lv_at hl 0 rfl) ?_
    refine g_aft_r (g_runV (As := [.int (nI i1)]) (rest := []) hx hb hml hown hts (kJx4a65c_get_915e3 l G al (ov G al k B c (it (fun j g => s2 g (3 + j) 7 0) i1 g)) (B + 3) (B + 4) k.1 (fun j => B + 20 + j) i1 (gF_j hF) hlti1) (fcwV 1 hts q188 q56 q57 q50 q43 rfl rfl (by decide +kernel) ⟨(Nat.le_of_ble_eq_true rfl), (Nat.le_of_ble_eq_true rfl)⟩) hE hb0 hP hS (m_recvL hE hP (gF_j hF) rfl) rfl hl.1 rfl (Nat.le_of_ble_eq_true rfl) dX5_lampsOff_18 ⟨(Nat.le_of_ble_eq_true rfl), (Nat.le_of_ble_eq_true rfl)⟩) hS (fun u H locs hP hS => ?_)
    refine g_topr (v := al (B + 20 + i1)) rfl ?_
    refine m_cast hx hb hown (hts _ q196) hE hP (B + 20 + i1) rfl (ov_j hlti1) rfl dX5_lampsOff_21 ?_
    refine lv_iconst (v := 0) hx hb dX5_lampsOff_24 (by decide) ?_
    refine m_put (v := .int 0) (ty := .boolean) (C := RX3) (T := TX3) (N := 10) (ci := 4) hx hb hts uX3 tyX3 tyX3_ok nmX3 hown hE hP hS (B + 20 + i1) rfl (ov_j hlti1) rfl 7 (by decide) (hts _ q290) (fun _ h9 => h9) rfl (by decide +kernel) (by decide) (by decide) (Nat.le_of_ble_eq_true rfl) dX5_lampsOff_25 (fun H locs hP hS => ?_)
    have hP := m_cv hP (ov_uj (r := upd ((it (fun j g => s2 g (3 + j) 7 0) i1 g) (3 + i1)) 7 0) hlti1 hJ rfl)
    have hP : mP G al (ov G al k B c (s2 (it (fun j g => s2 g (3 + j) 7 0) i1 g) (3 + i1) 7 0)) H := hP
    refine lv_iinc (v := nI (i1 + 1)) (lv' := [(1, .int (nI (i1 + 1))), (0, .ref (al B))]) hx hb dX5_lampsOff_28 hl (k := 0) rfl (f_inc _) (by decide) rfl (fun ls hl => ?_)
    refine lv_goto (tgt := 2) hx hb dX5_lampsOff_31 (by decide) ?_
    exact ihi1 hlti1 _ _ _ (m_cv hP (show ov G al k B c (s2 (it (fun j g => s2 g (3 + j) 7 0) i1 g) (3 + i1) 7 0) = ov G al k B c (it (fun j g => s2 g (3 + j) 7 0) (i1 + 1) g) from (by first | rfl | (simp only [it_s]; done) | (simp only [it_s]; rfl)))) hS (lv_sub hl [0, 1] rfl)
set_option maxHeartbeats 4000000 in
set_option maxRecDepth 100000 in
theorem kX5_turnDrivesAndValves (l : Launch) (G : gT) (al : Nat → Nat) (k : gC) (h : gK) (B : Nat) (c : mC) (g : St) (hF : gF G al k B c) : Met l yX5_turnDrivesAndValves (fW yX5_turnDrivesAndValves cX5_turnDrivesAndValves 2 none) { frames := 3, cells := 0, slots := 0, locals := 64 } (gPre G al (ov G al k B c g) [.ref (al B)]) (gQv (S := Unit) G (fun _ => al) (fun _ => ov G al k B c (mTurns k g))) 0 0 (gA G) := by
  refine Met.ofW (cc := cX5_turnDrivesAndValves) (maxL := 2) (ret := none) (by decide) rfl ?_
  intro pz ez s m args below meth c₀ s₁ Bo hml hv
  obtain ⟨rfl, hb0, hP, hE⟩ := hv
  have hx := Bo.exec
  have hb := Bo.bytes
  have hr := Bo.returns
  have hts0 := atoms_spec (ws := (fW yX5_turnDrivesAndValves cX5_turnDrivesAndValves 2 none)) Bo.pre
  have hts : ∀ w ∈ fA, w.before _ s = true := fun w h => hts0 w (List.mem_cons_of_mem _ h)
  have hown : s.vm.findClass RX5 = some m.cls := findClass_of_methodNamed Bo.named
  have hlocks := Bo.notSynchronized
  have hl := lv_entry ([.ref (al B)]) (n := 2) (Nat.le_of_ble_eq_true rfl)
  rw [lg_entry_eq]
  generalize (lg_sl ([.ref (al B)]) ++ List.replicate (2 - (lg_sl ([.ref (al B)])).length) Slot.unset).toArray = ls at hl ⊢
  have hl : lv_has ls 2 [(0, .ref (al B))] := hl
  have hJ := gF_J hF
  refine g_start hP (fun H hP hS => ?_)
  refine lv_iconst (v := 0) hx hb dX5_turnDrivesAndValves_0 (by decide) ?_
  refine lv_istore_n (lv' := [(1, .int 0), (0, .ref (al B))]) hx hb dX5_turnDrivesAndValves_1 rfl hl (by decide) rfl (fun ls hl => ?_)
  refine g_loop (al := al) (N := 2) (nL := 2) (Wi := fun i1 => ov G al k B c (it (fun p g => mPTurn g p) i1 g)) (Li := fun i1 => [(1, .int (nI i1)), (0, .ref (al B))]) hP hS (lv_sub hl [0, 1] rfl) (fun i1 hii1 ihi1 H locs ls hP hS hl => ?_)
  have hP : mP G al (ov G al k B c (it (fun p g => mPTurn g p) i1 g)) H := hP
  have hl : lv_has ls 2 [(1, .int (nI i1)), (0, .ref (al B))] := hl
  refine lv_iload_n hx hb dX5_turnDrivesAndValves_2 rfl (lv_at hl 0 rfl) ?_
  refine lv_aload_n hx hb dX5_turnDrivesAndValves_3 rfl (lv_at hl 1 rfl) ?_
  refine m_get (C := RX5) (T := TX5) (N := 15) (ci := 6) (v := .ref (al (B + 1))) hx hb hts uX5 hown hE hP B rfl ov_s rfl 0 (by decide) (hts _ q173) (fun _ h9 => h9) rfl dX5_turnDrivesAndValves_4 ?_
  refine g_aft_i (g_runV (As := []) (rest := [.int (nI i1)]) hx hb hml hown hts (kJx4a65c_size_8abf5 l G al (ov G al k B c (it (fun p g => mPTurn g p) i1 g)) (B + 1) (B + 2) 2 (fun p => B + 11 + p) (gF_p hF)) (fcwV 0 hts q187 q53 q54 q50 q34 rfl rfl (by decide +kernel) ⟨(Nat.le_of_ble_eq_true rfl), (Nat.le_of_ble_eq_true rfl)⟩) hE hb0 hP hS (m_recvL hE hP (gF_p hF) rfl) rfl hl.1 rfl (Nat.le_of_ble_eq_true rfl) dX5_turnDrivesAndValves_7 ⟨(Nat.le_of_ble_eq_true rfl), (Nat.le_of_ble_eq_true rfl)⟩) hS (fun u H locs hP hS => ?_)
  refine f_topi (v := nI 2) rfl ?_
  refine lv_icmp_ge (tgt := 33) hx hb dX5_turnDrivesAndValves_10 (by decide) (fun hc_1 => ?_) (fun hc_1 => ?_)
  · skip
    have hgei1 : 2 ≤ i1 := (nI_leI (a := 2) (by omega) (by omega)).mp hc_1
    obtain rfl : 2 = i1 := Nat.le_antisymm hgei1 hii1
    have hP : mP G al (ov G al k B c (it (fun p g => mPTurn g p) 2 g)) H := hP
    have hl : lv_has ls 2 [(1, .int (nI 2)), (0, .ref (al B))] := hl
    refine lv_iconst (v := 0) hx hb dX5_turnDrivesAndValves_33 (by decide) ?_
    refine lv_istore_n (lv' := [(1, .int 0), (0, .ref (al B))]) hx hb dX5_turnDrivesAndValves_34 rfl hl (by decide) rfl (fun ls hl => ?_)
    refine g_loop (al := al) (N := k.1) (nL := 2) (Wi := fun i2 => ov G al k B c (it (fun j g => mJTurn g j) i2 (it (fun p g => mPTurn g p) 2 g))) (Li := fun i2 => [(1, .int (nI i2)), (0, .ref (al B))]) hP hS (lv_sub hl [0, 1] rfl) (fun i2 hii2 ihi2 H locs ls hP hS hl => ?_)
    have hP : mP G al (ov G al k B c (it (fun j g => mJTurn g j) i2 (it (fun p g => mPTurn g p) 2 g))) H := hP
    have hl : lv_has ls 2 [(1, .int (nI i2)), (0, .ref (al B))] := hl
    refine lv_iload_n hx hb dX5_turnDrivesAndValves_35 rfl (lv_at hl 0 rfl) ?_
    refine lv_aload_n hx hb dX5_turnDrivesAndValves_36 rfl (lv_at hl 1 rfl) ?_
    refine m_get (C := RX5) (T := TX5) (N := 15) (ci := 6) (v := .ref (al (B + 3))) hx hb hts uX5 hown hE hP B rfl ov_s rfl 1 (by decide) (hts _ q174) (fun _ h9 => h9) rfl dX5_turnDrivesAndValves_37 ?_
    refine g_aft_i (g_runV (As := []) (rest := [.int (nI i2)]) hx hb hml hown hts (kJx4a65c_size_8abf5 l G al (ov G al k B c (it (fun j g => mJTurn g j) i2 (it (fun p g => mPTurn g p) 2 g))) (B + 3) (B + 4) k.1 (fun j => B + 20 + j) (gF_j hF)) (fcwV 0 hts q187 q53 q54 q50 q34 rfl rfl (by decide +kernel) ⟨(Nat.le_of_ble_eq_true rfl), (Nat.le_of_ble_eq_true rfl)⟩) hE hb0 hP hS (m_recvL hE hP (gF_j hF) rfl) rfl hl.1 rfl (Nat.le_of_ble_eq_true rfl) dX5_turnDrivesAndValves_40 ⟨(Nat.le_of_ble_eq_true rfl), (Nat.le_of_ble_eq_true rfl)⟩) hS (fun u H locs hP hS => ?_)
    refine f_topi (v := nI k.1) rfl ?_
    refine lv_icmp_ge (tgt := 66) hx hb dX5_turnDrivesAndValves_43 (by decide) (fun hc_2 => ?_) (fun hc_2 => ?_)
    · skip
      have hgei2 : k.1 ≤ i2 := (nI_leI (by omega) (by omega)).mp hc_2
      obtain rfl : k.1 = i2 := Nat.le_antisymm hgei2 hii2
      have hP : mP G al (ov G al k B c (it (fun j g => mJTurn g j) k.1 (it (fun p g => mPTurn g p) 2 g))) H := hP
      have hl : lv_has ls 2 [(1, .int (nI k.1)), (0, .ref (al B))] := hl
      have hP : mP G al (ov G al k B c (mTurns k g)) H := m_cv hP (show ov G al k B c (it (fun j g => mJTurn g j) k.1 (it (fun p g => mPTurn g p) 2 g)) = ov G al k B c (mTurns k g) from (by unfold mTurns; rfl))
      refine W.widen (k := 0) (n := 0) (Nat.le_of_ble_eq_true rfl) (Nat.le_of_ble_eq_true rfl) ?_
      exact W.vret hx hb hr (fun tz htz hW => ⟨⟨(), rfl, trivial, g_end htz hP⟩, hS.F htz⟩) hS.2.2 dX5_turnDrivesAndValves_66
    · skip
      have hlti2 : i2 < k.1 := Nat.lt_of_not_le (fun q => hc_2 (nI_le q (by omega)))
      refine lv_aload_n hx hb dX5_turnDrivesAndValves_46 rfl (lv_at hl 1 rfl) ?_
      refine m_get (C := RX5) (T := TX5) (N := 15) (ci := 6) (v := .ref (al (B + 3))) hx hb hts uX5 hown hE hP B rfl ov_s rfl 1 (by decide) (hts _ q174) (fun _ h9 => h9) rfl dX5_turnDrivesAndValves_47 ?_
      refine lv_iload_n hx hb dX5_turnDrivesAndValves_50 rfl (lv_at hl 0 rfl) ?_
      refine g_aft_r (g_runV (As := [.int (nI i2)]) (rest := []) hx hb hml hown hts (kJx4a65c_get_915e3 l G al (ov G al k B c (it (fun j g => mJTurn g j) i2 (it (fun p g => mPTurn g p) 2 g))) (B + 3) (B + 4) k.1 (fun j => B + 20 + j) i2 (gF_j hF) hlti2) (fcwV 1 hts q188 q56 q57 q50 q43 rfl rfl (by decide +kernel) ⟨(Nat.le_of_ble_eq_true rfl), (Nat.le_of_ble_eq_true rfl)⟩) hE hb0 hP hS (m_recvL hE hP (gF_j hF) rfl) rfl hl.1 rfl (Nat.le_of_ble_eq_true rfl) dX5_turnDrivesAndValves_51 ⟨(Nat.le_of_ble_eq_true rfl), (Nat.le_of_ble_eq_true rfl)⟩) hS (fun u H locs hP hS => ?_)
      refine g_topr (v := al (B + 20 + i2)) rfl ?_
      refine m_cast hx hb hown (hts _ q196) hE hP (B + 20 + i2) rfl (ov_j hlti2) rfl dX5_turnDrivesAndValves_54 ?_
      refine g_aft_v (g_runV (As := []) (rest := []) hx hb hml hown hts (kX3_turn l G al k h B c (it (fun j g => mJTurn g j) i2 (it (fun p g => mPTurn g p) 2 g)) i2 hF hlti2) (fcwV 0 hts q243 q244 q245 q185 q144 rfl rfl (by decide +kernel) ⟨(Nat.le_of_ble_eq_true rfl), (Nat.le_of_ble_eq_true rfl)⟩) hE hb0 hP hS (m_recvA hE hP (B + 20 + i2) rfl (ov_j hlti2) rfl) rfl hl.1 rfl (Nat.le_of_ble_eq_true rfl) dX5_turnDrivesAndValves_57 ⟨(Nat.le_of_ble_eq_true rfl), (Nat.le_of_ble_eq_true rfl)⟩) hS (fun u H locs hP hS => ?_)
      have hP : mP G al (ov G al k B c (mJTurn (it (fun j g => mJTurn g j) i2 (it (fun p g => mPTurn g p) 2 g)) i2)) H := hP
      refine lv_iinc (v := nI (i2 + 1)) (lv' := [(1, .int (nI (i2 + 1))), (0, .ref (al B))]) hx hb dX5_turnDrivesAndValves_60 hl (k := 0) rfl (f_inc _) (by decide) rfl (fun ls hl => ?_)
      refine lv_goto (tgt := 35) hx hb dX5_turnDrivesAndValves_63 (by decide) ?_
      exact ihi2 hlti2 _ _ _ (m_cv hP (show ov G al k B c (mJTurn (it (fun j g => mJTurn g j) i2 (it (fun p g => mPTurn g p) 2 g)) i2) = ov G al k B c (it (fun j g => mJTurn g j) (i2 + 1) (it (fun p g => mPTurn g p) 2 g)) from (by first | rfl | (simp only [it_s]; done) | (simp only [it_s]; rfl)))) hS (lv_sub hl [0, 1] rfl)
  · skip
    have hlti1 : i1 < 2 := Nat.lt_of_not_le (fun q => hc_1 (nI_le (a := 2) q (by omega)))
    refine lv_aload_n hx hb dX5_turnDrivesAndValves_13 rfl (lv_at hl 1 rfl) ?_
    refine m_get (C := RX5) (T := TX5) (N := 15) (ci := 6) (v := .ref (al (B + 1))) hx hb hts uX5 hown hE hP B rfl ov_s rfl 0 (by decide) (hts _ q173) (fun _ h9 => h9) rfl dX5_turnDrivesAndValves_14 ?_
    refine lv_iload_n hx hb dX5_turnDrivesAndValves_17 rfl (lv_at hl 0 rfl) ?_
    refine g_aft_r (g_runV (As := [.int (nI i1)]) (rest := []) hx hb hml hown hts (kJx4a65c_get_915e3 l G al (ov G al k B c (it (fun p g => mPTurn g p) i1 g)) (B + 1) (B + 2) 2 (fun p => B + 11 + p) i1 (gF_p hF) hlti1) (fcwV 1 hts q188 q56 q57 q50 q43 rfl rfl (by decide +kernel) ⟨(Nat.le_of_ble_eq_true rfl), (Nat.le_of_ble_eq_true rfl)⟩) hE hb0 hP hS (m_recvL hE hP (gF_p hF) rfl) rfl hl.1 rfl (Nat.le_of_ble_eq_true rfl) dX5_turnDrivesAndValves_18 ⟨(Nat.le_of_ble_eq_true rfl), (Nat.le_of_ble_eq_true rfl)⟩) hS (fun u H locs hP hS => ?_)
    refine g_topr (v := al (B + 11 + i1)) rfl ?_
    refine m_cast hx hb hown (hts _ q186) hE hP (B + 11 + i1) rfl (ov_p hlti1) rfl dX5_turnDrivesAndValves_21 ?_
    refine g_aft_v (g_runV (As := []) (rest := []) hx hb hml hown hts (kX4_turn l G al k h B c (it (fun p g => mPTurn g p) i1 g) i1 hlti1) (fcwV 0 hts q240 q241 q242 q159 q166 rfl rfl (by decide +kernel) ⟨(Nat.le_of_ble_eq_true rfl), (Nat.le_of_ble_eq_true rfl)⟩) hE hb0 hP hS (m_recvA hE hP (B + 11 + i1) rfl (ov_p hlti1) rfl) rfl hl.1 rfl (Nat.le_of_ble_eq_true rfl) dX5_turnDrivesAndValves_24 ⟨(Nat.le_of_ble_eq_true rfl), (Nat.le_of_ble_eq_true rfl)⟩) hS (fun u H locs hP hS => ?_)
    have hP : mP G al (ov G al k B c (mPTurn (it (fun p g => mPTurn g p) i1 g) i1)) H := hP
    refine lv_iinc (v := nI (i1 + 1)) (lv' := [(1, .int (nI (i1 + 1))), (0, .ref (al B))]) hx hb dX5_turnDrivesAndValves_27 hl (k := 0) rfl (f_inc _) (by decide) rfl (fun ls hl => ?_)
    refine lv_goto (tgt := 2) hx hb dX5_turnDrivesAndValves_30 (by decide) ?_
    exact ihi1 hlti1 _ _ _ (m_cv hP (show ov G al k B c (mPTurn (it (fun p g => mPTurn g p) i1 g) i1) = ov G al k B c (it (fun p g => mPTurn g p) (i1 + 1) g) from (by first | rfl | (simp only [it_s]; done) | (simp only [it_s]; rfl)))) hS (lv_sub hl [0, 1] rfl)
set_option maxHeartbeats 4000000 in
set_option maxRecDepth 100000 in
theorem kX5_letFall (l : Launch) (G : gT) (al : Nat → Nat) (k : gC) (h : gK) (B : Nat) (c : mC) (g : St) (hF : gF G al k B c) : Met l yX5_letFall (fW yX5_letFall cX5_letFall 3 (some .int)) { frames := 3, cells := 0, slots := 0, locals := 64 } (gPre G al (ov G al k B c g) [.ref (al B)]) (gQi (S := Unit) G (fun _ => mFallIn g (g 0 4)) (fun _ => al) (fun _ => ov G al k B c (mFall g))) 0 0 (gA G) := by
  refine Met.ofW (cc := cX5_letFall) (maxL := 3) (ret := (some .int)) (by decide) rfl ?_
  intro pz ez s m args below meth c₀ s₁ Bo hml hv
  obtain ⟨rfl, hb0, hP, hE⟩ := hv
  have hx := Bo.exec
  have hb := Bo.bytes
  have hr := Bo.returns
  have hts0 := atoms_spec (ws := (fW yX5_letFall cX5_letFall 3 (some .int))) Bo.pre
  have hts : ∀ w ∈ fA, w.before _ s = true := fun w h => hts0 w (List.mem_cons_of_mem _ h)
  have hown : s.vm.findClass RX5 = some m.cls := findClass_of_methodNamed Bo.named
  have hlocks := Bo.notSynchronized
  have hl := lv_entry ([.ref (al B)]) (n := 3) (Nat.le_of_ble_eq_true rfl)
  rw [lg_entry_eq]
  generalize (lg_sl ([.ref (al B)]) ++ List.replicate (3 - (lg_sl ([.ref (al B)])).length) Slot.unset).toArray = ls at hl ⊢
  have hl : lv_has ls 3 [(0, .ref (al B))] := hl
  have hJ := gF_J hF
  refine g_start hP (fun H hP hS => ?_)
  refine lv_aload_n hx hb dX5_letFall_0 rfl (lv_at hl 0 rfl) ?_
  refine m_get (C := RX5) (T := TX5) (N := 15) (ci := 6) (v := .ref (al (B + 7))) hx hb hts uX5 hown hE hP B rfl ov_s rfl 3 (by decide) (hts _ q178) (fun _ h9 => h9) rfl dX5_letFall_1 ?_
  refine lv_aload_n hx hb dX5_letFall_4 rfl (lv_at hl 0 rfl) ?_
  refine m_get (C := RX5) (T := TX5) (N := 15) (ci := 6) (v := .int (g 0 4)) hx hb hts uX5 hown hE hP B rfl ov_s rfl 4 (by decide) (hts _ q233) (fun _ h9 => h9) rfl dX5_letFall_5 ?_
  refine g_aft_i (g_runV (As := [.int (g 0 4)]) (rest := []) hx hb hml hown hts (kX0_fallingIn l G al k h B c g (g 0 4) hF) (fcwV 1 hts q251 q252 q253 q16 q17 rfl rfl (by decide +kernel) ⟨(Nat.le_of_ble_eq_true rfl), (Nat.le_of_ble_eq_true rfl)⟩) hE hb0 hP hS (m_recvA hE hP (B + 7) rfl (gF_a hF) rfl) rfl hl.1 rfl (Nat.le_of_ble_eq_true rfl) dX5_letFall_8 ⟨(Nat.le_of_ble_eq_true rfl), (Nat.le_of_ble_eq_true rfl)⟩) hS (fun u H locs hP hS => ?_)
  have hP : mP G al (ov G al k B c g) H := hP
  refine f_topi (v := mFallIn g (g 0 4)) rfl ?_
  refine lv_istore_n (lv' := [(1, .int (mFallIn g (g 0 4))), (0, .ref (al B))]) hx hb dX5_letFall_11 rfl hl (by decide) rfl (fun ls hl => ?_)
  refine lv_aload_n hx hb dX5_letFall_12 rfl (lv_at hl 1 rfl) ?_
  refine m_get (C := RX5) (T := TX5) (N := 15) (ci := 6) (v := .ref (al (B + 7))) hx hb hts uX5 hown hE hP B rfl ov_s rfl 3 (by decide) (hts _ q178) (fun _ h9 => h9) rfl dX5_letFall_13 ?_
  refine lv_aload_n hx hb dX5_letFall_16 rfl (lv_at hl 1 rfl) ?_
  refine m_get (C := RX5) (T := TX5) (N := 15) (ci := 6) (v := .int (g 0 4)) hx hb hts uX5 hown hE hP B rfl ov_s rfl 4 (by decide) (hts _ q233) (fun _ h9 => h9) rfl dX5_letFall_17 ?_
  refine g_aft_i (g_runV (As := [.int (g 0 4)]) (rest := []) hx hb hml hown hts (kX0_fallingOnBasin l G al k h B c g (g 0 4) hF) (fcwV 1 hts q254 q255 q256 q16 q18 rfl rfl (by decide +kernel) ⟨(Nat.le_of_ble_eq_true rfl), (Nat.le_of_ble_eq_true rfl)⟩) hE hb0 hP hS (m_recvA hE hP (B + 7) rfl (gF_a hF) rfl) rfl hl.1 rfl (Nat.le_of_ble_eq_true rfl) dX5_letFall_20 ⟨(Nat.le_of_ble_eq_true rfl), (Nat.le_of_ble_eq_true rfl)⟩) hS (fun u H locs hP hS => ?_)
  have hP : mP G al (ov G al k B c g) H := hP
  refine f_topi (v := mFallB g (g 0 4)) rfl ?_
  refine lv_istore_n (lv' := [(2, .int (mFallB g (g 0 4))), (1, .int (mFallIn g (g 0 4))), (0, .ref (al B))]) hx hb dX5_letFall_23 rfl hl (by decide) rfl (fun ls hl => ?_)
  refine lv_aload_n hx hb dX5_letFall_24 rfl (lv_at hl 2 rfl) ?_
  refine lv_iload_n hx hb dX5_letFall_25 rfl (lv_at hl 0 rfl) ?_
  refine g_aft_v (g_runV (As := [.int (mFallB g (g 0 4))]) (rest := []) hx hb hml hown hts (kX5_pour l G al k h B c g (mFallB g (g 0 4)) hF) (fcwV 1 hts q257 q258 q259 q211 q247 rfl rfl (by decide +kernel) ⟨(Nat.le_of_ble_eq_true rfl), (Nat.le_of_ble_eq_true rfl)⟩) hE hb0 hP hS (m_recvA hE hP B rfl ov_s rfl) rfl hl.1 rfl (Nat.le_of_ble_eq_true rfl) dX5_letFall_26 ⟨(Nat.le_of_ble_eq_true rfl), (Nat.le_of_ble_eq_true rfl)⟩) hS (fun u H locs hP hS => ?_)
  have hP : mP G al (ov G al k B c (mPour g (mFallB g (g 0 4)))) H := hP
  refine lv_aload_n hx hb dX5_letFall_29 rfl (lv_at hl 2 rfl) ?_
  refine lv_dup hx hb dX5_letFall_30 rfl ?_
  refine m_get (C := RX5) (T := TX5) (N := 15) (ci := 6) (v := .int ((mPour g (mFallB g (g 0 4))) 0 8)) hx hb hts uX5 hown hE hP B rfl ov_s rfl 8 (by decide) (hts _ q249) (fun _ h9 => h9) rfl dX5_letFall_31 ?_
  refine lv_aload_n hx hb dX5_letFall_34 rfl (lv_at hl 2 rfl) ?_
  refine m_get (C := RX5) (T := TX5) (N := 15) (ci := 6) (v := .ref (al (B + 7))) hx hb hts uX5 hown hE hP B rfl ov_s rfl 3 (by decide) (hts _ q178) (fun _ h9 => h9) rfl dX5_letFall_35 ?_
  refine lv_aload_n hx hb dX5_letFall_38 rfl (lv_at hl 2 rfl) ?_
  refine m_get (C := RX5) (T := TX5) (N := 15) (ci := 6) (v := .int ((mPour g (mFallB g (g 0 4))) 0 4)) hx hb hts uX5 hown hE hP B rfl ov_s rfl 4 (by decide) (hts _ q233) (fun _ h9 => h9) rfl dX5_letFall_39 ?_
  refine g_aft_i (g_runV (As := [.int ((mPour g (mFallB g (g 0 4))) 0 4)]) (rest := [.int ((mPour g (mFallB g (g 0 4))) 0 8), .ref (al B)]) hx hb hml hown hts (kX0_fallingOnCrowd l G al k h B c (mPour g (mFallB g (g 0 4))) ((mPour g (mFallB g (g 0 4))) 0 4) hF) (fcwV 1 hts q260 q261 q262 q16 q19 rfl rfl (by decide +kernel) ⟨(Nat.le_of_ble_eq_true rfl), (Nat.le_of_ble_eq_true rfl)⟩) hE hb0 hP hS (m_recvA hE hP (B + 7) rfl (gF_a hF) rfl) rfl hl.1 rfl (Nat.le_of_ble_eq_true rfl) dX5_letFall_42 ⟨(Nat.le_of_ble_eq_true rfl), (Nat.le_of_ble_eq_true rfl)⟩) hS (fun u H locs hP hS => ?_)
  have hP : mP G al (ov G al k B c (mPour g (mFallB g (g 0 4)))) H := hP
  refine f_topi (v := mFallC (mPour g (mFallB g (g 0 4))) ((mPour g (mFallB g (g 0 4))) 0 4)) rfl ?_
  refine lv_iadd hx hb dX5_letFall_45 ?_
  refine m_put (v := .int (((mPour g (mFallB g (g 0 4))) 0 8) + (mFallC (mPour g (mFallB g (g 0 4))) ((mPour g (mFallB g (g 0 4))) 0 4)))) (ty := .int) (C := RX5) (T := TX5) (N := 15) (ci := 6) hx hb hts uX5 tyX5 tyX5_ok nmX5 hown hE hP hS B rfl ov_s rfl 8 (by decide) (hts _ q249) (fun _ h9 => h9) rfl (by decide +kernel) rfl rfl (Nat.le_of_ble_eq_true rfl) dX5_letFall_46 (fun H locs hP hS => ?_)
  have hP := m_cv hP (ov_us (r := upd ((mPour g (mFallB g (g 0 4))) 0) 8 (((mPour g (mFallB g (g 0 4))) 0 8) + (mFallC (mPour g (mFallB g (g 0 4))) ((mPour g (mFallB g (g 0 4))) 0 4)))) rfl)
  have hP : mP G al (ov G al k B c (s2 (mPour g (mFallB g (g 0 4))) 0 8 (((mPour g (mFallB g (g 0 4))) 0 8) + (mFallC (mPour g (mFallB g (g 0 4))) ((mPour g (mFallB g (g 0 4))) 0 4))))) H := hP
  refine lv_aload_n hx hb dX5_letFall_49 rfl (lv_at hl 2 rfl) ?_
  refine lv_dup hx hb dX5_letFall_50 rfl ?_
  refine m_get (C := RX5) (T := TX5) (N := 15) (ci := 6) (v := .int ((s2 (mPour g (mFallB g (g 0 4))) 0 8 (((mPour g (mFallB g (g 0 4))) 0 8) + (mFallC (mPour g (mFallB g (g 0 4))) ((mPour g (mFallB g (g 0 4))) 0 4)))) 0 7)) hx hb hts uX5 hown hE hP B rfl ov_s rfl 7 (by decide) (hts _ q250) (fun _ h9 => h9) rfl dX5_letFall_51 ?_
  refine f_topi (v := (mPour g (mFallB g (g 0 4))) 0 7) (s2_k _ _ _ (by decide)) ?_
  refine lv_iload_n hx hb dX5_letFall_54 rfl (lv_at hl 1 rfl) ?_
  refine lv_iload_n hx hb dX5_letFall_55 rfl (lv_at hl 0 rfl) ?_
  refine lv_isub hx hb dX5_letFall_56 ?_
  refine lv_iadd hx hb dX5_letFall_57 ?_
  refine m_put (v := .int (((mPour g (mFallB g (g 0 4))) 0 7) + ((mFallIn g (g 0 4)) - (mFallB g (g 0 4))))) (ty := .int) (C := RX5) (T := TX5) (N := 15) (ci := 6) hx hb hts uX5 tyX5 tyX5_ok nmX5 hown hE hP hS B rfl ov_s rfl 7 (by decide) (hts _ q250) (fun _ h9 => h9) rfl (by decide +kernel) rfl rfl (Nat.le_of_ble_eq_true rfl) dX5_letFall_58 (fun H locs hP hS => ?_)
  have hP := m_cv hP (ov_us (r := upd ((s2 (mPour g (mFallB g (g 0 4))) 0 8 (((mPour g (mFallB g (g 0 4))) 0 8) + (mFallC (mPour g (mFallB g (g 0 4))) ((mPour g (mFallB g (g 0 4))) 0 4)))) 0) 7 (((mPour g (mFallB g (g 0 4))) 0 7) + ((mFallIn g (g 0 4)) - (mFallB g (g 0 4))))) rfl)
  have hP : mP G al (ov G al k B c (s2 (s2 (mPour g (mFallB g (g 0 4))) 0 8 (((mPour g (mFallB g (g 0 4))) 0 8) + (mFallC (mPour g (mFallB g (g 0 4))) ((mPour g (mFallB g (g 0 4))) 0 4)))) 0 7 (((mPour g (mFallB g (g 0 4))) 0 7) + ((mFallIn g (g 0 4)) - (mFallB g (g 0 4)))))) H := hP
  refine lv_aload_n hx hb dX5_letFall_61 rfl (lv_at hl 2 rfl) ?_
  refine m_get (C := RX5) (T := TX5) (N := 15) (ci := 6) (v := .ref (al (B + 7))) hx hb hts uX5 hown hE hP B rfl ov_s rfl 3 (by decide) (hts _ q178) (fun _ h9 => h9) rfl dX5_letFall_62 ?_
  refine lv_aload_n hx hb dX5_letFall_65 rfl (lv_at hl 2 rfl) ?_
  refine m_get (C := RX5) (T := TX5) (N := 15) (ci := 6) (v := .int ((s2 (s2 (mPour g (mFallB g (g 0 4))) 0 8 (((mPour g (mFallB g (g 0 4))) 0 8) + (mFallC (mPour g (mFallB g (g 0 4))) ((mPour g (mFallB g (g 0 4))) 0 4)))) 0 7 (((mPour g (mFallB g (g 0 4))) 0 7) + ((mFallIn g (g 0 4)) - (mFallB g (g 0 4))))) 0 4)) hx hb hts uX5 hown hE hP B rfl ov_s rfl 4 (by decide) (hts _ q233) (fun _ h9 => h9) rfl dX5_letFall_66 ?_
  refine f_topi (v := (mPour g (mFallB g (g 0 4))) 0 4) ((s2_k _ _ _ (by decide)).trans (s2_k _ _ _ (by decide))) ?_
  refine g_aft_v (g_runV (As := [.int ((mPour g (mFallB g (g 0 4))) 0 4)]) (rest := []) hx hb hml hown hts (kX0_clear l G al k h B c (s2 (s2 (mPour g (mFallB g (g 0 4))) 0 8 (((mPour g (mFallB g (g 0 4))) 0 8) + (mFallC (mPour g (mFallB g (g 0 4))) ((mPour g (mFallB g (g 0 4))) 0 4)))) 0 7 (((mPour g (mFallB g (g 0 4))) 0 7) + ((mFallIn g (g 0 4)) - (mFallB g (g 0 4))))) ((mPour g (mFallB g (g 0 4))) 0 4) hF) (fcwV 1 hts q263 q264 q265 q16 q20 rfl rfl (by decide +kernel) ⟨(Nat.le_of_ble_eq_true rfl), (Nat.le_of_ble_eq_true rfl)⟩) hE hb0 hP hS (m_recvA hE hP (B + 7) rfl (gF_a hF) rfl) rfl hl.1 rfl (Nat.le_of_ble_eq_true rfl) dX5_letFall_69 ⟨(Nat.le_of_ble_eq_true rfl), (Nat.le_of_ble_eq_true rfl)⟩) hS (fun u H locs hP hS => ?_)
  have hP : mP G al (ov G al k B c (mClear (s2 (s2 (mPour g (mFallB g (g 0 4))) 0 8 (((mPour g (mFallB g (g 0 4))) 0 8) + (mFallC (mPour g (mFallB g (g 0 4))) ((mPour g (mFallB g (g 0 4))) 0 4)))) 0 7 (((mPour g (mFallB g (g 0 4))) 0 7) + ((mFallIn g (g 0 4)) - (mFallB g (g 0 4))))) ((mPour g (mFallB g (g 0 4))) 0 4))) H := hP
  refine lv_iload_n hx hb dX5_letFall_72 rfl (lv_at hl 1 rfl) ?_
  have hP : mP G al (ov G al k B c (mFall g)) H := m_cv hP (show ov G al k B c (mClear (s2 (s2 (mPour g (mFallB g (g 0 4))) 0 8 (((mPour g (mFallB g (g 0 4))) 0 8) + (mFallC (mPour g (mFallB g (g 0 4))) ((mPour g (mFallB g (g 0 4))) 0 4)))) 0 7 (((mPour g (mFallB g (g 0 4))) 0 7) + ((mFallIn g (g 0 4)) - (mFallB g (g 0 4))))) ((mPour g (mFallB g (g 0 4))) 0 4)) = ov G al k B c (mFall g) from (by unfold mFall; rfl))
  refine W.widen (k := 0) (n := 0) (Nat.le_of_ble_eq_true rfl) (Nat.le_of_ble_eq_true rfl) ?_
  exact W.iret (v := mFallIn g (g 0 4)) hx hb hr (fun tz htz hW => ⟨⟨mFallIn g (g 0 4), (), rfl, rfl, g_end htz hP⟩, hS.F htz⟩) hS.2.2 dX5_letFall_73
set_option maxHeartbeats 4000000 in
set_option maxRecDepth 100000 in
theorem kX5_throwWater (l : Launch) (G : gT) (al : Nat → Nat) (k : gC) (h : gK) (B : Nat) (c : mC) (g : St) (hF : gF G al k B c) : Met l yX5_throwWater (fW yX5_throwWater cX5_throwWater 5 none) { frames := 5, cells := 0, slots := 0, locals := 109 } (gPre G al (ov G al k B c g) [.ref (al B)]) (gQv (S := Unit) G (fun _ => al) (fun _ => ov G al k B c (mThrow k g))) 0 0 (gA G) := by
  refine Met.ofW (cc := cX5_throwWater) (maxL := 5) (ret := none) (by decide) rfl ?_
  intro pz ez s m args below meth c₀ s₁ Bo hml hv
  obtain ⟨rfl, hb0, hP, hE⟩ := hv
  have hx := Bo.exec
  have hb := Bo.bytes
  have hr := Bo.returns
  have hts0 := atoms_spec (ws := (fW yX5_throwWater cX5_throwWater 5 none)) Bo.pre
  have hts : ∀ w ∈ fA, w.before _ s = true := fun w h => hts0 w (List.mem_cons_of_mem _ h)
  have hown : s.vm.findClass RX5 = some m.cls := findClass_of_methodNamed Bo.named
  have hlocks := Bo.notSynchronized
  have hl := lv_entry ([.ref (al B)]) (n := 5) (Nat.le_of_ble_eq_true rfl)
  rw [lg_entry_eq]
  generalize (lg_sl ([.ref (al B)]) ++ List.replicate (5 - (lg_sl ([.ref (al B)])).length) Slot.unset).toArray = ls at hl ⊢
  have hl : lv_has ls 5 [(0, .ref (al B))] := hl
  have hJ := gF_J hF
  refine g_start hP (fun H hP hS => ?_)
  refine lv_iconst (v := 0) hx hb dX5_throwWater_0 (by decide) ?_
  refine lv_istore_n (lv' := [(1, .int 0), (0, .ref (al B))]) hx hb dX5_throwWater_1 rfl hl (by decide) rfl (fun ls hl => ?_)
  refine g_loop (al := al) (N := k.1) (nL := 5) (Wi := fun i1 => ov G al k B c (it (mThrow1 k) i1 g)) (Li := fun i1 => [(1, .int (nI i1)), (0, .ref (al B))]) hP hS (lv_sub hl [0, 1] rfl) (fun i1 hii1 ihi1 H locs ls hP hS hl => ?_)
  have hP : mP G al (ov G al k B c (it (mThrow1 k) i1 g)) H := hP
  have hl : lv_has ls 5 [(1, .int (nI i1)), (0, .ref (al B))] := hl
  refine lv_iload_n hx hb dX5_throwWater_2 rfl (lv_at hl 0 rfl) ?_
  refine lv_aload_n hx hb dX5_throwWater_3 rfl (lv_at hl 1 rfl) ?_
  refine m_get (C := RX5) (T := TX5) (N := 15) (ci := 6) (v := .ref (al (B + 3))) hx hb hts uX5 hown hE hP B rfl ov_s rfl 1 (by decide) (hts _ q174) (fun _ h9 => h9) rfl dX5_throwWater_4 ?_
  refine g_aft_i (g_runV (As := []) (rest := [.int (nI i1)]) hx hb hml hown hts (kJx4a65c_size_8abf5 l G al (ov G al k B c (it (mThrow1 k) i1 g)) (B + 3) (B + 4) k.1 (fun j => B + 20 + j) (gF_j hF)) (fcwV 0 hts q187 q53 q54 q50 q34 rfl rfl (by decide +kernel) ⟨(Nat.le_of_ble_eq_true rfl), (Nat.le_of_ble_eq_true rfl)⟩) hE hb0 hP hS (m_recvL hE hP (gF_j hF) rfl) rfl hl.1 rfl (Nat.le_of_ble_eq_true rfl) dX5_throwWater_7 ⟨(Nat.le_of_ble_eq_true rfl), (Nat.le_of_ble_eq_true rfl)⟩) hS (fun u H locs hP hS => ?_)
  refine f_topi (v := nI k.1) rfl ?_
  refine lv_icmp_ge (tgt := 100) hx hb dX5_throwWater_10 (by decide) (fun hc_1 => ?_) (fun hc_1 => ?_)
  · skip
    have hgei1 : k.1 ≤ i1 := (nI_leI (by omega) (by omega)).mp hc_1
    obtain rfl : k.1 = i1 := Nat.le_antisymm hgei1 hii1
    have hP : mP G al (ov G al k B c (it (mThrow1 k) k.1 g)) H := hP
    have hl : lv_has ls 5 [(1, .int (nI k.1)), (0, .ref (al B))] := hl
    have hP : mP G al (ov G al k B c (mThrow k g)) H := m_cv hP (show ov G al k B c (it (mThrow1 k) k.1 g) = ov G al k B c (mThrow k g) from (by unfold mThrow; rfl))
    refine W.widen (k := 0) (n := 0) (Nat.le_of_ble_eq_true rfl) (Nat.le_of_ble_eq_true rfl) ?_
    exact W.vret hx hb hr (fun tz htz hW => ⟨⟨(), rfl, trivial, g_end htz hP⟩, hS.F htz⟩) hS.2.2 dX5_throwWater_100
  · skip
    have hlti1 : i1 < k.1 := Nat.lt_of_not_le (fun q => hc_1 (nI_le q (by omega)))
    refine lv_aload_n hx hb dX5_throwWater_13 rfl (lv_at hl 1 rfl) ?_
    refine m_get (C := RX5) (T := TX5) (N := 15) (ci := 6) (v := .ref (al (B + 3))) hx hb hts uX5 hown hE hP B rfl ov_s rfl 1 (by decide) (hts _ q174) (fun _ h9 => h9) rfl dX5_throwWater_14 ?_
    refine lv_iload_n hx hb dX5_throwWater_17 rfl (lv_at hl 0 rfl) ?_
    refine g_aft_r (g_runV (As := [.int (nI i1)]) (rest := []) hx hb hml hown hts (kJx4a65c_get_915e3 l G al (ov G al k B c (it (mThrow1 k) i1 g)) (B + 3) (B + 4) k.1 (fun j => B + 20 + j) i1 (gF_j hF) hlti1) (fcwV 1 hts q188 q56 q57 q50 q43 rfl rfl (by decide +kernel) ⟨(Nat.le_of_ble_eq_true rfl), (Nat.le_of_ble_eq_true rfl)⟩) hE hb0 hP hS (m_recvL hE hP (gF_j hF) rfl) rfl hl.1 rfl (Nat.le_of_ble_eq_true rfl) dX5_throwWater_18 ⟨(Nat.le_of_ble_eq_true rfl), (Nat.le_of_ble_eq_true rfl)⟩) hS (fun u H locs hP hS => ?_)
    refine g_topr (v := al (B + 20 + i1)) rfl ?_
    refine m_cast hx hb hown (hts _ q196) hE hP (B + 20 + i1) rfl (ov_j hlti1) rfl dX5_throwWater_21 ?_
    refine lv_astore_n (lv' := [(2, .ref (al (B + 20 + i1))), (1, .int (nI i1)), (0, .ref (al B))]) hx hb dX5_throwWater_24 rfl hl (by decide) rfl (fun ls hl => ?_)
    refine lv_aload_n hx hb dX5_throwWater_25 rfl (lv_at hl 2 rfl) ?_
    refine lv_aload_n hx hb dX5_throwWater_26 rfl (lv_at hl 0 rfl) ?_
    refine g_aft_i (g_runV (As := [.ref (al (B + 20 + i1))]) (rest := []) hx hb hml hown hts (kX5_heightOf l G al k h B c (it (mThrow1 k) i1 g) i1 hF hlti1) (fcwV 1 hts q214 q215 q216 q211 q213 rfl rfl (by decide +kernel) ⟨(Nat.le_of_ble_eq_true rfl), (Nat.le_of_ble_eq_true rfl)⟩) hE hb0 hP hS (m_recvA hE hP B rfl ov_s rfl) rfl hl.1 rfl (Nat.le_of_ble_eq_true rfl) dX5_throwWater_27 ⟨(Nat.le_of_ble_eq_true rfl), (Nat.le_of_ble_eq_true rfl)⟩) hS (fun u H locs hP hS => ?_)
    have hP : mP G al (ov G al k B c (it (mThrow1 k) i1 g)) H := hP
    refine f_topi (v := mHt k (it (mThrow1 k) i1 g) i1) rfl ?_
    refine lv_istore_n (lv' := [(3, .int (mHt k (it (mThrow1 k) i1 g) i1)), (2, .ref (al (B + 20 + i1))), (1, .int (nI i1)), (0, .ref (al B))]) hx hb dX5_throwWater_30 rfl hl (by decide) rfl (fun ls hl => ?_)
    refine lv_iload_n hx hb dX5_throwWater_31 rfl (lv_at hl 0 rfl) ?_
    refine lv_if_le (tgt := 94) hx hb dX5_throwWater_32 (by decide) (fun hc_2 => ?_) (fun hc_2 => ?_)
    · skip
      refine lv_iinc (v := nI (i1 + 1)) (lv' := [(1, .int (nI (i1 + 1))), (3, .int (mHt k (it (mThrow1 k) i1 g) i1)), (2, .ref (al (B + 20 + i1))), (0, .ref (al B))]) hx hb dX5_throwWater_94 hl (k := 2) rfl (f_inc _) (by decide) rfl (fun ls hl => ?_)
      refine lv_goto (tgt := 2) hx hb dX5_throwWater_97 (by decide) ?_
      exact ihi1 hlti1 _ _ _ (m_cv hP (show ov G al k B c (it (mThrow1 k) i1 g) = ov G al k B c (it (mThrow1 k) (i1 + 1) g) from (congrArg (ov G al k B c) (if_pos hc_2).symm))) hS (lv_sub hl [0, 3] rfl)
    · skip
      refine lv_aload_n hx hb dX5_throwWater_35 rfl (lv_at hl 1 rfl) ?_
      refine g_aft_i (g_runV (As := []) (rest := []) hx hb hml hown hts (kX3_flow l G al k h B c (it (mThrow1 k) i1 g) i1 hlti1) (fcwV 0 hts q200 q201 q202 q185 q141 rfl rfl (by decide +kernel) ⟨(Nat.le_of_ble_eq_true rfl), (Nat.le_of_ble_eq_true rfl)⟩) hE hb0 hP hS (m_recvA hE hP (B + 20 + i1) rfl (ov_j hlti1) rfl) rfl hl.1 rfl (Nat.le_of_ble_eq_true rfl) dX5_throwWater_36 ⟨(Nat.le_of_ble_eq_true rfl), (Nat.le_of_ble_eq_true rfl)⟩) hS (fun u H locs hP hS => ?_)
      have hP : mP G al (ov G al k B c (it (mThrow1 k) i1 g)) H := hP
      refine f_topi (v := mFlow k (it (mThrow1 k) i1 g) i1) rfl ?_
      refine lv_aload_n hx hb dX5_throwWater_39 rfl (lv_at hl 3 rfl) ?_
      refine m_get (C := RX5) (T := TX5) (N := 15) (ci := 6) (v := .int ((it (mThrow1 k) i1 g) 0 5)) hx hb hts uX5 hown hE hP B rfl ov_s rfl 5 (by decide) (hts _ q179) (fun _ h9 => h9) rfl dX5_throwWater_40 ?_
      refine va_mmin hx hb (hml.trans hl.1.symm) hown (hts _ q281) (hts _ q95) (hts _ q87) (hts _ q96) (Nat.le_of_ble_eq_true rfl) (Nat.le_of_ble_eq_true rfl) (Nat.le_of_ble_eq_true rfl) (Nat.le_of_ble_eq_true rfl) dX5_throwWater_43 ?_
      refine lv_istore (lv' := [(4, .int (if ((it (mThrow1 k) i1 g) 0 5) < (mFlow k (it (mThrow1 k) i1 g) i1) then ((it (mThrow1 k) i1 g) 0 5) else (mFlow k (it (mThrow1 k) i1 g) i1))), (3, .int (mHt k (it (mThrow1 k) i1 g) i1)), (2, .ref (al (B + 20 + i1))), (1, .int (nI i1)), (0, .ref (al B))]) hx hb dX5_throwWater_46 hl (by decide) rfl (fun ls hl => ?_)
      refine lv_aload_n hx hb dX5_throwWater_48 rfl (lv_at hl 4 rfl) ?_
      refine lv_dup hx hb dX5_throwWater_49 rfl ?_
      refine m_get (C := RX5) (T := TX5) (N := 15) (ci := 6) (v := .int ((it (mThrow1 k) i1 g) 0 5)) hx hb hts uX5 hown hE hP B rfl ov_s rfl 5 (by decide) (hts _ q179) (fun _ h9 => h9) rfl dX5_throwWater_50 ?_
      refine lv_iload hx hb dX5_throwWater_53 (lv_at hl 0 rfl) ?_
      refine lv_isub hx hb dX5_throwWater_55 ?_
      refine m_put (v := .int (((it (mThrow1 k) i1 g) 0 5) - (if ((it (mThrow1 k) i1 g) 0 5) < (mFlow k (it (mThrow1 k) i1 g) i1) then ((it (mThrow1 k) i1 g) 0 5) else (mFlow k (it (mThrow1 k) i1 g) i1)))) (ty := .int) (C := RX5) (T := TX5) (N := 15) (ci := 6) hx hb hts uX5 tyX5 tyX5_ok nmX5 hown hE hP hS B rfl ov_s rfl 5 (by decide) (hts _ q179) (fun _ h9 => h9) rfl (by decide +kernel) rfl rfl (Nat.le_of_ble_eq_true rfl) dX5_throwWater_56 (fun H locs hP hS => ?_)
      have hP := m_cv hP (ov_us (r := upd ((it (mThrow1 k) i1 g) 0) 5 (((it (mThrow1 k) i1 g) 0 5) - (if ((it (mThrow1 k) i1 g) 0 5) < (mFlow k (it (mThrow1 k) i1 g) i1) then ((it (mThrow1 k) i1 g) 0 5) else (mFlow k (it (mThrow1 k) i1 g) i1)))) rfl)
      have hP : mP G al (ov G al k B c (s2 (it (mThrow1 k) i1 g) 0 5 (((it (mThrow1 k) i1 g) 0 5) - (if ((it (mThrow1 k) i1 g) 0 5) < (mFlow k (it (mThrow1 k) i1 g) i1) then ((it (mThrow1 k) i1 g) 0 5) else (mFlow k (it (mThrow1 k) i1 g) i1))))) H := hP
      refine lv_aload_n hx hb dX5_throwWater_59 rfl (lv_at hl 2 rfl) ?_
      refine lv_dup hx hb dX5_throwWater_60 rfl ?_
      refine m_get (C := RX3) (T := TX3) (N := 10) (ci := 4) (v := .int ((s2 (it (mThrow1 k) i1 g) 0 5 (((it (mThrow1 k) i1 g) 0 5) - (if ((it (mThrow1 k) i1 g) 0 5) < (mFlow k (it (mThrow1 k) i1 g) i1) then ((it (mThrow1 k) i1 g) 0 5) else (mFlow k (it (mThrow1 k) i1 g) i1)))) (3 + i1) 9)) hx hb hts uX3 hown hE hP (B + 20 + i1) rfl (ov_j hlti1) rfl 9 (by decide) (hts _ q282) (fun _ h9 => h9) rfl dX5_throwWater_61 ?_
      refine f_topi (v := (it (mThrow1 k) i1 g) (3 + i1) 9) (s2_ok _ _ _ (by omega) _) ?_
      refine lv_iload hx hb dX5_throwWater_64 (lv_at hl 0 rfl) ?_
      refine lv_iadd hx hb dX5_throwWater_66 ?_
      refine m_put (v := .int (((it (mThrow1 k) i1 g) (3 + i1) 9) + (if ((it (mThrow1 k) i1 g) 0 5) < (mFlow k (it (mThrow1 k) i1 g) i1) then ((it (mThrow1 k) i1 g) 0 5) else (mFlow k (it (mThrow1 k) i1 g) i1)))) (ty := .int) (C := RX3) (T := TX3) (N := 10) (ci := 4) hx hb hts uX3 tyX3 tyX3_ok nmX3 hown hE hP hS (B + 20 + i1) rfl (ov_j hlti1) rfl 9 (by decide) (hts _ q282) (fun _ h9 => h9) rfl (by decide +kernel) rfl rfl (Nat.le_of_ble_eq_true rfl) dX5_throwWater_67 (fun H locs hP hS => ?_)
      have hP := m_cv hP (ov_uj (r := upd ((s2 (it (mThrow1 k) i1 g) 0 5 (((it (mThrow1 k) i1 g) 0 5) - (if ((it (mThrow1 k) i1 g) 0 5) < (mFlow k (it (mThrow1 k) i1 g) i1) then ((it (mThrow1 k) i1 g) 0 5) else (mFlow k (it (mThrow1 k) i1 g) i1)))) (3 + i1)) 9 (((it (mThrow1 k) i1 g) (3 + i1) 9) + (if ((it (mThrow1 k) i1 g) 0 5) < (mFlow k (it (mThrow1 k) i1 g) i1) then ((it (mThrow1 k) i1 g) 0 5) else (mFlow k (it (mThrow1 k) i1 g) i1)))) hlti1 hJ rfl)
      have hP : mP G al (ov G al k B c (s2 (s2 (it (mThrow1 k) i1 g) 0 5 (((it (mThrow1 k) i1 g) 0 5) - (if ((it (mThrow1 k) i1 g) 0 5) < (mFlow k (it (mThrow1 k) i1 g) i1) then ((it (mThrow1 k) i1 g) 0 5) else (mFlow k (it (mThrow1 k) i1 g) i1)))) (3 + i1) 9 (((it (mThrow1 k) i1 g) (3 + i1) 9) + (if ((it (mThrow1 k) i1 g) 0 5) < (mFlow k (it (mThrow1 k) i1 g) i1) then ((it (mThrow1 k) i1 g) 0 5) else (mFlow k (it (mThrow1 k) i1 g) i1))))) H := hP
      refine lv_aload_n hx hb dX5_throwWater_70 rfl (lv_at hl 4 rfl) ?_
      refine m_get (C := RX5) (T := TX5) (N := 15) (ci := 6) (v := .ref (al (B + 7))) hx hb hts uX5 hown hE hP B rfl ov_s rfl 3 (by decide) (hts _ q178) (fun _ h9 => h9) rfl dX5_throwWater_71 ?_
      refine lv_aload_n hx hb dX5_throwWater_74 rfl (lv_at hl 4 rfl) ?_
      refine m_get (C := RX5) (T := TX5) (N := 15) (ci := 6) (v := .int ((s2 (s2 (it (mThrow1 k) i1 g) 0 5 (((it (mThrow1 k) i1 g) 0 5) - (if ((it (mThrow1 k) i1 g) 0 5) < (mFlow k (it (mThrow1 k) i1 g) i1) then ((it (mThrow1 k) i1 g) 0 5) else (mFlow k (it (mThrow1 k) i1 g) i1)))) (3 + i1) 9 (((it (mThrow1 k) i1 g) (3 + i1) 9) + (if ((it (mThrow1 k) i1 g) 0 5) < (mFlow k (it (mThrow1 k) i1 g) i1) then ((it (mThrow1 k) i1 g) 0 5) else (mFlow k (it (mThrow1 k) i1 g) i1)))) 0 4)) hx hb hts uX5 hown hE hP B rfl ov_s rfl 4 (by decide) (hts _ q233) (fun _ h9 => h9) rfl dX5_throwWater_75 ?_
      refine f_topi (v := (it (mThrow1 k) i1 g) 0 4) ((s2_ok _ _ _ (by omega) _).trans (s2_k _ _ _ (by decide))) ?_
      refine lv_iload_n hx hb dX5_throwWater_78 rfl (lv_at hl 1 rfl) ?_
      refine g_aft_i (g_runSN (As := [.int (mHt k (it (mThrow1 k) i1 g) i1)]) (rest := [.int ((it (mThrow1 k) i1 g) 0 4), .ref (al (B + 7))]) hx hb hml hown hts (kX7_airTime l G al (ov G al k B c (s2 (s2 (it (mThrow1 k) i1 g) 0 5 (((it (mThrow1 k) i1 g) 0 5) - (if ((it (mThrow1 k) i1 g) 0 5) < (mFlow k (it (mThrow1 k) i1 g) i1) then ((it (mThrow1 k) i1 g) 0 5) else (mFlow k (it (mThrow1 k) i1 g) i1)))) (3 + i1) 9 (((it (mThrow1 k) i1 g) (3 + i1) 9) + (if ((it (mThrow1 k) i1 g) 0 5) < (mFlow k (it (mThrow1 k) i1 g) i1) then ((it (mThrow1 k) i1 g) 0 5) else (mFlow k (it (mThrow1 k) i1 g) i1))))) (mHt k (it (mThrow1 k) i1 g) i1)) (fcwSN 1 hts (hE.1.1.2.2.2.2.1 (RX5, 159, yX7_airTime, RX7) (by decide +kernel)) q280 q148 q267 rfl rfl (by decide +kernel) ⟨(Nat.le_of_ble_eq_true rfl), (Nat.le_of_ble_eq_true rfl)⟩) hE hb0 hP hS rfl hl.1 rfl (Nat.le_of_ble_eq_true rfl) dX5_throwWater_79 ⟨(Nat.le_of_ble_eq_true rfl), (Nat.le_of_ble_eq_true rfl)⟩) hS (fun u H locs hP hS => ?_)
      refine f_topi (v := mAir (mHt k (it (mThrow1 k) i1 g) i1)) rfl ?_
      refine lv_iadd hx hb dX5_throwWater_82 ?_
      refine lv_aload_n hx hb dX5_throwWater_83 rfl (lv_at hl 4 rfl) ?_
      refine lv_aload_n hx hb dX5_throwWater_84 rfl (lv_at hl 2 rfl) ?_
      refine lv_iload_n hx hb dX5_throwWater_85 rfl (lv_at hl 1 rfl) ?_
      refine g_aft_i (g_runV (As := [.ref (al (B + 20 + i1)), .int (mHt k (it (mThrow1 k) i1 g) i1)]) (rest := [.int (((it (mThrow1 k) i1 g) 0 4) + (mAir (mHt k (it (mThrow1 k) i1 g) i1))), .ref (al (B + 7))]) hx hb hml hown hts (kX5_placeOfFall l G al k h B c (s2 (s2 (it (mThrow1 k) i1 g) 0 5 (((it (mThrow1 k) i1 g) 0 5) - (if ((it (mThrow1 k) i1 g) 0 5) < (mFlow k (it (mThrow1 k) i1 g) i1) then ((it (mThrow1 k) i1 g) 0 5) else (mFlow k (it (mThrow1 k) i1 g) i1)))) (3 + i1) 9 (((it (mThrow1 k) i1 g) (3 + i1) 9) + (if ((it (mThrow1 k) i1 g) 0 5) < (mFlow k (it (mThrow1 k) i1 g) i1) then ((it (mThrow1 k) i1 g) 0 5) else (mFlow k (it (mThrow1 k) i1 g) i1)))) i1 (mHt k (it (mThrow1 k) i1 g) i1) hF hlti1) (fcwV 2 hts q283 q284 q285 q211 q272 rfl rfl (by decide +kernel) ⟨(Nat.le_of_ble_eq_true rfl), (Nat.le_of_ble_eq_true rfl)⟩) hE hb0 hP hS (m_recvA hE hP B rfl ov_s rfl) rfl hl.1 rfl (Nat.le_of_ble_eq_true rfl) dX5_throwWater_86 ⟨(Nat.le_of_ble_eq_true rfl), (Nat.le_of_ble_eq_true rfl)⟩) hS (fun u H locs hP hS => ?_)
      have hP : mP G al (ov G al k B c (s2 (s2 (it (mThrow1 k) i1 g) 0 5 (((it (mThrow1 k) i1 g) 0 5) - (if ((it (mThrow1 k) i1 g) 0 5) < (mFlow k (it (mThrow1 k) i1 g) i1) then ((it (mThrow1 k) i1 g) 0 5) else (mFlow k (it (mThrow1 k) i1 g) i1)))) (3 + i1) 9 (((it (mThrow1 k) i1 g) (3 + i1) 9) + (if ((it (mThrow1 k) i1 g) 0 5) < (mFlow k (it (mThrow1 k) i1 g) i1) then ((it (mThrow1 k) i1 g) 0 5) else (mFlow k (it (mThrow1 k) i1 g) i1))))) H := hP
      refine f_topi (v := mPlace k (s2 (s2 (it (mThrow1 k) i1 g) 0 5 (((it (mThrow1 k) i1 g) 0 5) - (if ((it (mThrow1 k) i1 g) 0 5) < (mFlow k (it (mThrow1 k) i1 g) i1) then ((it (mThrow1 k) i1 g) 0 5) else (mFlow k (it (mThrow1 k) i1 g) i1)))) (3 + i1) 9 (((it (mThrow1 k) i1 g) (3 + i1) 9) + (if ((it (mThrow1 k) i1 g) 0 5) < (mFlow k (it (mThrow1 k) i1 g) i1) then ((it (mThrow1 k) i1 g) 0 5) else (mFlow k (it (mThrow1 k) i1 g) i1)))) i1 (mHt k (it (mThrow1 k) i1 g) i1)) rfl ?_
      refine lv_iload hx hb dX5_throwWater_89 (lv_at hl 0 rfl) ?_
      refine g_aft_v (g_runV (As := [.int (((it (mThrow1 k) i1 g) 0 4) + (mAir (mHt k (it (mThrow1 k) i1 g) i1))), .int (mPlace k (s2 (s2 (it (mThrow1 k) i1 g) 0 5 (((it (mThrow1 k) i1 g) 0 5) - (if ((it (mThrow1 k) i1 g) 0 5) < (mFlow k (it (mThrow1 k) i1 g) i1) then ((it (mThrow1 k) i1 g) 0 5) else (mFlow k (it (mThrow1 k) i1 g) i1)))) (3 + i1) 9 (((it (mThrow1 k) i1 g) (3 + i1) 9) + (if ((it (mThrow1 k) i1 g) 0 5) < (mFlow k (it (mThrow1 k) i1 g) i1) then ((it (mThrow1 k) i1 g) 0 5) else (mFlow k (it (mThrow1 k) i1 g) i1)))) i1 (mHt k (it (mThrow1 k) i1 g) i1)), .int (if ((it (mThrow1 k) i1 g) 0 5) < (mFlow k (it (mThrow1 k) i1 g) i1) then ((it (mThrow1 k) i1 g) 0 5) else (mFlow k (it (mThrow1 k) i1 g) i1))]) (rest := []) hx hb hml hown hts (kX0_put l G al k h B c (s2 (s2 (it (mThrow1 k) i1 g) 0 5 (((it (mThrow1 k) i1 g) 0 5) - (if ((it (mThrow1 k) i1 g) 0 5) < (mFlow k (it (mThrow1 k) i1 g) i1) then ((it (mThrow1 k) i1 g) 0 5) else (mFlow k (it (mThrow1 k) i1 g) i1)))) (3 + i1) 9 (((it (mThrow1 k) i1 g) (3 + i1) 9) + (if ((it (mThrow1 k) i1 g) 0 5) < (mFlow k (it (mThrow1 k) i1 g) i1) then ((it (mThrow1 k) i1 g) 0 5) else (mFlow k (it (mThrow1 k) i1 g) i1)))) (((it (mThrow1 k) i1 g) 0 4) + (mAir (mHt k (it (mThrow1 k) i1 g) i1))) (mPlace k (s2 (s2 (it (mThrow1 k) i1 g) 0 5 (((it (mThrow1 k) i1 g) 0 5) - (if ((it (mThrow1 k) i1 g) 0 5) < (mFlow k (it (mThrow1 k) i1 g) i1) then ((it (mThrow1 k) i1 g) 0 5) else (mFlow k (it (mThrow1 k) i1 g) i1)))) (3 + i1) 9 (((it (mThrow1 k) i1 g) (3 + i1) 9) + (if ((it (mThrow1 k) i1 g) 0 5) < (mFlow k (it (mThrow1 k) i1 g) i1) then ((it (mThrow1 k) i1 g) 0 5) else (mFlow k (it (mThrow1 k) i1 g) i1)))) i1 (mHt k (it (mThrow1 k) i1 g) i1)) (if ((it (mThrow1 k) i1 g) 0 5) < (mFlow k (it (mThrow1 k) i1 g) i1) then ((it (mThrow1 k) i1 g) 0 5) else (mFlow k (it (mThrow1 k) i1 g) i1)) hF) (fcwV 3 hts q286 q287 q288 q16 q13 rfl rfl (by decide +kernel) ⟨(Nat.le_of_ble_eq_true rfl), (Nat.le_of_ble_eq_true rfl)⟩) hE hb0 hP hS (m_recvA hE hP (B + 7) rfl (gF_a hF) rfl) rfl hl.1 rfl (Nat.le_of_ble_eq_true rfl) dX5_throwWater_91 ⟨(Nat.le_of_ble_eq_true rfl), (Nat.le_of_ble_eq_true rfl)⟩) hS (fun u H locs hP hS => ?_)
      have hP : mP G al (ov G al k B c (mPut (s2 (s2 (it (mThrow1 k) i1 g) 0 5 (((it (mThrow1 k) i1 g) 0 5) - (if ((it (mThrow1 k) i1 g) 0 5) < (mFlow k (it (mThrow1 k) i1 g) i1) then ((it (mThrow1 k) i1 g) 0 5) else (mFlow k (it (mThrow1 k) i1 g) i1)))) (3 + i1) 9 (((it (mThrow1 k) i1 g) (3 + i1) 9) + (if ((it (mThrow1 k) i1 g) 0 5) < (mFlow k (it (mThrow1 k) i1 g) i1) then ((it (mThrow1 k) i1 g) 0 5) else (mFlow k (it (mThrow1 k) i1 g) i1)))) (((it (mThrow1 k) i1 g) 0 4) + (mAir (mHt k (it (mThrow1 k) i1 g) i1))) (mPlace k (s2 (s2 (it (mThrow1 k) i1 g) 0 5 (((it (mThrow1 k) i1 g) 0 5) - (if ((it (mThrow1 k) i1 g) 0 5) < (mFlow k (it (mThrow1 k) i1 g) i1) then ((it (mThrow1 k) i1 g) 0 5) else (mFlow k (it (mThrow1 k) i1 g) i1)))) (3 + i1) 9 (((it (mThrow1 k) i1 g) (3 + i1) 9) + (if ((it (mThrow1 k) i1 g) 0 5) < (mFlow k (it (mThrow1 k) i1 g) i1) then ((it (mThrow1 k) i1 g) 0 5) else (mFlow k (it (mThrow1 k) i1 g) i1)))) i1 (mHt k (it (mThrow1 k) i1 g) i1)) (if ((it (mThrow1 k) i1 g) 0 5) < (mFlow k (it (mThrow1 k) i1 g) i1) then ((it (mThrow1 k) i1 g) 0 5) else (mFlow k (it (mThrow1 k) i1 g) i1)))) H := hP
      refine lv_iinc (v := nI (i1 + 1)) (lv' := [(1, .int (nI (i1 + 1))), (4, .int (if ((it (mThrow1 k) i1 g) 0 5) < (mFlow k (it (mThrow1 k) i1 g) i1) then ((it (mThrow1 k) i1 g) 0 5) else (mFlow k (it (mThrow1 k) i1 g) i1))), (3, .int (mHt k (it (mThrow1 k) i1 g) i1)), (2, .ref (al (B + 20 + i1))), (0, .ref (al B))]) hx hb dX5_throwWater_94 hl (k := 3) rfl (f_inc _) (by decide) rfl (fun ls hl => ?_)
      refine lv_goto (tgt := 2) hx hb dX5_throwWater_97 (by decide) ?_
      exact ihi1 hlti1 _ _ _ (m_cv hP (show ov G al k B c (mPut (s2 (s2 (it (mThrow1 k) i1 g) 0 5 (((it (mThrow1 k) i1 g) 0 5) - (if ((it (mThrow1 k) i1 g) 0 5) < (mFlow k (it (mThrow1 k) i1 g) i1) then ((it (mThrow1 k) i1 g) 0 5) else (mFlow k (it (mThrow1 k) i1 g) i1)))) (3 + i1) 9 (((it (mThrow1 k) i1 g) (3 + i1) 9) + (if ((it (mThrow1 k) i1 g) 0 5) < (mFlow k (it (mThrow1 k) i1 g) i1) then ((it (mThrow1 k) i1 g) 0 5) else (mFlow k (it (mThrow1 k) i1 g) i1)))) (((it (mThrow1 k) i1 g) 0 4) + (mAir (mHt k (it (mThrow1 k) i1 g) i1))) (mPlace k (s2 (s2 (it (mThrow1 k) i1 g) 0 5 (((it (mThrow1 k) i1 g) 0 5) - (if ((it (mThrow1 k) i1 g) 0 5) < (mFlow k (it (mThrow1 k) i1 g) i1) then ((it (mThrow1 k) i1 g) 0 5) else (mFlow k (it (mThrow1 k) i1 g) i1)))) (3 + i1) 9 (((it (mThrow1 k) i1 g) (3 + i1) 9) + (if ((it (mThrow1 k) i1 g) 0 5) < (mFlow k (it (mThrow1 k) i1 g) i1) then ((it (mThrow1 k) i1 g) 0 5) else (mFlow k (it (mThrow1 k) i1 g) i1)))) i1 (mHt k (it (mThrow1 k) i1 g) i1)) (if ((it (mThrow1 k) i1 g) 0 5) < (mFlow k (it (mThrow1 k) i1 g) i1) then ((it (mThrow1 k) i1 g) 0 5) else (mFlow k (it (mThrow1 k) i1 g) i1))) = ov G al k B c (it (mThrow1 k) (i1 + 1) g) from (congrArg (ov G al k B c) (if_neg hc_2).symm))) hS (lv_sub hl [0, 4] rfl)
set_option maxHeartbeats 4000000 in
set_option maxRecDepth 100000 in
theorem kX5_useEnergy (l : Launch) (G : gT) (al : Nat → Nat) (k : gC) (h : gK) (B : Nat) (c : mC) (g : St) (hF : gF G al k B c) : Met l yX5_useEnergy (fW yX5_useEnergy cX5_useEnergy 3 none) { frames := 4, cells := 0, slots := 0, locals := 86 } (gPre G al (ov G al k B c g) [.ref (al B)]) (gQv (S := Unit) G (fun _ => al) (fun _ => ov G al k B c (mEnergy k g))) 0 0 (gA G) := by
  refine Met.ofW (cc := cX5_useEnergy) (maxL := 3) (ret := none) (by decide) rfl ?_
  intro pz ez s m args below meth c₀ s₁ Bo hml hv
  obtain ⟨rfl, hb0, hP, hE⟩ := hv
  have hx := Bo.exec
  have hb := Bo.bytes
  have hr := Bo.returns
  have hts0 := atoms_spec (ws := (fW yX5_useEnergy cX5_useEnergy 3 none)) Bo.pre
  have hts : ∀ w ∈ fA, w.before _ s = true := fun w h => hts0 w (List.mem_cons_of_mem _ h)
  have hown : s.vm.findClass RX5 = some m.cls := findClass_of_methodNamed Bo.named
  have hlocks := Bo.notSynchronized
  have hl := lv_entry ([.ref (al B)]) (n := 3) (Nat.le_of_ble_eq_true rfl)
  rw [lg_entry_eq]
  generalize (lg_sl ([.ref (al B)]) ++ List.replicate (3 - (lg_sl ([.ref (al B)])).length) Slot.unset).toArray = ls at hl ⊢
  have hl : lv_has ls 3 [(0, .ref (al B))] := hl
  have hJ := gF_J hF
  refine g_start hP (fun H hP hS => ?_)
  refine lv_iconst (v := 0) hx hb dX5_useEnergy_0 (by decide) ?_
  refine lv_istore_n (lv' := [(1, .int 0), (0, .ref (al B))]) hx hb dX5_useEnergy_1 rfl hl (by decide) rfl (fun ls hl => ?_)
  refine g_loop (al := al) (N := 2) (nL := 3) (Wi := fun i1 => ov G al k B c (it (fun p g => s2 g 0 9 (g 0 9 + g (1 + p) 3 * g (1 + p) 3)) i1 g)) (Li := fun i1 => [(1, .int (nI i1)), (0, .ref (al B))]) hP hS (lv_sub hl [0, 1] rfl) (fun i1 hii1 ihi1 H locs ls hP hS hl => ?_)
  have hP : mP G al (ov G al k B c (it (fun p g => s2 g 0 9 (g 0 9 + g (1 + p) 3 * g (1 + p) 3)) i1 g)) H := hP
  have hl : lv_has ls 3 [(1, .int (nI i1)), (0, .ref (al B))] := hl
  refine lv_iload_n hx hb dX5_useEnergy_2 rfl (lv_at hl 0 rfl) ?_
  refine lv_aload_n hx hb dX5_useEnergy_3 rfl (lv_at hl 1 rfl) ?_
  refine m_get (C := RX5) (T := TX5) (N := 15) (ci := 6) (v := .ref (al (B + 1))) hx hb hts uX5 hown hE hP B rfl ov_s rfl 0 (by decide) (hts _ q173) (fun _ h9 => h9) rfl dX5_useEnergy_4 ?_
  refine g_aft_i (g_runV (As := []) (rest := [.int (nI i1)]) hx hb hml hown hts (kJx4a65c_size_8abf5 l G al (ov G al k B c (it (fun p g => s2 g 0 9 (g 0 9 + g (1 + p) 3 * g (1 + p) 3)) i1 g)) (B + 1) (B + 2) 2 (fun p => B + 11 + p) (gF_p hF)) (fcwV 0 hts q187 q53 q54 q50 q34 rfl rfl (by decide +kernel) ⟨(Nat.le_of_ble_eq_true rfl), (Nat.le_of_ble_eq_true rfl)⟩) hE hb0 hP hS (m_recvL hE hP (gF_p hF) rfl) rfl hl.1 rfl (Nat.le_of_ble_eq_true rfl) dX5_useEnergy_7 ⟨(Nat.le_of_ble_eq_true rfl), (Nat.le_of_ble_eq_true rfl)⟩) hS (fun u H locs hP hS => ?_)
  refine f_topi (v := nI 2) rfl ?_
  refine lv_icmp_ge (tgt := 46) hx hb dX5_useEnergy_10 (by decide) (fun hc_1 => ?_) (fun hc_1 => ?_)
  · skip
    have hgei1 : 2 ≤ i1 := (nI_leI (a := 2) (by omega) (by omega)).mp hc_1
    obtain rfl : 2 = i1 := Nat.le_antisymm hgei1 hii1
    have hP : mP G al (ov G al k B c (it (fun p g => s2 g 0 9 (g 0 9 + g (1 + p) 3 * g (1 + p) 3)) 2 g)) H := hP
    have hl : lv_has ls 3 [(1, .int (nI 2)), (0, .ref (al B))] := hl
    refine lv_aload_n hx hb dX5_useEnergy_46 rfl (lv_at hl 1 rfl) ?_
    refine lv_dup hx hb dX5_useEnergy_47 rfl ?_
    refine m_get (C := RX5) (T := TX5) (N := 15) (ci := 6) (v := .int ((it (fun p g => s2 g 0 9 (g 0 9 + g (1 + p) 3 * g (1 + p) 3)) 2 g) 0 9)) hx hb hts uX5 hown hE hP B rfl ov_s rfl 9 (by decide) (hts _ q296) (fun _ h9 => h9) rfl dX5_useEnergy_48 ?_
    refine lv_aload_n hx hb dX5_useEnergy_51 rfl (lv_at hl 1 rfl) ?_
    refine g_aft_i (g_runV (As := []) (rest := [.int ((it (fun p g => s2 g 0 9 (g 0 9 + g (1 + p) 3 * g (1 + p) 3)) 2 g) 0 9), .ref (al B)]) hx hb hml hown hts (kX5_lampsOn l G al k h B c (it (fun p g => s2 g 0 9 (g 0 9 + g (1 + p) 3 * g (1 + p) 3)) 2 g) hF) (fcwV 0 hts q297 q298 q299 q211 q291 rfl rfl (by decide +kernel) ⟨(Nat.le_of_ble_eq_true rfl), (Nat.le_of_ble_eq_true rfl)⟩) hE hb0 hP hS (m_recvA hE hP B rfl ov_s rfl) rfl hl.1 rfl (Nat.le_of_ble_eq_true rfl) dX5_useEnergy_52 ⟨(Nat.le_of_ble_eq_true rfl), (Nat.le_of_ble_eq_true rfl)⟩) hS (fun u H locs hP hS => ?_)
    have hP : mP G al (ov G al k B c (it (fun p g => s2 g 0 9 (g 0 9 + g (1 + p) 3 * g (1 + p) 3)) 2 g)) H := hP
    refine f_topi (v := mLamps k (it (fun p g => s2 g 0 9 (g 0 9 + g (1 + p) 3 * g (1 + p) 3)) 2 g)) rfl ?_
    refine g_aft_i (g_runS (As := [.int (mLamps k (it (fun p g => s2 g 0 9 (g 0 9 + g (1 + p) 3 * g (1 + p) 3)) 2 g))]) (rest := [.int ((it (fun p g => s2 g 0 9 (g 0 9 + g (1 + p) 3 * g (1 + p) 3)) 2 g) 0 9), .ref (al B)]) hx hb hml hown hts (kJ6_bitCount_0f7a4 l G al (ov G al k B c (it (fun p g => s2 g 0 9 (g 0 9 + g (1 + p) 3 * g (1 + p) 3)) 2 g)) (mLamps k (it (fun p g => s2 g 0 9 (g 0 9 + g (1 + p) 3 * g (1 + p) 3)) 2 g))) (fcwS 1 hts q300 q301 q302 q292 rfl rfl (by decide +kernel) ⟨(Nat.le_of_ble_eq_true rfl), (Nat.le_of_ble_eq_true rfl)⟩) hE hb0 hP hS rfl hl.1 rfl (Nat.le_of_ble_eq_true rfl) dX5_useEnergy_55 ⟨(Nat.le_of_ble_eq_true rfl), (Nat.le_of_ble_eq_true rfl)⟩) hS (fun u H locs hP hS => ?_)
    refine f_topi (v := mBits (mLamps k (it (fun p g => s2 g 0 9 (g 0 9 + g (1 + p) 3 * g (1 + p) 3)) 2 g))) rfl ?_
    refine lv_iadd hx hb dX5_useEnergy_58 ?_
    refine m_put (v := .int (((it (fun p g => s2 g 0 9 (g 0 9 + g (1 + p) 3 * g (1 + p) 3)) 2 g) 0 9) + (mBits (mLamps k (it (fun p g => s2 g 0 9 (g 0 9 + g (1 + p) 3 * g (1 + p) 3)) 2 g))))) (ty := .int) (C := RX5) (T := TX5) (N := 15) (ci := 6) hx hb hts uX5 tyX5 tyX5_ok nmX5 hown hE hP hS B rfl ov_s rfl 9 (by decide) (hts _ q296) (fun _ h9 => h9) rfl (by decide +kernel) rfl rfl (Nat.le_of_ble_eq_true rfl) dX5_useEnergy_59 (fun H locs hP hS => ?_)
    have hP := m_cv hP (ov_us (r := upd ((it (fun p g => s2 g 0 9 (g 0 9 + g (1 + p) 3 * g (1 + p) 3)) 2 g) 0) 9 (((it (fun p g => s2 g 0 9 (g 0 9 + g (1 + p) 3 * g (1 + p) 3)) 2 g) 0 9) + (mBits (mLamps k (it (fun p g => s2 g 0 9 (g 0 9 + g (1 + p) 3 * g (1 + p) 3)) 2 g))))) rfl)
    have hP : mP G al (ov G al k B c (s2 (it (fun p g => s2 g 0 9 (g 0 9 + g (1 + p) 3 * g (1 + p) 3)) 2 g) 0 9 (((it (fun p g => s2 g 0 9 (g 0 9 + g (1 + p) 3 * g (1 + p) 3)) 2 g) 0 9) + (mBits (mLamps k (it (fun p g => s2 g 0 9 (g 0 9 + g (1 + p) 3 * g (1 + p) 3)) 2 g)))))) H := hP
    have hP : mP G al (ov G al k B c (mEnergy k g)) H := m_cv hP (show ov G al k B c (s2 (it (fun p g => s2 g 0 9 (g 0 9 + g (1 + p) 3 * g (1 + p) 3)) 2 g) 0 9 (((it (fun p g => s2 g 0 9 (g 0 9 + g (1 + p) 3 * g (1 + p) 3)) 2 g) 0 9) + (mBits (mLamps k (it (fun p g => s2 g 0 9 (g 0 9 + g (1 + p) 3 * g (1 + p) 3)) 2 g))))) = ov G al k B c (mEnergy k g) from (by unfold mEnergy mEn1; rfl))
    refine W.widen (k := 0) (n := 0) (Nat.le_of_ble_eq_true rfl) (Nat.le_of_ble_eq_true rfl) ?_
    exact W.vret hx hb hr (fun tz htz hW => ⟨⟨(), rfl, trivial, g_end htz hP⟩, hS.F htz⟩) hS.2.2 dX5_useEnergy_62
  · skip
    have hlti1 : i1 < 2 := Nat.lt_of_not_le (fun q => hc_1 (nI_le (a := 2) q (by omega)))
    refine lv_aload_n hx hb dX5_useEnergy_13 rfl (lv_at hl 1 rfl) ?_
    refine m_get (C := RX5) (T := TX5) (N := 15) (ci := 6) (v := .ref (al (B + 1))) hx hb hts uX5 hown hE hP B rfl ov_s rfl 0 (by decide) (hts _ q173) (fun _ h9 => h9) rfl dX5_useEnergy_14 ?_
    refine lv_iload_n hx hb dX5_useEnergy_17 rfl (lv_at hl 0 rfl) ?_
    refine g_aft_r (g_runV (As := [.int (nI i1)]) (rest := []) hx hb hml hown hts (kJx4a65c_get_915e3 l G al (ov G al k B c (it (fun p g => s2 g 0 9 (g 0 9 + g (1 + p) 3 * g (1 + p) 3)) i1 g)) (B + 1) (B + 2) 2 (fun p => B + 11 + p) i1 (gF_p hF) hlti1) (fcwV 1 hts q188 q56 q57 q50 q43 rfl rfl (by decide +kernel) ⟨(Nat.le_of_ble_eq_true rfl), (Nat.le_of_ble_eq_true rfl)⟩) hE hb0 hP hS (m_recvL hE hP (gF_p hF) rfl) rfl hl.1 rfl (Nat.le_of_ble_eq_true rfl) dX5_useEnergy_18 ⟨(Nat.le_of_ble_eq_true rfl), (Nat.le_of_ble_eq_true rfl)⟩) hS (fun u H locs hP hS => ?_)
    refine g_topr (v := al (B + 11 + i1)) rfl ?_
    refine m_cast hx hb hown (hts _ q186) hE hP (B + 11 + i1) rfl (ov_p hlti1) rfl dX5_useEnergy_21 ?_
    refine m_get (C := RX4) (T := TX4) (N := 6) (ci := 5) (v := .int ((it (fun p g => s2 g 0 9 (g 0 9 + g (1 + p) 3 * g (1 + p) 3)) i1 g) (1 + i1) 3)) hx hb hts uX4 hown hE hP (B + 11 + i1) rfl (ov_p hlti1) rfl 3 (by decide) (hts _ q198) (fun _ h9 => h9) rfl dX5_useEnergy_24 ?_
    refine lv_istore_n (lv' := [(2, .int ((it (fun p g => s2 g 0 9 (g 0 9 + g (1 + p) 3 * g (1 + p) 3)) i1 g) (1 + i1) 3)), (1, .int (nI i1)), (0, .ref (al B))]) hx hb dX5_useEnergy_27 rfl hl (by decide) rfl (fun ls hl => ?_)
    refine lv_aload_n hx hb dX5_useEnergy_28 rfl (lv_at hl 2 rfl) ?_
    refine lv_dup hx hb dX5_useEnergy_29 rfl ?_
    refine m_get (C := RX5) (T := TX5) (N := 15) (ci := 6) (v := .int ((it (fun p g => s2 g 0 9 (g 0 9 + g (1 + p) 3 * g (1 + p) 3)) i1 g) 0 9)) hx hb hts uX5 hown hE hP B rfl ov_s rfl 9 (by decide) (hts _ q296) (fun _ h9 => h9) rfl dX5_useEnergy_30 ?_
    refine lv_iload_n hx hb dX5_useEnergy_33 rfl (lv_at hl 0 rfl) ?_
    refine lv_iload_n hx hb dX5_useEnergy_34 rfl (lv_at hl 0 rfl) ?_
    refine lv_imul hx hb dX5_useEnergy_35 ?_
    refine lv_iadd hx hb dX5_useEnergy_36 ?_
    refine m_put (v := .int (((it (fun p g => s2 g 0 9 (g 0 9 + g (1 + p) 3 * g (1 + p) 3)) i1 g) 0 9) + (((it (fun p g => s2 g 0 9 (g 0 9 + g (1 + p) 3 * g (1 + p) 3)) i1 g) (1 + i1) 3) * ((it (fun p g => s2 g 0 9 (g 0 9 + g (1 + p) 3 * g (1 + p) 3)) i1 g) (1 + i1) 3)))) (ty := .int) (C := RX5) (T := TX5) (N := 15) (ci := 6) hx hb hts uX5 tyX5 tyX5_ok nmX5 hown hE hP hS B rfl ov_s rfl 9 (by decide) (hts _ q296) (fun _ h9 => h9) rfl (by decide +kernel) rfl rfl (Nat.le_of_ble_eq_true rfl) dX5_useEnergy_37 (fun H locs hP hS => ?_)
    have hP := m_cv hP (ov_us (r := upd ((it (fun p g => s2 g 0 9 (g 0 9 + g (1 + p) 3 * g (1 + p) 3)) i1 g) 0) 9 (((it (fun p g => s2 g 0 9 (g 0 9 + g (1 + p) 3 * g (1 + p) 3)) i1 g) 0 9) + (((it (fun p g => s2 g 0 9 (g 0 9 + g (1 + p) 3 * g (1 + p) 3)) i1 g) (1 + i1) 3) * ((it (fun p g => s2 g 0 9 (g 0 9 + g (1 + p) 3 * g (1 + p) 3)) i1 g) (1 + i1) 3)))) rfl)
    have hP : mP G al (ov G al k B c (s2 (it (fun p g => s2 g 0 9 (g 0 9 + g (1 + p) 3 * g (1 + p) 3)) i1 g) 0 9 (((it (fun p g => s2 g 0 9 (g 0 9 + g (1 + p) 3 * g (1 + p) 3)) i1 g) 0 9) + (((it (fun p g => s2 g 0 9 (g 0 9 + g (1 + p) 3 * g (1 + p) 3)) i1 g) (1 + i1) 3) * ((it (fun p g => s2 g 0 9 (g 0 9 + g (1 + p) 3 * g (1 + p) 3)) i1 g) (1 + i1) 3))))) H := hP
    refine lv_iinc (v := nI (i1 + 1)) (lv' := [(1, .int (nI (i1 + 1))), (2, .int ((it (fun p g => s2 g 0 9 (g 0 9 + g (1 + p) 3 * g (1 + p) 3)) i1 g) (1 + i1) 3)), (0, .ref (al B))]) hx hb dX5_useEnergy_40 hl (k := 1) rfl (f_inc _) (by decide) rfl (fun ls hl => ?_)
    refine lv_goto (tgt := 2) hx hb dX5_useEnergy_43 (by decide) ?_
    exact ihi1 hlti1 _ _ _ (m_cv hP (show ov G al k B c (s2 (it (fun p g => s2 g 0 9 (g 0 9 + g (1 + p) 3 * g (1 + p) 3)) i1 g) 0 9 (((it (fun p g => s2 g 0 9 (g 0 9 + g (1 + p) 3 * g (1 + p) 3)) i1 g) 0 9) + (((it (fun p g => s2 g 0 9 (g 0 9 + g (1 + p) 3 * g (1 + p) 3)) i1 g) (1 + i1) 3) * ((it (fun p g => s2 g 0 9 (g 0 9 + g (1 + p) 3 * g (1 + p) 3)) i1 g) (1 + i1) 3)))) = ov G al k B c (it (fun p g => s2 g 0 9 (g 0 9 + g (1 + p) 3 * g (1 + p) 3)) (i1 + 1) g) from (by first | rfl | (simp only [it_s]; done) | (simp only [it_s]; rfl)))) hS (lv_sub hl [0, 2] rfl)
set_option maxHeartbeats 4000000 in
set_option maxRecDepth 100000 in
theorem kX5_tripPumpsRunningDry (l : Launch) (G : gT) (al : Nat → Nat) (k : gC) (h : gK) (B : Nat) (c : mC) (g : St) (hF : gF G al k B c) : Met l yX5_tripPumpsRunningDry (fW yX5_tripPumpsRunningDry cX5_tripPumpsRunningDry 2 none) { frames := 3, cells := 0, slots := 0, locals := 64 } (gPre G al (ov G al k B c g) [.ref (al B)]) (gQv (S := Unit) G (fun _ => al) (fun _ => ov G al k B c (mDry g))) 0 0 (gA G) := by
  refine Met.ofW (cc := cX5_tripPumpsRunningDry) (maxL := 2) (ret := none) (by decide) rfl ?_
  intro pz ez s m args below meth c₀ s₁ Bo hml hv
  obtain ⟨rfl, hb0, hP, hE⟩ := hv
  have hx := Bo.exec
  have hb := Bo.bytes
  have hr := Bo.returns
  have hts0 := atoms_spec (ws := (fW yX5_tripPumpsRunningDry cX5_tripPumpsRunningDry 2 none)) Bo.pre
  have hts : ∀ w ∈ fA, w.before _ s = true := fun w h => hts0 w (List.mem_cons_of_mem _ h)
  have hown : s.vm.findClass RX5 = some m.cls := findClass_of_methodNamed Bo.named
  have hlocks := Bo.notSynchronized
  have hl := lv_entry ([.ref (al B)]) (n := 2) (Nat.le_of_ble_eq_true rfl)
  rw [lg_entry_eq]
  generalize (lg_sl ([.ref (al B)]) ++ List.replicate (2 - (lg_sl ([.ref (al B)])).length) Slot.unset).toArray = ls at hl ⊢
  have hl : lv_has ls 2 [(0, .ref (al B))] := hl
  have hJ := gF_J hF
  refine g_start hP (fun H hP hS => ?_)
  refine lv_aload_n hx hb dX5_tripPumpsRunningDry_0 rfl (lv_at hl 0 rfl) ?_
  refine m_get (C := RX5) (T := TX5) (N := 15) (ci := 6) (v := .int (g 0 5)) hx hb hts uX5 hown hE hP B rfl ov_s rfl 5 (by decide) (hts _ q179) (fun _ h9 => h9) rfl dX5_tripPumpsRunningDry_1 ?_
  refine lv_sipush (v := 300) hx hb dX5_tripPumpsRunningDry_4 (by decide) ?_
  refine lv_icmp_lt (tgt := 11) hx hb dX5_tripPumpsRunningDry_7 (by decide) (fun hc_1 => ?_) (fun hc_1 => ?_)
  · skip
    refine lv_iconst (v := 0) hx hb dX5_tripPumpsRunningDry_11 (by decide) ?_
    refine lv_istore_n (lv' := [(1, .int 0), (0, .ref (al B))]) hx hb dX5_tripPumpsRunningDry_12 rfl hl (by decide) rfl (fun ls hl => ?_)
    refine g_loop (al := al) (N := 2) (nL := 2) (Wi := fun i1 => ov G al k B c (it (fun p g => if g (1 + p) 3 ≤ 0 then g else mTrip g p) i1 g)) (Li := fun i1 => [(1, .int (nI i1)), (0, .ref (al B))]) hP hS (lv_sub hl [0, 1] rfl) (fun i1 hii1 ihi1 H locs ls hP hS hl => ?_)
    have hP : mP G al (ov G al k B c (it (fun p g => if g (1 + p) 3 ≤ 0 then g else mTrip g p) i1 g)) H := hP
    have hl : lv_has ls 2 [(1, .int (nI i1)), (0, .ref (al B))] := hl
    refine lv_iload_n hx hb dX5_tripPumpsRunningDry_13 rfl (lv_at hl 0 rfl) ?_
    refine lv_aload_n hx hb dX5_tripPumpsRunningDry_14 rfl (lv_at hl 1 rfl) ?_
    refine m_get (C := RX5) (T := TX5) (N := 15) (ci := 6) (v := .ref (al (B + 1))) hx hb hts uX5 hown hE hP B rfl ov_s rfl 0 (by decide) (hts _ q173) (fun _ h9 => h9) rfl dX5_tripPumpsRunningDry_15 ?_
    refine g_aft_i (g_runV (As := []) (rest := [.int (nI i1)]) hx hb hml hown hts (kJx4a65c_size_8abf5 l G al (ov G al k B c (it (fun p g => if g (1 + p) 3 ≤ 0 then g else mTrip g p) i1 g)) (B + 1) (B + 2) 2 (fun p => B + 11 + p) (gF_p hF)) (fcwV 0 hts q187 q53 q54 q50 q34 rfl rfl (by decide +kernel) ⟨(Nat.le_of_ble_eq_true rfl), (Nat.le_of_ble_eq_true rfl)⟩) hE hb0 hP hS (m_recvL hE hP (gF_p hF) rfl) rfl hl.1 rfl (Nat.le_of_ble_eq_true rfl) dX5_tripPumpsRunningDry_18 ⟨(Nat.le_of_ble_eq_true rfl), (Nat.le_of_ble_eq_true rfl)⟩) hS (fun u H locs hP hS => ?_)
    refine f_topi (v := nI 2) rfl ?_
    refine lv_icmp_ge (tgt := 61) hx hb dX5_tripPumpsRunningDry_21 (by decide) (fun hc_2 => ?_) (fun hc_2 => ?_)
    · skip
      have hgei1 : 2 ≤ i1 := (nI_leI (a := 2) (by omega) (by omega)).mp hc_2
      obtain rfl : 2 = i1 := Nat.le_antisymm hgei1 hii1
      have hP : mP G al (ov G al k B c (it (fun p g => if g (1 + p) 3 ≤ 0 then g else mTrip g p) 2 g)) H := hP
      have hl : lv_has ls 2 [(1, .int (nI 2)), (0, .ref (al B))] := hl
      have hP : mP G al (ov G al k B c (mDry g)) H := m_cv hP (show ov G al k B c (it (fun p g => if g (1 + p) 3 ≤ 0 then g else mTrip g p) 2 g) = ov G al k B c (mDry g) from (by unfold mDry; rw [if_pos hc_1]; try rfl))
      refine W.widen (k := 0) (n := 0) (Nat.le_of_ble_eq_true rfl) (Nat.le_of_ble_eq_true rfl) ?_
      exact W.vret hx hb hr (fun tz htz hW => ⟨⟨(), rfl, trivial, g_end htz hP⟩, hS.F htz⟩) hS.2.2 dX5_tripPumpsRunningDry_61
    · skip
      have hlti1 : i1 < 2 := Nat.lt_of_not_le (fun q => hc_2 (nI_le (a := 2) q (by omega)))
      refine lv_aload_n hx hb dX5_tripPumpsRunningDry_24 rfl (lv_at hl 1 rfl) ?_
      refine m_get (C := RX5) (T := TX5) (N := 15) (ci := 6) (v := .ref (al (B + 1))) hx hb hts uX5 hown hE hP B rfl ov_s rfl 0 (by decide) (hts _ q173) (fun _ h9 => h9) rfl dX5_tripPumpsRunningDry_25 ?_
      refine lv_iload_n hx hb dX5_tripPumpsRunningDry_28 rfl (lv_at hl 0 rfl) ?_
      refine g_aft_r (g_runV (As := [.int (nI i1)]) (rest := []) hx hb hml hown hts (kJx4a65c_get_915e3 l G al (ov G al k B c (it (fun p g => if g (1 + p) 3 ≤ 0 then g else mTrip g p) i1 g)) (B + 1) (B + 2) 2 (fun p => B + 11 + p) i1 (gF_p hF) hlti1) (fcwV 1 hts q188 q56 q57 q50 q43 rfl rfl (by decide +kernel) ⟨(Nat.le_of_ble_eq_true rfl), (Nat.le_of_ble_eq_true rfl)⟩) hE hb0 hP hS (m_recvL hE hP (gF_p hF) rfl) rfl hl.1 rfl (Nat.le_of_ble_eq_true rfl) dX5_tripPumpsRunningDry_29 ⟨(Nat.le_of_ble_eq_true rfl), (Nat.le_of_ble_eq_true rfl)⟩) hS (fun u H locs hP hS => ?_)
      refine g_topr (v := al (B + 11 + i1)) rfl ?_
      refine m_cast hx hb hown (hts _ q186) hE hP (B + 11 + i1) rfl (ov_p hlti1) rfl dX5_tripPumpsRunningDry_32 ?_
      refine m_get (C := RX4) (T := TX4) (N := 6) (ci := 5) (v := .int ((it (fun p g => if g (1 + p) 3 ≤ 0 then g else mTrip g p) i1 g) (1 + i1) 3)) hx hb hts uX4 hown hE hP (B + 11 + i1) rfl (ov_p hlti1) rfl 3 (by decide) (hts _ q198) (fun _ h9 => h9) rfl dX5_tripPumpsRunningDry_35 ?_
      refine lv_if_le (tgt := 55) hx hb dX5_tripPumpsRunningDry_38 (by decide) (fun hc_3 => ?_) (fun hc_3 => ?_)
      · skip
        refine lv_iinc (v := nI (i1 + 1)) (lv' := [(1, .int (nI (i1 + 1))), (0, .ref (al B))]) hx hb dX5_tripPumpsRunningDry_55 hl (k := 0) rfl (f_inc _) (by decide) rfl (fun ls hl => ?_)
        refine lv_goto (tgt := 13) hx hb dX5_tripPumpsRunningDry_58 (by decide) ?_
        exact ihi1 hlti1 _ _ _ (m_cv hP (show ov G al k B c (it (fun p g => if g (1 + p) 3 ≤ 0 then g else mTrip g p) i1 g) = ov G al k B c (it (fun p g => if g (1 + p) 3 ≤ 0 then g else mTrip g p) (i1 + 1) g) from (by first | rfl | (simp only [it_s, if_pos hc_1, if_pos hc_3]; done) | (simp only [it_s, if_pos hc_1, if_pos hc_3]; rfl)))) hS (lv_sub hl [0, 1] rfl)
      · skip
        refine lv_aload_n hx hb dX5_tripPumpsRunningDry_41 rfl (lv_at hl 1 rfl) ?_
        refine m_get (C := RX5) (T := TX5) (N := 15) (ci := 6) (v := .ref (al (B + 1))) hx hb hts uX5 hown hE hP B rfl ov_s rfl 0 (by decide) (hts _ q173) (fun _ h9 => h9) rfl dX5_tripPumpsRunningDry_42 ?_
        refine lv_iload_n hx hb dX5_tripPumpsRunningDry_45 rfl (lv_at hl 0 rfl) ?_
        refine g_aft_r (g_runV (As := [.int (nI i1)]) (rest := []) hx hb hml hown hts (kJx4a65c_get_915e3 l G al (ov G al k B c (it (fun p g => if g (1 + p) 3 ≤ 0 then g else mTrip g p) i1 g)) (B + 1) (B + 2) 2 (fun p => B + 11 + p) i1 (gF_p hF) hlti1) (fcwV 1 hts q188 q56 q57 q50 q43 rfl rfl (by decide +kernel) ⟨(Nat.le_of_ble_eq_true rfl), (Nat.le_of_ble_eq_true rfl)⟩) hE hb0 hP hS (m_recvL hE hP (gF_p hF) rfl) rfl hl.1 rfl (Nat.le_of_ble_eq_true rfl) dX5_tripPumpsRunningDry_46 ⟨(Nat.le_of_ble_eq_true rfl), (Nat.le_of_ble_eq_true rfl)⟩) hS (fun u H locs hP hS => ?_)
        refine g_topr (v := al (B + 11 + i1)) rfl ?_
        refine m_cast hx hb hown (hts _ q186) hE hP (B + 11 + i1) rfl (ov_p hlti1) rfl dX5_tripPumpsRunningDry_49 ?_
        refine g_aft_v (g_runV (As := []) (rest := []) hx hb hml hown hts (kX4_trip l G al k h B c (it (fun p g => if g (1 + p) 3 ≤ 0 then g else mTrip g p) i1 g) i1 hlti1) (fcwV 0 hts q304 q305 q306 q159 q168 rfl rfl (by decide +kernel) ⟨(Nat.le_of_ble_eq_true rfl), (Nat.le_of_ble_eq_true rfl)⟩) hE hb0 hP hS (m_recvA hE hP (B + 11 + i1) rfl (ov_p hlti1) rfl) rfl hl.1 rfl (Nat.le_of_ble_eq_true rfl) dX5_tripPumpsRunningDry_52 ⟨(Nat.le_of_ble_eq_true rfl), (Nat.le_of_ble_eq_true rfl)⟩) hS (fun u H locs hP hS => ?_)
        have hP : mP G al (ov G al k B c (mTrip (it (fun p g => if g (1 + p) 3 ≤ 0 then g else mTrip g p) i1 g) i1)) H := hP
        refine lv_iinc (v := nI (i1 + 1)) (lv' := [(1, .int (nI (i1 + 1))), (0, .ref (al B))]) hx hb dX5_tripPumpsRunningDry_55 hl (k := 0) rfl (f_inc _) (by decide) rfl (fun ls hl => ?_)
        refine lv_goto (tgt := 13) hx hb dX5_tripPumpsRunningDry_58 (by decide) ?_
        exact ihi1 hlti1 _ _ _ (m_cv hP (show ov G al k B c (mTrip (it (fun p g => if g (1 + p) 3 ≤ 0 then g else mTrip g p) i1 g) i1) = ov G al k B c (it (fun p g => if g (1 + p) 3 ≤ 0 then g else mTrip g p) (i1 + 1) g) from (by first | rfl | (simp only [it_s, if_pos hc_1, if_neg hc_3]; done) | (simp only [it_s, if_pos hc_1, if_neg hc_3]; rfl)))) hS (lv_sub hl [0, 1] rfl)
  · skip
    have hP : mP G al (ov G al k B c (mDry g)) H := m_cv hP (show ov G al k B c g = ov G al k B c (mDry g) from (by unfold mDry; rw [if_neg hc_1]; try rfl))
    refine W.widen (k := 0) (n := 0) (Nat.le_of_ble_eq_true rfl) (Nat.le_of_ble_eq_true rfl) ?_
    exact W.vret hx hb hr (fun tz htz hW => ⟨⟨(), rfl, trivial, g_end htz hP⟩, hS.F htz⟩) hS.2.2 dX5_tripPumpsRunningDry_10
set_option maxHeartbeats 4000000 in
set_option maxRecDepth 100000 in
theorem kX5_shortLamps (l : Launch) (G : gT) (al : Nat → Nat) (k : gC) (h : gK) (B : Nat) (c : mC) (g : St) (hF : gF G al k B c) : Met l yX5_shortLamps (fW yX5_shortLamps cX5_shortLamps 3 none) { frames := 4, cells := 0, slots := 0, locals := 85 } (gPre G al (ov G al k B c g) [.ref (al B)]) (gQv (S := Unit) G (fun _ => al) (fun _ => ov G al k B c (mLamp k g))) 0 0 (gA G) := by
  refine Met.ofW (cc := cX5_shortLamps) (maxL := 3) (ret := none) (by decide) rfl ?_
  intro pz ez s m args below meth c₀ s₁ Bo hml hv
  obtain ⟨rfl, hb0, hP, hE⟩ := hv
  have hx := Bo.exec
  have hb := Bo.bytes
  have hr := Bo.returns
  have hts0 := atoms_spec (ws := (fW yX5_shortLamps cX5_shortLamps 3 none)) Bo.pre
  have hts : ∀ w ∈ fA, w.before _ s = true := fun w h => hts0 w (List.mem_cons_of_mem _ h)
  have hown : s.vm.findClass RX5 = some m.cls := findClass_of_methodNamed Bo.named
  have hlocks := Bo.notSynchronized
  have hl := lv_entry ([.ref (al B)]) (n := 3) (Nat.le_of_ble_eq_true rfl)
  rw [lg_entry_eq]
  generalize (lg_sl ([.ref (al B)]) ++ List.replicate (3 - (lg_sl ([.ref (al B)])).length) Slot.unset).toArray = ls at hl ⊢
  have hl : lv_has ls 3 [(0, .ref (al B))] := hl
  have hJ := gF_J hF
  refine g_start hP (fun H hP hS => ?_)
  refine lv_iconst (v := 0) hx hb dX5_shortLamps_0 (by decide) ?_
  refine lv_istore_n (lv' := [(1, .int 0), (0, .ref (al B))]) hx hb dX5_shortLamps_1 rfl hl (by decide) rfl (fun ls hl => ?_)
  refine lv_iconst (v := 0) hx hb dX5_shortLamps_2 (by decide) ?_
  refine lv_istore_n (lv' := [(2, .int 0), (1, .int 0), (0, .ref (al B))]) hx hb dX5_shortLamps_3 rfl hl (by decide) rfl (fun ls hl => ?_)
  refine g_loop (al := al) (N := k.1) (nL := 3) (Wi := fun i1 => ov G al k B c g) (Li := fun i1 => [(2, .int (nI i1)), (1, .int (it (fun j a => if mShort g j = 0 then a else a + 1) i1 0)), (0, .ref (al B))]) hP hS (lv_sub hl [0, 1, 2] rfl) (fun i1 hii1 ihi1 H locs ls hP hS hl => ?_)
  have hP : mP G al (ov G al k B c g) H := hP
  have hl : lv_has ls 3 [(2, .int (nI i1)), (1, .int (it (fun j a => if mShort g j = 0 then a else a + 1) i1 0)), (0, .ref (al B))] := hl
  refine lv_iload_n hx hb dX5_shortLamps_4 rfl (lv_at hl 0 rfl) ?_
  refine lv_aload_n hx hb dX5_shortLamps_5 rfl (lv_at hl 2 rfl) ?_
  refine m_get (C := RX5) (T := TX5) (N := 15) (ci := 6) (v := .ref (al (B + 3))) hx hb hts uX5 hown hE hP B rfl ov_s rfl 1 (by decide) (hts _ q174) (fun _ h9 => h9) rfl dX5_shortLamps_6 ?_
  refine g_aft_i (g_runV (As := []) (rest := [.int (nI i1)]) hx hb hml hown hts (kJx4a65c_size_8abf5 l G al (ov G al k B c g) (B + 3) (B + 4) k.1 (fun j => B + 20 + j) (gF_j hF)) (fcwV 0 hts q187 q53 q54 q50 q34 rfl rfl (by decide +kernel) ⟨(Nat.le_of_ble_eq_true rfl), (Nat.le_of_ble_eq_true rfl)⟩) hE hb0 hP hS (m_recvL hE hP (gF_j hF) rfl) rfl hl.1 rfl (Nat.le_of_ble_eq_true rfl) dX5_shortLamps_9 ⟨(Nat.le_of_ble_eq_true rfl), (Nat.le_of_ble_eq_true rfl)⟩) hS (fun u H locs hP hS => ?_)
  refine f_topi (v := nI k.1) rfl ?_
  refine lv_icmp_ge (tgt := 41) hx hb dX5_shortLamps_12 (by decide) (fun hc_1 => ?_) (fun hc_1 => ?_)
  · skip
    have hgei1 : k.1 ≤ i1 := (nI_leI (by omega) (by omega)).mp hc_1
    obtain rfl : k.1 = i1 := Nat.le_antisymm hgei1 hii1
    have hP : mP G al (ov G al k B c g) H := hP
    have hl : lv_has ls 3 [(2, .int (nI k.1)), (1, .int (it (fun j a => if mShort g j = 0 then a else a + 1) k.1 0)), (0, .ref (al B))] := hl
    refine lv_iload_n hx hb dX5_shortLamps_41 rfl (lv_at hl 1 rfl) ?_
    refine lv_if_ne (tgt := 46) hx hb dX5_shortLamps_42 (by decide) (fun hc_2 => ?_) (fun hc_2 => ?_)
    · skip
      refine lv_aload_n hx hb dX5_shortLamps_46 rfl (lv_at hl 2 rfl) ?_
      refine lv_dup hx hb dX5_shortLamps_47 rfl ?_
      refine m_get (C := RX5) (T := TX5) (N := 15) (ci := 6) (v := .int (g 0 10)) hx hb hts uX5 hown hE hP B rfl ov_s rfl 10 (by decide) (hts _ q309) (fun _ h9 => h9) rfl dX5_shortLamps_48 ?_
      refine lv_iload_n hx hb dX5_shortLamps_51 rfl (lv_at hl 1 rfl) ?_
      refine lv_iadd hx hb dX5_shortLamps_52 ?_
      refine m_put (v := .int ((g 0 10) + (it (fun j a => if mShort g j = 0 then a else a + 1) k.1 0))) (ty := .int) (C := RX5) (T := TX5) (N := 15) (ci := 6) hx hb hts uX5 tyX5 tyX5_ok nmX5 hown hE hP hS B rfl ov_s rfl 10 (by decide) (hts _ q309) (fun _ h9 => h9) rfl (by decide +kernel) rfl rfl (Nat.le_of_ble_eq_true rfl) dX5_shortLamps_53 (fun H locs hP hS => ?_)
      have hP := m_cv hP (ov_us (r := upd (g 0) 10 ((g 0 10) + (it (fun j a => if mShort g j = 0 then a else a + 1) k.1 0))) rfl)
      have hP : mP G al (ov G al k B c (s2 g 0 10 ((g 0 10) + (it (fun j a => if mShort g j = 0 then a else a + 1) k.1 0)))) H := hP
      refine lv_aload_n hx hb dX5_shortLamps_56 rfl (lv_at hl 2 rfl) ?_
      refine m_get (C := RX5) (T := TX5) (N := 15) (ci := 6) (v := .int (bz ((s2 g 0 10 ((g 0 10) + (it (fun j a => if mShort g j = 0 then a else a + 1) k.1 0))) 0 14))) hx hb hts uX5 hown hE hP B rfl ov_s rfl 14 (by decide) (hts _ q310) (fun _ h9 => h9) rfl dX5_shortLamps_57 ?_
      refine f_topi (v := bz (g 0 14)) (congrArg bz (s2_k _ _ _ (by decide))) ?_
      refine lv_if_eq (tgt := 73) hx hb dX5_shortLamps_60 (by decide) (fun hc_3 => ?_) (fun hc_3 => ?_)
      · skip
        refine lv_aload_n hx hb dX5_shortLamps_73 rfl (lv_at hl 2 rfl) ?_
        refine g_aft_v (g_runV (As := []) (rest := []) hx hb hml hown hts (kX5_lampsOff l G al k h B c (s2 g 0 10 ((g 0 10) + (it (fun j a => if mShort g j = 0 then a else a + 1) k.1 0))) hF) (fcwV 0 hts q315 q316 q317 q211 q308 rfl rfl (by decide +kernel) ⟨(Nat.le_of_ble_eq_true rfl), (Nat.le_of_ble_eq_true rfl)⟩) hE hb0 hP hS (m_recvA hE hP B rfl ov_s rfl) rfl hl.1 rfl (Nat.le_of_ble_eq_true rfl) dX5_shortLamps_74 ⟨(Nat.le_of_ble_eq_true rfl), (Nat.le_of_ble_eq_true rfl)⟩) hS (fun u H locs hP hS => ?_)
        have hP : mP G al (ov G al k B c (mOff k (s2 g 0 10 ((g 0 10) + (it (fun j a => if mShort g j = 0 then a else a + 1) k.1 0))))) H := hP
        have hP : mP G al (ov G al k B c (mLamp k g)) H := m_cv hP (show ov G al k B c (mOff k (s2 g 0 10 ((g 0 10) + (it (fun j a => if mShort g j = 0 then a else a + 1) k.1 0)))) = ov G al k B c (mLamp k g) from (by unfold mLamp mShorts; rw [if_neg hc_2, if_pos hc_3]; try rfl))
        refine W.widen (k := 0) (n := 0) (Nat.le_of_ble_eq_true rfl) (Nat.le_of_ble_eq_true rfl) ?_
        exact W.vret hx hb hr (fun tz htz hW => ⟨⟨(), rfl, trivial, g_end htz hP⟩, hS.F htz⟩) hS.2.2 dX5_shortLamps_77
      · skip
        refine lv_aload_n hx hb dX5_shortLamps_63 rfl (lv_at hl 2 rfl) ?_
        refine lv_dup hx hb dX5_shortLamps_64 rfl ?_
        refine m_get (C := RX5) (T := TX5) (N := 15) (ci := 6) (v := .int ((s2 g 0 10 ((g 0 10) + (it (fun j a => if mShort g j = 0 then a else a + 1) k.1 0))) 0 11)) hx hb hts uX5 hown hE hP B rfl ov_s rfl 11 (by decide) (hts _ q311) (fun _ h9 => h9) rfl dX5_shortLamps_65 ?_
        refine f_topi (v := g 0 11) (s2_k _ _ _ (by decide)) ?_
        refine lv_iconst (v := 1) hx hb dX5_shortLamps_68 (by decide) ?_
        refine lv_iadd hx hb dX5_shortLamps_69 ?_
        refine m_put (v := .int ((g 0 11) + 1)) (ty := .int) (C := RX5) (T := TX5) (N := 15) (ci := 6) hx hb hts uX5 tyX5 tyX5_ok nmX5 hown hE hP hS B rfl ov_s rfl 11 (by decide) (hts _ q311) (fun _ h9 => h9) rfl (by decide +kernel) rfl rfl (Nat.le_of_ble_eq_true rfl) dX5_shortLamps_70 (fun H locs hP hS => ?_)
        have hP := m_cv hP (ov_us (r := upd ((s2 g 0 10 ((g 0 10) + (it (fun j a => if mShort g j = 0 then a else a + 1) k.1 0))) 0) 11 ((g 0 11) + 1)) rfl)
        have hP : mP G al (ov G al k B c (s2 (s2 g 0 10 ((g 0 10) + (it (fun j a => if mShort g j = 0 then a else a + 1) k.1 0))) 0 11 ((g 0 11) + 1))) H := hP
        refine lv_aload_n hx hb dX5_shortLamps_73 rfl (lv_at hl 2 rfl) ?_
        refine g_aft_v (g_runV (As := []) (rest := []) hx hb hml hown hts (kX5_lampsOff l G al k h B c (s2 (s2 g 0 10 ((g 0 10) + (it (fun j a => if mShort g j = 0 then a else a + 1) k.1 0))) 0 11 ((g 0 11) + 1)) hF) (fcwV 0 hts q315 q316 q317 q211 q308 rfl rfl (by decide +kernel) ⟨(Nat.le_of_ble_eq_true rfl), (Nat.le_of_ble_eq_true rfl)⟩) hE hb0 hP hS (m_recvA hE hP B rfl ov_s rfl) rfl hl.1 rfl (Nat.le_of_ble_eq_true rfl) dX5_shortLamps_74 ⟨(Nat.le_of_ble_eq_true rfl), (Nat.le_of_ble_eq_true rfl)⟩) hS (fun u H locs hP hS => ?_)
        have hP : mP G al (ov G al k B c (mOff k (s2 (s2 g 0 10 ((g 0 10) + (it (fun j a => if mShort g j = 0 then a else a + 1) k.1 0))) 0 11 ((g 0 11) + 1)))) H := hP
        have hP : mP G al (ov G al k B c (mLamp k g)) H := m_cv hP (show ov G al k B c (mOff k (s2 (s2 g 0 10 ((g 0 10) + (it (fun j a => if mShort g j = 0 then a else a + 1) k.1 0))) 0 11 ((g 0 11) + 1))) = ov G al k B c (mLamp k g) from (by unfold mLamp mShorts; rw [if_neg hc_2, if_neg hc_3]; try rfl))
        refine W.widen (k := 0) (n := 0) (Nat.le_of_ble_eq_true rfl) (Nat.le_of_ble_eq_true rfl) ?_
        exact W.vret hx hb hr (fun tz htz hW => ⟨⟨(), rfl, trivial, g_end htz hP⟩, hS.F htz⟩) hS.2.2 dX5_shortLamps_77
    · skip
      have hP : mP G al (ov G al k B c (mLamp k g)) H := m_cv hP (show ov G al k B c g = ov G al k B c (mLamp k g) from (by unfold mLamp mShorts; rw [if_pos hc_2]; try rfl))
      refine W.widen (k := 0) (n := 0) (Nat.le_of_ble_eq_true rfl) (Nat.le_of_ble_eq_true rfl) ?_
      exact W.vret hx hb hr (fun tz htz hW => ⟨⟨(), rfl, trivial, g_end htz hP⟩, hS.F htz⟩) hS.2.2 dX5_shortLamps_45
  · skip
    have hlti1 : i1 < k.1 := Nat.lt_of_not_le (fun q => hc_1 (nI_le q (by omega)))
    refine lv_aload_n hx hb dX5_shortLamps_15 rfl (lv_at hl 2 rfl) ?_
    refine m_get (C := RX5) (T := TX5) (N := 15) (ci := 6) (v := .ref (al (B + 3))) hx hb hts uX5 hown hE hP B rfl ov_s rfl 1 (by decide) (hts _ q174) (fun _ h9 => h9) rfl dX5_shortLamps_16 ?_
    refine lv_iload_n hx hb dX5_shortLamps_19 rfl (lv_at hl 0 rfl) ?_
    refine g_aft_r (g_runV (As := [.int (nI i1)]) (rest := []) hx hb hml hown hts (kJx4a65c_get_915e3 l G al (ov G al k B c g) (B + 3) (B + 4) k.1 (fun j => B + 20 + j) i1 (gF_j hF) hlti1) (fcwV 1 hts q188 q56 q57 q50 q43 rfl rfl (by decide +kernel) ⟨(Nat.le_of_ble_eq_true rfl), (Nat.le_of_ble_eq_true rfl)⟩) hE hb0 hP hS (m_recvL hE hP (gF_j hF) rfl) rfl hl.1 rfl (Nat.le_of_ble_eq_true rfl) dX5_shortLamps_20 ⟨(Nat.le_of_ble_eq_true rfl), (Nat.le_of_ble_eq_true rfl)⟩) hS (fun u H locs hP hS => ?_)
    refine g_topr (v := al (B + 20 + i1)) rfl ?_
    refine m_cast hx hb hown (hts _ q196) hE hP (B + 20 + i1) rfl (ov_j hlti1) rfl dX5_shortLamps_23 ?_
    refine g_aft_i (g_runV (As := []) (rest := []) hx hb hml hown hts (kX3_isShorted l G al k h B c g i1 hlti1) (fcwV 0 hts q312 q313 q314 q185 q149 rfl rfl (by decide +kernel) ⟨(Nat.le_of_ble_eq_true rfl), (Nat.le_of_ble_eq_true rfl)⟩) hE hb0 hP hS (m_recvA hE hP (B + 20 + i1) rfl (ov_j hlti1) rfl) rfl hl.1 rfl (Nat.le_of_ble_eq_true rfl) dX5_shortLamps_26 ⟨(Nat.le_of_ble_eq_true rfl), (Nat.le_of_ble_eq_true rfl)⟩) hS (fun u H locs hP hS => ?_)
    have hP : mP G al (ov G al k B c g) H := hP
    refine f_topi (v := mShort g i1) rfl ?_
    refine lv_if_eq (tgt := 35) hx hb dX5_shortLamps_29 (by decide) (fun hc_4 => ?_) (fun hc_4 => ?_)
    · skip
      refine lv_iinc (v := nI (i1 + 1)) (lv' := [(2, .int (nI (i1 + 1))), (1, .int (it (fun j a => if mShort g j = 0 then a else a + 1) i1 0)), (0, .ref (al B))]) hx hb dX5_shortLamps_35 hl (k := 0) rfl (f_inc _) (by decide) rfl (fun ls hl => ?_)
      refine lv_goto (tgt := 4) hx hb dX5_shortLamps_38 (by decide) ?_
      have hl9 := lv_sub (l' := [(2, .int (nI (i1 + 1))), (1, .int (it (fun j a => if mShort g j = 0 then a else a + 1) i1 0)), (0, .ref (al B))]) hl [0, 1, 2] rfl
      rw [show ([(2, .int (nI (i1 + 1))), (1, .int (it (fun j a => if mShort g j = 0 then a else a + 1) i1 0)), (0, .ref (al B))] : List (Nat × Value)) = [(2, .int (nI (i1 + 1))), (1, .int (it (fun j a => if mShort g j = 0 then a else a + 1) (i1 + 1) 0)), (0, .ref (al B))] from (by first | rfl | (simp only [it_s, if_pos hc_4]; done) | (simp only [it_s, if_pos hc_4]; rfl))] at hl9
      exact ihi1 hlti1 _ _ _ hP hS hl9
    · skip
      refine lv_iinc (v := (it (fun j a => if mShort g j = 0 then a else a + 1) i1 0) + 1) (lv' := [(1, .int ((it (fun j a => if mShort g j = 0 then a else a + 1) i1 0) + 1)), (2, .int (nI i1)), (0, .ref (al B))]) hx hb dX5_shortLamps_32 hl (k := 1) rfl rfl (by decide) rfl (fun ls hl => ?_)
      refine lv_iinc (v := nI (i1 + 1)) (lv' := [(2, .int (nI (i1 + 1))), (1, .int ((it (fun j a => if mShort g j = 0 then a else a + 1) i1 0) + 1)), (0, .ref (al B))]) hx hb dX5_shortLamps_35 hl (k := 1) rfl (f_inc _) (by decide) rfl (fun ls hl => ?_)
      refine lv_goto (tgt := 4) hx hb dX5_shortLamps_38 (by decide) ?_
      have hl9 := lv_sub (l' := [(2, .int (nI (i1 + 1))), (1, .int ((it (fun j a => if mShort g j = 0 then a else a + 1) i1 0) + 1)), (0, .ref (al B))]) hl [0, 1, 2] rfl
      rw [show ([(2, .int (nI (i1 + 1))), (1, .int ((it (fun j a => if mShort g j = 0 then a else a + 1) i1 0) + 1)), (0, .ref (al B))] : List (Nat × Value)) = [(2, .int (nI (i1 + 1))), (1, .int (it (fun j a => if mShort g j = 0 then a else a + 1) (i1 + 1) 0)), (0, .ref (al B))] from (by first | rfl | (simp only [it_s, if_neg hc_4]; done) | (simp only [it_s, if_neg hc_4]; rfl))] at hl9
      exact ihi1 hlti1 _ _ _ hP hS hl9
set_option maxHeartbeats 4000000 in
set_option maxRecDepth 100000 in
theorem kX5_shutAll (l : Launch) (G : gT) (al : Nat → Nat) (k : gC) (h : gK) (B : Nat) (c : mC) (g : St) (hF : gF G al k B c) : Met l yX5_shutAll (fW yX5_shutAll cX5_shutAll 2 none) { frames := 4, cells := 0, slots := 0, locals := 85 } (gPre G al (ov G al k B c g) [.ref (al B)]) (gQv (S := Unit) G (fun _ => al) (fun _ => ov G al k B c (mShut k g))) 0 0 (gA G) := by
  refine Met.ofW (cc := cX5_shutAll) (maxL := 2) (ret := none) (by decide) rfl ?_
  intro pz ez s m args below meth c₀ s₁ Bo hml hv
  obtain ⟨rfl, hb0, hP, hE⟩ := hv
  have hx := Bo.exec
  have hb := Bo.bytes
  have hr := Bo.returns
  have hts0 := atoms_spec (ws := (fW yX5_shutAll cX5_shutAll 2 none)) Bo.pre
  have hts : ∀ w ∈ fA, w.before _ s = true := fun w h => hts0 w (List.mem_cons_of_mem _ h)
  have hown : s.vm.findClass RX5 = some m.cls := findClass_of_methodNamed Bo.named
  have hlocks := Bo.notSynchronized
  have hl := lv_entry ([.ref (al B)]) (n := 2) (Nat.le_of_ble_eq_true rfl)
  rw [lg_entry_eq]
  generalize (lg_sl ([.ref (al B)]) ++ List.replicate (2 - (lg_sl ([.ref (al B)])).length) Slot.unset).toArray = ls at hl ⊢
  have hl : lv_has ls 2 [(0, .ref (al B))] := hl
  have hJ := gF_J hF
  refine g_start hP (fun H hP hS => ?_)
  refine lv_iconst (v := 0) hx hb dX5_shutAll_0 (by decide) ?_
  refine lv_istore_n (lv' := [(1, .int 0), (0, .ref (al B))]) hx hb dX5_shutAll_1 rfl hl (by decide) rfl (fun ls hl => ?_)
  refine g_loop (al := al) (N := 2) (nL := 2) (Wi := fun i1 => ov G al k B c (it (fun p g => mSetTo g p 0) i1 g)) (Li := fun i1 => [(1, .int (nI i1)), (0, .ref (al B))]) hP hS (lv_sub hl [0, 1] rfl) (fun i1 hii1 ihi1 H locs ls hP hS hl => ?_)
  have hP : mP G al (ov G al k B c (it (fun p g => mSetTo g p 0) i1 g)) H := hP
  have hl : lv_has ls 2 [(1, .int (nI i1)), (0, .ref (al B))] := hl
  refine lv_iload_n hx hb dX5_shutAll_2 rfl (lv_at hl 0 rfl) ?_
  refine lv_aload_n hx hb dX5_shutAll_3 rfl (lv_at hl 1 rfl) ?_
  refine m_get (C := RX5) (T := TX5) (N := 15) (ci := 6) (v := .ref (al (B + 1))) hx hb hts uX5 hown hE hP B rfl ov_s rfl 0 (by decide) (hts _ q173) (fun _ h9 => h9) rfl dX5_shutAll_4 ?_
  refine g_aft_i (g_runV (As := []) (rest := [.int (nI i1)]) hx hb hml hown hts (kJx4a65c_size_8abf5 l G al (ov G al k B c (it (fun p g => mSetTo g p 0) i1 g)) (B + 1) (B + 2) 2 (fun p => B + 11 + p) (gF_p hF)) (fcwV 0 hts q187 q53 q54 q50 q34 rfl rfl (by decide +kernel) ⟨(Nat.le_of_ble_eq_true rfl), (Nat.le_of_ble_eq_true rfl)⟩) hE hb0 hP hS (m_recvL hE hP (gF_p hF) rfl) rfl hl.1 rfl (Nat.le_of_ble_eq_true rfl) dX5_shutAll_7 ⟨(Nat.le_of_ble_eq_true rfl), (Nat.le_of_ble_eq_true rfl)⟩) hS (fun u H locs hP hS => ?_)
  refine f_topi (v := nI 2) rfl ?_
  refine lv_icmp_ge (tgt := 34) hx hb dX5_shutAll_10 (by decide) (fun hc_1 => ?_) (fun hc_1 => ?_)
  · skip
    have hgei1 : 2 ≤ i1 := (nI_leI (a := 2) (by omega) (by omega)).mp hc_1
    obtain rfl : 2 = i1 := Nat.le_antisymm hgei1 hii1
    have hP : mP G al (ov G al k B c (it (fun p g => mSetTo g p 0) 2 g)) H := hP
    have hl : lv_has ls 2 [(1, .int (nI 2)), (0, .ref (al B))] := hl
    refine lv_iconst (v := 0) hx hb dX5_shutAll_34 (by decide) ?_
    refine lv_istore_n (lv' := [(1, .int 0), (0, .ref (al B))]) hx hb dX5_shutAll_35 rfl hl (by decide) rfl (fun ls hl => ?_)
    refine g_loop (al := al) (N := k.1) (nL := 2) (Wi := fun i2 => ov G al k B c (it (fun j g => s2 g (3 + j) 4 0) i2 (it (fun p g => mSetTo g p 0) 2 g))) (Li := fun i2 => [(1, .int (nI i2)), (0, .ref (al B))]) hP hS (lv_sub hl [0, 1] rfl) (fun i2 hii2 ihi2 H locs ls hP hS hl => ?_)
    have hP : mP G al (ov G al k B c (it (fun j g => s2 g (3 + j) 4 0) i2 (it (fun p g => mSetTo g p 0) 2 g))) H := hP
    have hl : lv_has ls 2 [(1, .int (nI i2)), (0, .ref (al B))] := hl
    refine lv_iload_n hx hb dX5_shutAll_36 rfl (lv_at hl 0 rfl) ?_
    refine lv_aload_n hx hb dX5_shutAll_37 rfl (lv_at hl 1 rfl) ?_
    refine m_get (C := RX5) (T := TX5) (N := 15) (ci := 6) (v := .ref (al (B + 3))) hx hb hts uX5 hown hE hP B rfl ov_s rfl 1 (by decide) (hts _ q174) (fun _ h9 => h9) rfl dX5_shutAll_38 ?_
    refine g_aft_i (g_runV (As := []) (rest := [.int (nI i2)]) hx hb hml hown hts (kJx4a65c_size_8abf5 l G al (ov G al k B c (it (fun j g => s2 g (3 + j) 4 0) i2 (it (fun p g => mSetTo g p 0) 2 g))) (B + 3) (B + 4) k.1 (fun j => B + 20 + j) (gF_j hF)) (fcwV 0 hts q187 q53 q54 q50 q34 rfl rfl (by decide +kernel) ⟨(Nat.le_of_ble_eq_true rfl), (Nat.le_of_ble_eq_true rfl)⟩) hE hb0 hP hS (m_recvL hE hP (gF_j hF) rfl) rfl hl.1 rfl (Nat.le_of_ble_eq_true rfl) dX5_shutAll_41 ⟨(Nat.le_of_ble_eq_true rfl), (Nat.le_of_ble_eq_true rfl)⟩) hS (fun u H locs hP hS => ?_)
    refine f_topi (v := nI k.1) rfl ?_
    refine lv_icmp_ge (tgt := 68) hx hb dX5_shutAll_44 (by decide) (fun hc_2 => ?_) (fun hc_2 => ?_)
    · skip
      have hgei2 : k.1 ≤ i2 := (nI_leI (by omega) (by omega)).mp hc_2
      obtain rfl : k.1 = i2 := Nat.le_antisymm hgei2 hii2
      have hP : mP G al (ov G al k B c (it (fun j g => s2 g (3 + j) 4 0) k.1 (it (fun p g => mSetTo g p 0) 2 g))) H := hP
      have hl : lv_has ls 2 [(1, .int (nI k.1)), (0, .ref (al B))] := hl
      refine lv_aload_n hx hb dX5_shutAll_68 rfl (lv_at hl 1 rfl) ?_
      refine g_aft_v (g_runV (As := []) (rest := []) hx hb hml hown hts (kX5_lampsOff l G al k h B c (it (fun j g => s2 g (3 + j) 4 0) k.1 (it (fun p g => mSetTo g p 0) 2 g)) hF) (fcwV 0 hts q315 q316 q317 q211 q308 rfl rfl (by decide +kernel) ⟨(Nat.le_of_ble_eq_true rfl), (Nat.le_of_ble_eq_true rfl)⟩) hE hb0 hP hS (m_recvA hE hP B rfl ov_s rfl) rfl hl.1 rfl (Nat.le_of_ble_eq_true rfl) dX5_shutAll_69 ⟨(Nat.le_of_ble_eq_true rfl), (Nat.le_of_ble_eq_true rfl)⟩) hS (fun u H locs hP hS => ?_)
      have hP : mP G al (ov G al k B c (mOff k (it (fun j g => s2 g (3 + j) 4 0) k.1 (it (fun p g => mSetTo g p 0) 2 g)))) H := hP
      have hP : mP G al (ov G al k B c (mShut k g)) H := m_cv hP (show ov G al k B c (mOff k (it (fun j g => s2 g (3 + j) 4 0) k.1 (it (fun p g => mSetTo g p 0) 2 g))) = ov G al k B c (mShut k g) from (by unfold mShut; rfl))
      refine W.widen (k := 0) (n := 0) (Nat.le_of_ble_eq_true rfl) (Nat.le_of_ble_eq_true rfl) ?_
      exact W.vret hx hb hr (fun tz htz hW => ⟨⟨(), rfl, trivial, g_end htz hP⟩, hS.F htz⟩) hS.2.2 dX5_shutAll_72
    · skip
      have hlti2 : i2 < k.1 := Nat.lt_of_not_le (fun q => hc_2 (nI_le q (by omega)))
      refine lv_aload_n hx hb dX5_shutAll_47 rfl (lv_at hl 1 rfl) ?_
      refine m_get (C := RX5) (T := TX5) (N := 15) (ci := 6) (v := .ref (al (B + 3))) hx hb hts uX5 hown hE hP B rfl ov_s rfl 1 (by decide) (hts _ q174) (fun _ h9 => h9) rfl dX5_shutAll_48 ?_
      refine lv_iload_n hx hb dX5_shutAll_51 rfl (lv_at hl 0 rfl) ?_
      refine g_aft_r (g_runV (As := [.int (nI i2)]) (rest := []) hx hb hml hown hts (kJx4a65c_get_915e3 l G al (ov G al k B c (it (fun j g => s2 g (3 + j) 4 0) i2 (it (fun p g => mSetTo g p 0) 2 g))) (B + 3) (B + 4) k.1 (fun j => B + 20 + j) i2 (gF_j hF) hlti2) (fcwV 1 hts q188 q56 q57 q50 q43 rfl rfl (by decide +kernel) ⟨(Nat.le_of_ble_eq_true rfl), (Nat.le_of_ble_eq_true rfl)⟩) hE hb0 hP hS (m_recvL hE hP (gF_j hF) rfl) rfl hl.1 rfl (Nat.le_of_ble_eq_true rfl) dX5_shutAll_52 ⟨(Nat.le_of_ble_eq_true rfl), (Nat.le_of_ble_eq_true rfl)⟩) hS (fun u H locs hP hS => ?_)
      refine g_topr (v := al (B + 20 + i2)) rfl ?_
      refine m_cast hx hb hown (hts _ q196) hE hP (B + 20 + i2) rfl (ov_j hlti2) rfl dX5_shutAll_55 ?_
      refine lv_iconst (v := 0) hx hb dX5_shutAll_58 (by decide) ?_
      refine m_put (v := .int 0) (ty := .int) (C := RX3) (T := TX3) (N := 10) (ci := 4) hx hb hts uX3 tyX3 tyX3_ok nmX3 hown hE hP hS (B + 20 + i2) rfl (ov_j hlti2) rfl 4 (by decide) (hts _ q341) (fun _ h9 => h9) rfl (by decide +kernel) rfl rfl (Nat.le_of_ble_eq_true rfl) dX5_shutAll_59 (fun H locs hP hS => ?_)
      have hP := m_cv hP (ov_uj (r := upd ((it (fun j g => s2 g (3 + j) 4 0) i2 (it (fun p g => mSetTo g p 0) 2 g)) (3 + i2)) 4 0) hlti2 hJ rfl)
      have hP : mP G al (ov G al k B c (s2 (it (fun j g => s2 g (3 + j) 4 0) i2 (it (fun p g => mSetTo g p 0) 2 g)) (3 + i2) 4 0)) H := hP
      refine lv_iinc (v := nI (i2 + 1)) (lv' := [(1, .int (nI (i2 + 1))), (0, .ref (al B))]) hx hb dX5_shutAll_62 hl (k := 0) rfl (f_inc _) (by decide) rfl (fun ls hl => ?_)
      refine lv_goto (tgt := 36) hx hb dX5_shutAll_65 (by decide) ?_
      exact ihi2 hlti2 _ _ _ (m_cv hP (show ov G al k B c (s2 (it (fun j g => s2 g (3 + j) 4 0) i2 (it (fun p g => mSetTo g p 0) 2 g)) (3 + i2) 4 0) = ov G al k B c (it (fun j g => s2 g (3 + j) 4 0) (i2 + 1) (it (fun p g => mSetTo g p 0) 2 g)) from (by first | rfl | (simp only [it_s]; done) | (simp only [it_s]; rfl)))) hS (lv_sub hl [0, 1] rfl)
  · skip
    have hlti1 : i1 < 2 := Nat.lt_of_not_le (fun q => hc_1 (nI_le (a := 2) q (by omega)))
    refine lv_aload_n hx hb dX5_shutAll_13 rfl (lv_at hl 1 rfl) ?_
    refine m_get (C := RX5) (T := TX5) (N := 15) (ci := 6) (v := .ref (al (B + 1))) hx hb hts uX5 hown hE hP B rfl ov_s rfl 0 (by decide) (hts _ q173) (fun _ h9 => h9) rfl dX5_shutAll_14 ?_
    refine lv_iload_n hx hb dX5_shutAll_17 rfl (lv_at hl 0 rfl) ?_
    refine g_aft_r (g_runV (As := [.int (nI i1)]) (rest := []) hx hb hml hown hts (kJx4a65c_get_915e3 l G al (ov G al k B c (it (fun p g => mSetTo g p 0) i1 g)) (B + 1) (B + 2) 2 (fun p => B + 11 + p) i1 (gF_p hF) hlti1) (fcwV 1 hts q188 q56 q57 q50 q43 rfl rfl (by decide +kernel) ⟨(Nat.le_of_ble_eq_true rfl), (Nat.le_of_ble_eq_true rfl)⟩) hE hb0 hP hS (m_recvL hE hP (gF_p hF) rfl) rfl hl.1 rfl (Nat.le_of_ble_eq_true rfl) dX5_shutAll_18 ⟨(Nat.le_of_ble_eq_true rfl), (Nat.le_of_ble_eq_true rfl)⟩) hS (fun u H locs hP hS => ?_)
    refine g_topr (v := al (B + 11 + i1)) rfl ?_
    refine m_cast hx hb hown (hts _ q186) hE hP (B + 11 + i1) rfl (ov_p hlti1) rfl dX5_shutAll_21 ?_
    refine lv_iconst (v := 0) hx hb dX5_shutAll_24 (by decide) ?_
    refine g_aft_v (g_runV (As := [.int 0]) (rest := []) hx hb hml hown hts (kX4_setTo l G al k h B c (it (fun p g => mSetTo g p 0) i1 g) i1 0 hlti1) (fcwV 1 hts q193 q157 q158 q159 q152 rfl rfl (by decide +kernel) ⟨(Nat.le_of_ble_eq_true rfl), (Nat.le_of_ble_eq_true rfl)⟩) hE hb0 hP hS (m_recvA hE hP (B + 11 + i1) rfl (ov_p hlti1) rfl) rfl hl.1 rfl (Nat.le_of_ble_eq_true rfl) dX5_shutAll_25 ⟨(Nat.le_of_ble_eq_true rfl), (Nat.le_of_ble_eq_true rfl)⟩) hS (fun u H locs hP hS => ?_)
    have hP : mP G al (ov G al k B c (mSetTo (it (fun p g => mSetTo g p 0) i1 g) i1 0)) H := hP
    refine lv_iinc (v := nI (i1 + 1)) (lv' := [(1, .int (nI (i1 + 1))), (0, .ref (al B))]) hx hb dX5_shutAll_28 hl (k := 0) rfl (f_inc _) (by decide) rfl (fun ls hl => ?_)
    refine lv_goto (tgt := 2) hx hb dX5_shutAll_31 (by decide) ?_
    exact ihi1 hlti1 _ _ _ (m_cv hP (show ov G al k B c (mSetTo (it (fun p g => mSetTo g p 0) i1 g) i1 0) = ov G al k B c (it (fun p g => mSetTo g p 0) (i1 + 1) g) from (by first | rfl | (simp only [it_s]; done) | (simp only [it_s]; rfl)))) hS (lv_sub hl [0, 1] rfl)
set_option maxHeartbeats 4000000 in
set_option maxRecDepth 100000 in
theorem kX6_names (l : Launch) (G : gT) (al : Nat → Nat) (k : gC) (h : gK) (B : Nat) (c : mC) (g : St) (q : Nat) (j : Nat) (hF : gF G al k B c) (hH : gH G al B h c) (hB : B = 100 ∨ B = 200) (hq : q < 6) : Met l yX6_names (fW yX6_names cX6_names 2 (some .boolean)) { frames := 0, cells := 0, slots := 0, locals := 0 } (gPre G al (ov G al k B c g) [.ref (al (20 + q)), .int (nI j)]) (gQi (S := Unit) G (fun _ => mNames h q j) (fun _ => al) (fun _ => ov G al k B c g)) 0 0 (gA G) := by
  refine Met.ofW (cc := cX6_names) (maxL := 2) (ret := (some .boolean)) (by decide) rfl ?_
  intro pz ez s m args below meth c₀ s₁ Bo hml hv
  obtain ⟨rfl, hb0, hP, hE⟩ := hv
  have hx := Bo.exec
  have hb := Bo.bytes
  have hr := Bo.returns
  have hts0 := atoms_spec (ws := (fW yX6_names cX6_names 2 (some .boolean))) Bo.pre
  have hts : ∀ w ∈ fA, w.before _ s = true := fun w h => hts0 w (List.mem_cons_of_mem _ h)
  have hown : s.vm.findClass RX6 = some m.cls := findClass_of_methodNamed Bo.named
  have hlocks := Bo.notSynchronized
  have hl := lv_entry ([.ref (al (20 + q)), .int (nI j)]) (n := 2) (Nat.le_of_ble_eq_true rfl)
  rw [lg_entry_eq]
  generalize (lg_sl ([.ref (al (20 + q)), .int (nI j)]) ++ List.replicate (2 - (lg_sl ([.ref (al (20 + q)), .int (nI j)])).length) Slot.unset).toArray = ls at hl ⊢
  have hl : lv_has ls 2 [(0, .ref (al (20 + q))), (1, .int (nI j))] := hl
  have hJ := gF_J hF
  refine g_start hP (fun H hP hS => ?_)
  refine lv_aload_n hx hb dX6_names_0 rfl (lv_at hl 0 rfl) ?_
  refine m_get (C := RX6) (T := TX6) (N := 3) (ci := 7) (v := .int (h.2.2.2.2 q 1)) hx hb hts uX6 hown hE hP (20 + q) rfl ((gH_ov hH hB hJ).2.2.2 q hq) rfl 1 (by decide) (hts _ q219) (fun _ h9 => h9) rfl dX6_names_1 ?_
  refine lv_iload_n hx hb dX6_names_4 rfl (lv_at hl 1 rfl) ?_
  refine lv_ishr hx hb dX6_names_5 ?_
  refine lv_iconst (v := 1) hx hb dX6_names_6 (by decide) ?_
  refine lv_iand hx hb dX6_names_7 ?_
  refine lv_iconst (v := 1) hx hb dX6_names_8 (by decide) ?_
  refine lv_icmp_ne (tgt := 16) hx hb dX6_names_9 (by decide) (fun hc_1 => ?_) (fun hc_1 => ?_)
  · skip
    refine lv_iconst (v := 0) hx hb dX6_names_16 (by decide) ?_
    refine W.widen (k := 0) (n := 0) (Nat.le_of_ble_eq_true rfl) (Nat.le_of_ble_eq_true rfl) ?_
    exact W.zret (v := 0) hx hb hr (by decide) (fun tz htz hW => ⟨⟨0, (), rfl, (by unfold mNames; rw [if_neg hc_1]; try rfl), g_end htz hP⟩, hS.F htz⟩) hS.2.2 dX6_names_17
  · skip
    refine lv_iconst (v := 1) hx hb dX6_names_12 (by decide) ?_
    refine lv_goto (tgt := 17) hx hb dX6_names_13 (by decide) ?_
    refine W.widen (k := 0) (n := 0) (Nat.le_of_ble_eq_true rfl) (Nat.le_of_ble_eq_true rfl) ?_
    exact W.zret (v := 1) hx hb hr (by decide) (fun tz htz hW => ⟨⟨1, (), rfl, (by unfold mNames; rw [if_pos hc_1]; try rfl), g_end htz hP⟩, hS.F htz⟩) hS.2.2 dX6_names_17
set_option maxHeartbeats 4000000 in
set_option maxRecDepth 100000 in
theorem kX1_dueOf (l : Launch) (G : gT) (al : Nat → Nat) (k : gC) (h : gK) (B : Nat) (c : mC) (g : St) (i : Nat) (q : Nat) (hF : gF G al k B c) (hH : gH G al B h c) (hB : B = 100 ∨ B = 200) (hi : i < h.1) (hq : q < 6) : Met l yX1_dueOf (fW yX1_dueOf cX1_dueOf 2 (some .int)) { frames := 0, cells := 0, slots := 0, locals := 0 } (gPre G al (ov G al k B c g) [.ref (al (300 + 3 * i)), .ref (al (20 + q))]) (gQi (S := Unit) G (fun _ => mDue h i q) (fun _ => al) (fun _ => ov G al k B c g)) 0 0 (gA G) := by
  refine Met.ofW (cc := cX1_dueOf) (maxL := 2) (ret := (some .int)) (by decide) rfl ?_
  intro pz ez s m args below meth c₀ s₁ Bo hml hv
  obtain ⟨rfl, hb0, hP, hE⟩ := hv
  have hx := Bo.exec
  have hb := Bo.bytes
  have hr := Bo.returns
  have hts0 := atoms_spec (ws := (fW yX1_dueOf cX1_dueOf 2 (some .int))) Bo.pre
  have hts : ∀ w ∈ fA, w.before _ s = true := fun w h => hts0 w (List.mem_cons_of_mem _ h)
  have hown : s.vm.findClass RX1 = some m.cls := findClass_of_methodNamed Bo.named
  have hlocks := Bo.notSynchronized
  have hl := lv_entry ([.ref (al (300 + 3 * i)), .ref (al (20 + q))]) (n := 2) (Nat.le_of_ble_eq_true rfl)
  rw [lg_entry_eq]
  generalize (lg_sl ([.ref (al (300 + 3 * i)), .ref (al (20 + q))]) ++ List.replicate (2 - (lg_sl ([.ref (al (300 + 3 * i)), .ref (al (20 + q))])).length) Slot.unset).toArray = ls at hl ⊢
  have hl : lv_has ls 2 [(0, .ref (al (300 + 3 * i))), (1, .ref (al (20 + q)))] := hl
  have hJ := gF_J hF
  refine g_start hP (fun H hP hS => ?_)
  refine lv_aload_n hx hb dX1_dueOf_0 rfl (lv_at hl 0 rfl) ?_
  refine m_get (C := RX1) (T := TX1) (N := 3) (ci := 2) (v := .int (h.2.2.2.1 i)) hx hb hts uX1 hown hE hP (300 + 3 * i) rfl ((gH_ov hH hB hJ).2.2.1 i hi).2.2.1 rfl 2 (by decide) (hts _ q31) (fun _ h9 => h9) rfl dX1_dueOf_1 ?_
  refine lv_aload_n hx hb dX1_dueOf_4 rfl (lv_at hl 1 rfl) ?_
  refine m_get (C := RX6) (T := TX6) (N := 3) (ci := 7) (v := .int (h.2.2.2.2 q 0)) hx hb hts uX6 hown hE hP (20 + q) rfl ((gH_ov hH hB hJ).2.2.2 q hq) rfl 0 (by decide) (hts _ q33) (fun _ h9 => h9) rfl dX1_dueOf_5 ?_
  refine lv_iadd hx hb dX1_dueOf_8 ?_
  refine lv_iconst (v := 1) hx hb dX1_dueOf_9 (by decide) ?_
  refine lv_iadd hx hb dX1_dueOf_10 ?_
  refine W.widen (k := 0) (n := 0) (Nat.le_of_ble_eq_true rfl) (Nat.le_of_ble_eq_true rfl) ?_
  exact W.iret (v := ((h.2.2.2.1 i) + (h.2.2.2.2 q 0)) + 1) hx hb hr (fun tz htz hW => ⟨⟨((h.2.2.2.1 i) + (h.2.2.2.2 q 0)) + 1, (), rfl, (by unfold mDue; rfl), g_end htz hP⟩, hS.F htz⟩) hS.2.2 dX1_dueOf_11
set_option maxHeartbeats 4000000 in
set_option maxRecDepth 100000 in
theorem kX1_stepsDueAfter (l : Launch) (G : gT) (al : Nat → Nat) (k : gC) (h : gK) (B : Nat) (c : mC) (g : St) (i : Nat) (v : Int32) (hF : gF G al k B c) (hH : gH G al B h c) (hB : B = 100 ∨ B = 200) (hi : i < h.1) : Met l yX1_stepsDueAfter (fW yX1_stepsDueAfter cX1_stepsDueAfter 4 (some .int)) { frames := 3, cells := 0, slots := 0, locals := 64 } (gPre G al (ov G al k B c g) [.ref (al (300 + 3 * i)), .int v]) (gQi (S := Unit) G (fun _ => mOpen h i v) (fun _ => al) (fun _ => ov G al k B c g)) 0 0 (gA G) := by
  refine Met.ofW (cc := cX1_stepsDueAfter) (maxL := 4) (ret := (some .int)) (by decide) rfl ?_
  intro pz ez s m args below meth c₀ s₁ Bo hml hv
  obtain ⟨rfl, hb0, hP, hE⟩ := hv
  have hx := Bo.exec
  have hb := Bo.bytes
  have hr := Bo.returns
  have hts0 := atoms_spec (ws := (fW yX1_stepsDueAfter cX1_stepsDueAfter 4 (some .int))) Bo.pre
  have hts : ∀ w ∈ fA, w.before _ s = true := fun w h => hts0 w (List.mem_cons_of_mem _ h)
  have hown : s.vm.findClass RX1 = some m.cls := findClass_of_methodNamed Bo.named
  have hlocks := Bo.notSynchronized
  have hl := lv_entry ([.ref (al (300 + 3 * i)), .int v]) (n := 4) (Nat.le_of_ble_eq_true rfl)
  rw [lg_entry_eq]
  generalize (lg_sl ([.ref (al (300 + 3 * i)), .int v]) ++ List.replicate (4 - (lg_sl ([.ref (al (300 + 3 * i)), .int v])).length) Slot.unset).toArray = ls at hl ⊢
  have hl : lv_has ls 4 [(0, .ref (al (300 + 3 * i))), (1, .int v)] := hl
  have hJ := gF_J hF
  refine g_start hP (fun H hP hS => ?_)
  refine lv_iconst (v := 0) hx hb dX1_stepsDueAfter_0 (by decide) ?_
  refine lv_istore_n (lv' := [(2, .int 0), (0, .ref (al (300 + 3 * i))), (1, .int v)]) hx hb dX1_stepsDueAfter_1 rfl hl (by decide) rfl (fun ls hl => ?_)
  refine lv_iconst (v := 0) hx hb dX1_stepsDueAfter_2 (by decide) ?_
  refine lv_istore_n (lv' := [(3, .int 0), (2, .int 0), (0, .ref (al (300 + 3 * i))), (1, .int v)]) hx hb dX1_stepsDueAfter_3 rfl hl (by decide) rfl (fun ls hl => ?_)
  refine g_loop (al := al) (N := 3) (nL := 4) (Wi := fun i1 => ov G al k B c g) (Li := fun i1 => [(3, .int (nI i1)), (2, .int (it (fun s a => if mDue h i (3 * h.2.1 i + s) ≤ v then a else a + 1) i1 0)), (1, .int v), (0, .ref (al (300 + 3 * i)))]) hP hS (lv_sub hl [0, 1, 3, 2] rfl) (fun i1 hii1 ihi1 H locs ls hP hS hl => ?_)
  have hP : mP G al (ov G al k B c g) H := hP
  have hl : lv_has ls 4 [(3, .int (nI i1)), (2, .int (it (fun s a => if mDue h i (3 * h.2.1 i + s) ≤ v then a else a + 1) i1 0)), (1, .int v), (0, .ref (al (300 + 3 * i)))] := hl
  refine lv_iload_n hx hb dX1_stepsDueAfter_4 rfl (lv_at hl 0 rfl) ?_
  refine lv_aload_n hx hb dX1_stepsDueAfter_5 rfl (lv_at hl 3 rfl) ?_
  refine m_get (C := RX1) (T := TX1) (N := 3) (ci := 2) (v := .ref (al (300 + 3 * i + 1))) hx hb hts uX1 hown hE hP (300 + 3 * i) rfl ((gH_ov hH hB hJ).2.2.1 i hi).2.2.1 rfl 0 (by decide) (hts _ q29) (fun _ h9 => h9) rfl dX1_stepsDueAfter_6 ?_
  refine g_aft_i (g_runV (As := []) (rest := [.int (nI i1)]) hx hb hml hown hts (kJx4a65c_size_8abf5 l G al (ov G al k B c g) (300 + 3 * i + 1) (300 + 3 * i + 2) 3 (fun s => 20 + (3 * h.2.1 i + s)) ((gH_ov hH hB hJ).2.2.1 i hi).2.2.2) (fcwV 0 hts q52 q53 q54 q50 q34 rfl rfl (by decide +kernel) ⟨(Nat.le_of_ble_eq_true rfl), (Nat.le_of_ble_eq_true rfl)⟩) hE hb0 hP hS (m_recvL hE hP ((gH_ov hH hB hJ).2.2.1 i hi).2.2.2 rfl) rfl hl.1 rfl (Nat.le_of_ble_eq_true rfl) dX1_stepsDueAfter_9 ⟨(Nat.le_of_ble_eq_true rfl), (Nat.le_of_ble_eq_true rfl)⟩) hS (fun u H locs hP hS => ?_)
  refine f_topi (v := nI 3) rfl ?_
  refine lv_icmp_ge (tgt := 43) hx hb dX1_stepsDueAfter_12 (by decide) (fun hc_1 => ?_) (fun hc_1 => ?_)
  · skip
    have hgei1 : 3 ≤ i1 := (nI_leI (a := 3) (by omega) (by omega)).mp hc_1
    obtain rfl : 3 = i1 := Nat.le_antisymm hgei1 hii1
    have hP : mP G al (ov G al k B c g) H := hP
    have hl : lv_has ls 4 [(3, .int (nI 3)), (2, .int (it (fun s a => if mDue h i (3 * h.2.1 i + s) ≤ v then a else a + 1) 3 0)), (1, .int v), (0, .ref (al (300 + 3 * i)))] := hl
    refine lv_iload_n hx hb dX1_stepsDueAfter_43 rfl (lv_at hl 1 rfl) ?_
    refine W.widen (k := 0) (n := 0) (Nat.le_of_ble_eq_true rfl) (Nat.le_of_ble_eq_true rfl) ?_
    exact W.iret (v := it (fun s a => if mDue h i (3 * h.2.1 i + s) ≤ v then a else a + 1) 3 0) hx hb hr (fun tz htz hW => ⟨⟨it (fun s a => if mDue h i (3 * h.2.1 i + s) ≤ v then a else a + 1) 3 0, (), rfl, (by unfold mOpen; rfl), g_end htz hP⟩, hS.F htz⟩) hS.2.2 dX1_stepsDueAfter_44
  · skip
    have hlti1 : i1 < 3 := Nat.lt_of_not_le (fun q => hc_1 (nI_le (a := 3) q (by omega)))
    have hq3 : 3 * h.2.1 i + i1 < 6 := by have := (hH.2.2.1 i hi).1; omega
    refine lv_aload_n hx hb dX1_stepsDueAfter_15 rfl (lv_at hl 3 rfl) ?_
    refine lv_aload_n hx hb dX1_stepsDueAfter_16 rfl (lv_at hl 3 rfl) ?_
    refine m_get (C := RX1) (T := TX1) (N := 3) (ci := 2) (v := .ref (al (300 + 3 * i + 1))) hx hb hts uX1 hown hE hP (300 + 3 * i) rfl ((gH_ov hH hB hJ).2.2.1 i hi).2.2.1 rfl 0 (by decide) (hts _ q29) (fun _ h9 => h9) rfl dX1_stepsDueAfter_17 ?_
    refine lv_iload_n hx hb dX1_stepsDueAfter_20 rfl (lv_at hl 0 rfl) ?_
    refine g_aft_r (g_runV (As := [.int (nI i1)]) (rest := [.ref (al (300 + 3 * i))]) hx hb hml hown hts (kJx4a65c_get_915e3 l G al (ov G al k B c g) (300 + 3 * i + 1) (300 + 3 * i + 2) 3 (fun s => 20 + (3 * h.2.1 i + s)) i1 ((gH_ov hH hB hJ).2.2.1 i hi).2.2.2 hlti1) (fcwV 1 hts q55 q56 q57 q50 q43 rfl rfl (by decide +kernel) ⟨(Nat.le_of_ble_eq_true rfl), (Nat.le_of_ble_eq_true rfl)⟩) hE hb0 hP hS (m_recvL hE hP ((gH_ov hH hB hJ).2.2.1 i hi).2.2.2 rfl) rfl hl.1 rfl (Nat.le_of_ble_eq_true rfl) dX1_stepsDueAfter_21 ⟨(Nat.le_of_ble_eq_true rfl), (Nat.le_of_ble_eq_true rfl)⟩) hS (fun u H locs hP hS => ?_)
    refine g_topr (v := al (20 + (3 * h.2.1 i + i1))) rfl ?_
    refine m_cast hx hb hown (hts _ q51) hE hP (20 + (3 * h.2.1 i + i1)) rfl ((gH_ov hH hB hJ).2.2.2 (3 * h.2.1 i + i1) hq3) rfl dX1_stepsDueAfter_24 ?_
    refine g_aft_i (g_runV (As := [.ref (al (20 + (3 * h.2.1 i + i1)))]) (rest := []) hx hb hml hown hts (kX1_dueOf l G al k h B c g i (3 * h.2.1 i + i1) hF hH hB hi hq3) (fcwV 1 hts q58 q59 q60 q61 q32 rfl rfl (by decide +kernel) ⟨(Nat.le_of_ble_eq_true rfl), (Nat.le_of_ble_eq_true rfl)⟩) hE hb0 hP hS (m_recvA hE hP (300 + 3 * i) rfl ((gH_ov hH hB hJ).2.2.1 i hi).2.2.1 rfl) rfl hl.1 rfl (Nat.le_of_ble_eq_true rfl) dX1_stepsDueAfter_27 ⟨(Nat.le_of_ble_eq_true rfl), (Nat.le_of_ble_eq_true rfl)⟩) hS (fun u H locs hP hS => ?_)
    have hP : mP G al (ov G al k B c g) H := hP
    refine f_topi (v := mDue h i (3 * h.2.1 i + i1)) rfl ?_
    refine lv_iload_n hx hb dX1_stepsDueAfter_30 rfl (lv_at hl 2 rfl) ?_
    refine lv_icmp_le (tgt := 37) hx hb dX1_stepsDueAfter_31 (by decide) (fun hc_2 => ?_) (fun hc_2 => ?_)
    · skip
      refine lv_iinc (v := nI (i1 + 1)) (lv' := [(3, .int (nI (i1 + 1))), (2, .int (it (fun s a => if mDue h i (3 * h.2.1 i + s) ≤ v then a else a + 1) i1 0)), (1, .int v), (0, .ref (al (300 + 3 * i)))]) hx hb dX1_stepsDueAfter_37 hl (k := 0) rfl (f_inc _) (by decide) rfl (fun ls hl => ?_)
      refine lv_goto (tgt := 4) hx hb dX1_stepsDueAfter_40 (by decide) ?_
      have hl9 := lv_sub (l' := [(3, .int (nI (i1 + 1))), (2, .int (it (fun s a => if mDue h i (3 * h.2.1 i + s) ≤ v then a else a + 1) i1 0)), (1, .int v), (0, .ref (al (300 + 3 * i)))]) hl [0, 1, 2, 3] rfl
      rw [show ([(3, .int (nI (i1 + 1))), (2, .int (it (fun s a => if mDue h i (3 * h.2.1 i + s) ≤ v then a else a + 1) i1 0)), (1, .int v), (0, .ref (al (300 + 3 * i)))] : List (Nat × Value)) = [(3, .int (nI (i1 + 1))), (2, .int (it (fun s a => if mDue h i (3 * h.2.1 i + s) ≤ v then a else a + 1) (i1 + 1) 0)), (1, .int v), (0, .ref (al (300 + 3 * i)))] from (by first | rfl | (simp only [it_s, if_pos hc_2]; done) | (simp only [it_s, if_pos hc_2]; rfl))] at hl9
      exact ihi1 hlti1 _ _ _ hP hS hl9
    · skip
      refine lv_iinc (v := (it (fun s a => if mDue h i (3 * h.2.1 i + s) ≤ v then a else a + 1) i1 0) + 1) (lv' := [(2, .int ((it (fun s a => if mDue h i (3 * h.2.1 i + s) ≤ v then a else a + 1) i1 0) + 1)), (3, .int (nI i1)), (1, .int v), (0, .ref (al (300 + 3 * i)))]) hx hb dX1_stepsDueAfter_34 hl (k := 1) rfl rfl (by decide) rfl (fun ls hl => ?_)
      refine lv_iinc (v := nI (i1 + 1)) (lv' := [(3, .int (nI (i1 + 1))), (2, .int ((it (fun s a => if mDue h i (3 * h.2.1 i + s) ≤ v then a else a + 1) i1 0) + 1)), (1, .int v), (0, .ref (al (300 + 3 * i)))]) hx hb dX1_stepsDueAfter_37 hl (k := 1) rfl (f_inc _) (by decide) rfl (fun ls hl => ?_)
      refine lv_goto (tgt := 4) hx hb dX1_stepsDueAfter_40 (by decide) ?_
      have hl9 := lv_sub (l' := [(3, .int (nI (i1 + 1))), (2, .int ((it (fun s a => if mDue h i (3 * h.2.1 i + s) ≤ v then a else a + 1) i1 0) + 1)), (1, .int v), (0, .ref (al (300 + 3 * i)))]) hl [0, 1, 2, 3] rfl
      rw [show ([(3, .int (nI (i1 + 1))), (2, .int ((it (fun s a => if mDue h i (3 * h.2.1 i + s) ≤ v then a else a + 1) i1 0) + 1)), (1, .int v), (0, .ref (al (300 + 3 * i)))] : List (Nat × Value)) = [(3, .int (nI (i1 + 1))), (2, .int (it (fun s a => if mDue h i (3 * h.2.1 i + s) ≤ v then a else a + 1) (i1 + 1) 0)), (1, .int v), (0, .ref (al (300 + 3 * i)))] from (by first | rfl | (simp only [it_s, if_neg hc_2]; done) | (simp only [it_s, if_neg hc_2]; rfl))] at hl9
      exact ihi1 hlti1 _ _ _ hP hS hl9
set_option maxHeartbeats 4000000 in
set_option maxRecDepth 100000 in
theorem kX5_doStep (l : Launch) (G : gT) (al : Nat → Nat) (k : gC) (h : gK) (B : Nat) (c : mC) (g : St) (q : Nat) (sx : Nat) (hF : gF G al k B c) (hH : gH G al B h c) (hB : B = 100 ∨ B = 200) (hq : q < 6) (hsx : sx < 10) : Met l yX5_doStep (fW yX5_doStep cX5_doStep 5 none) { frames := 3, cells := 0, slots := 0, locals := 64 } (gPre G al (ov G al k B c g) [.ref (al B), .ref (al (20 + q)), .int (nI sx)]) (gQv (S := Unit) G (fun _ => al) (fun _ => ov G al k B c (mStep k h q sx g))) 0 0 (gA G) := by
  refine Met.ofW (cc := cX5_doStep) (maxL := 5) (ret := none) (by decide) rfl ?_
  intro pz ez s m args below meth c₀ s₁ Bo hml hv
  obtain ⟨rfl, hb0, hP, hE⟩ := hv
  have hx := Bo.exec
  have hb := Bo.bytes
  have hr := Bo.returns
  have hts0 := atoms_spec (ws := (fW yX5_doStep cX5_doStep 5 none)) Bo.pre
  have hts : ∀ w ∈ fA, w.before _ s = true := fun w h => hts0 w (List.mem_cons_of_mem _ h)
  have hown : s.vm.findClass RX5 = some m.cls := findClass_of_methodNamed Bo.named
  have hlocks := Bo.notSynchronized
  have hl := lv_entry ([.ref (al B), .ref (al (20 + q)), .int (nI sx)]) (n := 5) (Nat.le_of_ble_eq_true rfl)
  rw [lg_entry_eq]
  generalize (lg_sl ([.ref (al B), .ref (al (20 + q)), .int (nI sx)]) ++ List.replicate (5 - (lg_sl ([.ref (al B), .ref (al (20 + q)), .int (nI sx)])).length) Slot.unset).toArray = ls at hl ⊢
  have hl : lv_has ls 5 [(0, .ref (al B)), (1, .ref (al (20 + q))), (2, .int (nI sx))] := hl
  have hJ := gF_J hF
  refine g_start hP (fun H hP hS => ?_)
  refine lv_aload_n hx hb dX5_doStep_0 rfl (lv_at hl 0 rfl) ?_
  refine m_get (C := RX5) (T := TX5) (N := 15) (ci := 6) (v := .ref (al (B + 3))) hx hb hts uX5 hown hE hP B rfl ov_s rfl 1 (by decide) (hts _ q174) (fun _ h9 => h9) rfl dX5_doStep_1 ?_
  refine g_aft_i (g_runV (As := []) (rest := []) hx hb hml hown hts (kJx4a65c_size_8abf5 l G al (ov G al k B c g) (B + 3) (B + 4) k.1 (fun j => B + 20 + j) (gF_j hF)) (fcwV 0 hts q187 q53 q54 q50 q34 rfl rfl (by decide +kernel) ⟨(Nat.le_of_ble_eq_true rfl), (Nat.le_of_ble_eq_true rfl)⟩) hE hb0 hP hS (m_recvL hE hP (gF_j hF) rfl) rfl hl.1 rfl (Nat.le_of_ble_eq_true rfl) dX5_doStep_4 ⟨(Nat.le_of_ble_eq_true rfl), (Nat.le_of_ble_eq_true rfl)⟩) hS (fun u H locs hP hS => ?_)
  refine f_topi (v := nI k.1) rfl ?_
  refine lv_istore_n (lv' := [(3, .int (nI k.1)), (0, .ref (al B)), (1, .ref (al (20 + q))), (2, .int (nI sx))]) hx hb dX5_doStep_7 rfl hl (by decide) rfl (fun ls hl => ?_)
  refine lv_iconst (v := 0) hx hb dX5_doStep_8 (by decide) ?_
  refine lv_istore (lv' := [(4, .int 0), (3, .int (nI k.1)), (0, .ref (al B)), (1, .ref (al (20 + q))), (2, .int (nI sx))]) hx hb dX5_doStep_9 hl (by decide) rfl (fun ls hl => ?_)
  refine g_loop (al := al) (N := k.1) (nL := 5) (Wi := fun i1 => ov G al k B c (it (mStep1 k h q sx) i1 g)) (Li := fun i1 => [(4, .int (nI i1)), (3, .int (nI k.1)), (2, .int (nI sx)), (1, .ref (al (20 + q))), (0, .ref (al B))]) hP hS (lv_sub hl [0, 1, 4, 3, 2] rfl) (fun i1 hii1 ihi1 H locs ls hP hS hl => ?_)
  have hP : mP G al (ov G al k B c (it (mStep1 k h q sx) i1 g)) H := hP
  have hl : lv_has ls 5 [(4, .int (nI i1)), (3, .int (nI k.1)), (2, .int (nI sx)), (1, .ref (al (20 + q))), (0, .ref (al B))] := hl
  refine lv_iload hx hb dX5_doStep_11 (lv_at hl 0 rfl) ?_
  refine lv_iload_n hx hb dX5_doStep_13 rfl (lv_at hl 1 rfl) ?_
  refine lv_icmp_ge (tgt := 57) hx hb dX5_doStep_14 (by decide) (fun hc_1 => ?_) (fun hc_1 => ?_)
  · skip
    have hgei1 : k.1 ≤ i1 := (nI_leI (by omega) (by omega)).mp hc_1
    obtain rfl : k.1 = i1 := Nat.le_antisymm hgei1 hii1
    have hP : mP G al (ov G al k B c (it (mStep1 k h q sx) k.1 g)) H := hP
    have hl : lv_has ls 5 [(4, .int (nI k.1)), (3, .int (nI k.1)), (2, .int (nI sx)), (1, .ref (al (20 + q))), (0, .ref (al B))] := hl
    have hP : mP G al (ov G al k B c (mStep k h q sx g)) H := m_cv hP (show ov G al k B c (it (mStep1 k h q sx) k.1 g) = ov G al k B c (mStep k h q sx g) from (by unfold mStep; rfl))
    refine W.widen (k := 0) (n := 0) (Nat.le_of_ble_eq_true rfl) (Nat.le_of_ble_eq_true rfl) ?_
    exact W.vret hx hb hr (fun tz htz hW => ⟨⟨(), rfl, trivial, g_end htz hP⟩, hS.F htz⟩) hS.2.2 dX5_doStep_57
  · skip
    have hlti1 : i1 < k.1 := Nat.lt_of_not_le (fun q => hc_1 (nI_le q (by omega)))
    have hmd : (i1 + sx) % k.1 < k.1 := Nat.mod_lt _ (by omega)
    refine lv_aload_n hx hb dX5_doStep_17 rfl (lv_at hl 3 rfl) ?_
    refine lv_iload hx hb dX5_doStep_18 (lv_at hl 0 rfl) ?_
    refine g_aft_i (g_runV (As := [.int (nI i1)]) (rest := []) hx hb hml hown hts (kX6_names l G al k h B c (it (mStep1 k h q sx) i1 g) q i1 hF hH hB hq) (fcwV 1 hts q221 q222 q223 q224 q218 rfl rfl (by decide +kernel) ⟨(Nat.le_of_ble_eq_true rfl), (Nat.le_of_ble_eq_true rfl)⟩) hE hb0 hP hS (m_recvA hE hP (20 + q) rfl ((gH_ov hH hB hJ).2.2.2 q hq) rfl) rfl hl.1 rfl (Nat.le_of_ble_eq_true rfl) dX5_doStep_20 ⟨(Nat.le_of_ble_eq_true rfl), (Nat.le_of_ble_eq_true rfl)⟩) hS (fun u H locs hP hS => ?_)
    have hP : mP G al (ov G al k B c (it (mStep1 k h q sx) i1 g)) H := hP
    refine f_topi (v := mNames h q i1) rfl ?_
    refine lv_if_eq (tgt := 51) hx hb dX5_doStep_23 (by decide) (fun hc_2 => ?_) (fun hc_2 => ?_)
    · skip
      refine lv_iinc (v := nI (i1 + 1)) (lv' := [(4, .int (nI (i1 + 1))), (3, .int (nI k.1)), (2, .int (nI sx)), (1, .ref (al (20 + q))), (0, .ref (al B))]) hx hb dX5_doStep_51 hl (k := 0) rfl (f_inc _) (by decide) rfl (fun ls hl => ?_)
      refine lv_goto (tgt := 11) hx hb dX5_doStep_54 (by decide) ?_
      exact ihi1 hlti1 _ _ _ (m_cv hP (show ov G al k B c (it (mStep1 k h q sx) i1 g) = ov G al k B c (it (mStep1 k h q sx) (i1 + 1) g) from (congrArg (ov G al k B c) (if_pos hc_2).symm))) hS (lv_sub hl [0, 1, 2, 3, 4] rfl)
    · skip
      refine lv_aload_n hx hb dX5_doStep_26 rfl (lv_at hl 4 rfl) ?_
      refine m_get (C := RX5) (T := TX5) (N := 15) (ci := 6) (v := .ref (al (B + 3))) hx hb hts uX5 hown hE hP B rfl ov_s rfl 1 (by decide) (hts _ q174) (fun _ h9 => h9) rfl dX5_doStep_27 ?_
      refine lv_iload hx hb dX5_doStep_30 (lv_at hl 0 rfl) ?_
      refine lv_iload_n hx hb dX5_doStep_32 rfl (lv_at hl 2 rfl) ?_
      refine lv_iadd hx hb dX5_doStep_33 ?_
      refine f_topi (v := nI (i1 + sx)) (f_add _ _) ?_
      refine lv_iload_n hx hb dX5_doStep_34 rfl (lv_at hl 1 rfl) ?_
      refine g_aft_i (g_runS (As := [.int (nI (i1 + sx)), .int (nI k.1)]) (rest := [.ref (al (B + 3))]) hx hb hml hown hts (kJ9_floorMod_7cf53 l G al (ov G al k B c (it (mStep1 k h q sx) i1 g)) (nI (i1 + sx)) (nI k.1) (nI_ne0 (by omega) (by omega))) (fcwS 2 hts q225 q11 q12 q8 rfl rfl (by decide +kernel) ⟨(Nat.le_of_ble_eq_true rfl), (Nat.le_of_ble_eq_true rfl)⟩) hE hb0 hP hS rfl hl.1 rfl (Nat.le_of_ble_eq_true rfl) dX5_doStep_35 ⟨(Nat.le_of_ble_eq_true rfl), (Nat.le_of_ble_eq_true rfl)⟩) hS (fun u H locs hP hS => ?_)
      refine f_topi (v := nI ((i1 + sx) % k.1)) (mFm_n (by omega) (by omega) (by omega)) ?_
      refine f_topi (v := nI ((i1 + sx) % k.1)) rfl ?_
      refine g_aft_r (g_runV (As := [.int (nI ((i1 + sx) % k.1))]) (rest := []) hx hb hml hown hts (kJx4a65c_get_915e3 l G al (ov G al k B c (it (mStep1 k h q sx) i1 g)) (B + 3) (B + 4) k.1 (fun j => B + 20 + j) ((i1 + sx) % k.1) (gF_j hF) hmd) (fcwV 1 hts q188 q56 q57 q50 q43 rfl rfl (by decide +kernel) ⟨(Nat.le_of_ble_eq_true rfl), (Nat.le_of_ble_eq_true rfl)⟩) hE hb0 hP hS (m_recvL hE hP (gF_j hF) rfl) rfl hl.1 rfl (Nat.le_of_ble_eq_true rfl) dX5_doStep_38 ⟨(Nat.le_of_ble_eq_true rfl), (Nat.le_of_ble_eq_true rfl)⟩) hS (fun u H locs hP hS => ?_)
      refine g_topr (v := al (B + 20 + (i1 + sx) % k.1)) rfl ?_
      refine m_cast hx hb hown (hts _ q196) hE hP (B + 20 + (i1 + sx) % k.1) rfl (ov_j hmd) rfl dX5_doStep_41 ?_
      refine lv_aload_n hx hb dX5_doStep_44 rfl (lv_at hl 3 rfl) ?_
      refine m_get (C := RX6) (T := TX6) (N := 3) (ci := 7) (v := .int (h.2.2.2.2 q 2)) hx hb hts uX6 hown hE hP (20 + q) rfl ((gH_ov hH hB hJ).2.2.2 q hq) rfl 2 (by decide) (hts _ q220) (fun _ h9 => h9) rfl dX5_doStep_45 ?_
      refine g_aft_v (g_runV (As := [.int (h.2.2.2.2 q 2)]) (rest := []) hx hb hml hown hts (kX3_obey l G al k h B c (it (mStep1 k h q sx) i1 g) ((i1 + sx) % k.1) (h.2.2.2.2 q 2) hF hmd) (fcwV 1 hts q226 q227 q228 q185 q155 rfl rfl (by decide +kernel) ⟨(Nat.le_of_ble_eq_true rfl), (Nat.le_of_ble_eq_true rfl)⟩) hE hb0 hP hS (m_recvA hE hP (B + 20 + (i1 + sx) % k.1) rfl (ov_j hmd) rfl) rfl hl.1 rfl (Nat.le_of_ble_eq_true rfl) dX5_doStep_48 ⟨(Nat.le_of_ble_eq_true rfl), (Nat.le_of_ble_eq_true rfl)⟩) hS (fun u H locs hP hS => ?_)
      have hP : mP G al (ov G al k B c (mObey k (it (mStep1 k h q sx) i1 g) ((i1 + sx) % k.1) (h.2.2.2.2 q 2))) H := hP
      refine lv_iinc (v := nI (i1 + 1)) (lv' := [(4, .int (nI (i1 + 1))), (3, .int (nI k.1)), (2, .int (nI sx)), (1, .ref (al (20 + q))), (0, .ref (al B))]) hx hb dX5_doStep_51 hl (k := 0) rfl (f_inc _) (by decide) rfl (fun ls hl => ?_)
      refine lv_goto (tgt := 11) hx hb dX5_doStep_54 (by decide) ?_
      exact ihi1 hlti1 _ _ _ (m_cv hP (show ov G al k B c (mObey k (it (mStep1 k h q sx) i1 g) ((i1 + sx) % k.1) (h.2.2.2.2 q 2)) = ov G al k B c (it (mStep1 k h q sx) (i1 + 1) g) from (congrArg (ov G al k B c) (if_neg hc_2).symm))) hS (lv_sub hl [0, 1, 2, 3, 4] rfl)
set_option maxHeartbeats 4000000 in
set_option maxRecDepth 100000 in
theorem kX5_doStepsDue (l : Launch) (G : gT) (al : Nat → Nat) (k : gC) (h : gK) (B : Nat) (c : mC) (g : St) (hF : gF G al k B c) (hH : gH G al B h c) (hB : B = 100 ∨ B = 200) : Met l yX5_doStepsDue (fW yX5_doStepsDue cX5_doStepsDue 5 none) { frames := 4, cells := 0, slots := 0, locals := 88 } (gPre G al (ov G al k B c g) [.ref (al B)]) (gQv (S := Unit) G (fun _ => al) (fun _ => ov G al k B c (mSteps k h g))) 0 0 (gA G) := by
  refine Met.ofW (cc := cX5_doStepsDue) (maxL := 5) (ret := none) (by decide) rfl ?_
  intro pz ez s m args below meth c₀ s₁ Bo hml hv
  obtain ⟨rfl, hb0, hP, hE⟩ := hv
  have hx := Bo.exec
  have hb := Bo.bytes
  have hr := Bo.returns
  have hts0 := atoms_spec (ws := (fW yX5_doStepsDue cX5_doStepsDue 5 none)) Bo.pre
  have hts : ∀ w ∈ fA, w.before _ s = true := fun w h => hts0 w (List.mem_cons_of_mem _ h)
  have hown : s.vm.findClass RX5 = some m.cls := findClass_of_methodNamed Bo.named
  have hlocks := Bo.notSynchronized
  have hl := lv_entry ([.ref (al B)]) (n := 5) (Nat.le_of_ble_eq_true rfl)
  rw [lg_entry_eq]
  generalize (lg_sl ([.ref (al B)]) ++ List.replicate (5 - (lg_sl ([.ref (al B)])).length) Slot.unset).toArray = ls at hl ⊢
  have hl : lv_has ls 5 [(0, .ref (al B))] := hl
  have hJ := gF_J hF
  have hN := hH.2.1
  refine g_start hP (fun H hP hS => ?_)
  refine lv_iconst (v := 0) hx hb dX5_doStepsDue_0 (by decide) ?_
  refine lv_istore_n (lv' := [(1, .int 0), (0, .ref (al B))]) hx hb dX5_doStepsDue_1 rfl hl (by decide) rfl (fun ls hl => ?_)
  refine g_loop (al := al) (N := h.1) (nL := 5) (Wi := fun i1 => ov G al k B c (it (fun i g => mDueC k h i g) i1 g)) (Li := fun i1 => [(1, .int (nI i1)), (0, .ref (al B))]) hP hS (lv_sub hl [0, 1] rfl) (fun i1 hii1 ihi1 H locs ls hP hS hl => ?_)
  have hP : mP G al (ov G al k B c (it (fun i g => mDueC k h i g) i1 g)) H := hP
  have hl : lv_has ls 5 [(1, .int (nI i1)), (0, .ref (al B))] := hl
  refine lv_iload_n hx hb dX5_doStepsDue_2 rfl (lv_at hl 0 rfl) ?_
  refine lv_aload_n hx hb dX5_doStepsDue_3 rfl (lv_at hl 1 rfl) ?_
  refine m_get (C := RX5) (T := TX5) (N := 15) (ci := 6) (v := .ref (al (B + 5))) hx hb hts uX5 hown hE hP B rfl ov_s rfl 2 (by decide) (hts _ q175) (fun _ h9 => h9) rfl dX5_doStepsDue_4 ?_
  refine g_aft_i (g_runV (As := []) (rest := [.int (nI i1)]) hx hb hml hown hts (kJx4a65c_size_8abf5 l G al (ov G al k B c (it (fun i g => mDueC k h i g) i1 g)) (B + 5) (B + 6) h.1 (fun i => 300 + 3 * i) (gH_ov hH hB hJ).1) (fcwV 0 hts q187 q53 q54 q50 q34 rfl rfl (by decide +kernel) ⟨(Nat.le_of_ble_eq_true rfl), (Nat.le_of_ble_eq_true rfl)⟩) hE hb0 hP hS (m_recvL hE hP (gH_ov hH hB hJ).1 rfl) rfl hl.1 rfl (Nat.le_of_ble_eq_true rfl) dX5_doStepsDue_7 ⟨(Nat.le_of_ble_eq_true rfl), (Nat.le_of_ble_eq_true rfl)⟩) hS (fun u H locs hP hS => ?_)
  refine f_topi (v := nI h.1) rfl ?_
  refine lv_icmp_ge (tgt := 86) hx hb dX5_doStepsDue_10 (by decide) (fun hc_1 => ?_) (fun hc_1 => ?_)
  · skip
    have hgei1 : h.1 ≤ i1 := (nI_leI (by omega) (by omega)).mp hc_1
    obtain rfl : h.1 = i1 := Nat.le_antisymm hgei1 hii1
    have hP : mP G al (ov G al k B c (it (fun i g => mDueC k h i g) h.1 g)) H := hP
    have hl : lv_has ls 5 [(1, .int (nI h.1)), (0, .ref (al B))] := hl
    have hP : mP G al (ov G al k B c (mSteps k h g)) H := m_cv hP (show ov G al k B c (it (fun i g => mDueC k h i g) h.1 g) = ov G al k B c (mSteps k h g) from (by unfold mSteps; rfl))
    refine W.widen (k := 0) (n := 0) (Nat.le_of_ble_eq_true rfl) (Nat.le_of_ble_eq_true rfl) ?_
    exact W.vret hx hb hr (fun tz htz hW => ⟨⟨(), rfl, trivial, g_end htz hP⟩, hS.F htz⟩) hS.2.2 dX5_doStepsDue_86
  · skip
    have hlti1 : i1 < h.1 := Nat.lt_of_not_le (fun q => hc_1 (nI_le q (by omega)))
    refine lv_aload_n hx hb dX5_doStepsDue_13 rfl (lv_at hl 1 rfl) ?_
    refine m_get (C := RX5) (T := TX5) (N := 15) (ci := 6) (v := .ref (al (B + 5))) hx hb hts uX5 hown hE hP B rfl ov_s rfl 2 (by decide) (hts _ q175) (fun _ h9 => h9) rfl dX5_doStepsDue_14 ?_
    refine lv_iload_n hx hb dX5_doStepsDue_17 rfl (lv_at hl 0 rfl) ?_
    refine g_aft_r (g_runV (As := [.int (nI i1)]) (rest := []) hx hb hml hown hts (kJx4a65c_get_915e3 l G al (ov G al k B c (it (fun i g => mDueC k h i g) i1 g)) (B + 5) (B + 6) h.1 (fun i => 300 + 3 * i) i1 (gH_ov hH hB hJ).1 hlti1) (fcwV 1 hts q188 q56 q57 q50 q43 rfl rfl (by decide +kernel) ⟨(Nat.le_of_ble_eq_true rfl), (Nat.le_of_ble_eq_true rfl)⟩) hE hb0 hP hS (m_recvL hE hP (gH_ov hH hB hJ).1 rfl) rfl hl.1 rfl (Nat.le_of_ble_eq_true rfl) dX5_doStepsDue_18 ⟨(Nat.le_of_ble_eq_true rfl), (Nat.le_of_ble_eq_true rfl)⟩) hS (fun u H locs hP hS => ?_)
    refine g_topr (v := al (300 + 3 * i1)) rfl ?_
    refine m_cast hx hb hown (hts _ q230) hE hP (300 + 3 * i1) rfl ((gH_ov hH hB hJ).2.2.1 i1 hlti1).2.2.1 rfl dX5_doStepsDue_21 ?_
    refine lv_astore_n (lv' := [(2, .ref (al (300 + 3 * i1))), (1, .int (nI i1)), (0, .ref (al B))]) hx hb dX5_doStepsDue_24 rfl hl (by decide) rfl (fun ls hl => ?_)
    refine lv_iconst (v := 0) hx hb dX5_doStepsDue_25 (by decide) ?_
    refine lv_istore_n (lv' := [(3, .int 0), (2, .ref (al (300 + 3 * i1))), (1, .int (nI i1)), (0, .ref (al B))]) hx hb dX5_doStepsDue_26 rfl hl (by decide) rfl (fun ls hl => ?_)
    refine g_loop (al := al) (N := 3) (nL := 5) (Wi := fun i2 => ov G al k B c (it (fun s g => if mDue h i1 (3 * h.2.1 i1 + s) = g 0 4 then mStep k h (3 * h.2.1 i1 + s) (h.2.2.1 i1) g else g) i2 (it (fun i g => mDueC k h i g) i1 g))) (Li := fun i2 => [(3, .int (nI i2)), (2, .ref (al (300 + 3 * i1))), (1, .int (nI i1)), (0, .ref (al B))]) hP hS (lv_sub hl [0, 1, 2, 3] rfl) (fun i2 hii2 ihi2 H locs ls hP hS hl => ?_)
    have hP : mP G al (ov G al k B c (it (fun s g => if mDue h i1 (3 * h.2.1 i1 + s) = g 0 4 then mStep k h (3 * h.2.1 i1 + s) (h.2.2.1 i1) g else g) i2 (it (fun i g => mDueC k h i g) i1 g))) H := hP
    have hl : lv_has ls 5 [(3, .int (nI i2)), (2, .ref (al (300 + 3 * i1))), (1, .int (nI i1)), (0, .ref (al B))] := hl
    refine lv_iload_n hx hb dX5_doStepsDue_27 rfl (lv_at hl 0 rfl) ?_
    refine lv_aload_n hx hb dX5_doStepsDue_28 rfl (lv_at hl 1 rfl) ?_
    refine m_get (C := RX1) (T := TX1) (N := 3) (ci := 2) (v := .ref (al (300 + 3 * i1 + 1))) hx hb hts uX1 hown hE hP (300 + 3 * i1) rfl ((gH_ov hH hB hJ).2.2.1 i1 hlti1).2.2.1 rfl 0 (by decide) (hts _ q231) (fun _ h9 => h9) rfl dX5_doStepsDue_29 ?_
    refine g_aft_i (g_runV (As := []) (rest := [.int (nI i2)]) hx hb hml hown hts (kJx4a65c_size_8abf5 l G al (ov G al k B c (it (fun s g => if mDue h i1 (3 * h.2.1 i1 + s) = g 0 4 then mStep k h (3 * h.2.1 i1 + s) (h.2.2.1 i1) g else g) i2 (it (fun i g => mDueC k h i g) i1 g))) (300 + 3 * i1 + 1) (300 + 3 * i1 + 2) 3 (fun s => 20 + (3 * h.2.1 i1 + s)) ((gH_ov hH hB hJ).2.2.1 i1 hlti1).2.2.2) (fcwV 0 hts q187 q53 q54 q50 q34 rfl rfl (by decide +kernel) ⟨(Nat.le_of_ble_eq_true rfl), (Nat.le_of_ble_eq_true rfl)⟩) hE hb0 hP hS (m_recvL hE hP ((gH_ov hH hB hJ).2.2.1 i1 hlti1).2.2.2 rfl) rfl hl.1 rfl (Nat.le_of_ble_eq_true rfl) dX5_doStepsDue_32 ⟨(Nat.le_of_ble_eq_true rfl), (Nat.le_of_ble_eq_true rfl)⟩) hS (fun u H locs hP hS => ?_)
    refine f_topi (v := nI 3) rfl ?_
    refine lv_icmp_ge (tgt := 80) hx hb dX5_doStepsDue_35 (by decide) (fun hc_2 => ?_) (fun hc_2 => ?_)
    · skip
      have hgei2 : 3 ≤ i2 := (nI_leI (a := 3) (by omega) (by omega)).mp hc_2
      obtain rfl : 3 = i2 := Nat.le_antisymm hgei2 hii2
      have hP : mP G al (ov G al k B c (it (fun s g => if mDue h i1 (3 * h.2.1 i1 + s) = g 0 4 then mStep k h (3 * h.2.1 i1 + s) (h.2.2.1 i1) g else g) 3 (it (fun i g => mDueC k h i g) i1 g))) H := hP
      have hl : lv_has ls 5 [(3, .int (nI 3)), (2, .ref (al (300 + 3 * i1))), (1, .int (nI i1)), (0, .ref (al B))] := hl
      refine lv_iinc (v := nI (i1 + 1)) (lv' := [(1, .int (nI (i1 + 1))), (3, .int (nI 3)), (2, .ref (al (300 + 3 * i1))), (0, .ref (al B))]) hx hb dX5_doStepsDue_80 hl (k := 2) rfl (f_inc _) (by decide) rfl (fun ls hl => ?_)
      refine lv_goto (tgt := 2) hx hb dX5_doStepsDue_83 (by decide) ?_
      exact ihi1 hlti1 _ _ _ (m_cv hP (show ov G al k B c (it (fun s g => if mDue h i1 (3 * h.2.1 i1 + s) = g 0 4 then mStep k h (3 * h.2.1 i1 + s) (h.2.2.1 i1) g else g) 3 (it (fun i g => mDueC k h i g) i1 g)) = ov G al k B c (it (fun i g => mDueC k h i g) (i1 + 1) g) from (by rw [it_s]; rfl))) hS (lv_sub hl [0, 3] rfl)
    · skip
      have hlti2 : i2 < 3 := Nat.lt_of_not_le (fun q => hc_2 (nI_le (a := 3) q (by omega)))
      have hq3 : 3 * h.2.1 i1 + i2 < 6 := by have := (hH.2.2.1 i1 hlti1).1; omega
      have hs10 : h.2.2.1 i1 < 10 := (hH.2.2.1 i1 hlti1).2.1
      refine lv_aload_n hx hb dX5_doStepsDue_38 rfl (lv_at hl 1 rfl) ?_
      refine m_get (C := RX1) (T := TX1) (N := 3) (ci := 2) (v := .ref (al (300 + 3 * i1 + 1))) hx hb hts uX1 hown hE hP (300 + 3 * i1) rfl ((gH_ov hH hB hJ).2.2.1 i1 hlti1).2.2.1 rfl 0 (by decide) (hts _ q231) (fun _ h9 => h9) rfl dX5_doStepsDue_39 ?_
      refine lv_iload_n hx hb dX5_doStepsDue_42 rfl (lv_at hl 0 rfl) ?_
      refine g_aft_r (g_runV (As := [.int (nI i2)]) (rest := []) hx hb hml hown hts (kJx4a65c_get_915e3 l G al (ov G al k B c (it (fun s g => if mDue h i1 (3 * h.2.1 i1 + s) = g 0 4 then mStep k h (3 * h.2.1 i1 + s) (h.2.2.1 i1) g else g) i2 (it (fun i g => mDueC k h i g) i1 g))) (300 + 3 * i1 + 1) (300 + 3 * i1 + 2) 3 (fun s => 20 + (3 * h.2.1 i1 + s)) i2 ((gH_ov hH hB hJ).2.2.1 i1 hlti1).2.2.2 hlti2) (fcwV 1 hts q188 q56 q57 q50 q43 rfl rfl (by decide +kernel) ⟨(Nat.le_of_ble_eq_true rfl), (Nat.le_of_ble_eq_true rfl)⟩) hE hb0 hP hS (m_recvL hE hP ((gH_ov hH hB hJ).2.2.1 i1 hlti1).2.2.2 rfl) rfl hl.1 rfl (Nat.le_of_ble_eq_true rfl) dX5_doStepsDue_43 ⟨(Nat.le_of_ble_eq_true rfl), (Nat.le_of_ble_eq_true rfl)⟩) hS (fun u H locs hP hS => ?_)
      refine g_topr (v := al (20 + (3 * h.2.1 i1 + i2))) rfl ?_
      refine m_cast hx hb hown (hts _ q232) hE hP (20 + (3 * h.2.1 i1 + i2)) rfl ((gH_ov hH hB hJ).2.2.2 (3 * h.2.1 i1 + i2) hq3) rfl dX5_doStepsDue_46 ?_
      refine lv_astore (lv' := [(4, .ref (al (20 + (3 * h.2.1 i1 + i2)))), (3, .int (nI i2)), (2, .ref (al (300 + 3 * i1))), (1, .int (nI i1)), (0, .ref (al B))]) hx hb dX5_doStepsDue_49 hl (by decide) rfl (fun ls hl => ?_)
      refine lv_aload_n hx hb dX5_doStepsDue_51 rfl (lv_at hl 2 rfl) ?_
      refine lv_aload hx hb dX5_doStepsDue_52 (lv_at hl 0 rfl) ?_
      refine g_aft_i (g_runV (As := [.ref (al (20 + (3 * h.2.1 i1 + i2)))]) (rest := []) hx hb hml hown hts (kX1_dueOf l G al k h B c (it (fun s g => if mDue h i1 (3 * h.2.1 i1 + s) = g 0 4 then mStep k h (3 * h.2.1 i1 + s) (h.2.2.1 i1) g else g) i2 (it (fun i g => mDueC k h i g) i1 g)) i1 (3 * h.2.1 i1 + i2) hF hH hB hlti1 hq3) (fcwV 1 hts q235 q59 q60 q61 q32 rfl rfl (by decide +kernel) ⟨(Nat.le_of_ble_eq_true rfl), (Nat.le_of_ble_eq_true rfl)⟩) hE hb0 hP hS (m_recvA hE hP (300 + 3 * i1) rfl ((gH_ov hH hB hJ).2.2.1 i1 hlti1).2.2.1 rfl) rfl hl.1 rfl (Nat.le_of_ble_eq_true rfl) dX5_doStepsDue_54 ⟨(Nat.le_of_ble_eq_true rfl), (Nat.le_of_ble_eq_true rfl)⟩) hS (fun u H locs hP hS => ?_)
      have hP : mP G al (ov G al k B c (it (fun s g => if mDue h i1 (3 * h.2.1 i1 + s) = g 0 4 then mStep k h (3 * h.2.1 i1 + s) (h.2.2.1 i1) g else g) i2 (it (fun i g => mDueC k h i g) i1 g))) H := hP
      refine f_topi (v := mDue h i1 (3 * h.2.1 i1 + i2)) rfl ?_
      refine lv_aload_n hx hb dX5_doStepsDue_57 rfl (lv_at hl 4 rfl) ?_
      refine m_get (C := RX5) (T := TX5) (N := 15) (ci := 6) (v := .int ((it (fun s g => if mDue h i1 (3 * h.2.1 i1 + s) = g 0 4 then mStep k h (3 * h.2.1 i1 + s) (h.2.2.1 i1) g else g) i2 (it (fun i g => mDueC k h i g) i1 g)) 0 4)) hx hb hts uX5 hown hE hP B rfl ov_s rfl 4 (by decide) (hts _ q233) (fun _ h9 => h9) rfl dX5_doStepsDue_58 ?_
      refine lv_icmp_ne (tgt := 74) hx hb dX5_doStepsDue_61 (by decide) (fun hc_3 => ?_) (fun hc_3 => ?_)
      · skip
        refine lv_iinc (v := nI (i2 + 1)) (lv' := [(3, .int (nI (i2 + 1))), (4, .ref (al (20 + (3 * h.2.1 i1 + i2)))), (2, .ref (al (300 + 3 * i1))), (1, .int (nI i1)), (0, .ref (al B))]) hx hb dX5_doStepsDue_74 hl (k := 1) rfl (f_inc _) (by decide) rfl (fun ls hl => ?_)
        refine lv_goto (tgt := 27) hx hb dX5_doStepsDue_77 (by decide) ?_
        exact ihi2 hlti2 _ _ _ (m_cv hP (show ov G al k B c (it (fun s g => if mDue h i1 (3 * h.2.1 i1 + s) = g 0 4 then mStep k h (3 * h.2.1 i1 + s) (h.2.2.1 i1) g else g) i2 (it (fun i g => mDueC k h i g) i1 g)) = ov G al k B c (it (fun s g => if mDue h i1 (3 * h.2.1 i1 + s) = g 0 4 then mStep k h (3 * h.2.1 i1 + s) (h.2.2.1 i1) g else g) (i2 + 1) (it (fun i g => mDueC k h i g) i1 g)) from (by first | rfl | (simp only [it_s, if_neg hc_3]; done) | (simp only [it_s, if_neg hc_3]; rfl)))) hS (lv_sub hl [0, 2, 3, 4] rfl)
      · skip
        refine lv_aload_n hx hb dX5_doStepsDue_64 rfl (lv_at hl 4 rfl) ?_
        refine lv_aload hx hb dX5_doStepsDue_65 (lv_at hl 0 rfl) ?_
        refine lv_aload_n hx hb dX5_doStepsDue_67 rfl (lv_at hl 2 rfl) ?_
        refine m_get (C := RX1) (T := TX1) (N := 3) (ci := 2) (v := .int (nI (h.2.2.1 i1))) hx hb hts uX1 hown hE hP (300 + 3 * i1) rfl ((gH_ov hH hB hJ).2.2.1 i1 hlti1).2.2.1 rfl 1 (by decide) (hts _ q234) (fun _ h9 => h9) rfl dX5_doStepsDue_68 ?_
        refine g_aft_v (g_runV (As := [.ref (al (20 + (3 * h.2.1 i1 + i2))), .int (nI (h.2.2.1 i1))]) (rest := []) hx hb hml hown hts (kX5_doStep l G al k h B c (it (fun s g => if mDue h i1 (3 * h.2.1 i1 + s) = g 0 4 then mStep k h (3 * h.2.1 i1 + s) (h.2.2.1 i1) g else g) i2 (it (fun i g => mDueC k h i g) i1 g)) (3 * h.2.1 i1 + i2) (h.2.2.1 i1) hF hH hB hq3 hs10) (fcwV 2 hts q236 q237 q238 q211 q229 rfl rfl (by decide +kernel) ⟨(Nat.le_of_ble_eq_true rfl), (Nat.le_of_ble_eq_true rfl)⟩) hE hb0 hP hS (m_recvA hE hP B rfl ov_s rfl) rfl hl.1 rfl (Nat.le_of_ble_eq_true rfl) dX5_doStepsDue_71 ⟨(Nat.le_of_ble_eq_true rfl), (Nat.le_of_ble_eq_true rfl)⟩) hS (fun u H locs hP hS => ?_)
        have hP : mP G al (ov G al k B c (mStep k h (3 * h.2.1 i1 + i2) (h.2.2.1 i1) (it (fun s g => if mDue h i1 (3 * h.2.1 i1 + s) = g 0 4 then mStep k h (3 * h.2.1 i1 + s) (h.2.2.1 i1) g else g) i2 (it (fun i g => mDueC k h i g) i1 g)))) H := hP
        refine lv_iinc (v := nI (i2 + 1)) (lv' := [(3, .int (nI (i2 + 1))), (4, .ref (al (20 + (3 * h.2.1 i1 + i2)))), (2, .ref (al (300 + 3 * i1))), (1, .int (nI i1)), (0, .ref (al B))]) hx hb dX5_doStepsDue_74 hl (k := 1) rfl (f_inc _) (by decide) rfl (fun ls hl => ?_)
        refine lv_goto (tgt := 27) hx hb dX5_doStepsDue_77 (by decide) ?_
        exact ihi2 hlti2 _ _ _ (m_cv hP (show ov G al k B c (mStep k h (3 * h.2.1 i1 + i2) (h.2.2.1 i1) (it (fun s g => if mDue h i1 (3 * h.2.1 i1 + s) = g 0 4 then mStep k h (3 * h.2.1 i1 + s) (h.2.2.1 i1) g else g) i2 (it (fun i g => mDueC k h i g) i1 g))) = ov G al k B c (it (fun s g => if mDue h i1 (3 * h.2.1 i1 + s) = g 0 4 then mStep k h (3 * h.2.1 i1 + s) (h.2.2.1 i1) g else g) (i2 + 1) (it (fun i g => mDueC k h i g) i1 g)) from (by first | rfl | (simp only [it_s, if_pos hc_3]; done) | (simp only [it_s, if_pos hc_3]; rfl)))) hS (lv_sub hl [0, 2, 3, 4] rfl)
set_option maxHeartbeats 4000000 in
set_option maxRecDepth 100000 in
theorem kX5_tick (l : Launch) (G : gT) (al : Nat → Nat) (k : gC) (h : gK) (B : Nat) (c : mC) (g : St) (hF : gF G al k B c) (hH : gH G al B h c) (hB : B = 100 ∨ B = 200) : Met l yX5_tick (fW yX5_tick cX5_tick 2 (some .int)) { frames := 6, cells := 0, slots := 0, locals := 133 } (gPre G al (ov G al k B c g) [.ref (al B)]) (gQi (S := Unit) G (fun _ => mDown k h g) (fun _ => al) (fun _ => ov G al k B c (mTick k h g))) 0 0 (gA G) := by
  refine Met.ofW (cc := cX5_tick) (maxL := 2) (ret := (some .int)) (by decide) rfl ?_
  intro pz ez s m args below meth c₀ s₁ Bo hml hv
  obtain ⟨rfl, hb0, hP, hE⟩ := hv
  have hx := Bo.exec
  have hb := Bo.bytes
  have hr := Bo.returns
  have hts0 := atoms_spec (ws := (fW yX5_tick cX5_tick 2 (some .int))) Bo.pre
  have hts : ∀ w ∈ fA, w.before _ s = true := fun w h => hts0 w (List.mem_cons_of_mem _ h)
  have hown : s.vm.findClass RX5 = some m.cls := findClass_of_methodNamed Bo.named
  have hlocks := Bo.notSynchronized
  have hl := lv_entry ([.ref (al B)]) (n := 2) (Nat.le_of_ble_eq_true rfl)
  rw [lg_entry_eq]
  generalize (lg_sl ([.ref (al B)]) ++ List.replicate (2 - (lg_sl ([.ref (al B)])).length) Slot.unset).toArray = ls at hl ⊢
  have hl : lv_has ls 2 [(0, .ref (al B))] := hl
  have hJ := gF_J hF
  refine g_start hP (fun H hP hS => ?_)
  refine lv_aload_n hx hb dX5_tick_0 rfl (lv_at hl 0 rfl) ?_
  refine lv_dup hx hb dX5_tick_1 rfl ?_
  refine m_get (C := RX5) (T := TX5) (N := 15) (ci := 6) (v := .int (g 0 4)) hx hb hts uX5 hown hE hP B rfl ov_s rfl 4 (by decide) (hts _ q233) (fun _ h9 => h9) rfl dX5_tick_2 ?_
  refine lv_iconst (v := 1) hx hb dX5_tick_5 (by decide) ?_
  refine lv_iadd hx hb dX5_tick_6 ?_
  refine m_put (v := .int ((g 0 4) + 1)) (ty := .int) (C := RX5) (T := TX5) (N := 15) (ci := 6) hx hb hts uX5 tyX5 tyX5_ok nmX5 hown hE hP hS B rfl ov_s rfl 4 (by decide) (hts _ q233) (fun _ h9 => h9) rfl (by decide +kernel) rfl rfl (Nat.le_of_ble_eq_true rfl) dX5_tick_7 (fun H locs hP hS => ?_)
  have hP := m_cv hP (ov_us (r := upd (g 0) 4 ((g 0 4) + 1)) rfl)
  have hP : mP G al (ov G al k B c (s2 g 0 4 ((g 0 4) + 1))) H := hP
  refine lv_aload_n hx hb dX5_tick_10 rfl (lv_at hl 0 rfl) ?_
  refine m_get (C := RX5) (T := TX5) (N := 15) (ci := 6) (v := .int (bz ((s2 g 0 4 ((g 0 4) + 1)) 0 14))) hx hb hts uX5 hown hE hP B rfl ov_s rfl 14 (by decide) (hts _ q310) (fun _ h9 => h9) rfl dX5_tick_11 ?_
  refine f_topi (v := bz (g 0 14)) (congrArg bz (s2_k _ _ _ (by decide))) ?_
  refine lv_if_ne (tgt := 21) hx hb dX5_tick_14 (by decide) (fun hc_1 => ?_) (fun hc_1 => ?_)
  · skip
    refine lv_aload_n hx hb dX5_tick_21 rfl (lv_at hl 0 rfl) ?_
    refine g_aft_v (g_runV (As := []) (rest := []) hx hb hml hown hts (kX5_turnDrivesAndValves l G al k h B c (s2 g 0 4 ((g 0 4) + 1)) hF) (fcwV 0 hts q322 q323 q324 q211 q246 rfl rfl (by decide +kernel) ⟨(Nat.le_of_ble_eq_true rfl), (Nat.le_of_ble_eq_true rfl)⟩) hE hb0 hP hS (m_recvA hE hP B rfl ov_s rfl) rfl hl.1 rfl (Nat.le_of_ble_eq_true rfl) dX5_tick_22 ⟨(Nat.le_of_ble_eq_true rfl), (Nat.le_of_ble_eq_true rfl)⟩) hS (fun u H locs hP hS => ?_)
    have hP : mP G al (ov G al k B c (mTurns k (s2 g 0 4 ((g 0 4) + 1)))) H := hP
    refine lv_aload_n hx hb dX5_tick_25 rfl (lv_at hl 0 rfl) ?_
    refine g_aft_i (g_runV (As := []) (rest := []) hx hb hml hown hts (kX5_letFall l G al k h B c (mTurns k (s2 g 0 4 ((g 0 4) + 1))) hF) (fcwV 0 hts q325 q326 q327 q211 q266 rfl rfl (by decide +kernel) ⟨(Nat.le_of_ble_eq_true rfl), (Nat.le_of_ble_eq_true rfl)⟩) hE hb0 hP hS (m_recvA hE hP B rfl ov_s rfl) rfl hl.1 rfl (Nat.le_of_ble_eq_true rfl) dX5_tick_26 ⟨(Nat.le_of_ble_eq_true rfl), (Nat.le_of_ble_eq_true rfl)⟩) hS (fun u H locs hP hS => ?_)
    have hP : mP G al (ov G al k B c (mFall (mTurns k (s2 g 0 4 ((g 0 4) + 1))))) H := hP
    refine f_topi (v := mFallIn (mTurns k (s2 g 0 4 ((g 0 4) + 1))) ((mTurns k (s2 g 0 4 ((g 0 4) + 1))) 0 4)) rfl ?_
    refine lv_istore_n (lv' := [(1, .int (mFallIn (mTurns k (s2 g 0 4 ((g 0 4) + 1))) ((mTurns k (s2 g 0 4 ((g 0 4) + 1))) 0 4))), (0, .ref (al B))]) hx hb dX5_tick_29 rfl hl (by decide) rfl (fun ls hl => ?_)
    refine lv_aload_n hx hb dX5_tick_30 rfl (lv_at hl 1 rfl) ?_
    refine g_aft_v (g_runV (As := []) (rest := []) hx hb hml hown hts (kX5_throwWater l G al k h B c (mFall (mTurns k (s2 g 0 4 ((g 0 4) + 1)))) hF) (fcwV 0 hts q328 q329 q330 q211 q289 rfl rfl (by decide +kernel) ⟨(Nat.le_of_ble_eq_true rfl), (Nat.le_of_ble_eq_true rfl)⟩) hE hb0 hP hS (m_recvA hE hP B rfl ov_s rfl) rfl hl.1 rfl (Nat.le_of_ble_eq_true rfl) dX5_tick_31 ⟨(Nat.le_of_ble_eq_true rfl), (Nat.le_of_ble_eq_true rfl)⟩) hS (fun u H locs hP hS => ?_)
    have hP : mP G al (ov G al k B c (mThrow k (mFall (mTurns k (s2 g 0 4 ((g 0 4) + 1)))))) H := hP
    refine lv_aload_n hx hb dX5_tick_34 rfl (lv_at hl 1 rfl) ?_
    refine g_aft_v (g_runV (As := []) (rest := []) hx hb hml hown hts (kX5_useEnergy l G al k h B c (mThrow k (mFall (mTurns k (s2 g 0 4 ((g 0 4) + 1))))) hF) (fcwV 0 hts q331 q332 q333 q211 q303 rfl rfl (by decide +kernel) ⟨(Nat.le_of_ble_eq_true rfl), (Nat.le_of_ble_eq_true rfl)⟩) hE hb0 hP hS (m_recvA hE hP B rfl ov_s rfl) rfl hl.1 rfl (Nat.le_of_ble_eq_true rfl) dX5_tick_35 ⟨(Nat.le_of_ble_eq_true rfl), (Nat.le_of_ble_eq_true rfl)⟩) hS (fun u H locs hP hS => ?_)
    have hP : mP G al (ov G al k B c (mEnergy k (mThrow k (mFall (mTurns k (s2 g 0 4 ((g 0 4) + 1))))))) H := hP
    refine lv_aload_n hx hb dX5_tick_38 rfl (lv_at hl 1 rfl) ?_
    refine g_aft_v (g_runV (As := []) (rest := []) hx hb hml hown hts (kX5_tripPumpsRunningDry l G al k h B c (mEnergy k (mThrow k (mFall (mTurns k (s2 g 0 4 ((g 0 4) + 1)))))) hF) (fcwV 0 hts q334 q335 q336 q211 q307 rfl rfl (by decide +kernel) ⟨(Nat.le_of_ble_eq_true rfl), (Nat.le_of_ble_eq_true rfl)⟩) hE hb0 hP hS (m_recvA hE hP B rfl ov_s rfl) rfl hl.1 rfl (Nat.le_of_ble_eq_true rfl) dX5_tick_39 ⟨(Nat.le_of_ble_eq_true rfl), (Nat.le_of_ble_eq_true rfl)⟩) hS (fun u H locs hP hS => ?_)
    have hP : mP G al (ov G al k B c (mDry (mEnergy k (mThrow k (mFall (mTurns k (s2 g 0 4 ((g 0 4) + 1)))))))) H := hP
    refine lv_aload_n hx hb dX5_tick_42 rfl (lv_at hl 1 rfl) ?_
    refine g_aft_v (g_runV (As := []) (rest := []) hx hb hml hown hts (kX5_shortLamps l G al k h B c (mDry (mEnergy k (mThrow k (mFall (mTurns k (s2 g 0 4 ((g 0 4) + 1))))))) hF) (fcwV 0 hts q337 q338 q339 q211 q318 rfl rfl (by decide +kernel) ⟨(Nat.le_of_ble_eq_true rfl), (Nat.le_of_ble_eq_true rfl)⟩) hE hb0 hP hS (m_recvA hE hP B rfl ov_s rfl) rfl hl.1 rfl (Nat.le_of_ble_eq_true rfl) dX5_tick_43 ⟨(Nat.le_of_ble_eq_true rfl), (Nat.le_of_ble_eq_true rfl)⟩) hS (fun u H locs hP hS => ?_)
    have hP : mP G al (ov G al k B c (mLamp k (mDry (mEnergy k (mThrow k (mFall (mTurns k (s2 g 0 4 ((g 0 4) + 1))))))))) H := hP
    refine lv_iload_n hx hb dX5_tick_46 rfl (lv_at hl 0 rfl) ?_
    have hP : mP G al (ov G al k B c (mTick k h g)) H := m_cv hP (show ov G al k B c (mLamp k (mDry (mEnergy k (mThrow k (mFall (mTurns k (s2 g 0 4 ((g 0 4) + 1)))))))) = ov G al k B c (mTick k h g) from (by unfold mTick mTick0; rw [if_neg hc_1]; try rfl))
    refine W.widen (k := 0) (n := 0) (Nat.le_of_ble_eq_true rfl) (Nat.le_of_ble_eq_true rfl) ?_
    exact W.iret (v := mFallIn (mTurns k (s2 g 0 4 ((g 0 4) + 1))) ((mTurns k (s2 g 0 4 ((g 0 4) + 1))) 0 4)) hx hb hr (fun tz htz hW => ⟨⟨mFallIn (mTurns k (s2 g 0 4 ((g 0 4) + 1))) ((mTurns k (s2 g 0 4 ((g 0 4) + 1))) 0 4), (), rfl, (by unfold mDown mTick0; rw [if_neg hc_1]; try rfl), g_end htz hP⟩, hS.F htz⟩) hS.2.2 dX5_tick_47
  · skip
    refine lv_aload_n hx hb dX5_tick_17 rfl (lv_at hl 0 rfl) ?_
    refine g_aft_v (g_runV (As := []) (rest := []) hx hb hml hown hts (kX5_doStepsDue l G al k h B c (s2 g 0 4 ((g 0 4) + 1)) hF hH hB) (fcwV 0 hts q319 q320 q321 q211 q239 rfl rfl (by decide +kernel) ⟨(Nat.le_of_ble_eq_true rfl), (Nat.le_of_ble_eq_true rfl)⟩) hE hb0 hP hS (m_recvA hE hP B rfl ov_s rfl) rfl hl.1 rfl (Nat.le_of_ble_eq_true rfl) dX5_tick_18 ⟨(Nat.le_of_ble_eq_true rfl), (Nat.le_of_ble_eq_true rfl)⟩) hS (fun u H locs hP hS => ?_)
    have hP : mP G al (ov G al k B c (mSteps k h (s2 g 0 4 ((g 0 4) + 1)))) H := hP
    refine lv_aload_n hx hb dX5_tick_21 rfl (lv_at hl 0 rfl) ?_
    refine g_aft_v (g_runV (As := []) (rest := []) hx hb hml hown hts (kX5_turnDrivesAndValves l G al k h B c (mSteps k h (s2 g 0 4 ((g 0 4) + 1))) hF) (fcwV 0 hts q322 q323 q324 q211 q246 rfl rfl (by decide +kernel) ⟨(Nat.le_of_ble_eq_true rfl), (Nat.le_of_ble_eq_true rfl)⟩) hE hb0 hP hS (m_recvA hE hP B rfl ov_s rfl) rfl hl.1 rfl (Nat.le_of_ble_eq_true rfl) dX5_tick_22 ⟨(Nat.le_of_ble_eq_true rfl), (Nat.le_of_ble_eq_true rfl)⟩) hS (fun u H locs hP hS => ?_)
    have hP : mP G al (ov G al k B c (mTurns k (mSteps k h (s2 g 0 4 ((g 0 4) + 1))))) H := hP
    refine lv_aload_n hx hb dX5_tick_25 rfl (lv_at hl 0 rfl) ?_
    refine g_aft_i (g_runV (As := []) (rest := []) hx hb hml hown hts (kX5_letFall l G al k h B c (mTurns k (mSteps k h (s2 g 0 4 ((g 0 4) + 1)))) hF) (fcwV 0 hts q325 q326 q327 q211 q266 rfl rfl (by decide +kernel) ⟨(Nat.le_of_ble_eq_true rfl), (Nat.le_of_ble_eq_true rfl)⟩) hE hb0 hP hS (m_recvA hE hP B rfl ov_s rfl) rfl hl.1 rfl (Nat.le_of_ble_eq_true rfl) dX5_tick_26 ⟨(Nat.le_of_ble_eq_true rfl), (Nat.le_of_ble_eq_true rfl)⟩) hS (fun u H locs hP hS => ?_)
    have hP : mP G al (ov G al k B c (mFall (mTurns k (mSteps k h (s2 g 0 4 ((g 0 4) + 1)))))) H := hP
    refine f_topi (v := mFallIn (mTurns k (mSteps k h (s2 g 0 4 ((g 0 4) + 1)))) ((mTurns k (mSteps k h (s2 g 0 4 ((g 0 4) + 1)))) 0 4)) rfl ?_
    refine lv_istore_n (lv' := [(1, .int (mFallIn (mTurns k (mSteps k h (s2 g 0 4 ((g 0 4) + 1)))) ((mTurns k (mSteps k h (s2 g 0 4 ((g 0 4) + 1)))) 0 4))), (0, .ref (al B))]) hx hb dX5_tick_29 rfl hl (by decide) rfl (fun ls hl => ?_)
    refine lv_aload_n hx hb dX5_tick_30 rfl (lv_at hl 1 rfl) ?_
    refine g_aft_v (g_runV (As := []) (rest := []) hx hb hml hown hts (kX5_throwWater l G al k h B c (mFall (mTurns k (mSteps k h (s2 g 0 4 ((g 0 4) + 1))))) hF) (fcwV 0 hts q328 q329 q330 q211 q289 rfl rfl (by decide +kernel) ⟨(Nat.le_of_ble_eq_true rfl), (Nat.le_of_ble_eq_true rfl)⟩) hE hb0 hP hS (m_recvA hE hP B rfl ov_s rfl) rfl hl.1 rfl (Nat.le_of_ble_eq_true rfl) dX5_tick_31 ⟨(Nat.le_of_ble_eq_true rfl), (Nat.le_of_ble_eq_true rfl)⟩) hS (fun u H locs hP hS => ?_)
    have hP : mP G al (ov G al k B c (mThrow k (mFall (mTurns k (mSteps k h (s2 g 0 4 ((g 0 4) + 1))))))) H := hP
    refine lv_aload_n hx hb dX5_tick_34 rfl (lv_at hl 1 rfl) ?_
    refine g_aft_v (g_runV (As := []) (rest := []) hx hb hml hown hts (kX5_useEnergy l G al k h B c (mThrow k (mFall (mTurns k (mSteps k h (s2 g 0 4 ((g 0 4) + 1)))))) hF) (fcwV 0 hts q331 q332 q333 q211 q303 rfl rfl (by decide +kernel) ⟨(Nat.le_of_ble_eq_true rfl), (Nat.le_of_ble_eq_true rfl)⟩) hE hb0 hP hS (m_recvA hE hP B rfl ov_s rfl) rfl hl.1 rfl (Nat.le_of_ble_eq_true rfl) dX5_tick_35 ⟨(Nat.le_of_ble_eq_true rfl), (Nat.le_of_ble_eq_true rfl)⟩) hS (fun u H locs hP hS => ?_)
    have hP : mP G al (ov G al k B c (mEnergy k (mThrow k (mFall (mTurns k (mSteps k h (s2 g 0 4 ((g 0 4) + 1)))))))) H := hP
    refine lv_aload_n hx hb dX5_tick_38 rfl (lv_at hl 1 rfl) ?_
    refine g_aft_v (g_runV (As := []) (rest := []) hx hb hml hown hts (kX5_tripPumpsRunningDry l G al k h B c (mEnergy k (mThrow k (mFall (mTurns k (mSteps k h (s2 g 0 4 ((g 0 4) + 1))))))) hF) (fcwV 0 hts q334 q335 q336 q211 q307 rfl rfl (by decide +kernel) ⟨(Nat.le_of_ble_eq_true rfl), (Nat.le_of_ble_eq_true rfl)⟩) hE hb0 hP hS (m_recvA hE hP B rfl ov_s rfl) rfl hl.1 rfl (Nat.le_of_ble_eq_true rfl) dX5_tick_39 ⟨(Nat.le_of_ble_eq_true rfl), (Nat.le_of_ble_eq_true rfl)⟩) hS (fun u H locs hP hS => ?_)
    have hP : mP G al (ov G al k B c (mDry (mEnergy k (mThrow k (mFall (mTurns k (mSteps k h (s2 g 0 4 ((g 0 4) + 1))))))))) H := hP
    refine lv_aload_n hx hb dX5_tick_42 rfl (lv_at hl 1 rfl) ?_
    refine g_aft_v (g_runV (As := []) (rest := []) hx hb hml hown hts (kX5_shortLamps l G al k h B c (mDry (mEnergy k (mThrow k (mFall (mTurns k (mSteps k h (s2 g 0 4 ((g 0 4) + 1)))))))) hF) (fcwV 0 hts q337 q338 q339 q211 q318 rfl rfl (by decide +kernel) ⟨(Nat.le_of_ble_eq_true rfl), (Nat.le_of_ble_eq_true rfl)⟩) hE hb0 hP hS (m_recvA hE hP B rfl ov_s rfl) rfl hl.1 rfl (Nat.le_of_ble_eq_true rfl) dX5_tick_43 ⟨(Nat.le_of_ble_eq_true rfl), (Nat.le_of_ble_eq_true rfl)⟩) hS (fun u H locs hP hS => ?_)
    have hP : mP G al (ov G al k B c (mLamp k (mDry (mEnergy k (mThrow k (mFall (mTurns k (mSteps k h (s2 g 0 4 ((g 0 4) + 1)))))))))) H := hP
    refine lv_iload_n hx hb dX5_tick_46 rfl (lv_at hl 0 rfl) ?_
    have hP : mP G al (ov G al k B c (mTick k h g)) H := m_cv hP (show ov G al k B c (mLamp k (mDry (mEnergy k (mThrow k (mFall (mTurns k (mSteps k h (s2 g 0 4 ((g 0 4) + 1))))))))) = ov G al k B c (mTick k h g) from (by unfold mTick mTick0; rw [if_pos hc_1]; try rfl))
    refine W.widen (k := 0) (n := 0) (Nat.le_of_ble_eq_true rfl) (Nat.le_of_ble_eq_true rfl) ?_
    exact W.iret (v := mFallIn (mTurns k (mSteps k h (s2 g 0 4 ((g 0 4) + 1)))) ((mTurns k (mSteps k h (s2 g 0 4 ((g 0 4) + 1)))) 0 4)) hx hb hr (fun tz htz hW => ⟨⟨mFallIn (mTurns k (mSteps k h (s2 g 0 4 ((g 0 4) + 1)))) ((mTurns k (mSteps k h (s2 g 0 4 ((g 0 4) + 1)))) 0 4), (), rfl, (by unfold mDown mTick0; rw [if_pos hc_1]; try rfl), g_end htz hP⟩, hS.F htz⟩) hS.2.2 dX5_tick_47
set_option maxHeartbeats 4000000 in
set_option maxRecDepth 100000 in
theorem kX5_setPumpOfNumber (l : Launch) (G : gT) (al : Nat → Nat) (k : gC) (h : gK) (B : Nat) (c : mC) (g : St) (p : Nat) (v : Int32) (hF : gF G al k B c) (hp : p < 2) : Met l yX5_setPumpOfNumber (fW yX5_setPumpOfNumber cX5_setPumpOfNumber 3 none) { frames := 3, cells := 0, slots := 0, locals := 64 } (gPre G al (ov G al k B c g) [.ref (al B), .int (nI p), .int v]) (gQv (S := Unit) G (fun _ => al) (fun _ => ov G al k B c (mSetTo g p v))) 0 0 (gA G) := by
  refine Met.ofW (cc := cX5_setPumpOfNumber) (maxL := 3) (ret := none) (by decide) rfl ?_
  intro pz ez s m args below meth c₀ s₁ Bo hml hv
  obtain ⟨rfl, hb0, hP, hE⟩ := hv
  have hx := Bo.exec
  have hb := Bo.bytes
  have hr := Bo.returns
  have hts0 := atoms_spec (ws := (fW yX5_setPumpOfNumber cX5_setPumpOfNumber 3 none)) Bo.pre
  have hts : ∀ w ∈ fA, w.before _ s = true := fun w h => hts0 w (List.mem_cons_of_mem _ h)
  have hown : s.vm.findClass RX5 = some m.cls := findClass_of_methodNamed Bo.named
  have hlocks := Bo.notSynchronized
  have hl := lv_entry ([.ref (al B), .int (nI p), .int v]) (n := 3) (Nat.le_of_ble_eq_true rfl)
  rw [lg_entry_eq]
  generalize (lg_sl ([.ref (al B), .int (nI p), .int v]) ++ List.replicate (3 - (lg_sl ([.ref (al B), .int (nI p), .int v])).length) Slot.unset).toArray = ls at hl ⊢
  have hl : lv_has ls 3 [(0, .ref (al B)), (1, .int (nI p)), (2, .int v)] := hl
  have hJ := gF_J hF
  refine g_start hP (fun H hP hS => ?_)
  refine lv_iload_n hx hb dX5_setPumpOfNumber_0 rfl (lv_at hl 1 rfl) ?_
  refine lv_if_lt (tgt := 30) hx hb dX5_setPumpOfNumber_1 (by decide) (fun h => absurd h (nI_pos (by omega))) (fun _ => ?_)
  refine lv_iload_n hx hb dX5_setPumpOfNumber_4 rfl (lv_at hl 1 rfl) ?_
  refine lv_aload_n hx hb dX5_setPumpOfNumber_5 rfl (lv_at hl 0 rfl) ?_
  refine m_get (C := RX5) (T := TX5) (N := 15) (ci := 6) (v := .ref (al (B + 1))) hx hb hts uX5 hown hE hP B rfl ov_s rfl 0 (by decide) (hts _ q173) (fun _ h9 => h9) rfl dX5_setPumpOfNumber_6 ?_
  refine g_aft_i (g_runV (As := []) (rest := [.int (nI p)]) hx hb hml hown hts (kJx4a65c_size_8abf5 l G al (ov G al k B c g) (B + 1) (B + 2) 2 (fun p => B + 11 + p) (gF_p hF)) (fcwV 0 hts q187 q53 q54 q50 q34 rfl rfl (by decide +kernel) ⟨(Nat.le_of_ble_eq_true rfl), (Nat.le_of_ble_eq_true rfl)⟩) hE hb0 hP hS (m_recvL hE hP (gF_p hF) rfl) rfl hl.1 rfl (Nat.le_of_ble_eq_true rfl) dX5_setPumpOfNumber_9 ⟨(Nat.le_of_ble_eq_true rfl), (Nat.le_of_ble_eq_true rfl)⟩) hS (fun u H locs hP hS => ?_)
  refine f_topi (v := nI 2) rfl ?_
  refine lv_icmp_ge (tgt := 30) hx hb dX5_setPumpOfNumber_12 (by decide) (fun h => absurd h (nI_ge (b := 2) hp (by omega))) (fun _ => ?_)
  refine lv_aload_n hx hb dX5_setPumpOfNumber_15 rfl (lv_at hl 0 rfl) ?_
  refine m_get (C := RX5) (T := TX5) (N := 15) (ci := 6) (v := .ref (al (B + 1))) hx hb hts uX5 hown hE hP B rfl ov_s rfl 0 (by decide) (hts _ q173) (fun _ h9 => h9) rfl dX5_setPumpOfNumber_16 ?_
  refine lv_iload_n hx hb dX5_setPumpOfNumber_19 rfl (lv_at hl 1 rfl) ?_
  refine g_aft_r (g_runV (As := [.int (nI p)]) (rest := []) hx hb hml hown hts (kJx4a65c_get_915e3 l G al (ov G al k B c g) (B + 1) (B + 2) 2 (fun p => B + 11 + p) p (gF_p hF) hp) (fcwV 1 hts q188 q56 q57 q50 q43 rfl rfl (by decide +kernel) ⟨(Nat.le_of_ble_eq_true rfl), (Nat.le_of_ble_eq_true rfl)⟩) hE hb0 hP hS (m_recvL hE hP (gF_p hF) rfl) rfl hl.1 rfl (Nat.le_of_ble_eq_true rfl) dX5_setPumpOfNumber_20 ⟨(Nat.le_of_ble_eq_true rfl), (Nat.le_of_ble_eq_true rfl)⟩) hS (fun u H locs hP hS => ?_)
  refine g_topr (v := al (B + 11 + p)) rfl ?_
  refine m_cast hx hb hown (hts _ q186) hE hP (B + 11 + p) rfl (ov_p hp) rfl dX5_setPumpOfNumber_23 ?_
  refine lv_iload_n hx hb dX5_setPumpOfNumber_26 rfl (lv_at hl 2 rfl) ?_
  refine g_aft_v (g_runV (As := [.int v]) (rest := []) hx hb hml hown hts (kX4_setTo l G al k h B c g p v hp) (fcwV 1 hts q193 q157 q158 q159 q152 rfl rfl (by decide +kernel) ⟨(Nat.le_of_ble_eq_true rfl), (Nat.le_of_ble_eq_true rfl)⟩) hE hb0 hP hS (m_recvA hE hP (B + 11 + p) rfl (ov_p hp) rfl) rfl hl.1 rfl (Nat.le_of_ble_eq_true rfl) dX5_setPumpOfNumber_27 ⟨(Nat.le_of_ble_eq_true rfl), (Nat.le_of_ble_eq_true rfl)⟩) hS (fun u H locs hP hS => ?_)
  have hP : mP G al (ov G al k B c (mSetTo g p v)) H := hP
  refine W.widen (k := 0) (n := 0) (Nat.le_of_ble_eq_true rfl) (Nat.le_of_ble_eq_true rfl) ?_
  exact W.vret hx hb hr (fun tz htz hW => ⟨⟨(), rfl, trivial, g_end htz hP⟩, hS.F htz⟩) hS.2.2 dX5_setPumpOfNumber_30
set_option maxHeartbeats 4000000 in
set_option maxRecDepth 100000 in
theorem kX5_heightOfNumber (l : Launch) (G : gT) (al : Nat → Nat) (k : gC) (h : gK) (B : Nat) (c : mC) (g : St) (j : Nat) (hF : gF G al k B c) (hj : j < k.1) : Met l yX5_heightOfNumber (fW yX5_heightOfNumber cX5_heightOfNumber 2 (some .int)) { frames := 5, cells := 0, slots := 0, locals := 109 } (gPre G al (ov G al k B c g) [.ref (al B), .int (nI j)]) (gQi (S := Unit) G (fun _ => mHt k g j) (fun _ => al) (fun _ => ov G al k B c g)) 0 0 (gA G) := by
  refine Met.ofW (cc := cX5_heightOfNumber) (maxL := 2) (ret := (some .int)) (by decide) rfl ?_
  intro pz ez s m args below meth c₀ s₁ Bo hml hv
  obtain ⟨rfl, hb0, hP, hE⟩ := hv
  have hx := Bo.exec
  have hb := Bo.bytes
  have hr := Bo.returns
  have hts0 := atoms_spec (ws := (fW yX5_heightOfNumber cX5_heightOfNumber 2 (some .int))) Bo.pre
  have hts : ∀ w ∈ fA, w.before _ s = true := fun w h => hts0 w (List.mem_cons_of_mem _ h)
  have hown : s.vm.findClass RX5 = some m.cls := findClass_of_methodNamed Bo.named
  have hlocks := Bo.notSynchronized
  have hl := lv_entry ([.ref (al B), .int (nI j)]) (n := 2) (Nat.le_of_ble_eq_true rfl)
  rw [lg_entry_eq]
  generalize (lg_sl ([.ref (al B), .int (nI j)]) ++ List.replicate (2 - (lg_sl ([.ref (al B), .int (nI j)])).length) Slot.unset).toArray = ls at hl ⊢
  have hl : lv_has ls 2 [(0, .ref (al B)), (1, .int (nI j))] := hl
  have hJ := gF_J hF
  refine g_start hP (fun H hP hS => ?_)
  refine lv_iload_n hx hb dX5_heightOfNumber_0 rfl (lv_at hl 1 rfl) ?_
  refine lv_if_lt (tgt := 33) hx hb dX5_heightOfNumber_1 (by decide) (fun h => absurd h (nI_pos (by omega))) (fun _ => ?_)
  refine lv_iload_n hx hb dX5_heightOfNumber_4 rfl (lv_at hl 1 rfl) ?_
  refine lv_aload_n hx hb dX5_heightOfNumber_5 rfl (lv_at hl 0 rfl) ?_
  refine m_get (C := RX5) (T := TX5) (N := 15) (ci := 6) (v := .ref (al (B + 3))) hx hb hts uX5 hown hE hP B rfl ov_s rfl 1 (by decide) (hts _ q174) (fun _ h9 => h9) rfl dX5_heightOfNumber_6 ?_
  refine g_aft_i (g_runV (As := []) (rest := [.int (nI j)]) hx hb hml hown hts (kJx4a65c_size_8abf5 l G al (ov G al k B c g) (B + 3) (B + 4) k.1 (fun j => B + 20 + j) (gF_j hF)) (fcwV 0 hts q187 q53 q54 q50 q34 rfl rfl (by decide +kernel) ⟨(Nat.le_of_ble_eq_true rfl), (Nat.le_of_ble_eq_true rfl)⟩) hE hb0 hP hS (m_recvL hE hP (gF_j hF) rfl) rfl hl.1 rfl (Nat.le_of_ble_eq_true rfl) dX5_heightOfNumber_9 ⟨(Nat.le_of_ble_eq_true rfl), (Nat.le_of_ble_eq_true rfl)⟩) hS (fun u H locs hP hS => ?_)
  refine f_topi (v := nI k.1) rfl ?_
  refine lv_icmp_ge (tgt := 33) hx hb dX5_heightOfNumber_12 (by decide) (fun h => absurd h (nI_ge hj (by omega))) (fun _ => ?_)
  refine lv_aload_n hx hb dX5_heightOfNumber_15 rfl (lv_at hl 0 rfl) ?_
  refine lv_aload_n hx hb dX5_heightOfNumber_16 rfl (lv_at hl 0 rfl) ?_
  refine m_get (C := RX5) (T := TX5) (N := 15) (ci := 6) (v := .ref (al (B + 3))) hx hb hts uX5 hown hE hP B rfl ov_s rfl 1 (by decide) (hts _ q174) (fun _ h9 => h9) rfl dX5_heightOfNumber_17 ?_
  refine lv_iload_n hx hb dX5_heightOfNumber_20 rfl (lv_at hl 1 rfl) ?_
  refine g_aft_r (g_runV (As := [.int (nI j)]) (rest := [.ref (al B)]) hx hb hml hown hts (kJx4a65c_get_915e3 l G al (ov G al k B c g) (B + 3) (B + 4) k.1 (fun j => B + 20 + j) j (gF_j hF) hj) (fcwV 1 hts q188 q56 q57 q50 q43 rfl rfl (by decide +kernel) ⟨(Nat.le_of_ble_eq_true rfl), (Nat.le_of_ble_eq_true rfl)⟩) hE hb0 hP hS (m_recvL hE hP (gF_j hF) rfl) rfl hl.1 rfl (Nat.le_of_ble_eq_true rfl) dX5_heightOfNumber_21 ⟨(Nat.le_of_ble_eq_true rfl), (Nat.le_of_ble_eq_true rfl)⟩) hS (fun u H locs hP hS => ?_)
  refine g_topr (v := al (B + 20 + j)) rfl ?_
  refine m_cast hx hb hown (hts _ q196) hE hP (B + 20 + j) rfl (ov_j hj) rfl dX5_heightOfNumber_24 ?_
  refine g_aft_i (g_runV (As := [.ref (al (B + 20 + j))]) (rest := []) hx hb hml hown hts (kX5_heightOf l G al k h B c g j hF hj) (fcwV 1 hts q214 q215 q216 q211 q213 rfl rfl (by decide +kernel) ⟨(Nat.le_of_ble_eq_true rfl), (Nat.le_of_ble_eq_true rfl)⟩) hE hb0 hP hS (m_recvA hE hP B rfl ov_s rfl) rfl hl.1 rfl (Nat.le_of_ble_eq_true rfl) dX5_heightOfNumber_27 ⟨(Nat.le_of_ble_eq_true rfl), (Nat.le_of_ble_eq_true rfl)⟩) hS (fun u H locs hP hS => ?_)
  have hP : mP G al (ov G al k B c g) H := hP
  refine f_topi (v := mHt k g j) rfl ?_
  refine lv_goto (tgt := 34) hx hb dX5_heightOfNumber_30 (by decide) ?_
  refine W.widen (k := 0) (n := 0) (Nat.le_of_ble_eq_true rfl) (Nat.le_of_ble_eq_true rfl) ?_
  exact W.iret (v := mHt k g j) hx hb hr (fun tz htz hW => ⟨⟨mHt k g j, (), rfl, rfl, g_end htz hP⟩, hS.F htz⟩) hS.2.2 dX5_heightOfNumber_34
