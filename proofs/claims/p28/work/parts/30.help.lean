set_option maxHeartbeats 4000000 in
set_option maxRecDepth 100000 in
theorem kL_below (l : Launch) (G : gT) (al : Nat → Nat) (c : mC) (v : Int32) (n : Nat) (h0 : 0 < n) (hn : n < 2147483648) : Met l yL_below (fW yL_below cL_below 2 (some .int)) { frames := 0, cells := 0, slots := 0, locals := 0 } (gPre G al (c) [.int v, .int (nI n)]) (gQi (S := Unit) G (fun _ => nI (bel v n)) (fun _ => al) (fun _ => c)) 0 0 (gA G) := by
  refine Met.ofW (cc := cL_below) (maxL := 2) (ret := (some .int)) (by decide) rfl ?_
  intro pz ez s m args below meth c₀ s₁ Bo hml hv
  obtain ⟨rfl, hb0, hP, hE⟩ := hv
  have hx := Bo.exec
  have hb := Bo.bytes
  have hr := Bo.returns
  have hts0 := atoms_spec (ws := (fW yL_below cL_below 2 (some .int))) Bo.pre
  have hts : ∀ w ∈ fA, w.before _ s = true := fun w h => hts0 w (List.mem_cons_of_mem _ h)
  have hown : s.vm.findClass RL = some m.cls := findClass_of_methodNamed Bo.named
  have hlocks := Bo.notSynchronized
  have hl := lv_entry ([.int v, .int (nI n)]) (n := 2) (Nat.le_of_ble_eq_true rfl)
  rw [lg_entry_eq]
  generalize (lg_sl ([.int v, .int (nI n)]) ++ List.replicate (2 - (lg_sl ([.int v, .int (nI n)])).length) Slot.unset).toArray = ls at hl ⊢
  have hl : lv_has ls 2 [(0, .int v), (1, .int (nI n))] := hl
  refine g_start hP (fun H hP hS => ?_)
  refine lv_iload_n hx hb dL_below_0 rfl (lv_at hl 0 rfl) ?_
  refine lv_ldc hx hb hown (hts _ q556) dL_below_1 ?_
  refine lv_iand hx hb dL_below_3 ?_
  refine lv_iload_n hx hb dL_below_4 rfl (lv_at hl 1 rfl) ?_
  refine lv_irem hx hb dL_below_5 (nI_ne0 h0 hn) ?_
  refine f_topi (v := nI (bel v n)) (bel_e v h0 hn) ?_
  refine W.widen (k := 0) (n := 0) (Nat.le_of_ble_eq_true rfl) (Nat.le_of_ble_eq_true rfl) ?_
  exact W.iret (v := nI (bel v n)) hx hb hr (fun tz htz hW => ⟨⟨nI (bel v n), (), rfl, rfl, g_end htz hP⟩, hS.F htz⟩) hS.2.2 dL_below_6
set_option maxHeartbeats 4000000 in
set_option maxRecDepth 100000 in
theorem kL_cell (l : Launch) (G : gT) (al : Nat → Nat) (c : mC) (i : Nat) (hi : i < 1000) (hL : gSL G ≤ 260) : Met l yL_cell (fW yL_cell cL_cell 2 (some .int)) { frames := 0, cells := 0, slots := 0, locals := 0 } (gPre G al (c) [.ref (gSb G), .int (nI i)]) (gQi (S := Unit) G (fun _ => sCell G i) (fun _ => al) (fun _ => c)) 0 0 (gA G) := by
  refine Met.ofW (cc := cL_cell) (maxL := 2) (ret := (some .int)) (by decide) rfl ?_
  intro pz ez s m args below meth c₀ s₁ Bo hml hv
  obtain ⟨rfl, hb0, hP, hE⟩ := hv
  have hx := Bo.exec
  have hb := Bo.bytes
  have hr := Bo.returns
  have hts0 := atoms_spec (ws := (fW yL_cell cL_cell 2 (some .int))) Bo.pre
  have hts : ∀ w ∈ fA, w.before _ s = true := fun w h => hts0 w (List.mem_cons_of_mem _ h)
  have hown : s.vm.findClass RL = some m.cls := findClass_of_methodNamed Bo.named
  have hlocks := Bo.notSynchronized
  have hl := lv_entry ([.ref (gSb G), .int (nI i)]) (n := 2) (Nat.le_of_ble_eq_true rfl)
  rw [lg_entry_eq]
  generalize (lg_sl ([.ref (gSb G), .int (nI i)]) ++ List.replicate (2 - (lg_sl ([.ref (gSb G), .int (nI i)])).length) Slot.unset).toArray = ls at hl ⊢
  have hl : lv_has ls 2 [(0, .ref (gSb G)), (1, .int (nI i))] := hl
  refine g_start hP (fun H hP hS => ?_)
  refine lv_iload_n hx hb dL_cell_0 rfl (lv_at hl 1 rfl) ?_
  refine lv_aload_n hx hb dL_cell_1 rfl (lv_at hl 0 rfl) ?_
  refine va_slen hx hb hE.2.1 hE.2.2.1 hE.2.2.2 hS dL_cell_2 ?_
  refine f_topi (v := nI (gSL G)) rfl ?_
  refine lv_icmp_ge (tgt := 12) hx hb dL_cell_3 (by decide) (fun hc_1 => ?_) (fun hc_1 => ?_)
  · skip
    refine lv_ldc hx hb hown (hts _ q558) dL_cell_12 ?_
    refine lv_iload_n hx hb dL_cell_14 rfl (lv_at hl 1 rfl) ?_
    refine lv_iconst (v := 3) hx hb dL_cell_15 (by decide) ?_
    refine lv_iadd hx hb dL_cell_16 ?_
    refine lv_imul hx hb dL_cell_17 ?_
    refine W.widen (k := 0) (n := 0) (Nat.le_of_ble_eq_true rfl) (Nat.le_of_ble_eq_true rfl) ?_
    exact W.iret (v := 790386105 * ((nI i) + 3)) hx hb hr (fun tz htz hW => ⟨⟨790386105 * ((nI i) + 3), (), rfl, (by unfold sCell; rw [if_pos ((nI_leI (by omega) (by omega)).mp hc_1)]), g_end htz hP⟩, hS.F htz⟩) hS.2.2 dL_cell_18
  · skip
    refine lv_aload_n hx hb dL_cell_6 rfl (lv_at hl 0 rfl) ?_
    refine lv_iload_n hx hb dL_cell_7 rfl (lv_at hl 1 rfl) ?_
    refine va_sld hx hb hE.2.1 hE.2.2.1 hE.2.2.2 hS (nI_in (Nat.lt_of_not_le (fun q => hc_1 ((nI_leI (by omega) (by omega)).mpr q))) (by omega)) dL_cell_8 ?_
    refine f_topi (v := gSx G i) (congrArg (gSx G) (nI_clamp (by omega))) ?_
    refine lv_goto (tgt := 18) hx hb dL_cell_9 (by decide) ?_
    refine W.widen (k := 0) (n := 0) (Nat.le_of_ble_eq_true rfl) (Nat.le_of_ble_eq_true rfl) ?_
    exact W.iret (v := gSx G i) hx hb hr (fun tz htz hW => ⟨⟨gSx G i, (), rfl, (by unfold sCell; rw [if_neg (fun q => hc_1 ((nI_leI (by omega) (by omega)).mpr q))]), g_end htz hP⟩, hS.F htz⟩) hS.2.2 dL_cell_18
