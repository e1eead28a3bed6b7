set_option maxHeartbeats 4000000 in
set_option maxRecDepth 100000 in
theorem kX4_becomeLike (l : Launch) (G : gT) (al : Nat → Nat) (k : gC) (h : gK) (c : mC) (g : St) (t : St) (p : Nat) (hX : gX G al k h c) (hp : p < 2) : Met l yX4_becomeLike (fW yX4_becomeLike cX4_becomeLike 2 none) { frames := 0, cells := 0, slots := 0, locals := 0 } (gPre G al (w2 G al k c g t) [.ref (al (200 + 11 + p)), .ref (al (100 + 11 + p))]) (gQv (S := Unit) G (fun _ => al) (fun _ => w2 G al k c g (mPCopy g t p))) 0 0 (gA G) := by
  refine Met.ofW (cc := cX4_becomeLike) (maxL := 2) (ret := none) (by decide) rfl ?_
  intro pz ez s m args below meth c₀ s₁ Bo hml hv
  obtain ⟨rfl, hb0, hP, hE⟩ := hv
  have hx := Bo.exec
  have hb := Bo.bytes
  have hr := Bo.returns
  have hts0 := atoms_spec (ws := (fW yX4_becomeLike cX4_becomeLike 2 none)) Bo.pre
  have hts : ∀ w ∈ fA, w.before _ s = true := fun w h => hts0 w (List.mem_cons_of_mem _ h)
  have hown : s.vm.findClass RX4 = some m.cls := findClass_of_methodNamed Bo.named
  have hlocks := Bo.notSynchronized
  have hl := lv_entry ([.ref (al (200 + 11 + p)), .ref (al (100 + 11 + p))]) (n := 2) (Nat.le_of_ble_eq_true rfl)
  rw [lg_entry_eq]
  generalize (lg_sl ([.ref (al (200 + 11 + p)), .ref (al (100 + 11 + p))]) ++ List.replicate (2 - (lg_sl ([.ref (al (200 + 11 + p)), .ref (al (100 + 11 + p))])).length) Slot.unset).toArray = ls at hl ⊢
  have hl : lv_has ls 2 [(0, .ref (al (200 + 11 + p))), (1, .ref (al (100 + 11 + p)))] := hl
  have hJ := gX_J hX
  refine g_start hP (fun H hP hS => ?_)
  refine lv_aload_n hx hb dX4_becomeLike_0 rfl (lv_at hl 0 rfl) ?_
  refine lv_aload_n hx hb dX4_becomeLike_1 rfl (lv_at hl 1 rfl) ?_
  refine m_get (C := RX4) (T := TX4) (N := 6) (ci := 5) (v := .int (g (1 + p) 2)) hx hb hts uX4 hown hE hP (100 + 11 + p) rfl ((congrFun (w2_c hJ) _).trans (ov_p hp)) rfl 2 (by decide) (hts _ q154) (fun _ h9 => h9) rfl dX4_becomeLike_2 ?_
  refine m_put (v := .int (g (1 + p) 2)) (ty := .int) (C := RX4) (T := TX4) (N := 6) (ci := 5) hx hb hts uX4 tyX4 tyX4_ok nmX4 hown hE hP hS (200 + 11 + p) rfl (ov_p hp) rfl 2 (by decide) (hts _ q154) (fun _ h9 => h9) rfl (by decide +kernel) rfl rfl (Nat.le_of_ble_eq_true rfl) dX4_becomeLike_5 (fun H locs hP hS => ?_)
  have hP := m_cv hP (ov_up (r := upd (t (1 + p)) 2 (g (1 + p) 2)) hp rfl)
  have hP : mP G al (w2 G al k c g (s2 t (1 + p) 2 (g (1 + p) 2))) H := hP
  refine lv_aload_n hx hb dX4_becomeLike_8 rfl (lv_at hl 0 rfl) ?_
  refine lv_aload_n hx hb dX4_becomeLike_9 rfl (lv_at hl 1 rfl) ?_
  refine m_get (C := RX4) (T := TX4) (N := 6) (ci := 5) (v := .int (g (1 + p) 3)) hx hb hts uX4 hown hE hP (100 + 11 + p) rfl ((congrFun (w2_c hJ) _).trans (ov_p hp)) rfl 3 (by decide) (hts _ q167) (fun _ h9 => h9) rfl dX4_becomeLike_10 ?_
  refine m_put (v := .int (g (1 + p) 3)) (ty := .int) (C := RX4) (T := TX4) (N := 6) (ci := 5) hx hb hts uX4 tyX4 tyX4_ok nmX4 hown hE hP hS (200 + 11 + p) rfl (ov_p hp) rfl 3 (by decide) (hts _ q167) (fun _ h9 => h9) rfl (by decide +kernel) rfl rfl (Nat.le_of_ble_eq_true rfl) dX4_becomeLike_13 (fun H locs hP hS => ?_)
  have hP := m_cv hP (ov_up (r := upd ((s2 t (1 + p) 2 (g (1 + p) 2)) (1 + p)) 3 (g (1 + p) 3)) hp rfl)
  have hP : mP G al (w2 G al k c g (s2 (s2 t (1 + p) 2 (g (1 + p) 2)) (1 + p) 3 (g (1 + p) 3))) H := hP
  refine lv_aload_n hx hb dX4_becomeLike_16 rfl (lv_at hl 0 rfl) ?_
  refine lv_aload_n hx hb dX4_becomeLike_17 rfl (lv_at hl 1 rfl) ?_
  refine m_get (C := RX4) (T := TX4) (N := 6) (ci := 5) (v := .int (bz (g (1 + p) 4))) hx hb hts uX4 hown hE hP (100 + 11 + p) rfl ((congrFun (w2_c hJ) _).trans (ov_p hp)) rfl 4 (by decide) (hts _ q153) (fun _ h9 => h9) rfl dX4_becomeLike_18 ?_
  refine m_put (v := .int (bz (g (1 + p) 4))) (ty := .boolean) (C := RX4) (T := TX4) (N := 6) (ci := 5) hx hb hts uX4 tyX4 tyX4_ok nmX4 hown hE hP hS (200 + 11 + p) rfl (ov_p hp) rfl 4 (by decide) (hts _ q153) (fun _ h9 => h9) rfl (by decide +kernel) (bz_nar _) (bz_fit _) (Nat.le_of_ble_eq_true rfl) dX4_becomeLike_21 (fun H locs hP hS => ?_)
  have hP := m_cv hP (ov_up (r := upd ((s2 (s2 t (1 + p) 2 (g (1 + p) 2)) (1 + p) 3 (g (1 + p) 3)) (1 + p)) 4 (g (1 + p) 4)) hp rfl)
  have hP : mP G al (w2 G al k c g (s2 (s2 (s2 t (1 + p) 2 (g (1 + p) 2)) (1 + p) 3 (g (1 + p) 3)) (1 + p) 4 (g (1 + p) 4))) H := hP
  refine lv_aload_n hx hb dX4_becomeLike_24 rfl (lv_at hl 0 rfl) ?_
  refine lv_aload_n hx hb dX4_becomeLike_25 rfl (lv_at hl 1 rfl) ?_
  refine m_get (C := RX4) (T := TX4) (N := 6) (ci := 5) (v := .int (g (1 + p) 5)) hx hb hts uX4 hown hE hP (100 + 11 + p) rfl ((congrFun (w2_c hJ) _).trans (ov_p hp)) rfl 5 (by decide) (hts _ q169) (fun _ h9 => h9) rfl dX4_becomeLike_26 ?_
  refine m_put (v := .int (g (1 + p) 5)) (ty := .int) (C := RX4) (T := TX4) (N := 6) (ci := 5) hx hb hts uX4 tyX4 tyX4_ok nmX4 hown hE hP hS (200 + 11 + p) rfl (ov_p hp) rfl 5 (by decide) (hts _ q169) (fun _ h9 => h9) rfl (by decide +kernel) rfl rfl (Nat.le_of_ble_eq_true rfl) dX4_becomeLike_29 (fun H locs hP hS => ?_)
  have hP := m_cv hP (ov_up (r := upd ((s2 (s2 (s2 t (1 + p) 2 (g (1 + p) 2)) (1 + p) 3 (g (1 + p) 3)) (1 + p) 4 (g (1 + p) 4)) (1 + p)) 5 (g (1 + p) 5)) hp rfl)
  have hP : mP G al (w2 G al k c g (s2 (s2 (s2 (s2 t (1 + p) 2 (g (1 + p) 2)) (1 + p) 3 (g (1 + p) 3)) (1 + p) 4 (g (1 + p) 4)) (1 + p) 5 (g (1 + p) 5))) H := hP
  have hP : mP G al (w2 G al k c g (mPCopy g t p)) H := m_cv hP (show w2 G al k c g (s2 (s2 (s2 (s2 t (1 + p) 2 (g (1 + p) 2)) (1 + p) 3 (g (1 + p) 3)) (1 + p) 4 (g (1 + p) 4)) (1 + p) 5 (g (1 + p) 5)) = w2 G al k c g (mPCopy g t p) from (by unfold mPCopy; rfl))
  refine W.widen (k := 0) (n := 0) (Nat.le_of_ble_eq_true rfl) (Nat.le_of_ble_eq_true rfl) ?_
  exact W.vret hx hb hr (fun tz htz hW => ⟨⟨(), rfl, trivial, g_end htz hP⟩, hS.F htz⟩) hS.2.2 dX4_becomeLike_32
set_option maxHeartbeats 4000000 in
set_option maxRecDepth 100000 in
theorem kX3_becomeLike (l : Launch) (G : gT) (al : Nat → Nat) (k : gC) (h : gK) (c : mC) (g : St) (t : St) (j : Nat) (hX : gX G al k h c) (hj : j < k.1) : Met l yX3_becomeLike (fW yX3_becomeLike cX3_becomeLike 2 none) { frames := 0, cells := 0, slots := 0, locals := 0 } (gPre G al (w2 G al k c g t) [.ref (al (200 + 20 + j)), .ref (al (100 + 20 + j))]) (gQv (S := Unit) G (fun _ => al) (fun _ => w2 G al k c g (mJCopy g t j))) 0 0 (gA G) := by
  refine Met.ofW (cc := cX3_becomeLike) (maxL := 2) (ret := none) (by decide) rfl ?_
  intro pz ez s m args below meth c₀ s₁ Bo hml hv
  obtain ⟨rfl, hb0, hP, hE⟩ := hv
  have hx := Bo.exec
  have hb := Bo.bytes
  have hr := Bo.returns
  have hts0 := atoms_spec (ws := (fW yX3_becomeLike cX3_becomeLike 2 none)) Bo.pre
  have hts : ∀ w ∈ fA, w.before _ s = true := fun w h => hts0 w (List.mem_cons_of_mem _ h)
  have hown : s.vm.findClass RX3 = some m.cls := findClass_of_methodNamed Bo.named
  have hlocks := Bo.notSynchronized
  have hl := lv_entry ([.ref (al (200 + 20 + j)), .ref (al (100 + 20 + j))]) (n := 2) (Nat.le_of_ble_eq_true rfl)
  rw [lg_entry_eq]
  generalize (lg_sl ([.ref (al (200 + 20 + j)), .ref (al (100 + 20 + j))]) ++ List.replicate (2 - (lg_sl ([.ref (al (200 + 20 + j)), .ref (al (100 + 20 + j))])).length) Slot.unset).toArray = ls at hl ⊢
  have hl : lv_has ls 2 [(0, .ref (al (200 + 20 + j))), (1, .ref (al (100 + 20 + j)))] := hl
  have hJ := gX_J hX
  refine g_start hP (fun H hP hS => ?_)
  refine lv_aload_n hx hb dX3_becomeLike_0 rfl (lv_at hl 0 rfl) ?_
  refine lv_aload_n hx hb dX3_becomeLike_1 rfl (lv_at hl 1 rfl) ?_
  refine m_get (C := RX3) (T := TX3) (N := 10) (ci := 4) (v := .int (g (3 + j) 4)) hx hb hts uX3 hown hE hP (100 + 20 + j) rfl ((congrFun (w2_c hJ) _).trans (ov_j hj)) rfl 4 (by decide) (hts _ q146) (fun _ h9 => h9) rfl dX3_becomeLike_2 ?_
  refine m_put (v := .int (g (3 + j) 4)) (ty := .int) (C := RX3) (T := TX3) (N := 10) (ci := 4) hx hb hts uX3 tyX3 tyX3_ok nmX3 hown hE hP hS (200 + 20 + j) rfl (ov_j hj) rfl 4 (by decide) (hts _ q146) (fun _ h9 => h9) rfl (by decide +kernel) rfl rfl (Nat.le_of_ble_eq_true rfl) dX3_becomeLike_5 (fun H locs hP hS => ?_)
  have hP := m_cv hP (ov_uj (r := upd (t (3 + j)) 4 (g (3 + j) 4)) hj hJ rfl)
  have hP : mP G al (w2 G al k c g (s2 t (3 + j) 4 (g (3 + j) 4))) H := hP
  refine lv_aload_n hx hb dX3_becomeLike_8 rfl (lv_at hl 0 rfl) ?_
  refine lv_aload_n hx hb dX3_becomeLike_9 rfl (lv_at hl 1 rfl) ?_
  refine m_get (C := RX3) (T := TX3) (N := 10) (ci := 4) (v := .int (g (3 + j) 5)) hx hb hts uX3 hown hE hP (100 + 20 + j) rfl ((congrFun (w2_c hJ) _).trans (ov_j hj)) rfl 5 (by decide) (hts _ q142) (fun _ h9 => h9) rfl dX3_becomeLike_10 ?_
  refine m_put (v := .int (g (3 + j) 5)) (ty := .int) (C := RX3) (T := TX3) (N := 10) (ci := 4) hx hb hts uX3 tyX3 tyX3_ok nmX3 hown hE hP hS (200 + 20 + j) rfl (ov_j hj) rfl 5 (by decide) (hts _ q142) (fun _ h9 => h9) rfl (by decide +kernel) rfl rfl (Nat.le_of_ble_eq_true rfl) dX3_becomeLike_13 (fun H locs hP hS => ?_)
  have hP := m_cv hP (ov_uj (r := upd ((s2 t (3 + j) 4 (g (3 + j) 4)) (3 + j)) 5 (g (3 + j) 5)) hj hJ rfl)
  have hP : mP G al (w2 G al k c g (s2 (s2 t (3 + j) 4 (g (3 + j) 4)) (3 + j) 5 (g (3 + j) 5))) H := hP
  refine lv_aload_n hx hb dX3_becomeLike_16 rfl (lv_at hl 0 rfl) ?_
  refine lv_aload_n hx hb dX3_becomeLike_17 rfl (lv_at hl 1 rfl) ?_
  refine m_get (C := RX3) (T := TX3) (N := 10) (ci := 4) (v := .int (bz (g (3 + j) 6))) hx hb hts uX3 hown hE hP (100 + 20 + j) rfl ((congrFun (w2_c hJ) _).trans (ov_j hj)) rfl 6 (by decide) (hts _ q145) (fun _ h9 => h9) rfl dX3_becomeLike_18 ?_
  refine m_put (v := .int (bz (g (3 + j) 6))) (ty := .boolean) (C := RX3) (T := TX3) (N := 10) (ci := 4) hx hb hts uX3 tyX3 tyX3_ok nmX3 hown hE hP hS (200 + 20 + j) rfl (ov_j hj) rfl 6 (by decide) (hts _ q145) (fun _ h9 => h9) rfl (by decide +kernel) (bz_nar _) (bz_fit _) (Nat.le_of_ble_eq_true rfl) dX3_becomeLike_21 (fun H locs hP hS => ?_)
  have hP := m_cv hP (ov_uj (r := upd ((s2 (s2 t (3 + j) 4 (g (3 + j) 4)) (3 + j) 5 (g (3 + j) 5)) (3 + j)) 6 (g (3 + j) 6)) hj hJ rfl)
  have hP : mP G al (w2 G al k c g (s2 (s2 (s2 t (3 + j) 4 (g (3 + j) 4)) (3 + j) 5 (g (3 + j) 5)) (3 + j) 6 (g (3 + j) 6))) H := hP
  refine lv_aload_n hx hb dX3_becomeLike_24 rfl (lv_at hl 0 rfl) ?_
  refine lv_aload_n hx hb dX3_becomeLike_25 rfl (lv_at hl 1 rfl) ?_
  refine m_get (C := RX3) (T := TX3) (N := 10) (ci := 4) (v := .int (bz (g (3 + j) 7))) hx hb hts uX3 hown hE hP (100 + 20 + j) rfl ((congrFun (w2_c hJ) _).trans (ov_j hj)) rfl 7 (by decide) (hts _ q150) (fun _ h9 => h9) rfl dX3_becomeLike_26 ?_
  refine m_put (v := .int (bz (g (3 + j) 7))) (ty := .boolean) (C := RX3) (T := TX3) (N := 10) (ci := 4) hx hb hts uX3 tyX3 tyX3_ok nmX3 hown hE hP hS (200 + 20 + j) rfl (ov_j hj) rfl 7 (by decide) (hts _ q150) (fun _ h9 => h9) rfl (by decide +kernel) (bz_nar _) (bz_fit _) (Nat.le_of_ble_eq_true rfl) dX3_becomeLike_29 (fun H locs hP hS => ?_)
  have hP := m_cv hP (ov_uj (r := upd ((s2 (s2 (s2 t (3 + j) 4 (g (3 + j) 4)) (3 + j) 5 (g (3 + j) 5)) (3 + j) 6 (g (3 + j) 6)) (3 + j)) 7 (g (3 + j) 7)) hj hJ rfl)
  have hP : mP G al (w2 G al k c g (s2 (s2 (s2 (s2 t (3 + j) 4 (g (3 + j) 4)) (3 + j) 5 (g (3 + j) 5)) (3 + j) 6 (g (3 + j) 6)) (3 + j) 7 (g (3 + j) 7))) H := hP
  refine lv_aload_n hx hb dX3_becomeLike_32 rfl (lv_at hl 0 rfl) ?_
  refine lv_aload_n hx hb dX3_becomeLike_33 rfl (lv_at hl 1 rfl) ?_
  refine m_get (C := RX3) (T := TX3) (N := 10) (ci := 4) (v := .int (bz (g (3 + j) 8))) hx hb hts uX3 hown hE hP (100 + 20 + j) rfl ((congrFun (w2_c hJ) _).trans (ov_j hj)) rfl 8 (by decide) (hts _ q151) (fun _ h9 => h9) rfl dX3_becomeLike_34 ?_
  refine m_put (v := .int (bz (g (3 + j) 8))) (ty := .boolean) (C := RX3) (T := TX3) (N := 10) (ci := 4) hx hb hts uX3 tyX3 tyX3_ok nmX3 hown hE hP hS (200 + 20 + j) rfl (ov_j hj) rfl 8 (by decide) (hts _ q151) (fun _ h9 => h9) rfl (by decide +kernel) (bz_nar _) (bz_fit _) (Nat.le_of_ble_eq_true rfl) dX3_becomeLike_37 (fun H locs hP hS => ?_)
  have hP := m_cv hP (ov_uj (r := upd ((s2 (s2 (s2 (s2 t (3 + j) 4 (g (3 + j) 4)) (3 + j) 5 (g (3 + j) 5)) (3 + j) 6 (g (3 + j) 6)) (3 + j) 7 (g (3 + j) 7)) (3 + j)) 8 (g (3 + j) 8)) hj hJ rfl)
  have hP : mP G al (w2 G al k c g (s2 (s2 (s2 (s2 (s2 t (3 + j) 4 (g (3 + j) 4)) (3 + j) 5 (g (3 + j) 5)) (3 + j) 6 (g (3 + j) 6)) (3 + j) 7 (g (3 + j) 7)) (3 + j) 8 (g (3 + j) 8))) H := hP
  refine lv_aload_n hx hb dX3_becomeLike_40 rfl (lv_at hl 0 rfl) ?_
  refine lv_aload_n hx hb dX3_becomeLike_41 rfl (lv_at hl 1 rfl) ?_
  refine m_get (C := RX3) (T := TX3) (N := 10) (ci := 4) (v := .int (g (3 + j) 9)) hx hb hts uX3 hown hE hP (100 + 20 + j) rfl ((congrFun (w2_c hJ) _).trans (ov_j hj)) rfl 9 (by decide) (hts _ q161) (fun _ h9 => h9) rfl dX3_becomeLike_42 ?_
  refine m_put (v := .int (g (3 + j) 9)) (ty := .int) (C := RX3) (T := TX3) (N := 10) (ci := 4) hx hb hts uX3 tyX3 tyX3_ok nmX3 hown hE hP hS (200 + 20 + j) rfl (ov_j hj) rfl 9 (by decide) (hts _ q161) (fun _ h9 => h9) rfl (by decide +kernel) rfl rfl (Nat.le_of_ble_eq_true rfl) dX3_becomeLike_45 (fun H locs hP hS => ?_)
  have hP := m_cv hP (ov_uj (r := upd ((s2 (s2 (s2 (s2 (s2 t (3 + j) 4 (g (3 + j) 4)) (3 + j) 5 (g (3 + j) 5)) (3 + j) 6 (g (3 + j) 6)) (3 + j) 7 (g (3 + j) 7)) (3 + j) 8 (g (3 + j) 8)) (3 + j)) 9 (g (3 + j) 9)) hj hJ rfl)
  have hP : mP G al (w2 G al k c g (s2 (s2 (s2 (s2 (s2 (s2 t (3 + j) 4 (g (3 + j) 4)) (3 + j) 5 (g (3 + j) 5)) (3 + j) 6 (g (3 + j) 6)) (3 + j) 7 (g (3 + j) 7)) (3 + j) 8 (g (3 + j) 8)) (3 + j) 9 (g (3 + j) 9))) H := hP
  have hP : mP G al (w2 G al k c g (mJCopy g t j)) H := m_cv hP (show w2 G al k c g (s2 (s2 (s2 (s2 (s2 (s2 t (3 + j) 4 (g (3 + j) 4)) (3 + j) 5 (g (3 + j) 5)) (3 + j) 6 (g (3 + j) 6)) (3 + j) 7 (g (3 + j) 7)) (3 + j) 8 (g (3 + j) 8)) (3 + j) 9 (g (3 + j) 9)) = w2 G al k c g (mJCopy g t j) from (by unfold mJCopy; rfl))
  refine W.widen (k := 0) (n := 0) (Nat.le_of_ble_eq_true rfl) (Nat.le_of_ble_eq_true rfl) ?_
  exact W.vret hx hb hr (fun tz htz hW => ⟨⟨(), rfl, trivial, g_end htz hP⟩, hS.F htz⟩) hS.2.2 dX3_becomeLike_48
set_option maxHeartbeats 4000000 in
set_option maxRecDepth 100000 in
theorem kX0_becomeLike (l : Launch) (G : gT) (al : Nat → Nat) (k : gC) (h : gK) (c : mC) (g : St) (t : St) (hX : gX G al k h c) : Met l yX0_becomeLike (fW yX0_becomeLike cX0_becomeLike 2 none) { frames := 1, cells := 0, slots := 0, locals := 18 } (gPre G al (w2 G al k c g t) [.ref (al (200 + 7)), .ref (al (100 + 7))]) (gQv (S := Unit) G (fun _ => al) (fun _ => w2 G al k c g (mACopy g t))) 0 0 (gA G) := by
  refine Met.ofW (cc := cX0_becomeLike) (maxL := 2) (ret := none) (by decide) rfl ?_
  intro pz ez s m args below meth c₀ s₁ Bo hml hv
  obtain ⟨rfl, hb0, hP, hE⟩ := hv
  have hx := Bo.exec
  have hb := Bo.bytes
  have hr := Bo.returns
  have hts0 := atoms_spec (ws := (fW yX0_becomeLike cX0_becomeLike 2 none)) Bo.pre
  have hts : ∀ w ∈ fA, w.before _ s = true := fun w h => hts0 w (List.mem_cons_of_mem _ h)
  have hown : s.vm.findClass RX0 = some m.cls := findClass_of_methodNamed Bo.named
  have hlocks := Bo.notSynchronized
  have hl := lv_entry ([.ref (al (200 + 7)), .ref (al (100 + 7))]) (n := 2) (Nat.le_of_ble_eq_true rfl)
  rw [lg_entry_eq]
  generalize (lg_sl ([.ref (al (200 + 7)), .ref (al (100 + 7))]) ++ List.replicate (2 - (lg_sl ([.ref (al (200 + 7)), .ref (al (100 + 7))])).length) Slot.unset).toArray = ls at hl ⊢
  have hl : lv_has ls 2 [(0, .ref (al (200 + 7))), (1, .ref (al (100 + 7)))] := hl
  have hJ := gX_J hX
  refine g_start hP (fun H hP hS => ?_)
  refine lv_aload_n hx hb dX0_becomeLike_0 rfl (lv_at hl 1 rfl) ?_
  refine m_get (C := RX0) (T := TX0) (N := 3) (ci := 1) (v := .ref (al (100 + 8))) hx hb hts uX0 hown hE hP (100 + 7) rfl ((congrFun (w2_c hJ) _).trans (gF_a (gF_o2 (gX_1 hX)))) rfl 0 (by decide) (hts _ q5) (fun _ h9 => h9) rfl dX0_becomeLike_1 ?_
  refine lv_iconst (v := 0) hx hb dX0_becomeLike_4 (by decide) ?_
  refine lv_aload_n hx hb dX0_becomeLike_5 rfl (lv_at hl 0 rfl) ?_
  refine m_get (C := RX0) (T := TX0) (N := 3) (ci := 1) (v := .ref (al (200 + 8))) hx hb hts uX0 hown hE hP (200 + 7) rfl (gF_a (gF_o1 (gX_2 hX))) rfl 0 (by decide) (hts _ q5) (fun _ h9 => h9) rfl dX0_becomeLike_6 ?_
  refine lv_iconst (v := 0) hx hb dX0_becomeLike_9 (by decide) ?_
  refine lv_bipush (v := 9) hx hb dX0_becomeLike_10 (by decide) ?_
  refine m_copy9 hx hb (hml.trans hl.1.symm) hown (hts _ q23) (hts _ q24) (hts _ q25) (hts _ q26) hE hP hS (100 + 8) (200 + 8) rfl rfl ((congrFun (w2_c hJ) _).trans (ov_a (a := 0) (by decide))) (ov_a (a := 0) (by decide)) (Nat.le_of_ble_eq_true rfl) (Nat.le_of_ble_eq_true rfl) dX0_becomeLike_12 (fun H locs hP hS => ?_)
  have hP := m_cv hP (ov_ua (r := g 20) (a := 0) (by decide) hJ rfl)
  have hP : mP G al (w2 G al k c g (sr t 20 (g 20))) H := hP
  refine lv_aload_n hx hb dX0_becomeLike_15 rfl (lv_at hl 1 rfl) ?_
  refine m_get (C := RX0) (T := TX0) (N := 3) (ci := 1) (v := .ref (al (100 + 9))) hx hb hts uX0 hown hE hP (100 + 7) rfl ((congrFun (w2_c hJ) _).trans (gF_a (gF_o2 (gX_1 hX)))) rfl 1 (by decide) (hts _ q6) (fun _ h9 => h9) rfl dX0_becomeLike_16 ?_
  refine lv_iconst (v := 0) hx hb dX0_becomeLike_19 (by decide) ?_
  refine lv_aload_n hx hb dX0_becomeLike_20 rfl (lv_at hl 0 rfl) ?_
  refine m_get (C := RX0) (T := TX0) (N := 3) (ci := 1) (v := .ref (al (200 + 9))) hx hb hts uX0 hown hE hP (200 + 7) rfl (gF_a (gF_o1 (gX_2 hX))) rfl 1 (by decide) (hts _ q6) (fun _ h9 => h9) rfl dX0_becomeLike_21 ?_
  refine lv_iconst (v := 0) hx hb dX0_becomeLike_24 (by decide) ?_
  refine lv_bipush (v := 9) hx hb dX0_becomeLike_25 (by decide) ?_
  refine m_copy9 hx hb (hml.trans hl.1.symm) hown (hts _ q23) (hts _ q24) (hts _ q25) (hts _ q26) hE hP hS (100 + 9) (200 + 9) rfl rfl ((congrFun (w2_c hJ) _).trans (ov_a (a := 1) (by decide))) (ov_a (a := 1) (by decide)) (Nat.le_of_ble_eq_true rfl) (Nat.le_of_ble_eq_true rfl) dX0_becomeLike_27 (fun H locs hP hS => ?_)
  have hP := m_cv hP (ov_ua (r := g 21) (a := 1) (by decide) hJ rfl)
  have hP : mP G al (w2 G al k c g (sr (sr t 20 (g 20)) 21 (g 21))) H := hP
  refine lv_aload_n hx hb dX0_becomeLike_30 rfl (lv_at hl 1 rfl) ?_
  refine m_get (C := RX0) (T := TX0) (N := 3) (ci := 1) (v := .ref (al (100 + 10))) hx hb hts uX0 hown hE hP (100 + 7) rfl ((congrFun (w2_c hJ) _).trans (gF_a (gF_o2 (gX_1 hX)))) rfl 2 (by decide) (hts _ q7) (fun _ h9 => h9) rfl dX0_becomeLike_31 ?_
  refine lv_iconst (v := 0) hx hb dX0_becomeLike_34 (by decide) ?_
  refine lv_aload_n hx hb dX0_becomeLike_35 rfl (lv_at hl 0 rfl) ?_
  refine m_get (C := RX0) (T := TX0) (N := 3) (ci := 1) (v := .ref (al (200 + 10))) hx hb hts uX0 hown hE hP (200 + 7) rfl (gF_a (gF_o1 (gX_2 hX))) rfl 2 (by decide) (hts _ q7) (fun _ h9 => h9) rfl dX0_becomeLike_36 ?_
  refine lv_iconst (v := 0) hx hb dX0_becomeLike_39 (by decide) ?_
  refine lv_bipush (v := 9) hx hb dX0_becomeLike_40 (by decide) ?_
  refine m_copy9 hx hb (hml.trans hl.1.symm) hown (hts _ q23) (hts _ q24) (hts _ q25) (hts _ q26) hE hP hS (100 + 10) (200 + 10) rfl rfl ((congrFun (w2_c hJ) _).trans (ov_a (a := 2) (by decide))) (ov_a (a := 2) (by decide)) (Nat.le_of_ble_eq_true rfl) (Nat.le_of_ble_eq_true rfl) dX0_becomeLike_42 (fun H locs hP hS => ?_)
  have hP := m_cv hP (ov_ua (r := g 22) (a := 2) (by decide) hJ rfl)
  have hP : mP G al (w2 G al k c g (sr (sr (sr t 20 (g 20)) 21 (g 21)) 22 (g 22))) H := hP
  have hP : mP G al (w2 G al k c g (mACopy g t)) H := m_cv hP (show w2 G al k c g (sr (sr (sr t 20 (g 20)) 21 (g 21)) 22 (g 22)) = w2 G al k c g (mACopy g t) from (by unfold mACopy; rfl))
  refine W.widen (k := 0) (n := 0) (Nat.le_of_ble_eq_true rfl) (Nat.le_of_ble_eq_true rfl) ?_
  exact W.vret hx hb hr (fun tz htz hW => ⟨⟨(), rfl, trivial, g_end htz hP⟩, hS.F htz⟩) hS.2.2 dX0_becomeLike_45
set_option maxHeartbeats 4000000 in
set_option maxRecDepth 100000 in
theorem kX5_becomeLike (l : Launch) (G : gT) (al : Nat → Nat) (k : gC) (h : gK) (c : mC) (g : St) (t : St) (hX : gX G al k h c) : Met l yX5_becomeLike (fW yX5_becomeLike cX5_becomeLike 3 none) { frames := 3, cells := 0, slots := 0, locals := 64 } (gPre G al (w2 G al k c g t) [.ref (al 200), .ref (al 100)]) (gQv (S := Unit) G (fun _ => al) (fun _ => w2 G al k c g g)) 0 0 (gA G) := by
  refine Met.ofW (cc := cX5_becomeLike) (maxL := 3) (ret := none) (by decide) rfl ?_
  intro pz ez s m args below meth c₀ s₁ Bo hml hv
  obtain ⟨rfl, hb0, hP, hE⟩ := hv
  have hx := Bo.exec
  have hb := Bo.bytes
  have hr := Bo.returns
  have hts0 := atoms_spec (ws := (fW yX5_becomeLike cX5_becomeLike 3 none)) Bo.pre
  have hts : ∀ w ∈ fA, w.before _ s = true := fun w h => hts0 w (List.mem_cons_of_mem _ h)
  have hown : s.vm.findClass RX5 = some m.cls := findClass_of_methodNamed Bo.named
  have hlocks := Bo.notSynchronized
  have hl := lv_entry ([.ref (al 200), .ref (al 100)]) (n := 3) (Nat.le_of_ble_eq_true rfl)
  rw [lg_entry_eq]
  generalize (lg_sl ([.ref (al 200), .ref (al 100)]) ++ List.replicate (3 - (lg_sl ([.ref (al 200), .ref (al 100)])).length) Slot.unset).toArray = ls at hl ⊢
  have hl : lv_has ls 3 [(0, .ref (al 200)), (1, .ref (al 100))] := hl
  have hJ := gX_J hX
  refine g_start hP (fun H hP hS => ?_)
  refine lv_iconst (v := 0) hx hb dX5_becomeLike_0 (by decide) ?_
  refine lv_istore_n (lv' := [(2, .int 0), (0, .ref (al 200)), (1, .ref (al 100))]) hx hb dX5_becomeLike_1 rfl hl (by decide) rfl (fun ls hl => ?_)
  refine g_loop (al := al) (N := 2) (nL := 3) (Wi := fun i1 => w2 G al k c g (it (fun p t => mPCopy g t p) i1 t)) (Li := fun i1 => [(2, .int (nI i1)), (1, .ref (al 100)), (0, .ref (al 200))]) hP hS (lv_sub hl [0, 2, 1] rfl) (fun i1 hii1 ihi1 H locs ls hP hS hl => ?_)
  have hP : mP G al (w2 G al k c g (it (fun p t => mPCopy g t p) i1 t)) H := hP
  have hl : lv_has ls 3 [(2, .int (nI i1)), (1, .ref (al 100)), (0, .ref (al 200))] := hl
  refine lv_iload_n hx hb dX5_becomeLike_2 rfl (lv_at hl 0 rfl) ?_
  refine lv_aload_n hx hb dX5_becomeLike_3 rfl (lv_at hl 2 rfl) ?_
  refine m_get (C := RX5) (T := TX5) (N := 15) (ci := 6) (v := .ref (al (200 + 1))) hx hb hts uX5 hown hE hP 200 rfl ov_s rfl 0 (by decide) (hts _ q173) (fun _ h9 => h9) rfl dX5_becomeLike_4 ?_
  refine g_aft_i (g_runV (As := []) (rest := [.int (nI i1)]) hx hb hml hown hts (kJx4a65c_size_8abf5 l G al (w2 G al k c g (it (fun p t => mPCopy g t p) i1 t)) (200 + 1) (200 + 2) 2 (fun p => 200 + 11 + p) (gF_p (gF_o1 (gX_2 hX)))) (fcwV 0 hts q187 q53 q54 q50 q34 rfl rfl (by decide +kernel) ⟨(Nat.le_of_ble_eq_true rfl), (Nat.le_of_ble_eq_true rfl)⟩) hE hb0 hP hS (m_recvL hE hP (gF_p (gF_o1 (gX_2 hX))) rfl) rfl hl.1 rfl (Nat.le_of_ble_eq_true rfl) dX5_becomeLike_7 ⟨(Nat.le_of_ble_eq_true rfl), (Nat.le_of_ble_eq_true rfl)⟩) hS (fun u H locs hP hS => ?_)
  refine f_topi (v := nI 2) rfl ?_
  refine lv_icmp_ge (tgt := 55) hx hb dX5_becomeLike_10 (by decide) (fun hc_1 => ?_) (fun hc_1 => ?_)
  · skip
    have hgei1 : 2 ≤ i1 := (nI_leI (a := 2) (by omega) (by omega)).mp hc_1
    obtain rfl : 2 = i1 := Nat.le_antisymm hgei1 hii1
    have hP : mP G al (w2 G al k c g (it (fun p t => mPCopy g t p) 2 t)) H := hP
    have hl : lv_has ls 3 [(2, .int (nI 2)), (1, .ref (al 100)), (0, .ref (al 200))] := hl
    refine lv_iconst (v := 0) hx hb dX5_becomeLike_55 (by decide) ?_
    refine lv_istore_n (lv' := [(2, .int 0), (1, .ref (al 100)), (0, .ref (al 200))]) hx hb dX5_becomeLike_56 rfl hl (by decide) rfl (fun ls hl => ?_)
    refine g_loop (al := al) (N := k.1) (nL := 3) (Wi := fun i2 => w2 G al k c g (it (fun j t => mJCopy g t j) i2 (it (fun p t => mPCopy g t p) 2 t))) (Li := fun i2 => [(2, .int (nI i2)), (1, .ref (al 100)), (0, .ref (al 200))]) hP hS (lv_sub hl [0, 1, 2] rfl) (fun i2 hii2 ihi2 H locs ls hP hS hl => ?_)
    have hP : mP G al (w2 G al k c g (it (fun j t => mJCopy g t j) i2 (it (fun p t => mPCopy g t p) 2 t))) H := hP
    have hl : lv_has ls 3 [(2, .int (nI i2)), (1, .ref (al 100)), (0, .ref (al 200))] := hl
    refine lv_iload_n hx hb dX5_becomeLike_57 rfl (lv_at hl 0 rfl) ?_
    refine lv_aload_n hx hb dX5_becomeLike_58 rfl (lv_at hl 2 rfl) ?_
    refine m_get (C := RX5) (T := TX5) (N := 15) (ci := 6) (v := .ref (al (200 + 3))) hx hb hts uX5 hown hE hP 200 rfl ov_s rfl 1 (by decide) (hts _ q174) (fun _ h9 => h9) rfl dX5_becomeLike_59 ?_
    refine g_aft_i (g_runV (As := []) (rest := [.int (nI i2)]) hx hb hml hown hts (kJx4a65c_size_8abf5 l G al (w2 G al k c g (it (fun j t => mJCopy g t j) i2 (it (fun p t => mPCopy g t p) 2 t))) (200 + 3) (200 + 4) k.1 (fun j => 200 + 20 + j) (gF_j (gF_o1 (gX_2 hX)))) (fcwV 0 hts q187 q53 q54 q50 q34 rfl rfl (by decide +kernel) ⟨(Nat.le_of_ble_eq_true rfl), (Nat.le_of_ble_eq_true rfl)⟩) hE hb0 hP hS (m_recvL hE hP (gF_j (gF_o1 (gX_2 hX))) rfl) rfl hl.1 rfl (Nat.le_of_ble_eq_true rfl) dX5_becomeLike_62 ⟨(Nat.le_of_ble_eq_true rfl), (Nat.le_of_ble_eq_true rfl)⟩) hS (fun u H locs hP hS => ?_)
    refine f_topi (v := nI k.1) rfl ?_
    refine lv_icmp_ge (tgt := 110) hx hb dX5_becomeLike_65 (by decide) (fun hc_2 => ?_) (fun hc_2 => ?_)
    · skip
      have hgei2 : k.1 ≤ i2 := (nI_leI (by omega) (by omega)).mp hc_2
      obtain rfl : k.1 = i2 := Nat.le_antisymm hgei2 hii2
      have hP : mP G al (w2 G al k c g (it (fun j t => mJCopy g t j) k.1 (it (fun p t => mPCopy g t p) 2 t))) H := hP
      have hl : lv_has ls 3 [(2, .int (nI k.1)), (1, .ref (al 100)), (0, .ref (al 200))] := hl
      refine lv_aload_n hx hb dX5_becomeLike_110 rfl (lv_at hl 2 rfl) ?_
      refine m_get (C := RX5) (T := TX5) (N := 15) (ci := 6) (v := .ref (al (200 + 7))) hx hb hts uX5 hown hE hP 200 rfl ov_s rfl 3 (by decide) (hts _ q178) (fun _ h9 => h9) rfl dX5_becomeLike_111 ?_
      refine lv_aload_n hx hb dX5_becomeLike_114 rfl (lv_at hl 1 rfl) ?_
      refine m_get (C := RX5) (T := TX5) (N := 15) (ci := 6) (v := .ref (al (100 + 7))) hx hb hts uX5 hown hE hP 100 rfl ((congrFun (w2_c hJ) _).trans ov_s) rfl 3 (by decide) (hts _ q178) (fun _ h9 => h9) rfl dX5_becomeLike_115 ?_
      refine g_aft_v (g_runV (As := [.ref (al (100 + 7))]) (rest := []) hx hb hml hown hts (kX0_becomeLike l G al k h c g (it (fun j t => mJCopy g t j) k.1 (it (fun p t => mPCopy g t p) 2 t)) hX) (fcwV 1 hts q355 q356 q357 q16 q22 rfl rfl (by decide +kernel) ⟨(Nat.le_of_ble_eq_true rfl), (Nat.le_of_ble_eq_true rfl)⟩) hE hb0 hP hS (m_recvA hE hP (200 + 7) rfl (gF_a (gF_o1 (gX_2 hX))) rfl) rfl hl.1 rfl (Nat.le_of_ble_eq_true rfl) dX5_becomeLike_118 ⟨(Nat.le_of_ble_eq_true rfl), (Nat.le_of_ble_eq_true rfl)⟩) hS (fun u H locs hP hS => ?_)
      have hP : mP G al (w2 G al k c g (mACopy g (it (fun j t => mJCopy g t j) k.1 (it (fun p t => mPCopy g t p) 2 t)))) H := hP
      refine lv_aload_n hx hb dX5_becomeLike_121 rfl (lv_at hl 2 rfl) ?_
      refine lv_aload_n hx hb dX5_becomeLike_122 rfl (lv_at hl 1 rfl) ?_
      refine m_get (C := RX5) (T := TX5) (N := 15) (ci := 6) (v := .int (g 0 4)) hx hb hts uX5 hown hE hP 100 rfl ((congrFun (w2_c hJ) _).trans ov_s) rfl 4 (by decide) (hts _ q233) (fun _ h9 => h9) rfl dX5_becomeLike_123 ?_
      refine m_put (v := .int (g 0 4)) (ty := .int) (C := RX5) (T := TX5) (N := 15) (ci := 6) hx hb hts uX5 tyX5 tyX5_ok nmX5 hown hE hP hS 200 rfl ov_s rfl 4 (by decide) (hts _ q233) (fun _ h9 => h9) rfl (by decide +kernel) rfl rfl (Nat.le_of_ble_eq_true rfl) dX5_becomeLike_126 (fun H locs hP hS => ?_)
      have hP := m_cv hP (ov_us (r := upd ((mACopy g (it (fun j t => mJCopy g t j) k.1 (it (fun p t => mPCopy g t p) 2 t))) 0) 4 (g 0 4)) rfl)
      have hP : mP G al (w2 G al k c g (s2 (mACopy g (it (fun j t => mJCopy g t j) k.1 (it (fun p t => mPCopy g t p) 2 t))) 0 4 (g 0 4))) H := hP
      refine lv_aload_n hx hb dX5_becomeLike_129 rfl (lv_at hl 2 rfl) ?_
      refine lv_aload_n hx hb dX5_becomeLike_130 rfl (lv_at hl 1 rfl) ?_
      refine m_get (C := RX5) (T := TX5) (N := 15) (ci := 6) (v := .int (g 0 5)) hx hb hts uX5 hown hE hP 100 rfl ((congrFun (w2_c hJ) _).trans ov_s) rfl 5 (by decide) (hts _ q179) (fun _ h9 => h9) rfl dX5_becomeLike_131 ?_
      refine m_put (v := .int (g 0 5)) (ty := .int) (C := RX5) (T := TX5) (N := 15) (ci := 6) hx hb hts uX5 tyX5 tyX5_ok nmX5 hown hE hP hS 200 rfl ov_s rfl 5 (by decide) (hts _ q179) (fun _ h9 => h9) rfl (by decide +kernel) rfl rfl (Nat.le_of_ble_eq_true rfl) dX5_becomeLike_134 (fun H locs hP hS => ?_)
      have hP := m_cv hP (ov_us (r := upd ((s2 (mACopy g (it (fun j t => mJCopy g t j) k.1 (it (fun p t => mPCopy g t p) 2 t))) 0 4 (g 0 4)) 0) 5 (g 0 5)) rfl)
      have hP : mP G al (w2 G al k c g (s2 (s2 (mACopy g (it (fun j t => mJCopy g t j) k.1 (it (fun p t => mPCopy g t p) 2 t))) 0 4 (g 0 4)) 0 5 (g 0 5))) H := hP
      refine lv_aload_n hx hb dX5_becomeLike_137 rfl (lv_at hl 2 rfl) ?_
      refine lv_aload_n hx hb dX5_becomeLike_138 rfl (lv_at hl 1 rfl) ?_
      refine m_get (C := RX5) (T := TX5) (N := 15) (ci := 6) (v := .int (g 0 6)) hx hb hts uX5 hown hE hP 100 rfl ((congrFun (w2_c hJ) _).trans ov_s) rfl 6 (by decide) (hts _ q248) (fun _ h9 => h9) rfl dX5_becomeLike_139 ?_
      refine m_put (v := .int (g 0 6)) (ty := .int) (C := RX5) (T := TX5) (N := 15) (ci := 6) hx hb hts uX5 tyX5 tyX5_ok nmX5 hown hE hP hS 200 rfl ov_s rfl 6 (by decide) (hts _ q248) (fun _ h9 => h9) rfl (by decide +kernel) rfl rfl (Nat.le_of_ble_eq_true rfl) dX5_becomeLike_142 (fun H locs hP hS => ?_)
      have hP := m_cv hP (ov_us (r := upd ((s2 (s2 (mACopy g (it (fun j t => mJCopy g t j) k.1 (it (fun p t => mPCopy g t p) 2 t))) 0 4 (g 0 4)) 0 5 (g 0 5)) 0) 6 (g 0 6)) rfl)
      have hP : mP G al (w2 G al k c g (s2 (s2 (s2 (mACopy g (it (fun j t => mJCopy g t j) k.1 (it (fun p t => mPCopy g t p) 2 t))) 0 4 (g 0 4)) 0 5 (g 0 5)) 0 6 (g 0 6))) H := hP
      refine lv_aload_n hx hb dX5_becomeLike_145 rfl (lv_at hl 2 rfl) ?_
      refine lv_aload_n hx hb dX5_becomeLike_146 rfl (lv_at hl 1 rfl) ?_
      refine m_get (C := RX5) (T := TX5) (N := 15) (ci := 6) (v := .int (g 0 7)) hx hb hts uX5 hown hE hP 100 rfl ((congrFun (w2_c hJ) _).trans ov_s) rfl 7 (by decide) (hts _ q250) (fun _ h9 => h9) rfl dX5_becomeLike_147 ?_
      refine m_put (v := .int (g 0 7)) (ty := .int) (C := RX5) (T := TX5) (N := 15) (ci := 6) hx hb hts uX5 tyX5 tyX5_ok nmX5 hown hE hP hS 200 rfl ov_s rfl 7 (by decide) (hts _ q250) (fun _ h9 => h9) rfl (by decide +kernel) rfl rfl (Nat.le_of_ble_eq_true rfl) dX5_becomeLike_150 (fun H locs hP hS => ?_)
      have hP := m_cv hP (ov_us (r := upd ((s2 (s2 (s2 (mACopy g (it (fun j t => mJCopy g t j) k.1 (it (fun p t => mPCopy g t p) 2 t))) 0 4 (g 0 4)) 0 5 (g 0 5)) 0 6 (g 0 6)) 0) 7 (g 0 7)) rfl)
      have hP : mP G al (w2 G al k c g (s2 (s2 (s2 (s2 (mACopy g (it (fun j t => mJCopy g t j) k.1 (it (fun p t => mPCopy g t p) 2 t))) 0 4 (g 0 4)) 0 5 (g 0 5)) 0 6 (g 0 6)) 0 7 (g 0 7))) H := hP
      refine lv_aload_n hx hb dX5_becomeLike_153 rfl (lv_at hl 2 rfl) ?_
      refine lv_aload_n hx hb dX5_becomeLike_154 rfl (lv_at hl 1 rfl) ?_
      refine m_get (C := RX5) (T := TX5) (N := 15) (ci := 6) (v := .int (g 0 8)) hx hb hts uX5 hown hE hP 100 rfl ((congrFun (w2_c hJ) _).trans ov_s) rfl 8 (by decide) (hts _ q249) (fun _ h9 => h9) rfl dX5_becomeLike_155 ?_
      refine m_put (v := .int (g 0 8)) (ty := .int) (C := RX5) (T := TX5) (N := 15) (ci := 6) hx hb hts uX5 tyX5 tyX5_ok nmX5 hown hE hP hS 200 rfl ov_s rfl 8 (by decide) (hts _ q249) (fun _ h9 => h9) rfl (by decide +kernel) rfl rfl (Nat.le_of_ble_eq_true rfl) dX5_becomeLike_158 (fun H locs hP hS => ?_)
      have hP := m_cv hP (ov_us (r := upd ((s2 (s2 (s2 (s2 (mACopy g (it (fun j t => mJCopy g t j) k.1 (it (fun p t => mPCopy g t p) 2 t))) 0 4 (g 0 4)) 0 5 (g 0 5)) 0 6 (g 0 6)) 0 7 (g 0 7)) 0) 8 (g 0 8)) rfl)
      have hP : mP G al (w2 G al k c g (s2 (s2 (s2 (s2 (s2 (mACopy g (it (fun j t => mJCopy g t j) k.1 (it (fun p t => mPCopy g t p) 2 t))) 0 4 (g 0 4)) 0 5 (g 0 5)) 0 6 (g 0 6)) 0 7 (g 0 7)) 0 8 (g 0 8))) H := hP
      refine lv_aload_n hx hb dX5_becomeLike_161 rfl (lv_at hl 2 rfl) ?_
      refine lv_aload_n hx hb dX5_becomeLike_162 rfl (lv_at hl 1 rfl) ?_
      refine m_get (C := RX5) (T := TX5) (N := 15) (ci := 6) (v := .int (g 0 9)) hx hb hts uX5 hown hE hP 100 rfl ((congrFun (w2_c hJ) _).trans ov_s) rfl 9 (by decide) (hts _ q296) (fun _ h9 => h9) rfl dX5_becomeLike_163 ?_
      refine m_put (v := .int (g 0 9)) (ty := .int) (C := RX5) (T := TX5) (N := 15) (ci := 6) hx hb hts uX5 tyX5 tyX5_ok nmX5 hown hE hP hS 200 rfl ov_s rfl 9 (by decide) (hts _ q296) (fun _ h9 => h9) rfl (by decide +kernel) rfl rfl (Nat.le_of_ble_eq_true rfl) dX5_becomeLike_166 (fun H locs hP hS => ?_)
      have hP := m_cv hP (ov_us (r := upd ((s2 (s2 (s2 (s2 (s2 (mACopy g (it (fun j t => mJCopy g t j) k.1 (it (fun p t => mPCopy g t p) 2 t))) 0 4 (g 0 4)) 0 5 (g 0 5)) 0 6 (g 0 6)) 0 7 (g 0 7)) 0 8 (g 0 8)) 0) 9 (g 0 9)) rfl)
      have hP : mP G al (w2 G al k c g (s2 (s2 (s2 (s2 (s2 (s2 (mACopy g (it (fun j t => mJCopy g t j) k.1 (it (fun p t => mPCopy g t p) 2 t))) 0 4 (g 0 4)) 0 5 (g 0 5)) 0 6 (g 0 6)) 0 7 (g 0 7)) 0 8 (g 0 8)) 0 9 (g 0 9))) H := hP
      refine lv_aload_n hx hb dX5_becomeLike_169 rfl (lv_at hl 2 rfl) ?_
      refine lv_aload_n hx hb dX5_becomeLike_170 rfl (lv_at hl 1 rfl) ?_
      refine m_get (C := RX5) (T := TX5) (N := 15) (ci := 6) (v := .int (g 0 10)) hx hb hts uX5 hown hE hP 100 rfl ((congrFun (w2_c hJ) _).trans ov_s) rfl 10 (by decide) (hts _ q309) (fun _ h9 => h9) rfl dX5_becomeLike_171 ?_
      refine m_put (v := .int (g 0 10)) (ty := .int) (C := RX5) (T := TX5) (N := 15) (ci := 6) hx hb hts uX5 tyX5 tyX5_ok nmX5 hown hE hP hS 200 rfl ov_s rfl 10 (by decide) (hts _ q309) (fun _ h9 => h9) rfl (by decide +kernel) rfl rfl (Nat.le_of_ble_eq_true rfl) dX5_becomeLike_174 (fun H locs hP hS => ?_)
      have hP := m_cv hP (ov_us (r := upd ((s2 (s2 (s2 (s2 (s2 (s2 (mACopy g (it (fun j t => mJCopy g t j) k.1 (it (fun p t => mPCopy g t p) 2 t))) 0 4 (g 0 4)) 0 5 (g 0 5)) 0 6 (g 0 6)) 0 7 (g 0 7)) 0 8 (g 0 8)) 0 9 (g 0 9)) 0) 10 (g 0 10)) rfl)
      have hP : mP G al (w2 G al k c g (s2 (s2 (s2 (s2 (s2 (s2 (s2 (mACopy g (it (fun j t => mJCopy g t j) k.1 (it (fun p t => mPCopy g t p) 2 t))) 0 4 (g 0 4)) 0 5 (g 0 5)) 0 6 (g 0 6)) 0 7 (g 0 7)) 0 8 (g 0 8)) 0 9 (g 0 9)) 0 10 (g 0 10))) H := hP
      refine lv_aload_n hx hb dX5_becomeLike_177 rfl (lv_at hl 2 rfl) ?_
      refine lv_aload_n hx hb dX5_becomeLike_178 rfl (lv_at hl 1 rfl) ?_
      refine m_get (C := RX5) (T := TX5) (N := 15) (ci := 6) (v := .int (g 0 11)) hx hb hts uX5 hown hE hP 100 rfl ((congrFun (w2_c hJ) _).trans ov_s) rfl 11 (by decide) (hts _ q311) (fun _ h9 => h9) rfl dX5_becomeLike_179 ?_
      refine m_put (v := .int (g 0 11)) (ty := .int) (C := RX5) (T := TX5) (N := 15) (ci := 6) hx hb hts uX5 tyX5 tyX5_ok nmX5 hown hE hP hS 200 rfl ov_s rfl 11 (by decide) (hts _ q311) (fun _ h9 => h9) rfl (by decide +kernel) rfl rfl (Nat.le_of_ble_eq_true rfl) dX5_becomeLike_182 (fun H locs hP hS => ?_)
      have hP := m_cv hP (ov_us (r := upd ((s2 (s2 (s2 (s2 (s2 (s2 (s2 (mACopy g (it (fun j t => mJCopy g t j) k.1 (it (fun p t => mPCopy g t p) 2 t))) 0 4 (g 0 4)) 0 5 (g 0 5)) 0 6 (g 0 6)) 0 7 (g 0 7)) 0 8 (g 0 8)) 0 9 (g 0 9)) 0 10 (g 0 10)) 0) 11 (g 0 11)) rfl)
      have hP : mP G al (w2 G al k c g (s2 (s2 (s2 (s2 (s2 (s2 (s2 (s2 (mACopy g (it (fun j t => mJCopy g t j) k.1 (it (fun p t => mPCopy g t p) 2 t))) 0 4 (g 0 4)) 0 5 (g 0 5)) 0 6 (g 0 6)) 0 7 (g 0 7)) 0 8 (g 0 8)) 0 9 (g 0 9)) 0 10 (g 0 10)) 0 11 (g 0 11))) H := hP
      refine lv_aload_n hx hb dX5_becomeLike_185 rfl (lv_at hl 2 rfl) ?_
      refine lv_aload_n hx hb dX5_becomeLike_186 rfl (lv_at hl 1 rfl) ?_
      refine m_get (C := RX5) (T := TX5) (N := 15) (ci := 6) (v := .int (g 0 12)) hx hb hts uX5 hown hE hP 100 rfl ((congrFun (w2_c hJ) _).trans ov_s) rfl 12 (by decide) (hts _ q270) (fun _ h9 => h9) rfl dX5_becomeLike_187 ?_
      refine m_put (v := .int (g 0 12)) (ty := .int) (C := RX5) (T := TX5) (N := 15) (ci := 6) hx hb hts uX5 tyX5 tyX5_ok nmX5 hown hE hP hS 200 rfl ov_s rfl 12 (by decide) (hts _ q270) (fun _ h9 => h9) rfl (by decide +kernel) rfl rfl (Nat.le_of_ble_eq_true rfl) dX5_becomeLike_190 (fun H locs hP hS => ?_)
      have hP := m_cv hP (ov_us (r := upd ((s2 (s2 (s2 (s2 (s2 (s2 (s2 (s2 (mACopy g (it (fun j t => mJCopy g t j) k.1 (it (fun p t => mPCopy g t p) 2 t))) 0 4 (g 0 4)) 0 5 (g 0 5)) 0 6 (g 0 6)) 0 7 (g 0 7)) 0 8 (g 0 8)) 0 9 (g 0 9)) 0 10 (g 0 10)) 0 11 (g 0 11)) 0) 12 (g 0 12)) rfl)
      have hP : mP G al (w2 G al k c g (s2 (s2 (s2 (s2 (s2 (s2 (s2 (s2 (s2 (mACopy g (it (fun j t => mJCopy g t j) k.1 (it (fun p t => mPCopy g t p) 2 t))) 0 4 (g 0 4)) 0 5 (g 0 5)) 0 6 (g 0 6)) 0 7 (g 0 7)) 0 8 (g 0 8)) 0 9 (g 0 9)) 0 10 (g 0 10)) 0 11 (g 0 11)) 0 12 (g 0 12))) H := hP
      refine lv_aload_n hx hb dX5_becomeLike_193 rfl (lv_at hl 2 rfl) ?_
      refine lv_aload_n hx hb dX5_becomeLike_194 rfl (lv_at hl 1 rfl) ?_
      refine m_get (C := RX5) (T := TX5) (N := 15) (ci := 6) (v := .int (g 0 13)) hx hb hts uX5 hown hE hP 100 rfl ((congrFun (w2_c hJ) _).trans ov_s) rfl 13 (by decide) (hts _ q271) (fun _ h9 => h9) rfl dX5_becomeLike_195 ?_
      refine m_put (v := .int (g 0 13)) (ty := .int) (C := RX5) (T := TX5) (N := 15) (ci := 6) hx hb hts uX5 tyX5 tyX5_ok nmX5 hown hE hP hS 200 rfl ov_s rfl 13 (by decide) (hts _ q271) (fun _ h9 => h9) rfl (by decide +kernel) rfl rfl (Nat.le_of_ble_eq_true rfl) dX5_becomeLike_198 (fun H locs hP hS => ?_)
      have hP := m_cv hP (ov_us (r := upd ((s2 (s2 (s2 (s2 (s2 (s2 (s2 (s2 (s2 (mACopy g (it (fun j t => mJCopy g t j) k.1 (it (fun p t => mPCopy g t p) 2 t))) 0 4 (g 0 4)) 0 5 (g 0 5)) 0 6 (g 0 6)) 0 7 (g 0 7)) 0 8 (g 0 8)) 0 9 (g 0 9)) 0 10 (g 0 10)) 0 11 (g 0 11)) 0 12 (g 0 12)) 0) 13 (g 0 13)) rfl)
      have hP : mP G al (w2 G al k c g (s2 (s2 (s2 (s2 (s2 (s2 (s2 (s2 (s2 (s2 (mACopy g (it (fun j t => mJCopy g t j) k.1 (it (fun p t => mPCopy g t p) 2 t))) 0 4 (g 0 4)) 0 5 (g 0 5)) 0 6 (g 0 6)) 0 7 (g 0 7)) 0 8 (g 0 8)) 0 9 (g 0 9)) 0 10 (g 0 10)) 0 11 (g 0 11)) 0 12 (g 0 12)) 0 13 (g 0 13))) H := hP
      refine lv_aload_n hx hb dX5_becomeLike_201 rfl (lv_at hl 2 rfl) ?_
      refine lv_aload_n hx hb dX5_becomeLike_202 rfl (lv_at hl 1 rfl) ?_
      refine m_get (C := RX5) (T := TX5) (N := 15) (ci := 6) (v := .int (bz (g 0 14))) hx hb hts uX5 hown hE hP 100 rfl ((congrFun (w2_c hJ) _).trans ov_s) rfl 14 (by decide) (hts _ q310) (fun _ h9 => h9) rfl dX5_becomeLike_203 ?_
      refine m_put (v := .int (bz (g 0 14))) (ty := .boolean) (C := RX5) (T := TX5) (N := 15) (ci := 6) hx hb hts uX5 tyX5 tyX5_ok nmX5 hown hE hP hS 200 rfl ov_s rfl 14 (by decide) (hts _ q310) (fun _ h9 => h9) rfl (by decide +kernel) (bz_nar _) (bz_fit _) (Nat.le_of_ble_eq_true rfl) dX5_becomeLike_206 (fun H locs hP hS => ?_)
      have hP := m_cv hP (ov_us (r := upd ((s2 (s2 (s2 (s2 (s2 (s2 (s2 (s2 (s2 (s2 (mACopy g (it (fun j t => mJCopy g t j) k.1 (it (fun p t => mPCopy g t p) 2 t))) 0 4 (g 0 4)) 0 5 (g 0 5)) 0 6 (g 0 6)) 0 7 (g 0 7)) 0 8 (g 0 8)) 0 9 (g 0 9)) 0 10 (g 0 10)) 0 11 (g 0 11)) 0 12 (g 0 12)) 0 13 (g 0 13)) 0) 14 (g 0 14)) rfl)
      have hP : mP G al (w2 G al k c g (s2 (s2 (s2 (s2 (s2 (s2 (s2 (s2 (s2 (s2 (s2 (mACopy g (it (fun j t => mJCopy g t j) k.1 (it (fun p t => mPCopy g t p) 2 t))) 0 4 (g 0 4)) 0 5 (g 0 5)) 0 6 (g 0 6)) 0 7 (g 0 7)) 0 8 (g 0 8)) 0 9 (g 0 9)) 0 10 (g 0 10)) 0 11 (g 0 11)) 0 12 (g 0 12)) 0 13 (g 0 13)) 0 14 (g 0 14))) H := hP
      have hP : mP G al (w2 G al k c g g) H := m_cv hP (mLike_ov (g := g) (t := t) hJ)
      refine W.widen (k := 0) (n := 0) (Nat.le_of_ble_eq_true rfl) (Nat.le_of_ble_eq_true rfl) ?_
      exact W.vret hx hb hr (fun tz htz hW => ⟨⟨(), rfl, trivial, g_end htz hP⟩, hS.F htz⟩) hS.2.2 dX5_becomeLike_209
    · skip
      have hlti2 : i2 < k.1 := Nat.lt_of_not_le (fun q => hc_2 (nI_le q (by omega)))
      refine lv_iload_n hx hb dX5_becomeLike_68 rfl (lv_at hl 0 rfl) ?_
      refine lv_aload_n hx hb dX5_becomeLike_69 rfl (lv_at hl 1 rfl) ?_
      refine m_get (C := RX5) (T := TX5) (N := 15) (ci := 6) (v := .ref (al (100 + 3))) hx hb hts uX5 hown hE hP 100 rfl ((congrFun (w2_c hJ) _).trans ov_s) rfl 1 (by decide) (hts _ q174) (fun _ h9 => h9) rfl dX5_becomeLike_70 ?_
      refine g_aft_i (g_runV (As := []) (rest := [.int (nI i2)]) hx hb hml hown hts (kJx4a65c_size_8abf5 l G al (w2 G al k c g (it (fun j t => mJCopy g t j) i2 (it (fun p t => mPCopy g t p) 2 t))) (100 + 3) (100 + 4) k.1 (fun j => 100 + 20 + j) ((w2_c (G := G) (al := al) (c := c) (g := g) (t := it (fun j t => mJCopy g t j) i2 (it (fun p t => mPCopy g t p) 2 t)) hJ) ▸ (gF_j (gF_o2 (gX_1 hX))) : gLs G al (w2 G al k c g (it (fun j t => mJCopy g t j) i2 (it (fun p t => mPCopy g t p) 2 t))) (100 + 3) (100 + 4) k.1 (fun j => 100 + 20 + j))) (fcwV 0 hts q187 q53 q54 q50 q34 rfl rfl (by decide +kernel) ⟨(Nat.le_of_ble_eq_true rfl), (Nat.le_of_ble_eq_true rfl)⟩) hE hb0 hP hS (m_recvL hE hP ((w2_c (G := G) (al := al) (c := c) (g := g) (t := it (fun j t => mJCopy g t j) i2 (it (fun p t => mPCopy g t p) 2 t)) hJ) ▸ (gF_j (gF_o2 (gX_1 hX))) : gLs G al (w2 G al k c g (it (fun j t => mJCopy g t j) i2 (it (fun p t => mPCopy g t p) 2 t))) (100 + 3) (100 + 4) k.1 (fun j => 100 + 20 + j)) rfl) rfl hl.1 rfl (Nat.le_of_ble_eq_true rfl) dX5_becomeLike_73 ⟨(Nat.le_of_ble_eq_true rfl), (Nat.le_of_ble_eq_true rfl)⟩) hS (fun u H locs hP hS => ?_)
      refine f_topi (v := nI k.1) rfl ?_
      refine lv_icmp_ge (tgt := 110) hx hb dX5_becomeLike_76 (by decide) (fun h => absurd h (nI_ge hlti2 (by omega))) (fun _ => ?_)
      refine lv_aload_n hx hb dX5_becomeLike_79 rfl (lv_at hl 2 rfl) ?_
      refine m_get (C := RX5) (T := TX5) (N := 15) (ci := 6) (v := .ref (al (200 + 3))) hx hb hts uX5 hown hE hP 200 rfl ov_s rfl 1 (by decide) (hts _ q174) (fun _ h9 => h9) rfl dX5_becomeLike_80 ?_
      refine lv_iload_n hx hb dX5_becomeLike_83 rfl (lv_at hl 0 rfl) ?_
      refine g_aft_r (g_runV (As := [.int (nI i2)]) (rest := []) hx hb hml hown hts (kJx4a65c_get_915e3 l G al (w2 G al k c g (it (fun j t => mJCopy g t j) i2 (it (fun p t => mPCopy g t p) 2 t))) (200 + 3) (200 + 4) k.1 (fun j => 200 + 20 + j) i2 (gF_j (gF_o1 (gX_2 hX))) hlti2) (fcwV 1 hts q188 q56 q57 q50 q43 rfl rfl (by decide +kernel) ⟨(Nat.le_of_ble_eq_true rfl), (Nat.le_of_ble_eq_true rfl)⟩) hE hb0 hP hS (m_recvL hE hP (gF_j (gF_o1 (gX_2 hX))) rfl) rfl hl.1 rfl (Nat.le_of_ble_eq_true rfl) dX5_becomeLike_84 ⟨(Nat.le_of_ble_eq_true rfl), (Nat.le_of_ble_eq_true rfl)⟩) hS (fun u H locs hP hS => ?_)
      refine g_topr (v := al (200 + 20 + i2)) rfl ?_
      refine m_cast hx hb hown (hts _ q196) hE hP (200 + 20 + i2) rfl (ov_j hlti2) rfl dX5_becomeLike_87 ?_
      refine lv_aload_n hx hb dX5_becomeLike_90 rfl (lv_at hl 1 rfl) ?_
      refine m_get (C := RX5) (T := TX5) (N := 15) (ci := 6) (v := .ref (al (100 + 3))) hx hb hts uX5 hown hE hP 100 rfl ((congrFun (w2_c hJ) _).trans ov_s) rfl 1 (by decide) (hts _ q174) (fun _ h9 => h9) rfl dX5_becomeLike_91 ?_
      refine lv_iload_n hx hb dX5_becomeLike_94 rfl (lv_at hl 0 rfl) ?_
      refine g_aft_r (g_runV (As := [.int (nI i2)]) (rest := [.ref (al (200 + 20 + i2))]) hx hb hml hown hts (kJx4a65c_get_915e3 l G al (w2 G al k c g (it (fun j t => mJCopy g t j) i2 (it (fun p t => mPCopy g t p) 2 t))) (100 + 3) (100 + 4) k.1 (fun j => 100 + 20 + j) i2 ((w2_c (G := G) (al := al) (c := c) (g := g) (t := it (fun j t => mJCopy g t j) i2 (it (fun p t => mPCopy g t p) 2 t)) hJ) ▸ (gF_j (gF_o2 (gX_1 hX))) : gLs G al (w2 G al k c g (it (fun j t => mJCopy g t j) i2 (it (fun p t => mPCopy g t p) 2 t))) (100 + 3) (100 + 4) k.1 (fun j => 100 + 20 + j)) hlti2) (fcwV 1 hts q188 q56 q57 q50 q43 rfl rfl (by decide +kernel) ⟨(Nat.le_of_ble_eq_true rfl), (Nat.le_of_ble_eq_true rfl)⟩) hE hb0 hP hS (m_recvL hE hP ((w2_c (G := G) (al := al) (c := c) (g := g) (t := it (fun j t => mJCopy g t j) i2 (it (fun p t => mPCopy g t p) 2 t)) hJ) ▸ (gF_j (gF_o2 (gX_1 hX))) : gLs G al (w2 G al k c g (it (fun j t => mJCopy g t j) i2 (it (fun p t => mPCopy g t p) 2 t))) (100 + 3) (100 + 4) k.1 (fun j => 100 + 20 + j)) rfl) rfl hl.1 rfl (Nat.le_of_ble_eq_true rfl) dX5_becomeLike_95 ⟨(Nat.le_of_ble_eq_true rfl), (Nat.le_of_ble_eq_true rfl)⟩) hS (fun u H locs hP hS => ?_)
      refine g_topr (v := al (100 + 20 + i2)) rfl ?_
      refine m_cast hx hb hown (hts _ q196) hE hP (100 + 20 + i2) rfl ((congrFun (w2_c hJ) _).trans (ov_j hlti2)) rfl dX5_becomeLike_98 ?_
      refine g_aft_v (g_runV (As := [.ref (al (100 + 20 + i2))]) (rest := []) hx hb hml hown hts (kX3_becomeLike l G al k h c g (it (fun j t => mJCopy g t j) i2 (it (fun p t => mPCopy g t p) 2 t)) i2 hX hlti2) (fcwV 1 hts q352 q353 q354 q185 q160 rfl rfl (by decide +kernel) ⟨(Nat.le_of_ble_eq_true rfl), (Nat.le_of_ble_eq_true rfl)⟩) hE hb0 hP hS (m_recvA hE hP (200 + 20 + i2) rfl (ov_j hlti2) rfl) rfl hl.1 rfl (Nat.le_of_ble_eq_true rfl) dX5_becomeLike_101 ⟨(Nat.le_of_ble_eq_true rfl), (Nat.le_of_ble_eq_true rfl)⟩) hS (fun u H locs hP hS => ?_)
      have hP : mP G al (w2 G al k c g (mJCopy g (it (fun j t => mJCopy g t j) i2 (it (fun p t => mPCopy g t p) 2 t)) i2)) H := hP
      refine lv_iinc (v := nI (i2 + 1)) (lv' := [(2, .int (nI (i2 + 1))), (1, .ref (al 100)), (0, .ref (al 200))]) hx hb dX5_becomeLike_104 hl (k := 0) rfl (f_inc _) (by decide) rfl (fun ls hl => ?_)
      refine lv_goto (tgt := 57) hx hb dX5_becomeLike_107 (by decide) ?_
      exact ihi2 hlti2 _ _ _ (m_cv hP (show w2 G al k c g (mJCopy g (it (fun j t => mJCopy g t j) i2 (it (fun p t => mPCopy g t p) 2 t)) i2) = w2 G al k c g (it (fun j t => mJCopy g t j) (i2 + 1) (it (fun p t => mPCopy g t p) 2 t)) from (by first | rfl | (simp only [it_s]; done) | (simp only [it_s]; rfl)))) hS (lv_sub hl [0, 1, 2] rfl)
  · skip
    have hlti1 : i1 < 2 := Nat.lt_of_not_le (fun q => hc_1 (nI_le (a := 2) q (by omega)))
    refine lv_iload_n hx hb dX5_becomeLike_13 rfl (lv_at hl 0 rfl) ?_
    refine lv_aload_n hx hb dX5_becomeLike_14 rfl (lv_at hl 1 rfl) ?_
    refine m_get (C := RX5) (T := TX5) (N := 15) (ci := 6) (v := .ref (al (100 + 1))) hx hb hts uX5 hown hE hP 100 rfl ((congrFun (w2_c hJ) _).trans ov_s) rfl 0 (by decide) (hts _ q173) (fun _ h9 => h9) rfl dX5_becomeLike_15 ?_
    refine g_aft_i (g_runV (As := []) (rest := [.int (nI i1)]) hx hb hml hown hts (kJx4a65c_size_8abf5 l G al (w2 G al k c g (it (fun p t => mPCopy g t p) i1 t)) (100 + 1) (100 + 2) 2 (fun p => 100 + 11 + p) ((w2_c (G := G) (al := al) (c := c) (g := g) (t := it (fun p t => mPCopy g t p) i1 t) hJ) ▸ (gF_p (gF_o2 (gX_1 hX))) : gLs G al (w2 G al k c g (it (fun p t => mPCopy g t p) i1 t)) (100 + 1) (100 + 2) 2 (fun p => 100 + 11 + p))) (fcwV 0 hts q187 q53 q54 q50 q34 rfl rfl (by decide +kernel) ⟨(Nat.le_of_ble_eq_true rfl), (Nat.le_of_ble_eq_true rfl)⟩) hE hb0 hP hS (m_recvL hE hP ((w2_c (G := G) (al := al) (c := c) (g := g) (t := it (fun p t => mPCopy g t p) i1 t) hJ) ▸ (gF_p (gF_o2 (gX_1 hX))) : gLs G al (w2 G al k c g (it (fun p t => mPCopy g t p) i1 t)) (100 + 1) (100 + 2) 2 (fun p => 100 + 11 + p)) rfl) rfl hl.1 rfl (Nat.le_of_ble_eq_true rfl) dX5_becomeLike_18 ⟨(Nat.le_of_ble_eq_true rfl), (Nat.le_of_ble_eq_true rfl)⟩) hS (fun u H locs hP hS => ?_)
    refine f_topi (v := nI 2) rfl ?_
    refine lv_icmp_ge (tgt := 55) hx hb dX5_becomeLike_21 (by decide) (fun h => absurd h (nI_ge (b := 2) hlti1 (by omega))) (fun _ => ?_)
    refine lv_aload_n hx hb dX5_becomeLike_24 rfl (lv_at hl 2 rfl) ?_
    refine m_get (C := RX5) (T := TX5) (N := 15) (ci := 6) (v := .ref (al (200 + 1))) hx hb hts uX5 hown hE hP 200 rfl ov_s rfl 0 (by decide) (hts _ q173) (fun _ h9 => h9) rfl dX5_becomeLike_25 ?_
    refine lv_iload_n hx hb dX5_becomeLike_28 rfl (lv_at hl 0 rfl) ?_
    refine g_aft_r (g_runV (As := [.int (nI i1)]) (rest := []) hx hb hml hown hts (kJx4a65c_get_915e3 l G al (w2 G al k c g (it (fun p t => mPCopy g t p) i1 t)) (200 + 1) (200 + 2) 2 (fun p => 200 + 11 + p) i1 (gF_p (gF_o1 (gX_2 hX))) hlti1) (fcwV 1 hts q188 q56 q57 q50 q43 rfl rfl (by decide +kernel) ⟨(Nat.le_of_ble_eq_true rfl), (Nat.le_of_ble_eq_true rfl)⟩) hE hb0 hP hS (m_recvL hE hP (gF_p (gF_o1 (gX_2 hX))) rfl) rfl hl.1 rfl (Nat.le_of_ble_eq_true rfl) dX5_becomeLike_29 ⟨(Nat.le_of_ble_eq_true rfl), (Nat.le_of_ble_eq_true rfl)⟩) hS (fun u H locs hP hS => ?_)
    refine g_topr (v := al (200 + 11 + i1)) rfl ?_
    refine m_cast hx hb hown (hts _ q186) hE hP (200 + 11 + i1) rfl (ov_p hlti1) rfl dX5_becomeLike_32 ?_
    refine lv_aload_n hx hb dX5_becomeLike_35 rfl (lv_at hl 1 rfl) ?_
    refine m_get (C := RX5) (T := TX5) (N := 15) (ci := 6) (v := .ref (al (100 + 1))) hx hb hts uX5 hown hE hP 100 rfl ((congrFun (w2_c hJ) _).trans ov_s) rfl 0 (by decide) (hts _ q173) (fun _ h9 => h9) rfl dX5_becomeLike_36 ?_
    refine lv_iload_n hx hb dX5_becomeLike_39 rfl (lv_at hl 0 rfl) ?_
    refine g_aft_r (g_runV (As := [.int (nI i1)]) (rest := [.ref (al (200 + 11 + i1))]) hx hb hml hown hts (kJx4a65c_get_915e3 l G al (w2 G al k c g (it (fun p t => mPCopy g t p) i1 t)) (100 + 1) (100 + 2) 2 (fun p => 100 + 11 + p) i1 ((w2_c (G := G) (al := al) (c := c) (g := g) (t := it (fun p t => mPCopy g t p) i1 t) hJ) ▸ (gF_p (gF_o2 (gX_1 hX))) : gLs G al (w2 G al k c g (it (fun p t => mPCopy g t p) i1 t)) (100 + 1) (100 + 2) 2 (fun p => 100 + 11 + p)) hlti1) (fcwV 1 hts q188 q56 q57 q50 q43 rfl rfl (by decide +kernel) ⟨(Nat.le_of_ble_eq_true rfl), (Nat.le_of_ble_eq_true rfl)⟩) hE hb0 hP hS (m_recvL hE hP ((w2_c (G := G) (al := al) (c := c) (g := g) (t := it (fun p t => mPCopy g t p) i1 t) hJ) ▸ (gF_p (gF_o2 (gX_1 hX))) : gLs G al (w2 G al k c g (it (fun p t => mPCopy g t p) i1 t)) (100 + 1) (100 + 2) 2 (fun p => 100 + 11 + p)) rfl) rfl hl.1 rfl (Nat.le_of_ble_eq_true rfl) dX5_becomeLike_40 ⟨(Nat.le_of_ble_eq_true rfl), (Nat.le_of_ble_eq_true rfl)⟩) hS (fun u H locs hP hS => ?_)
    refine g_topr (v := al (100 + 11 + i1)) rfl ?_
    refine m_cast hx hb hown (hts _ q186) hE hP (100 + 11 + i1) rfl ((congrFun (w2_c hJ) _).trans (ov_p hlti1)) rfl dX5_becomeLike_43 ?_
    refine g_aft_v (g_runV (As := [.ref (al (100 + 11 + i1))]) (rest := []) hx hb hml hown hts (kX4_becomeLike l G al k h c g (it (fun p t => mPCopy g t p) i1 t) i1 hX hlti1) (fcwV 1 hts q349 q350 q351 q159 q170 rfl rfl (by decide +kernel) ⟨(Nat.le_of_ble_eq_true rfl), (Nat.le_of_ble_eq_true rfl)⟩) hE hb0 hP hS (m_recvA hE hP (200 + 11 + i1) rfl (ov_p hlti1) rfl) rfl hl.1 rfl (Nat.le_of_ble_eq_true rfl) dX5_becomeLike_46 ⟨(Nat.le_of_ble_eq_true rfl), (Nat.le_of_ble_eq_true rfl)⟩) hS (fun u H locs hP hS => ?_)
    have hP : mP G al (w2 G al k c g (mPCopy g (it (fun p t => mPCopy g t p) i1 t) i1)) H := hP
    refine lv_iinc (v := nI (i1 + 1)) (lv' := [(2, .int (nI (i1 + 1))), (1, .ref (al 100)), (0, .ref (al 200))]) hx hb dX5_becomeLike_49 hl (k := 0) rfl (f_inc _) (by decide) rfl (fun ls hl => ?_)
    refine lv_goto (tgt := 2) hx hb dX5_becomeLike_52 (by decide) ?_
    exact ihi1 hlti1 _ _ _ (m_cv hP (show w2 G al k c g (mPCopy g (it (fun p t => mPCopy g t p) i1 t) i1) = w2 G al k c g (it (fun p t => mPCopy g t p) (i1 + 1) t) from (by first | rfl | (simp only [it_s]; done) | (simp only [it_s]; rfl)))) hS (lv_sub hl [0, 1, 2] rfl)
