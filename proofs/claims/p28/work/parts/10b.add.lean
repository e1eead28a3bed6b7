set_option maxHeartbeats 4000000 in
set_option maxRecDepth 100000 in
theorem kJ8_newLength_cabcc_g10 (l : Launch) (G : gT) (al : Nat → Nat) (c : mC)  : Met l yJ8_newLength_cabcc (fW yJ8_newLength_cabcc cJ8_newLength_cabcc 4 (some .int)) { frames := 1, cells := 0, slots := 0, locals := 14 } (gPre G al (c) [.int 10, .int 1, .int 5]) (gQi (S := Unit) G (fun _ => 15) (fun _ => al) (fun _ => c)) 0 0 (gA G) := by
  refine Met.ofW (cc := cJ8_newLength_cabcc) (maxL := 4) (ret := (some .int)) (by decide) rfl ?_
  intro pz ez s m args below meth c₀ s₁ Bo hml hv
  obtain ⟨rfl, hb0, hP, hE⟩ := hv
  have hx := Bo.exec
  have hb := Bo.bytes
  have hr := Bo.returns
  have hts0 := atoms_spec (ws := (fW yJ8_newLength_cabcc cJ8_newLength_cabcc 4 (some .int))) Bo.pre
  have hts : ∀ w ∈ fA, w.before _ s = true := fun w h => hts0 w (List.mem_cons_of_mem _ h)
  have hown : s.vm.findClass RJ8 = some m.cls := findClass_of_methodNamed Bo.named
  have hlocks := Bo.notSynchronized
  have hl := lv_entry ([.int 10, .int 1, .int 5]) (n := 4) (Nat.le_of_ble_eq_true rfl)
  rw [lg_entry_eq]
  generalize (lg_sl ([.int 10, .int 1, .int 5]) ++ List.replicate (4 - (lg_sl ([.int 10, .int 1, .int 5])).length) Slot.unset).toArray = ls at hl ⊢
  have hl : lv_has ls 4 [(0, .int 10), (1, .int 1), (2, .int 5)] := hl
  refine g_start hP (fun H hP hS => ?_)
  refine lv_iload_n hx hb dJ8_newLength_cabcc_0 rfl (lv_at hl 0 rfl) ?_
  refine lv_iload_n hx hb dJ8_newLength_cabcc_1 rfl (lv_at hl 1 rfl) ?_
  refine lv_iload_n hx hb dJ8_newLength_cabcc_2 rfl (lv_at hl 2 rfl) ?_
  refine va_mmax hx hb (hml.trans hl.1.symm) hown (hts _ q85) (hts _ q86) (hts _ q87) (hts _ q88) (Nat.le_of_ble_eq_true rfl) (Nat.le_of_ble_eq_true rfl) (Nat.le_of_ble_eq_true rfl) (Nat.le_of_ble_eq_true rfl) dJ8_newLength_cabcc_3 ?_
  refine f_topi (v := 5) (by decide) ?_
  refine lv_iadd hx hb dJ8_newLength_cabcc_6 ?_
  refine f_topi (v := 15) (by decide) ?_
  refine lv_istore_n (lv' := [(3, .int 15), (0, .int 10), (1, .int 1), (2, .int 5)]) hx hb dJ8_newLength_cabcc_7 rfl hl (by decide) rfl (fun ls hl => ?_)
  refine lv_iconst (v := 0) hx hb dJ8_newLength_cabcc_8 (by decide) ?_
  refine lv_iload_n hx hb dJ8_newLength_cabcc_9 rfl (lv_at hl 0 rfl) ?_
  refine lv_icmp_ge (tgt := 21) hx hb dJ8_newLength_cabcc_10 (by decide) (fun h => absurd h (by decide)) (fun _ => ?_)
  refine lv_iload_n hx hb dJ8_newLength_cabcc_13 rfl (lv_at hl 0 rfl) ?_
  refine lv_ldc hx hb hown (hts _ q83) dJ8_newLength_cabcc_14 ?_
  refine lv_icmp_gt (tgt := 21) hx hb dJ8_newLength_cabcc_16 (by decide) (fun h => absurd h (by decide)) (fun _ => ?_)
  refine lv_iload_n hx hb dJ8_newLength_cabcc_19 rfl (lv_at hl 0 rfl) ?_
  refine W.widen (k := 0) (n := 0) (Nat.le_of_ble_eq_true rfl) (Nat.le_of_ble_eq_true rfl) ?_
  exact W.iret (v := 15) hx hb hr (fun tz htz hW => ⟨⟨15, (), rfl, rfl, g_end htz hP⟩, hS.F htz⟩) hS.2.2 dJ8_newLength_cabcc_20
set_option maxHeartbeats 4000000 in
set_option maxRecDepth 100000 in
theorem kJ7_copyOf_6403c_g10 (l : Launch) (G : gT) (al : Nat → Nat) (c : mC) (di : Nat) (nd : Nat) (ff : Nat → Option Nat) (hf : Nat → Nat) (ci : Nat) (r : vw_C) (e2 : c di = some (.inl (gO G, 10, .inr (.inr (.inr (.inr ff)))))) (hnd : di ≠ nd) (hel : ∀ i, i < 10 → ff i = some (al (hf i)) ∧ hf i ≠ nd ∧ ∃ vs, c (hf i) = some (.inr (ci, vs))) (hrr : vwCl[ci]? = some r) (hro : r.1 ∈ fObj) : Met l yJ7_copyOf_6403c (fW yJ7_copyOf_6403c cJ7_copyOf_6403c 4 (some (.array (.object "java/lang/Object")))) { frames := 1, cells := 1, slots := 15, locals := 18 } (gPre G al (c) [.ref (al di), .int 15, .ref (gMi G)]) (gQr (S := Nat) G (fun u => u) (fun u => va_up al nd u) (fun u => up c nd (.inl (gO G, 15, .inr (.inr (.inr (.inr (va_cpy ff (fun _ => none) 0 0 10)))))))) 1 15 (gA G) := by
  refine Met.ofW (cc := cJ7_copyOf_6403c) (maxL := 4) (ret := (some (.array (.object "java/lang/Object")))) (by decide) rfl ?_
  intro pz ez s m args below meth c₀ s₁ Bo hml hv
  obtain ⟨rfl, hb0, hP, hE⟩ := hv
  have hx := Bo.exec
  have hb := Bo.bytes
  have hr := Bo.returns
  have hts0 := atoms_spec (ws := (fW yJ7_copyOf_6403c cJ7_copyOf_6403c 4 (some (.array (.object "java/lang/Object"))))) Bo.pre
  have hts : ∀ w ∈ fA, w.before _ s = true := fun w h => hts0 w (List.mem_cons_of_mem _ h)
  have hown : s.vm.findClass RJ7 = some m.cls := findClass_of_methodNamed Bo.named
  have hlocks := Bo.notSynchronized
  have hl := lv_entry ([.ref (al di), .int 15, .ref (gMi G)]) (n := 4) (Nat.le_of_ble_eq_true rfl)
  rw [lg_entry_eq]
  generalize (lg_sl ([.ref (al di), .int 15, .ref (gMi G)]) ++ List.replicate (4 - (lg_sl ([.ref (al di), .int 15, .ref (gMi G)])).length) Slot.unset).toArray = ls at hl ⊢
  have hl : lv_has ls 4 [(0, .ref (al di)), (1, .int 15), (2, .ref (gMi G))] := hl
  refine g_start hP (fun H hP hS => ?_)
  refine lv_aload_n hx hb dJ7_copyOf_6403c_0 rfl (lv_at hl 2 rfl) ?_
  refine va_ldcM hx hb hown (hts _ q92) hE.1.1.2.1 dJ7_copyOf_6403c_1 ?_
  refine lv_acmp_ne (rx := some (gMi G)) (ry := some (gMi G)) (tgt := 13) hx hb dJ7_copyOf_6403c_3 (by decide) (fun h => absurd rfl h) (fun _ => ?_)
  refine lv_iload_n hx hb dJ7_copyOf_6403c_6 rfl (lv_at hl 1 rfl) ?_
  refine m_newQ nd (N := 15) hx hb hown (hts _ q93) hE hb0 hP hS (by decide) (by decide) (Nat.le_of_ble_eq_true rfl) (Nat.le_of_ble_eq_true rfl) (Nat.le_of_ble_eq_true rfl) dJ7_copyOf_6403c_7 (fun n_1 H hP hS => ?_)
  have hP : mP G (va_up al nd n_1) (up c nd (.inl (gO G, 15, .inr (.inr (.inr (.inr (fun _ => none))))))) H := hP
  refine lv_goto (tgt := 24) hx hb dJ7_copyOf_6403c_10 (by decide) ?_
  refine lv_astore_n (lv' := [(3, .ref n_1), (0, .ref (al di)), (1, .int 15), (2, .ref (gMi G))]) hx hb dJ7_copyOf_6403c_24 rfl hl (by decide) rfl (fun ls hl => ?_)
  refine lv_aload_n hx hb dJ7_copyOf_6403c_25 rfl (lv_at hl 1 rfl) ?_
  refine lv_iconst (v := 0) hx hb dJ7_copyOf_6403c_26 (by decide) ?_
  refine lv_aload_n hx hb dJ7_copyOf_6403c_27 rfl (lv_at hl 0 rfl) ?_
  refine lv_iconst (v := 0) hx hb dJ7_copyOf_6403c_28 (by decide) ?_
  refine lv_aload_n hx hb dJ7_copyOf_6403c_29 rfl (lv_at hl 1 rfl) ?_
  refine m_alen hx hb hE hP di ((au_n _ _ (by omega)).trans rfl) ((up_n _ _ (by omega)).trans e2) dJ7_copyOf_6403c_30 ?_
  refine f_topi (v := 10) (by decide) ?_
  refine lv_iload_n hx hb dJ7_copyOf_6403c_31 rfl (lv_at hl 2 rfl) ?_
  refine va_mmin hx hb (hml.trans hl.1.symm) hown (hts _ q94) (hts _ q95) (hts _ q87) (hts _ q96) (Nat.le_of_ble_eq_true rfl) (Nat.le_of_ble_eq_true rfl) (Nat.le_of_ble_eq_true rfl) (Nat.le_of_ble_eq_true rfl) dJ7_copyOf_6403c_32 ?_
  refine f_topi (v := 10) (by decide) ?_
  refine m_copyQ hx hb (hml.trans hl.1.symm) hown (hts _ q97) (hts _ q24) (hts _ q25) (hts _ q26) hE hP hS di nd ((au_n _ _ (by omega)).trans rfl) (au_s _ _ _) ((up_n _ _ (by omega)).trans e2) (up_s _ _ _) (N := 10) (by decide) (by decide) (by decide) (by decide) hrr hro hf (fun z hz => by obtain ⟨x1, x2, x3⟩ := hel z hz; obtain ⟨vs, x4⟩ := x3; exact ⟨by rw [x1, au_n _ _ x2], vs, by rw [up_n _ _ x2]; exact x4⟩) (Nat.le_of_ble_eq_true rfl) (Nat.le_of_ble_eq_true rfl) dJ7_copyOf_6403c_35 (fun H locs hP hS => ?_)
  have hP := m_cv hP (up_up _ _ _ _)
  have hP : mP G (va_up al nd n_1) (up c nd (.inl (gO G, 15, .inr (.inr (.inr (.inr (va_cpy ff (fun _ => none) 0 0 10))))))) H := hP
  refine lv_aload_n hx hb dJ7_copyOf_6403c_38 rfl (lv_at hl 0 rfl) ?_
  refine W.widen (k := 1) (n := 15) (Nat.le_of_ble_eq_true rfl) (Nat.le_of_ble_eq_true rfl) ?_
  exact W.aret hx hb hr (Or.inr ⟨_, rfl⟩) (Or.inr ⟨_, rfl⟩) (fun tz htz hW => ⟨⟨n_1, n_1, rfl, trivial, rfl, g_end htz hP⟩, hS.F htz⟩) hS.2.2 dJ7_copyOf_6403c_39
set_option maxHeartbeats 4000000 in
set_option maxRecDepth 100000 in
theorem kJ7_copyOf_1904c_g10 (l : Launch) (G : gT) (al : Nat → Nat) (c : mC) (di : Nat) (nd : Nat) (ff : Nat → Option Nat) (hf : Nat → Nat) (ci : Nat) (r : vw_C) (e2 : c di = some (.inl (gO G, 10, .inr (.inr (.inr (.inr ff)))))) (hnd : di ≠ nd) (hel : ∀ i, i < 10 → ff i = some (al (hf i)) ∧ hf i ≠ nd ∧ ∃ vs, c (hf i) = some (.inr (ci, vs))) (hrr : vwCl[ci]? = some r) (hro : r.1 ∈ fObj) : Met l yJ7_copyOf_1904c (fW yJ7_copyOf_1904c cJ7_copyOf_1904c 2 (some (.array (.object "java/lang/Object")))) { frames := 2, cells := 1, slots := 15, locals := 41 } (gPre G al (c) [.ref (al di), .int 15]) (gQr (S := Nat) G (fun u => u) (fun u => va_up al nd u) (fun u => up c nd (.inl (gO G, 15, .inr (.inr (.inr (.inr (va_cpy ff (fun _ => none) 0 0 10)))))))) 1 15 (gA G) := by
  refine Met.ofW (cc := cJ7_copyOf_1904c) (maxL := 2) (ret := (some (.array (.object "java/lang/Object")))) (by decide) rfl ?_
  intro pz ez s m args below meth c₀ s₁ Bo hml hv
  obtain ⟨rfl, hb0, hP, hE⟩ := hv
  have hx := Bo.exec
  have hb := Bo.bytes
  have hr := Bo.returns
  have hts0 := atoms_spec (ws := (fW yJ7_copyOf_1904c cJ7_copyOf_1904c 2 (some (.array (.object "java/lang/Object"))))) Bo.pre
  have hts : ∀ w ∈ fA, w.before _ s = true := fun w h => hts0 w (List.mem_cons_of_mem _ h)
  have hown : s.vm.findClass RJ7 = some m.cls := findClass_of_methodNamed Bo.named
  have hlocks := Bo.notSynchronized
  have hl := lv_entry ([.ref (al di), .int 15]) (n := 2) (Nat.le_of_ble_eq_true rfl)
  rw [lg_entry_eq]
  generalize (lg_sl ([.ref (al di), .int 15]) ++ List.replicate (2 - (lg_sl ([.ref (al di), .int 15])).length) Slot.unset).toArray = ls at hl ⊢
  have hl : lv_has ls 2 [(0, .ref (al di)), (1, .int 15)] := hl
  refine g_start hP (fun H hP hS => ?_)
  refine lv_aload_n hx hb dJ7_copyOf_1904c_0 rfl (lv_at hl 0 rfl) ?_
  refine lv_iload_n hx hb dJ7_copyOf_1904c_1 rfl (lv_at hl 1 rfl) ?_
  refine lv_aload_n hx hb dJ7_copyOf_1904c_2 rfl (lv_at hl 0 rfl) ?_
  refine va_getC hx hb (hml.trans hl.1.symm) hown (hts _ q98) (va_Dc.use hE.1.1.2.2.1) (hts _ q99) (hts _ q100) (hts _ q101) hE.1.1.2.1 (m_atO hE hP e2) (Nat.le_of_ble_eq_true rfl) (Nat.le_of_ble_eq_true rfl) dJ7_copyOf_1904c_3 ?_
  refine g_aft_r (g_runS (As := [.ref (al di), .int 15, .ref (gMi G)]) (rest := []) hx hb hml hown hts (kJ7_copyOf_6403c_g10 l G al c di nd ff hf ci r e2 hnd hel hrr hro) (fcwS 3 hts q102 q103 q104 q105 rfl rfl (by decide +kernel) ⟨(Nat.le_of_ble_eq_true rfl), (Nat.le_of_ble_eq_true rfl)⟩) hE hb0 hP hS rfl hl.1 rfl (Nat.le_of_ble_eq_true rfl) dJ7_copyOf_1904c_6 ⟨(Nat.le_of_ble_eq_true rfl), (Nat.le_of_ble_eq_true rfl)⟩) hS (fun u_1 H locs hP hS => ?_)
  have hP : mP G (va_up al nd u_1) (up c nd (.inl (gO G, 15, .inr (.inr (.inr (.inr (va_cpy ff (fun _ => none) 0 0 10))))))) H := hP
  refine g_topr (v := u_1) rfl ?_
  refine W.widen (k := 1) (n := 15) (Nat.le_of_ble_eq_true rfl) (Nat.le_of_ble_eq_true rfl) ?_
  exact W.aret hx hb hr (Or.inr ⟨_, rfl⟩) (Or.inr ⟨_, rfl⟩) (fun tz htz hW => ⟨⟨u_1, u_1, rfl, trivial, rfl, g_end htz hP⟩, hS.F htz⟩) hS.2.2 dJ7_copyOf_1904c_9
set_option maxHeartbeats 4000000 in
set_option maxRecDepth 100000 in
theorem kJ8_newLength_cabcc_g15 (l : Launch) (G : gT) (al : Nat → Nat) (c : mC)  : Met l yJ8_newLength_cabcc (fW yJ8_newLength_cabcc cJ8_newLength_cabcc 4 (some .int)) { frames := 1, cells := 0, slots := 0, locals := 14 } (gPre G al (c) [.int 15, .int 1, .int 7]) (gQi (S := Unit) G (fun _ => 22) (fun _ => al) (fun _ => c)) 0 0 (gA G) := by
  refine Met.ofW (cc := cJ8_newLength_cabcc) (maxL := 4) (ret := (some .int)) (by decide) rfl ?_
  intro pz ez s m args below meth c₀ s₁ Bo hml hv
  obtain ⟨rfl, hb0, hP, hE⟩ := hv
  have hx := Bo.exec
  have hb := Bo.bytes
  have hr := Bo.returns
  have hts0 := atoms_spec (ws := (fW yJ8_newLength_cabcc cJ8_newLength_cabcc 4 (some .int))) Bo.pre
  have hts : ∀ w ∈ fA, w.before _ s = true := fun w h => hts0 w (List.mem_cons_of_mem _ h)
  have hown : s.vm.findClass RJ8 = some m.cls := findClass_of_methodNamed Bo.named
  have hlocks := Bo.notSynchronized
  have hl := lv_entry ([.int 15, .int 1, .int 7]) (n := 4) (Nat.le_of_ble_eq_true rfl)
  rw [lg_entry_eq]
  generalize (lg_sl ([.int 15, .int 1, .int 7]) ++ List.replicate (4 - (lg_sl ([.int 15, .int 1, .int 7])).length) Slot.unset).toArray = ls at hl ⊢
  have hl : lv_has ls 4 [(0, .int 15), (1, .int 1), (2, .int 7)] := hl
  refine g_start hP (fun H hP hS => ?_)
  refine lv_iload_n hx hb dJ8_newLength_cabcc_0 rfl (lv_at hl 0 rfl) ?_
  refine lv_iload_n hx hb dJ8_newLength_cabcc_1 rfl (lv_at hl 1 rfl) ?_
  refine lv_iload_n hx hb dJ8_newLength_cabcc_2 rfl (lv_at hl 2 rfl) ?_
  refine va_mmax hx hb (hml.trans hl.1.symm) hown (hts _ q85) (hts _ q86) (hts _ q87) (hts _ q88) (Nat.le_of_ble_eq_true rfl) (Nat.le_of_ble_eq_true rfl) (Nat.le_of_ble_eq_true rfl) (Nat.le_of_ble_eq_true rfl) dJ8_newLength_cabcc_3 ?_
  refine f_topi (v := 7) (by decide) ?_
  refine lv_iadd hx hb dJ8_newLength_cabcc_6 ?_
  refine f_topi (v := 22) (by decide) ?_
  refine lv_istore_n (lv' := [(3, .int 22), (0, .int 15), (1, .int 1), (2, .int 7)]) hx hb dJ8_newLength_cabcc_7 rfl hl (by decide) rfl (fun ls hl => ?_)
  refine lv_iconst (v := 0) hx hb dJ8_newLength_cabcc_8 (by decide) ?_
  refine lv_iload_n hx hb dJ8_newLength_cabcc_9 rfl (lv_at hl 0 rfl) ?_
  refine lv_icmp_ge (tgt := 21) hx hb dJ8_newLength_cabcc_10 (by decide) (fun h => absurd h (by decide)) (fun _ => ?_)
  refine lv_iload_n hx hb dJ8_newLength_cabcc_13 rfl (lv_at hl 0 rfl) ?_
  refine lv_ldc hx hb hown (hts _ q83) dJ8_newLength_cabcc_14 ?_
  refine lv_icmp_gt (tgt := 21) hx hb dJ8_newLength_cabcc_16 (by decide) (fun h => absurd h (by decide)) (fun _ => ?_)
  refine lv_iload_n hx hb dJ8_newLength_cabcc_19 rfl (lv_at hl 0 rfl) ?_
  refine W.widen (k := 0) (n := 0) (Nat.le_of_ble_eq_true rfl) (Nat.le_of_ble_eq_true rfl) ?_
  exact W.iret (v := 22) hx hb hr (fun tz htz hW => ⟨⟨22, (), rfl, rfl, g_end htz hP⟩, hS.F htz⟩) hS.2.2 dJ8_newLength_cabcc_20
set_option maxHeartbeats 4000000 in
set_option maxRecDepth 100000 in
theorem kJ7_copyOf_6403c_g15 (l : Launch) (G : gT) (al : Nat → Nat) (c : mC) (di : Nat) (nd : Nat) (ff : Nat → Option Nat) (hf : Nat → Nat) (ci : Nat) (r : vw_C) (e2 : c di = some (.inl (gO G, 15, .inr (.inr (.inr (.inr ff)))))) (hnd : di ≠ nd) (hel : ∀ i, i < 15 → ff i = some (al (hf i)) ∧ hf i ≠ nd ∧ ∃ vs, c (hf i) = some (.inr (ci, vs))) (hrr : vwCl[ci]? = some r) (hro : r.1 ∈ fObj) : Met l yJ7_copyOf_6403c (fW yJ7_copyOf_6403c cJ7_copyOf_6403c 4 (some (.array (.object "java/lang/Object")))) { frames := 1, cells := 1, slots := 22, locals := 18 } (gPre G al (c) [.ref (al di), .int 22, .ref (gMi G)]) (gQr (S := Nat) G (fun u => u) (fun u => va_up al nd u) (fun u => up c nd (.inl (gO G, 22, .inr (.inr (.inr (.inr (va_cpy ff (fun _ => none) 0 0 15)))))))) 1 22 (gA G) := by
  refine Met.ofW (cc := cJ7_copyOf_6403c) (maxL := 4) (ret := (some (.array (.object "java/lang/Object")))) (by decide) rfl ?_
  intro pz ez s m args below meth c₀ s₁ Bo hml hv
  obtain ⟨rfl, hb0, hP, hE⟩ := hv
  have hx := Bo.exec
  have hb := Bo.bytes
  have hr := Bo.returns
  have hts0 := atoms_spec (ws := (fW yJ7_copyOf_6403c cJ7_copyOf_6403c 4 (some (.array (.object "java/lang/Object"))))) Bo.pre
  have hts : ∀ w ∈ fA, w.before _ s = true := fun w h => hts0 w (List.mem_cons_of_mem _ h)
  have hown : s.vm.findClass RJ7 = some m.cls := findClass_of_methodNamed Bo.named
  have hlocks := Bo.notSynchronized
  have hl := lv_entry ([.ref (al di), .int 22, .ref (gMi G)]) (n := 4) (Nat.le_of_ble_eq_true rfl)
  rw [lg_entry_eq]
  generalize (lg_sl ([.ref (al di), .int 22, .ref (gMi G)]) ++ List.replicate (4 - (lg_sl ([.ref (al di), .int 22, .ref (gMi G)])).length) Slot.unset).toArray = ls at hl ⊢
  have hl : lv_has ls 4 [(0, .ref (al di)), (1, .int 22), (2, .ref (gMi G))] := hl
  refine g_start hP (fun H hP hS => ?_)
  refine lv_aload_n hx hb dJ7_copyOf_6403c_0 rfl (lv_at hl 2 rfl) ?_
  refine va_ldcM hx hb hown (hts _ q92) hE.1.1.2.1 dJ7_copyOf_6403c_1 ?_
  refine lv_acmp_ne (rx := some (gMi G)) (ry := some (gMi G)) (tgt := 13) hx hb dJ7_copyOf_6403c_3 (by decide) (fun h => absurd rfl h) (fun _ => ?_)
  refine lv_iload_n hx hb dJ7_copyOf_6403c_6 rfl (lv_at hl 1 rfl) ?_
  refine m_newQ nd (N := 22) hx hb hown (hts _ q93) hE hb0 hP hS (by decide) (by decide) (Nat.le_of_ble_eq_true rfl) (Nat.le_of_ble_eq_true rfl) (Nat.le_of_ble_eq_true rfl) dJ7_copyOf_6403c_7 (fun n_1 H hP hS => ?_)
  have hP : mP G (va_up al nd n_1) (up c nd (.inl (gO G, 22, .inr (.inr (.inr (.inr (fun _ => none))))))) H := hP
  refine lv_goto (tgt := 24) hx hb dJ7_copyOf_6403c_10 (by decide) ?_
  refine lv_astore_n (lv' := [(3, .ref n_1), (0, .ref (al di)), (1, .int 22), (2, .ref (gMi G))]) hx hb dJ7_copyOf_6403c_24 rfl hl (by decide) rfl (fun ls hl => ?_)
  refine lv_aload_n hx hb dJ7_copyOf_6403c_25 rfl (lv_at hl 1 rfl) ?_
  refine lv_iconst (v := 0) hx hb dJ7_copyOf_6403c_26 (by decide) ?_
  refine lv_aload_n hx hb dJ7_copyOf_6403c_27 rfl (lv_at hl 0 rfl) ?_
  refine lv_iconst (v := 0) hx hb dJ7_copyOf_6403c_28 (by decide) ?_
  refine lv_aload_n hx hb dJ7_copyOf_6403c_29 rfl (lv_at hl 1 rfl) ?_
  refine m_alen hx hb hE hP di ((au_n _ _ (by omega)).trans rfl) ((up_n _ _ (by omega)).trans e2) dJ7_copyOf_6403c_30 ?_
  refine f_topi (v := 15) (by decide) ?_
  refine lv_iload_n hx hb dJ7_copyOf_6403c_31 rfl (lv_at hl 2 rfl) ?_
  refine va_mmin hx hb (hml.trans hl.1.symm) hown (hts _ q94) (hts _ q95) (hts _ q87) (hts _ q96) (Nat.le_of_ble_eq_true rfl) (Nat.le_of_ble_eq_true rfl) (Nat.le_of_ble_eq_true rfl) (Nat.le_of_ble_eq_true rfl) dJ7_copyOf_6403c_32 ?_
  refine f_topi (v := 15) (by decide) ?_
  refine m_copyQ hx hb (hml.trans hl.1.symm) hown (hts _ q97) (hts _ q24) (hts _ q25) (hts _ q26) hE hP hS di nd ((au_n _ _ (by omega)).trans rfl) (au_s _ _ _) ((up_n _ _ (by omega)).trans e2) (up_s _ _ _) (N := 15) (by decide) (by decide) (by decide) (by decide) hrr hro hf (fun z hz => by obtain ⟨x1, x2, x3⟩ := hel z hz; obtain ⟨vs, x4⟩ := x3; exact ⟨by rw [x1, au_n _ _ x2], vs, by rw [up_n _ _ x2]; exact x4⟩) (Nat.le_of_ble_eq_true rfl) (Nat.le_of_ble_eq_true rfl) dJ7_copyOf_6403c_35 (fun H locs hP hS => ?_)
  have hP := m_cv hP (up_up _ _ _ _)
  have hP : mP G (va_up al nd n_1) (up c nd (.inl (gO G, 22, .inr (.inr (.inr (.inr (va_cpy ff (fun _ => none) 0 0 15))))))) H := hP
  refine lv_aload_n hx hb dJ7_copyOf_6403c_38 rfl (lv_at hl 0 rfl) ?_
  refine W.widen (k := 1) (n := 22) (Nat.le_of_ble_eq_true rfl) (Nat.le_of_ble_eq_true rfl) ?_
  exact W.aret hx hb hr (Or.inr ⟨_, rfl⟩) (Or.inr ⟨_, rfl⟩) (fun tz htz hW => ⟨⟨n_1, n_1, rfl, trivial, rfl, g_end htz hP⟩, hS.F htz⟩) hS.2.2 dJ7_copyOf_6403c_39
set_option maxHeartbeats 4000000 in
set_option maxRecDepth 100000 in
theorem kJ7_copyOf_1904c_g15 (l : Launch) (G : gT) (al : Nat → Nat) (c : mC) (di : Nat) (nd : Nat) (ff : Nat → Option Nat) (hf : Nat → Nat) (ci : Nat) (r : vw_C) (e2 : c di = some (.inl (gO G, 15, .inr (.inr (.inr (.inr ff)))))) (hnd : di ≠ nd) (hel : ∀ i, i < 15 → ff i = some (al (hf i)) ∧ hf i ≠ nd ∧ ∃ vs, c (hf i) = some (.inr (ci, vs))) (hrr : vwCl[ci]? = some r) (hro : r.1 ∈ fObj) : Met l yJ7_copyOf_1904c (fW yJ7_copyOf_1904c cJ7_copyOf_1904c 2 (some (.array (.object "java/lang/Object")))) { frames := 2, cells := 1, slots := 22, locals := 41 } (gPre G al (c) [.ref (al di), .int 22]) (gQr (S := Nat) G (fun u => u) (fun u => va_up al nd u) (fun u => up c nd (.inl (gO G, 22, .inr (.inr (.inr (.inr (va_cpy ff (fun _ => none) 0 0 15)))))))) 1 22 (gA G) := by
  refine Met.ofW (cc := cJ7_copyOf_1904c) (maxL := 2) (ret := (some (.array (.object "java/lang/Object")))) (by decide) rfl ?_
  intro pz ez s m args below meth c₀ s₁ Bo hml hv
  obtain ⟨rfl, hb0, hP, hE⟩ := hv
  have hx := Bo.exec
  have hb := Bo.bytes
  have hr := Bo.returns
  have hts0 := atoms_spec (ws := (fW yJ7_copyOf_1904c cJ7_copyOf_1904c 2 (some (.array (.object "java/lang/Object"))))) Bo.pre
  have hts : ∀ w ∈ fA, w.before _ s = true := fun w h => hts0 w (List.mem_cons_of_mem _ h)
  have hown : s.vm.findClass RJ7 = some m.cls := findClass_of_methodNamed Bo.named
  have hlocks := Bo.notSynchronized
  have hl := lv_entry ([.ref (al di), .int 22]) (n := 2) (Nat.le_of_ble_eq_true rfl)
  rw [lg_entry_eq]
  generalize (lg_sl ([.ref (al di), .int 22]) ++ List.replicate (2 - (lg_sl ([.ref (al di), .int 22])).length) Slot.unset).toArray = ls at hl ⊢
  have hl : lv_has ls 2 [(0, .ref (al di)), (1, .int 22)] := hl
  refine g_start hP (fun H hP hS => ?_)
  refine lv_aload_n hx hb dJ7_copyOf_1904c_0 rfl (lv_at hl 0 rfl) ?_
  refine lv_iload_n hx hb dJ7_copyOf_1904c_1 rfl (lv_at hl 1 rfl) ?_
  refine lv_aload_n hx hb dJ7_copyOf_1904c_2 rfl (lv_at hl 0 rfl) ?_
  refine va_getC hx hb (hml.trans hl.1.symm) hown (hts _ q98) (va_Dc.use hE.1.1.2.2.1) (hts _ q99) (hts _ q100) (hts _ q101) hE.1.1.2.1 (m_atO hE hP e2) (Nat.le_of_ble_eq_true rfl) (Nat.le_of_ble_eq_true rfl) dJ7_copyOf_1904c_3 ?_
  refine g_aft_r (g_runS (As := [.ref (al di), .int 22, .ref (gMi G)]) (rest := []) hx hb hml hown hts (kJ7_copyOf_6403c_g15 l G al c di nd ff hf ci r e2 hnd hel hrr hro) (fcwS 3 hts q102 q103 q104 q105 rfl rfl (by decide +kernel) ⟨(Nat.le_of_ble_eq_true rfl), (Nat.le_of_ble_eq_true rfl)⟩) hE hb0 hP hS rfl hl.1 rfl (Nat.le_of_ble_eq_true rfl) dJ7_copyOf_1904c_6 ⟨(Nat.le_of_ble_eq_true rfl), (Nat.le_of_ble_eq_true rfl)⟩) hS (fun u_1 H locs hP hS => ?_)
  have hP : mP G (va_up al nd u_1) (up c nd (.inl (gO G, 22, .inr (.inr (.inr (.inr (va_cpy ff (fun _ => none) 0 0 15))))))) H := hP
  refine g_topr (v := u_1) rfl ?_
  refine W.widen (k := 1) (n := 22) (Nat.le_of_ble_eq_true rfl) (Nat.le_of_ble_eq_true rfl) ?_
  exact W.aret hx hb hr (Or.inr ⟨_, rfl⟩) (Or.inr ⟨_, rfl⟩) (fun tz htz hW => ⟨⟨u_1, u_1, rfl, trivial, rfl, g_end htz hP⟩, hS.F htz⟩) hS.2.2 dJ7_copyOf_1904c_9
set_option maxHeartbeats 4000000 in
set_option maxRecDepth 100000 in
theorem kJx4a65c_grow_92f84_e (l : Launch) (G : gT) (al : Nat → Nat) (c : mC) (li : Nat) (di : Nat) (mo : Int32) (e1 : c li = some (.inr (0, [.int mo, .ref (gEm G), .int 0]))) (hne : li ≠ di) : Met l yJx4a65c_grow_92f84 (fW yJx4a65c_grow_92f84 cJx4a65c_grow_92f84 4 (some (.array (.object "java/lang/Object")))) { frames := 1, cells := 1, slots := 10, locals := 14 } (gPre G al (c) [.ref (al li), .int 1]) (gQr (S := Nat) G (fun u => u) (fun u => va_up al di u) (fun u => up (up c di (.inl (gO G, 10, .inr (.inr (.inr (.inr (fun _ => none))))))) li (.inr (0, [.int mo, .ref u, .int 0])))) 1 10 (gA G) := by
  refine Met.ofW (cc := cJx4a65c_grow_92f84) (maxL := 4) (ret := (some (.array (.object "java/lang/Object")))) (by decide) rfl ?_
  intro pz ez s m args below meth c₀ s₁ Bo hml hv
  obtain ⟨rfl, hb0, hP, hE⟩ := hv
  have hx := Bo.exec
  have hb := Bo.bytes
  have hr := Bo.returns
  have hts0 := atoms_spec (ws := (fW yJx4a65c_grow_92f84 cJx4a65c_grow_92f84 4 (some (.array (.object "java/lang/Object"))))) Bo.pre
  have hts : ∀ w ∈ fA, w.before _ s = true := fun w h => hts0 w (List.mem_cons_of_mem _ h)
  have hown : s.vm.findClass RJx4a65c = some m.cls := findClass_of_methodNamed Bo.named
  have hlocks := Bo.notSynchronized
  have hl := lv_entry ([.ref (al li), .int 1]) (n := 4) (Nat.le_of_ble_eq_true rfl)
  rw [lg_entry_eq]
  generalize (lg_sl ([.ref (al li), .int 1]) ++ List.replicate (4 - (lg_sl ([.ref (al li), .int 1])).length) Slot.unset).toArray = ls at hl ⊢
  have hl : lv_has ls 4 [(0, .ref (al li)), (1, .int 1)] := hl
  refine g_start hP (fun H hP hS => ?_)
  refine lv_aload_n hx hb dJx4a65c_grow_92f84_0 rfl (lv_at hl 0 rfl) ?_
  refine m_get (C := RJx4a65c) (T := TJx4a65c) (N := 3) (ci := 0) (v := .ref (gEm G)) hx hb hts uJx4a65c hown hE hP li rfl e1 rfl 1 (by decide) (hts _ q42) (fun _ h9 => h9) rfl dJx4a65c_grow_92f84_1 ?_
  refine va_tlen (v := 0) hx hb hE.1.2.2.1 hS (by decide) dJx4a65c_grow_92f84_4 ?_
  refine lv_istore_n (lv' := [(2, .int 0), (0, .ref (al li)), (1, .int 1)]) hx hb dJx4a65c_grow_92f84_5 rfl hl (by decide) rfl (fun ls hl => ?_)
  refine lv_iload_n hx hb dJx4a65c_grow_92f84_6 rfl (lv_at hl 0 rfl) ?_
  refine lv_if_gt (tgt := 20) hx hb dJx4a65c_grow_92f84_7 (by decide) (fun h => absurd h (by decide)) (fun _ => ?_)
  refine lv_aload_n hx hb dJx4a65c_grow_92f84_10 rfl (lv_at hl 1 rfl) ?_
  refine m_get (C := RJx4a65c) (T := TJx4a65c) (N := 3) (ci := 0) (v := .ref (gEm G)) hx hb hts uJx4a65c hown hE hP li rfl e1 rfl 1 (by decide) (hts _ q42) (fun _ h9 => h9) rfl dJx4a65c_grow_92f84_11 ?_
  refine va_gets hx hb hE.1.2.1 hS hown (hts _ q71) (fun _ h => h) dJx4a65c_grow_92f84_14 ?_
  refine lv_acmp_eq (rx := some (gEm G)) (ry := some (gEm G)) (tgt := 45) hx hb dJx4a65c_grow_92f84_17 (by decide) (fun _ => ?_) (fun h => absurd rfl h)
  refine lv_aload_n hx hb dJx4a65c_grow_92f84_45 rfl (lv_at hl 1 rfl) ?_
  refine lv_bipush (v := 10) hx hb dJx4a65c_grow_92f84_46 (by decide) ?_
  refine lv_iload_n hx hb dJx4a65c_grow_92f84_48 rfl (lv_at hl 2 rfl) ?_
  refine va_mmax hx hb (hml.trans hl.1.symm) hown (hts _ q106) (hts _ q86) (hts _ q87) (hts _ q88) (Nat.le_of_ble_eq_true rfl) (Nat.le_of_ble_eq_true rfl) (Nat.le_of_ble_eq_true rfl) (Nat.le_of_ble_eq_true rfl) dJx4a65c_grow_92f84_49 ?_
  refine f_topi (v := 10) (by decide) ?_
  refine m_newQ di (N := 10) hx hb hown (hts _ q107) hE hb0 hP hS (by decide) (by decide) (Nat.le_of_ble_eq_true rfl) (Nat.le_of_ble_eq_true rfl) (Nat.le_of_ble_eq_true rfl) dJx4a65c_grow_92f84_52 (fun n_1 H hP hS => ?_)
  have hP : mP G (va_up al di n_1) (up c di (.inl (gO G, 10, .inr (.inr (.inr (.inr (fun _ => none))))))) H := hP
  refine lv_dup_x1 hx hb dJx4a65c_grow_92f84_55 rfl rfl ?_
  refine m_put (v := .ref n_1) (ty := .array (.object "java/lang/Object")) (C := RJx4a65c) (T := TJx4a65c) (N := 3) (ci := 0) hx hb hts uJx4a65c tyJx4a65c tyJx4a65c_ok nmJx4a65c hown hE hP hS li ((au_n _ _ (by omega)).trans rfl) ((up_n _ _ (by omega)).trans e1) rfl 1 (by decide) (hts _ q42) (fun _ h9 => h9) rfl (by decide +kernel) rfl rfl (Nat.le_of_ble_eq_true rfl) dJx4a65c_grow_92f84_56 (fun H locs hP hS => ?_)
  have hP : mP G (va_up al di n_1) (up (up c di (.inl (gO G, 10, .inr (.inr (.inr (.inr (fun _ => none))))))) li (.inr (0, [.int mo, .ref n_1, .int 0]))) H := hP
  refine W.widen (k := 1) (n := 10) (Nat.le_of_ble_eq_true rfl) (Nat.le_of_ble_eq_true rfl) ?_
  exact W.aret hx hb hr (Or.inr ⟨_, rfl⟩) (Or.inr ⟨_, rfl⟩) (fun tz htz hW => ⟨⟨n_1, n_1, rfl, trivial, rfl, g_end htz hP⟩, hS.F htz⟩) hS.2.2 dJx4a65c_grow_92f84_59
set_option maxHeartbeats 4000000 in
set_option maxRecDepth 100000 in
theorem kJx4a65c_grow_d5877_e (l : Launch) (G : gT) (al : Nat → Nat) (c : mC) (li : Nat) (di : Nat) (mo : Int32) (e1 : c li = some (.inr (0, [.int mo, .ref (gEm G), .int 0]))) (hne : li ≠ di) : Met l yJx4a65c_grow_d5877 (fW yJx4a65c_grow_d5877 cJx4a65c_grow_d5877 1 (some (.array (.object "java/lang/Object")))) { frames := 2, cells := 1, slots := 10, locals := 37 } (gPre G al (c) [.ref (al li)]) (gQr (S := Nat) G (fun u => u) (fun u => va_up al di u) (fun u => up (up c di (.inl (gO G, 10, .inr (.inr (.inr (.inr (fun _ => none))))))) li (.inr (0, [.int mo, .ref u, .int 0])))) 1 10 (gA G) := by
  refine Met.ofW (cc := cJx4a65c_grow_d5877) (maxL := 1) (ret := (some (.array (.object "java/lang/Object")))) (by decide) rfl ?_
  intro pz ez s m args below meth c₀ s₁ Bo hml hv
  obtain ⟨rfl, hb0, hP, hE⟩ := hv
  have hx := Bo.exec
  have hb := Bo.bytes
  have hr := Bo.returns
  have hts0 := atoms_spec (ws := (fW yJx4a65c_grow_d5877 cJx4a65c_grow_d5877 1 (some (.array (.object "java/lang/Object"))))) Bo.pre
  have hts : ∀ w ∈ fA, w.before _ s = true := fun w h => hts0 w (List.mem_cons_of_mem _ h)
  have hown : s.vm.findClass RJx4a65c = some m.cls := findClass_of_methodNamed Bo.named
  have hlocks := Bo.notSynchronized
  have hl := lv_entry ([.ref (al li)]) (n := 1) (Nat.le_of_ble_eq_true rfl)
  rw [lg_entry_eq]
  generalize (lg_sl ([.ref (al li)]) ++ List.replicate (1 - (lg_sl ([.ref (al li)])).length) Slot.unset).toArray = ls at hl ⊢
  have hl : lv_has ls 1 [(0, .ref (al li))] := hl
  refine g_start hP (fun H hP hS => ?_)
  refine lv_aload_n hx hb dJx4a65c_grow_d5877_0 rfl (lv_at hl 0 rfl) ?_
  refine lv_aload_n hx hb dJx4a65c_grow_d5877_1 rfl (lv_at hl 0 rfl) ?_
  refine m_get (C := RJx4a65c) (T := TJx4a65c) (N := 3) (ci := 0) (v := .int 0) hx hb hts uJx4a65c hown hE hP li rfl e1 rfl 2 (by decide) (hts _ q35) (fun _ h9 => h9) rfl dJx4a65c_grow_d5877_2 ?_
  refine lv_iconst (v := 1) hx hb dJx4a65c_grow_d5877_5 (by decide) ?_
  refine lv_iadd hx hb dJx4a65c_grow_d5877_6 ?_
  refine f_topi (v := 1) (by decide) ?_
  refine g_aft_r (g_runV (As := [.int 1]) (rest := []) hx hb hml hown hts (kJx4a65c_grow_92f84_e l G al c li di mo e1 hne) (fcwV 1 hts q113 q114 q115 q50 q116 rfl rfl (by decide +kernel) ⟨(Nat.le_of_ble_eq_true rfl), (Nat.le_of_ble_eq_true rfl)⟩) hE hb0 hP hS (m_recvA hE hP li rfl e1 rfl) rfl hl.1 rfl (Nat.le_of_ble_eq_true rfl) dJx4a65c_grow_d5877_7 ⟨(Nat.le_of_ble_eq_true rfl), (Nat.le_of_ble_eq_true rfl)⟩) hS (fun u_1 H locs hP hS => ?_)
  have hP : mP G (va_up al di u_1) (up (up c di (.inl (gO G, 10, .inr (.inr (.inr (.inr (fun _ => none))))))) li (.inr (0, [.int mo, .ref u_1, .int 0]))) H := hP
  refine g_topr (v := u_1) rfl ?_
  refine W.widen (k := 1) (n := 10) (Nat.le_of_ble_eq_true rfl) (Nat.le_of_ble_eq_true rfl) ?_
  exact W.aret hx hb hr (Or.inr ⟨_, rfl⟩) (Or.inr ⟨_, rfl⟩) (fun tz htz hW => ⟨⟨u_1, u_1, rfl, trivial, rfl, g_end htz hP⟩, hS.F htz⟩) hS.2.2 dJx4a65c_grow_d5877_10
set_option maxHeartbeats 4000000 in
set_option maxRecDepth 100000 in
theorem kJx4a65c_grow_92f84_g10 (l : Launch) (G : gT) (al : Nat → Nat) (c : mC) (li : Nat) (di : Nat) (nd : Nat) (ff : Nat → Option Nat) (hf : Nat → Nat) (ci : Nat) (r : vw_C) (mo : Int32) (e1 : c li = some (.inr (0, [.int mo, .ref (al di), .int 10]))) (e2 : c di = some (.inl (gO G, 10, .inr (.inr (.inr (.inr ff)))))) (hne : li ≠ di) (hnd : di ≠ nd) (hn1 : li ≠ nd) (hcn : c nd = none) (hel : ∀ i, i < 10 → ff i = some (al (hf i)) ∧ hf i ≠ nd ∧ ∃ vs, c (hf i) = some (.inr (ci, vs))) (hrr : vwCl[ci]? = some r) (hro : r.1 ∈ fObj) : Met l yJx4a65c_grow_92f84 (fW yJx4a65c_grow_92f84 cJx4a65c_grow_92f84 4 (some (.array (.object "java/lang/Object")))) { frames := 3, cells := 1, slots := 15, locals := 62 } (gPre G al (c) [.ref (al li), .int 11]) (gQr (S := Nat) G (fun u => u) (fun u => va_up al nd u) (fun u => up (up c nd (.inl (gO G, 15, .inr (.inr (.inr (.inr (va_cpy ff (fun _ => none) 0 0 10))))))) li (.inr (0, [.int mo, .ref u, .int 10])))) 1 15 (gA G) := by
  refine Met.ofW (cc := cJx4a65c_grow_92f84) (maxL := 4) (ret := (some (.array (.object "java/lang/Object")))) (by decide) rfl ?_
  intro pz ez s m args below meth c₀ s₁ Bo hml hv
  obtain ⟨rfl, hb0, hP, hE⟩ := hv
  have hx := Bo.exec
  have hb := Bo.bytes
  have hr := Bo.returns
  have hts0 := atoms_spec (ws := (fW yJx4a65c_grow_92f84 cJx4a65c_grow_92f84 4 (some (.array (.object "java/lang/Object"))))) Bo.pre
  have hts : ∀ w ∈ fA, w.before _ s = true := fun w h => hts0 w (List.mem_cons_of_mem _ h)
  have hown : s.vm.findClass RJx4a65c = some m.cls := findClass_of_methodNamed Bo.named
  have hlocks := Bo.notSynchronized
  have hl := lv_entry ([.ref (al li), .int 11]) (n := 4) (Nat.le_of_ble_eq_true rfl)
  rw [lg_entry_eq]
  generalize (lg_sl ([.ref (al li), .int 11]) ++ List.replicate (4 - (lg_sl ([.ref (al li), .int 11])).length) Slot.unset).toArray = ls at hl ⊢
  have hl : lv_has ls 4 [(0, .ref (al li)), (1, .int 11)] := hl
  refine g_start hP (fun H hP hS => ?_)
  refine lv_aload_n hx hb dJx4a65c_grow_92f84_0 rfl (lv_at hl 0 rfl) ?_
  refine m_get (C := RJx4a65c) (T := TJx4a65c) (N := 3) (ci := 0) (v := .ref (al di)) hx hb hts uJx4a65c hown hE hP li rfl e1 rfl 1 (by decide) (hts _ q42) (fun _ h9 => h9) rfl dJx4a65c_grow_92f84_1 ?_
  refine m_alen hx hb hE hP di rfl e2 dJx4a65c_grow_92f84_4 ?_
  refine f_topi (v := 10) (by decide) ?_
  refine lv_istore_n (lv' := [(2, .int 10), (0, .ref (al li)), (1, .int 11)]) hx hb dJx4a65c_grow_92f84_5 rfl hl (by decide) rfl (fun ls hl => ?_)
  refine lv_iload_n hx hb dJx4a65c_grow_92f84_6 rfl (lv_at hl 0 rfl) ?_
  refine lv_if_gt (tgt := 20) hx hb dJx4a65c_grow_92f84_7 (by decide) (fun _ => ?_) (fun h => absurd (by decide) h)
  refine lv_iload_n hx hb dJx4a65c_grow_92f84_20 rfl (lv_at hl 0 rfl) ?_
  refine lv_iload_n hx hb dJx4a65c_grow_92f84_21 rfl (lv_at hl 2 rfl) ?_
  refine lv_iload_n hx hb dJx4a65c_grow_92f84_22 rfl (lv_at hl 0 rfl) ?_
  refine lv_isub hx hb dJx4a65c_grow_92f84_23 ?_
  refine f_topi (v := 1) (by decide) ?_
  refine lv_iload_n hx hb dJx4a65c_grow_92f84_24 rfl (lv_at hl 0 rfl) ?_
  refine lv_iconst (v := 1) hx hb dJx4a65c_grow_92f84_25 (by decide) ?_
  refine lv_ishr hx hb dJx4a65c_grow_92f84_26 ?_
  refine f_topi (v := 5) (by decide) ?_
  refine g_aft_i (g_runS (As := [.int 10, .int 1, .int 5]) (rest := []) hx hb hml hown hts (kJ8_newLength_cabcc_g10 l G al c) (fcwS 3 hts q108 q109 q91 q84 rfl rfl (by decide +kernel) ⟨(Nat.le_of_ble_eq_true rfl), (Nat.le_of_ble_eq_true rfl)⟩) hE hb0 hP hS rfl hl.1 rfl (Nat.le_of_ble_eq_true rfl) dJx4a65c_grow_92f84_27 ⟨(Nat.le_of_ble_eq_true rfl), (Nat.le_of_ble_eq_true rfl)⟩) hS (fun u H locs hP hS => ?_)
  refine f_topi (v := 15) rfl ?_
  refine lv_istore_n (lv' := [(3, .int 15), (2, .int 10), (0, .ref (al li)), (1, .int 11)]) hx hb dJx4a65c_grow_92f84_30 rfl hl (by decide) rfl (fun ls hl => ?_)
  refine lv_aload_n hx hb dJx4a65c_grow_92f84_31 rfl (lv_at hl 2 rfl) ?_
  refine lv_aload_n hx hb dJx4a65c_grow_92f84_32 rfl (lv_at hl 2 rfl) ?_
  refine m_get (C := RJx4a65c) (T := TJx4a65c) (N := 3) (ci := 0) (v := .ref (al di)) hx hb hts uJx4a65c hown hE hP li rfl e1 rfl 1 (by decide) (hts _ q42) (fun _ h9 => h9) rfl dJx4a65c_grow_92f84_33 ?_
  refine lv_iload_n hx hb dJx4a65c_grow_92f84_36 rfl (lv_at hl 0 rfl) ?_
  refine g_aft_r (g_runS (As := [.ref (al di), .int 15]) (rest := [.ref (al li)]) hx hb hml hown hts (kJ7_copyOf_1904c_g10 l G al c di nd ff hf ci r e2 hnd hel hrr hro) (fcwS 2 hts q110 q111 q104 q112 rfl rfl (by decide +kernel) ⟨(Nat.le_of_ble_eq_true rfl), (Nat.le_of_ble_eq_true rfl)⟩) hE hb0 hP hS rfl hl.1 rfl (Nat.le_of_ble_eq_true rfl) dJx4a65c_grow_92f84_37 ⟨(Nat.le_of_ble_eq_true rfl), (Nat.le_of_ble_eq_true rfl)⟩) hS (fun u_1 H locs hP hS => ?_)
  have hP : mP G (va_up al nd u_1) (up c nd (.inl (gO G, 15, .inr (.inr (.inr (.inr (va_cpy ff (fun _ => none) 0 0 10))))))) H := hP
  refine g_topr (v := u_1) rfl ?_
  refine lv_dup_x1 hx hb dJx4a65c_grow_92f84_40 rfl rfl ?_
  refine m_put (v := .ref u_1) (ty := .array (.object "java/lang/Object")) (C := RJx4a65c) (T := TJx4a65c) (N := 3) (ci := 0) hx hb hts uJx4a65c tyJx4a65c tyJx4a65c_ok nmJx4a65c hown hE hP hS li ((au_n _ _ (by omega)).trans rfl) ((up_n _ _ (by omega)).trans e1) rfl 1 (by decide) (hts _ q42) (fun _ h9 => h9) rfl (by decide +kernel) rfl rfl (Nat.le_of_ble_eq_true rfl) dJx4a65c_grow_92f84_41 (fun H locs hP hS => ?_)
  have hP : mP G (va_up al nd u_1) (up (up c nd (.inl (gO G, 15, .inr (.inr (.inr (.inr (va_cpy ff (fun _ => none) 0 0 10))))))) li (.inr (0, [.int mo, .ref u_1, .int 10]))) H := hP
  refine W.widen (k := 1) (n := 15) (Nat.le_of_ble_eq_true rfl) (Nat.le_of_ble_eq_true rfl) ?_
  exact W.aret hx hb hr (Or.inr ⟨_, rfl⟩) (Or.inr ⟨_, rfl⟩) (fun tz htz hW => ⟨⟨u_1, u_1, rfl, trivial, rfl, g_end htz hP⟩, hS.F htz⟩) hS.2.2 dJx4a65c_grow_92f84_44
set_option maxHeartbeats 4000000 in
set_option maxRecDepth 100000 in
theorem kJx4a65c_grow_d5877_g10 (l : Launch) (G : gT) (al : Nat → Nat) (c : mC) (li : Nat) (di : Nat) (nd : Nat) (ff : Nat → Option Nat) (hf : Nat → Nat) (ci : Nat) (r : vw_C) (mo : Int32) (e1 : c li = some (.inr (0, [.int mo, .ref (al di), .int 10]))) (e2 : c di = some (.inl (gO G, 10, .inr (.inr (.inr (.inr ff)))))) (hne : li ≠ di) (hnd : di ≠ nd) (hn1 : li ≠ nd) (hcn : c nd = none) (hel : ∀ i, i < 10 → ff i = some (al (hf i)) ∧ hf i ≠ nd ∧ ∃ vs, c (hf i) = some (.inr (ci, vs))) (hrr : vwCl[ci]? = some r) (hro : r.1 ∈ fObj) : Met l yJx4a65c_grow_d5877 (fW yJx4a65c_grow_d5877 cJx4a65c_grow_d5877 1 (some (.array (.object "java/lang/Object")))) { frames := 4, cells := 1, slots := 15, locals := 85 } (gPre G al (c) [.ref (al li)]) (gQr (S := Nat) G (fun u => u) (fun u => va_up al nd u) (fun u => up (up c nd (.inl (gO G, 15, .inr (.inr (.inr (.inr (va_cpy ff (fun _ => none) 0 0 10))))))) li (.inr (0, [.int mo, .ref u, .int 10])))) 1 15 (gA G) := by
  refine Met.ofW (cc := cJx4a65c_grow_d5877) (maxL := 1) (ret := (some (.array (.object "java/lang/Object")))) (by decide) rfl ?_
  intro pz ez s m args below meth c₀ s₁ Bo hml hv
  obtain ⟨rfl, hb0, hP, hE⟩ := hv
  have hx := Bo.exec
  have hb := Bo.bytes
  have hr := Bo.returns
  have hts0 := atoms_spec (ws := (fW yJx4a65c_grow_d5877 cJx4a65c_grow_d5877 1 (some (.array (.object "java/lang/Object"))))) Bo.pre
  have hts : ∀ w ∈ fA, w.before _ s = true := fun w h => hts0 w (List.mem_cons_of_mem _ h)
  have hown : s.vm.findClass RJx4a65c = some m.cls := findClass_of_methodNamed Bo.named
  have hlocks := Bo.notSynchronized
  have hl := lv_entry ([.ref (al li)]) (n := 1) (Nat.le_of_ble_eq_true rfl)
  rw [lg_entry_eq]
  generalize (lg_sl ([.ref (al li)]) ++ List.replicate (1 - (lg_sl ([.ref (al li)])).length) Slot.unset).toArray = ls at hl ⊢
  have hl : lv_has ls 1 [(0, .ref (al li))] := hl
  refine g_start hP (fun H hP hS => ?_)
  refine lv_aload_n hx hb dJx4a65c_grow_d5877_0 rfl (lv_at hl 0 rfl) ?_
  refine lv_aload_n hx hb dJx4a65c_grow_d5877_1 rfl (lv_at hl 0 rfl) ?_
  refine m_get (C := RJx4a65c) (T := TJx4a65c) (N := 3) (ci := 0) (v := .int 10) hx hb hts uJx4a65c hown hE hP li rfl e1 rfl 2 (by decide) (hts _ q35) (fun _ h9 => h9) rfl dJx4a65c_grow_d5877_2 ?_
  refine lv_iconst (v := 1) hx hb dJx4a65c_grow_d5877_5 (by decide) ?_
  refine lv_iadd hx hb dJx4a65c_grow_d5877_6 ?_
  refine f_topi (v := 11) (by decide) ?_
  refine g_aft_r (g_runV (As := [.int 11]) (rest := []) hx hb hml hown hts (kJx4a65c_grow_92f84_g10 l G al c li di nd ff hf ci r mo e1 e2 hne hnd hn1 hcn hel hrr hro) (fcwV 1 hts q113 q114 q115 q50 q116 rfl rfl (by decide +kernel) ⟨(Nat.le_of_ble_eq_true rfl), (Nat.le_of_ble_eq_true rfl)⟩) hE hb0 hP hS (m_recvA hE hP li rfl e1 rfl) rfl hl.1 rfl (Nat.le_of_ble_eq_true rfl) dJx4a65c_grow_d5877_7 ⟨(Nat.le_of_ble_eq_true rfl), (Nat.le_of_ble_eq_true rfl)⟩) hS (fun u_1 H locs hP hS => ?_)
  have hP : mP G (va_up al nd u_1) (up (up c nd (.inl (gO G, 15, .inr (.inr (.inr (.inr (va_cpy ff (fun _ => none) 0 0 10))))))) li (.inr (0, [.int mo, .ref u_1, .int 10]))) H := hP
  refine g_topr (v := u_1) rfl ?_
  refine W.widen (k := 1) (n := 15) (Nat.le_of_ble_eq_true rfl) (Nat.le_of_ble_eq_true rfl) ?_
  exact W.aret hx hb hr (Or.inr ⟨_, rfl⟩) (Or.inr ⟨_, rfl⟩) (fun tz htz hW => ⟨⟨u_1, u_1, rfl, trivial, rfl, g_end htz hP⟩, hS.F htz⟩) hS.2.2 dJx4a65c_grow_d5877_10
set_option maxHeartbeats 4000000 in
set_option maxRecDepth 100000 in
theorem kJx4a65c_grow_92f84_g15 (l : Launch) (G : gT) (al : Nat → Nat) (c : mC) (li : Nat) (di : Nat) (nd : Nat) (ff : Nat → Option Nat) (hf : Nat → Nat) (ci : Nat) (r : vw_C) (mo : Int32) (e1 : c li = some (.inr (0, [.int mo, .ref (al di), .int 15]))) (e2 : c di = some (.inl (gO G, 15, .inr (.inr (.inr (.inr ff)))))) (hne : li ≠ di) (hnd : di ≠ nd) (hn1 : li ≠ nd) (hcn : c nd = none) (hel : ∀ i, i < 15 → ff i = some (al (hf i)) ∧ hf i ≠ nd ∧ ∃ vs, c (hf i) = some (.inr (ci, vs))) (hrr : vwCl[ci]? = some r) (hro : r.1 ∈ fObj) : Met l yJx4a65c_grow_92f84 (fW yJx4a65c_grow_92f84 cJx4a65c_grow_92f84 4 (some (.array (.object "java/lang/Object")))) { frames := 3, cells := 1, slots := 22, locals := 62 } (gPre G al (c) [.ref (al li), .int 16]) (gQr (S := Nat) G (fun u => u) (fun u => va_up al nd u) (fun u => up (up c nd (.inl (gO G, 22, .inr (.inr (.inr (.inr (va_cpy ff (fun _ => none) 0 0 15))))))) li (.inr (0, [.int mo, .ref u, .int 15])))) 1 22 (gA G) := by
  refine Met.ofW (cc := cJx4a65c_grow_92f84) (maxL := 4) (ret := (some (.array (.object "java/lang/Object")))) (by decide) rfl ?_
  intro pz ez s m args below meth c₀ s₁ Bo hml hv
  obtain ⟨rfl, hb0, hP, hE⟩ := hv
  have hx := Bo.exec
  have hb := Bo.bytes
  have hr := Bo.returns
  have hts0 := atoms_spec (ws := (fW yJx4a65c_grow_92f84 cJx4a65c_grow_92f84 4 (some (.array (.object "java/lang/Object"))))) Bo.pre
  have hts : ∀ w ∈ fA, w.before _ s = true := fun w h => hts0 w (List.mem_cons_of_mem _ h)
  have hown : s.vm.findClass RJx4a65c = some m.cls := findClass_of_methodNamed Bo.named
  have hlocks := Bo.notSynchronized
  have hl := lv_entry ([.ref (al li), .int 16]) (n := 4) (Nat.le_of_ble_eq_true rfl)
  rw [lg_entry_eq]
  generalize (lg_sl ([.ref (al li), .int 16]) ++ List.replicate (4 - (lg_sl ([.ref (al li), .int 16])).length) Slot.unset).toArray = ls at hl ⊢
  have hl : lv_has ls 4 [(0, .ref (al li)), (1, .int 16)] := hl
  refine g_start hP (fun H hP hS => ?_)
  refine lv_aload_n hx hb dJx4a65c_grow_92f84_0 rfl (lv_at hl 0 rfl) ?_
  refine m_get (C := RJx4a65c) (T := TJx4a65c) (N := 3) (ci := 0) (v := .ref (al di)) hx hb hts uJx4a65c hown hE hP li rfl e1 rfl 1 (by decide) (hts _ q42) (fun _ h9 => h9) rfl dJx4a65c_grow_92f84_1 ?_
  refine m_alen hx hb hE hP di rfl e2 dJx4a65c_grow_92f84_4 ?_
  refine f_topi (v := 15) (by decide) ?_
  refine lv_istore_n (lv' := [(2, .int 15), (0, .ref (al li)), (1, .int 16)]) hx hb dJx4a65c_grow_92f84_5 rfl hl (by decide) rfl (fun ls hl => ?_)
  refine lv_iload_n hx hb dJx4a65c_grow_92f84_6 rfl (lv_at hl 0 rfl) ?_
  refine lv_if_gt (tgt := 20) hx hb dJx4a65c_grow_92f84_7 (by decide) (fun _ => ?_) (fun h => absurd (by decide) h)
  refine lv_iload_n hx hb dJx4a65c_grow_92f84_20 rfl (lv_at hl 0 rfl) ?_
  refine lv_iload_n hx hb dJx4a65c_grow_92f84_21 rfl (lv_at hl 2 rfl) ?_
  refine lv_iload_n hx hb dJx4a65c_grow_92f84_22 rfl (lv_at hl 0 rfl) ?_
  refine lv_isub hx hb dJx4a65c_grow_92f84_23 ?_
  refine f_topi (v := 1) (by decide) ?_
  refine lv_iload_n hx hb dJx4a65c_grow_92f84_24 rfl (lv_at hl 0 rfl) ?_
  refine lv_iconst (v := 1) hx hb dJx4a65c_grow_92f84_25 (by decide) ?_
  refine lv_ishr hx hb dJx4a65c_grow_92f84_26 ?_
  refine f_topi (v := 7) (by decide) ?_
  refine g_aft_i (g_runS (As := [.int 15, .int 1, .int 7]) (rest := []) hx hb hml hown hts (kJ8_newLength_cabcc_g15 l G al c) (fcwS 3 hts q108 q109 q91 q84 rfl rfl (by decide +kernel) ⟨(Nat.le_of_ble_eq_true rfl), (Nat.le_of_ble_eq_true rfl)⟩) hE hb0 hP hS rfl hl.1 rfl (Nat.le_of_ble_eq_true rfl) dJx4a65c_grow_92f84_27 ⟨(Nat.le_of_ble_eq_true rfl), (Nat.le_of_ble_eq_true rfl)⟩) hS (fun u H locs hP hS => ?_)
  refine f_topi (v := 22) rfl ?_
  refine lv_istore_n (lv' := [(3, .int 22), (2, .int 15), (0, .ref (al li)), (1, .int 16)]) hx hb dJx4a65c_grow_92f84_30 rfl hl (by decide) rfl (fun ls hl => ?_)
  refine lv_aload_n hx hb dJx4a65c_grow_92f84_31 rfl (lv_at hl 2 rfl) ?_
  refine lv_aload_n hx hb dJx4a65c_grow_92f84_32 rfl (lv_at hl 2 rfl) ?_
  refine m_get (C := RJx4a65c) (T := TJx4a65c) (N := 3) (ci := 0) (v := .ref (al di)) hx hb hts uJx4a65c hown hE hP li rfl e1 rfl 1 (by decide) (hts _ q42) (fun _ h9 => h9) rfl dJx4a65c_grow_92f84_33 ?_
  refine lv_iload_n hx hb dJx4a65c_grow_92f84_36 rfl (lv_at hl 0 rfl) ?_
  refine g_aft_r (g_runS (As := [.ref (al di), .int 22]) (rest := [.ref (al li)]) hx hb hml hown hts (kJ7_copyOf_1904c_g15 l G al c di nd ff hf ci r e2 hnd hel hrr hro) (fcwS 2 hts q110 q111 q104 q112 rfl rfl (by decide +kernel) ⟨(Nat.le_of_ble_eq_true rfl), (Nat.le_of_ble_eq_true rfl)⟩) hE hb0 hP hS rfl hl.1 rfl (Nat.le_of_ble_eq_true rfl) dJx4a65c_grow_92f84_37 ⟨(Nat.le_of_ble_eq_true rfl), (Nat.le_of_ble_eq_true rfl)⟩) hS (fun u_1 H locs hP hS => ?_)
  have hP : mP G (va_up al nd u_1) (up c nd (.inl (gO G, 22, .inr (.inr (.inr (.inr (va_cpy ff (fun _ => none) 0 0 15))))))) H := hP
  refine g_topr (v := u_1) rfl ?_
  refine lv_dup_x1 hx hb dJx4a65c_grow_92f84_40 rfl rfl ?_
  refine m_put (v := .ref u_1) (ty := .array (.object "java/lang/Object")) (C := RJx4a65c) (T := TJx4a65c) (N := 3) (ci := 0) hx hb hts uJx4a65c tyJx4a65c tyJx4a65c_ok nmJx4a65c hown hE hP hS li ((au_n _ _ (by omega)).trans rfl) ((up_n _ _ (by omega)).trans e1) rfl 1 (by decide) (hts _ q42) (fun _ h9 => h9) rfl (by decide +kernel) rfl rfl (Nat.le_of_ble_eq_true rfl) dJx4a65c_grow_92f84_41 (fun H locs hP hS => ?_)
  have hP : mP G (va_up al nd u_1) (up (up c nd (.inl (gO G, 22, .inr (.inr (.inr (.inr (va_cpy ff (fun _ => none) 0 0 15))))))) li (.inr (0, [.int mo, .ref u_1, .int 15]))) H := hP
  refine W.widen (k := 1) (n := 22) (Nat.le_of_ble_eq_true rfl) (Nat.le_of_ble_eq_true rfl) ?_
  exact W.aret hx hb hr (Or.inr ⟨_, rfl⟩) (Or.inr ⟨_, rfl⟩) (fun tz htz hW => ⟨⟨u_1, u_1, rfl, trivial, rfl, g_end htz hP⟩, hS.F htz⟩) hS.2.2 dJx4a65c_grow_92f84_44
set_option maxHeartbeats 4000000 in
set_option maxRecDepth 100000 in
theorem kJx4a65c_grow_d5877_g15 (l : Launch) (G : gT) (al : Nat → Nat) (c : mC) (li : Nat) (di : Nat) (nd : Nat) (ff : Nat → Option Nat) (hf : Nat → Nat) (ci : Nat) (r : vw_C) (mo : Int32) (e1 : c li = some (.inr (0, [.int mo, .ref (al di), .int 15]))) (e2 : c di = some (.inl (gO G, 15, .inr (.inr (.inr (.inr ff)))))) (hne : li ≠ di) (hnd : di ≠ nd) (hn1 : li ≠ nd) (hcn : c nd = none) (hel : ∀ i, i < 15 → ff i = some (al (hf i)) ∧ hf i ≠ nd ∧ ∃ vs, c (hf i) = some (.inr (ci, vs))) (hrr : vwCl[ci]? = some r) (hro : r.1 ∈ fObj) : Met l yJx4a65c_grow_d5877 (fW yJx4a65c_grow_d5877 cJx4a65c_grow_d5877 1 (some (.array (.object "java/lang/Object")))) { frames := 4, cells := 1, slots := 22, locals := 85 } (gPre G al (c) [.ref (al li)]) (gQr (S := Nat) G (fun u => u) (fun u => va_up al nd u) (fun u => up (up c nd (.inl (gO G, 22, .inr (.inr (.inr (.inr (va_cpy ff (fun _ => none) 0 0 15))))))) li (.inr (0, [.int mo, .ref u, .int 15])))) 1 22 (gA G) := by
  refine Met.ofW (cc := cJx4a65c_grow_d5877) (maxL := 1) (ret := (some (.array (.object "java/lang/Object")))) (by decide) rfl ?_
  intro pz ez s m args below meth c₀ s₁ Bo hml hv
  obtain ⟨rfl, hb0, hP, hE⟩ := hv
  have hx := Bo.exec
  have hb := Bo.bytes
  have hr := Bo.returns
  have hts0 := atoms_spec (ws := (fW yJx4a65c_grow_d5877 cJx4a65c_grow_d5877 1 (some (.array (.object "java/lang/Object"))))) Bo.pre
  have hts : ∀ w ∈ fA, w.before _ s = true := fun w h => hts0 w (List.mem_cons_of_mem _ h)
  have hown : s.vm.findClass RJx4a65c = some m.cls := findClass_of_methodNamed Bo.named
  have hlocks := Bo.notSynchronized
  have hl := lv_entry ([.ref (al li)]) (n := 1) (Nat.le_of_ble_eq_true rfl)
  rw [lg_entry_eq]
  generalize (lg_sl ([.ref (al li)]) ++ List.replicate (1 - (lg_sl ([.ref (al li)])).length) Slot.unset).toArray = ls at hl ⊢
  have hl : lv_has ls 1 [(0, .ref (al li))] := hl
  refine g_start hP (fun H hP hS => ?_)
  refine lv_aload_n hx hb dJx4a65c_grow_d5877_0 rfl (lv_at hl 0 rfl) ?_
  refine lv_aload_n hx hb dJx4a65c_grow_d5877_1 rfl (lv_at hl 0 rfl) ?_
  refine m_get (C := RJx4a65c) (T := TJx4a65c) (N := 3) (ci := 0) (v := .int 15) hx hb hts uJx4a65c hown hE hP li rfl e1 rfl 2 (by decide) (hts _ q35) (fun _ h9 => h9) rfl dJx4a65c_grow_d5877_2 ?_
  refine lv_iconst (v := 1) hx hb dJx4a65c_grow_d5877_5 (by decide) ?_
  refine lv_iadd hx hb dJx4a65c_grow_d5877_6 ?_
  refine f_topi (v := 16) (by decide) ?_
  refine g_aft_r (g_runV (As := [.int 16]) (rest := []) hx hb hml hown hts (kJx4a65c_grow_92f84_g15 l G al c li di nd ff hf ci r mo e1 e2 hne hnd hn1 hcn hel hrr hro) (fcwV 1 hts q113 q114 q115 q50 q116 rfl rfl (by decide +kernel) ⟨(Nat.le_of_ble_eq_true rfl), (Nat.le_of_ble_eq_true rfl)⟩) hE hb0 hP hS (m_recvA hE hP li rfl e1 rfl) rfl hl.1 rfl (Nat.le_of_ble_eq_true rfl) dJx4a65c_grow_d5877_7 ⟨(Nat.le_of_ble_eq_true rfl), (Nat.le_of_ble_eq_true rfl)⟩) hS (fun u_1 H locs hP hS => ?_)
  have hP : mP G (va_up al nd u_1) (up (up c nd (.inl (gO G, 22, .inr (.inr (.inr (.inr (va_cpy ff (fun _ => none) 0 0 15))))))) li (.inr (0, [.int mo, .ref u_1, .int 15]))) H := hP
  refine g_topr (v := u_1) rfl ?_
  refine W.widen (k := 1) (n := 22) (Nat.le_of_ble_eq_true rfl) (Nat.le_of_ble_eq_true rfl) ?_
  exact W.aret hx hb hr (Or.inr ⟨_, rfl⟩) (Or.inr ⟨_, rfl⟩) (fun tz htz hW => ⟨⟨u_1, u_1, rfl, trivial, rfl, g_end htz hP⟩, hS.F htz⟩) hS.2.2 dJx4a65c_grow_d5877_10
set_option maxHeartbeats 4000000 in
set_option maxRecDepth 100000 in
theorem kJx4a65c_add_72be8_e (l : Launch) (G : gT) (al : Nat → Nat) (c : mC) (li : Nat) (di : Nat) (mo : Int32) (j : Nat) (ci : Nat) (vs : List Value) (r : vw_C) (e1 : c li = some (.inr (0, [.int mo, .ref (gEm G), .int 0]))) (hj : c j = some (.inr (ci, vs))) (hrr : vwCl[ci]? = some r) (hro : r.1 ∈ fObj) (hjl : j ≠ li) (hjd : j ≠ di) (hne : li ≠ di) : Met l yJx4a65c_add_72be8 (fW yJx4a65c_add_72be8 cJx4a65c_add_72be8 4 none) { frames := 3, cells := 1, slots := 10, locals := 57 } (gPre G al (c) [.ref (al li), .ref (al j), .ref (gEm G), .int 0]) (gQv (S := Nat) G (fun u => va_up al di u) (fun u => up (up c di (.inl (gO G, 10, .inr (.inr (.inr (.inr (va_up (fun _ => none) 0 (some (al j))))))))) li (.inr (0, [.int mo, .ref u, .int 1])))) 1 10 (gA G) := by
  refine Met.ofW (cc := cJx4a65c_add_72be8) (maxL := 4) (ret := none) (by decide) rfl ?_
  intro pz ez s m args below meth c₀ s₁ Bo hml hv
  obtain ⟨rfl, hb0, hP, hE⟩ := hv
  have hx := Bo.exec
  have hb := Bo.bytes
  have hr := Bo.returns
  have hts0 := atoms_spec (ws := (fW yJx4a65c_add_72be8 cJx4a65c_add_72be8 4 none)) Bo.pre
  have hts : ∀ w ∈ fA, w.before _ s = true := fun w h => hts0 w (List.mem_cons_of_mem _ h)
  have hown : s.vm.findClass RJx4a65c = some m.cls := findClass_of_methodNamed Bo.named
  have hlocks := Bo.notSynchronized
  have hl := lv_entry ([.ref (al li), .ref (al j), .ref (gEm G), .int 0]) (n := 4) (Nat.le_of_ble_eq_true rfl)
  rw [lg_entry_eq]
  generalize (lg_sl ([.ref (al li), .ref (al j), .ref (gEm G), .int 0]) ++ List.replicate (4 - (lg_sl ([.ref (al li), .ref (al j), .ref (gEm G), .int 0])).length) Slot.unset).toArray = ls at hl ⊢
  have hl : lv_has ls 4 [(0, .ref (al li)), (1, .ref (al j)), (2, .ref (gEm G)), (3, .int 0)] := hl
  refine g_start hP (fun H hP hS => ?_)
  refine lv_iload_n hx hb dJx4a65c_add_72be8_0 rfl (lv_at hl 3 rfl) ?_
  refine lv_aload_n hx hb dJx4a65c_add_72be8_1 rfl (lv_at hl 2 rfl) ?_
  refine va_tlen (v := 0) hx hb hE.1.2.2.1 hS (by decide) dJx4a65c_add_72be8_2 ?_
  refine lv_icmp_ne (tgt := 11) hx hb dJx4a65c_add_72be8_3 (by decide) (fun h => absurd (by decide) h) (fun _ => ?_)
  refine lv_aload_n hx hb dJx4a65c_add_72be8_6 rfl (lv_at hl 0 rfl) ?_
  refine g_aft_r (g_runV (As := []) (rest := []) hx hb hml hown hts (kJx4a65c_grow_d5877_e l G al c li di mo e1 hne) (fcwV 0 hts q117 q118 q119 q50 q120 rfl rfl (by decide +kernel) ⟨(Nat.le_of_ble_eq_true rfl), (Nat.le_of_ble_eq_true rfl)⟩) hE hb0 hP hS (m_recvA hE hP li rfl e1 rfl) rfl hl.1 rfl (Nat.le_of_ble_eq_true rfl) dJx4a65c_add_72be8_7 ⟨(Nat.le_of_ble_eq_true rfl), (Nat.le_of_ble_eq_true rfl)⟩) hS (fun u_1 H locs hP hS => ?_)
  have hP : mP G (va_up al di u_1) (up (up c di (.inl (gO G, 10, .inr (.inr (.inr (.inr (fun _ => none))))))) li (.inr (0, [.int mo, .ref u_1, .int 0]))) H := hP
  refine g_topr (v := u_1) rfl ?_
  refine lv_astore_n (lv' := [(2, .ref u_1), (0, .ref (al li)), (1, .ref (al j)), (3, .int 0)]) hx hb dJx4a65c_add_72be8_10 rfl hl (by decide) rfl (fun ls hl => ?_)
  refine lv_aload_n hx hb dJx4a65c_add_72be8_11 rfl (lv_at hl 0 rfl) ?_
  refine lv_iload_n hx hb dJx4a65c_add_72be8_12 rfl (lv_at hl 3 rfl) ?_
  refine lv_aload_n hx hb dJx4a65c_add_72be8_13 rfl (lv_at hl 2 rfl) ?_
  refine m_aast hx hb hE hP hS di (au_s _ _ _) ((up_n _ _ (by omega)).trans (up_s _ _ _)) j ((au_n _ _ (by omega)).trans rfl) ((up_n _ _ (by omega)).trans ((up_n _ _ (by omega)).trans hj)) hrr hro (by unfold vp_in; decide) dJx4a65c_add_72be8_14 (fun H locs hP hS => ?_)
  rw [show (0 : Int32).toNatClampNeg = 0 from by decide] at hP
  have hP := m_cv hP (up_far1 (by omega))
  have hP : mP G (va_up al di u_1) (up (up c di (.inl (gO G, 10, .inr (.inr (.inr (.inr (va_up (fun _ => none) 0 (some (al j))))))))) li (.inr (0, [.int mo, .ref u_1, .int 0]))) H := hP
  refine lv_aload_n hx hb dJx4a65c_add_72be8_15 rfl (lv_at hl 1 rfl) ?_
  refine lv_iload_n hx hb dJx4a65c_add_72be8_16 rfl (lv_at hl 3 rfl) ?_
  refine lv_iconst (v := 1) hx hb dJx4a65c_add_72be8_17 (by decide) ?_
  refine lv_iadd hx hb dJx4a65c_add_72be8_18 ?_
  refine f_topi (v := 1) (by decide) ?_
  refine m_put (v := .int 1) (ty := .int) (C := RJx4a65c) (T := TJx4a65c) (N := 3) (ci := 0) hx hb hts uJx4a65c tyJx4a65c tyJx4a65c_ok nmJx4a65c hown hE hP hS li ((au_n _ _ (by omega)).trans rfl) (up_s _ _ _) rfl 2 (by decide) (hts _ q35) (fun _ h9 => h9) rfl (by decide +kernel) rfl rfl (Nat.le_of_ble_eq_true rfl) dJx4a65c_add_72be8_19 (fun H locs hP hS => ?_)
  have hP := m_cv hP (up_up _ _ _ _)
  have hP : mP G (va_up al di u_1) (up (up c di (.inl (gO G, 10, .inr (.inr (.inr (.inr (va_up (fun _ => none) 0 (some (al j))))))))) li (.inr (0, [.int mo, .ref u_1, .int 1]))) H := hP
  refine W.widen (k := 1) (n := 10) (Nat.le_of_ble_eq_true rfl) (Nat.le_of_ble_eq_true rfl) ?_
  exact W.vret hx hb hr (fun tz htz hW => ⟨⟨u_1, rfl, trivial, g_end htz hP⟩, hS.F htz⟩) hS.2.2 dJx4a65c_add_72be8_22
set_option maxHeartbeats 4000000 in
set_option maxRecDepth 100000 in
theorem kJx4a65c_add_72be8_g10 (l : Launch) (G : gT) (al : Nat → Nat) (c : mC) (li : Nat) (di : Nat) (mo : Int32) (nd : Nat) (ff : Nat → Option Nat) (hf : Nat → Nat) (j : Nat) (ci : Nat) (vs : List Value) (r : vw_C) (e1 : c li = some (.inr (0, [.int mo, .ref (al di), .int 10]))) (e2 : c di = some (.inl (gO G, 10, .inr (.inr (.inr (.inr ff)))))) (hj : c j = some (.inr (ci, vs))) (hrr : vwCl[ci]? = some r) (hro : r.1 ∈ fObj) (hjl : j ≠ li) (hjd : j ≠ di) (hne : li ≠ di) (hnd : di ≠ nd) (hn1 : li ≠ nd) (hjn : j ≠ nd) (hcn : c nd = none) (hel : ∀ i, i < 10 → ff i = some (al (hf i)) ∧ hf i ≠ nd ∧ ∃ vs, c (hf i) = some (.inr (ci, vs))) : Met l yJx4a65c_add_72be8 (fW yJx4a65c_add_72be8 cJx4a65c_add_72be8 4 none) { frames := 5, cells := 1, slots := 15, locals := 105 } (gPre G al (c) [.ref (al li), .ref (al j), .ref (al di), .int 10]) (gQv (S := Nat) G (fun u => va_up al nd u) (fun u => up (up c nd (.inl (gO G, 15, .inr (.inr (.inr (.inr (va_up (va_cpy ff (fun _ => none) 0 0 10) 10 (some (al j))))))))) li (.inr (0, [.int mo, .ref u, .int 11])))) 1 15 (gA G) := by
  refine Met.ofW (cc := cJx4a65c_add_72be8) (maxL := 4) (ret := none) (by decide) rfl ?_
  intro pz ez s m args below meth c₀ s₁ Bo hml hv
  obtain ⟨rfl, hb0, hP, hE⟩ := hv
  have hx := Bo.exec
  have hb := Bo.bytes
  have hr := Bo.returns
  have hts0 := atoms_spec (ws := (fW yJx4a65c_add_72be8 cJx4a65c_add_72be8 4 none)) Bo.pre
  have hts : ∀ w ∈ fA, w.before _ s = true := fun w h => hts0 w (List.mem_cons_of_mem _ h)
  have hown : s.vm.findClass RJx4a65c = some m.cls := findClass_of_methodNamed Bo.named
  have hlocks := Bo.notSynchronized
  have hl := lv_entry ([.ref (al li), .ref (al j), .ref (al di), .int 10]) (n := 4) (Nat.le_of_ble_eq_true rfl)
  rw [lg_entry_eq]
  generalize (lg_sl ([.ref (al li), .ref (al j), .ref (al di), .int 10]) ++ List.replicate (4 - (lg_sl ([.ref (al li), .ref (al j), .ref (al di), .int 10])).length) Slot.unset).toArray = ls at hl ⊢
  have hl : lv_has ls 4 [(0, .ref (al li)), (1, .ref (al j)), (2, .ref (al di)), (3, .int 10)] := hl
  refine g_start hP (fun H hP hS => ?_)
  refine lv_iload_n hx hb dJx4a65c_add_72be8_0 rfl (lv_at hl 3 rfl) ?_
  refine lv_aload_n hx hb dJx4a65c_add_72be8_1 rfl (lv_at hl 2 rfl) ?_
  refine m_alen hx hb hE hP di rfl e2 dJx4a65c_add_72be8_2 ?_
  refine f_topi (v := 10) (by decide) ?_
  refine lv_icmp_ne (tgt := 11) hx hb dJx4a65c_add_72be8_3 (by decide) (fun h => absurd (by decide) h) (fun _ => ?_)
  refine lv_aload_n hx hb dJx4a65c_add_72be8_6 rfl (lv_at hl 0 rfl) ?_
  refine g_aft_r (g_runV (As := []) (rest := []) hx hb hml hown hts (kJx4a65c_grow_d5877_g10 l G al c li di nd ff hf ci r mo e1 e2 hne hnd hn1 hcn hel hrr hro) (fcwV 0 hts q117 q118 q119 q50 q120 rfl rfl (by decide +kernel) ⟨(Nat.le_of_ble_eq_true rfl), (Nat.le_of_ble_eq_true rfl)⟩) hE hb0 hP hS (m_recvA hE hP li rfl e1 rfl) rfl hl.1 rfl (Nat.le_of_ble_eq_true rfl) dJx4a65c_add_72be8_7 ⟨(Nat.le_of_ble_eq_true rfl), (Nat.le_of_ble_eq_true rfl)⟩) hS (fun u_1 H locs hP hS => ?_)
  have hP : mP G (va_up al nd u_1) (up (up c nd (.inl (gO G, 15, .inr (.inr (.inr (.inr (va_cpy ff (fun _ => none) 0 0 10))))))) li (.inr (0, [.int mo, .ref u_1, .int 10]))) H := hP
  refine g_topr (v := u_1) rfl ?_
  refine lv_astore_n (lv' := [(2, .ref u_1), (0, .ref (al li)), (1, .ref (al j)), (3, .int 10)]) hx hb dJx4a65c_add_72be8_10 rfl hl (by decide) rfl (fun ls hl => ?_)
  refine lv_aload_n hx hb dJx4a65c_add_72be8_11 rfl (lv_at hl 0 rfl) ?_
  refine lv_iload_n hx hb dJx4a65c_add_72be8_12 rfl (lv_at hl 3 rfl) ?_
  refine lv_aload_n hx hb dJx4a65c_add_72be8_13 rfl (lv_at hl 2 rfl) ?_
  refine m_aast hx hb hE hP hS nd (au_s _ _ _) ((up_n _ _ (by omega)).trans (up_s _ _ _)) j ((au_n _ _ (by omega)).trans rfl) ((up_n _ _ (by omega)).trans ((up_n _ _ (by omega)).trans hj)) hrr hro (by unfold vp_in; decide) dJx4a65c_add_72be8_14 (fun H locs hP hS => ?_)
  rw [show (10 : Int32).toNatClampNeg = 10 from by decide] at hP
  have hP := m_cv hP (up_far1 (by omega))
  have hP : mP G (va_up al nd u_1) (up (up c nd (.inl (gO G, 15, .inr (.inr (.inr (.inr (va_up (va_cpy ff (fun _ => none) 0 0 10) 10 (some (al j))))))))) li (.inr (0, [.int mo, .ref u_1, .int 10]))) H := hP
  refine lv_aload_n hx hb dJx4a65c_add_72be8_15 rfl (lv_at hl 1 rfl) ?_
  refine lv_iload_n hx hb dJx4a65c_add_72be8_16 rfl (lv_at hl 3 rfl) ?_
  refine lv_iconst (v := 1) hx hb dJx4a65c_add_72be8_17 (by decide) ?_
  refine lv_iadd hx hb dJx4a65c_add_72be8_18 ?_
  refine f_topi (v := 11) (by decide) ?_
  refine m_put (v := .int 11) (ty := .int) (C := RJx4a65c) (T := TJx4a65c) (N := 3) (ci := 0) hx hb hts uJx4a65c tyJx4a65c tyJx4a65c_ok nmJx4a65c hown hE hP hS li ((au_n _ _ (by omega)).trans rfl) (up_s _ _ _) rfl 2 (by decide) (hts _ q35) (fun _ h9 => h9) rfl (by decide +kernel) rfl rfl (Nat.le_of_ble_eq_true rfl) dJx4a65c_add_72be8_19 (fun H locs hP hS => ?_)
  have hP := m_cv hP (up_up _ _ _ _)
  have hP : mP G (va_up al nd u_1) (up (up c nd (.inl (gO G, 15, .inr (.inr (.inr (.inr (va_up (va_cpy ff (fun _ => none) 0 0 10) 10 (some (al j))))))))) li (.inr (0, [.int mo, .ref u_1, .int 11]))) H := hP
  refine W.widen (k := 1) (n := 15) (Nat.le_of_ble_eq_true rfl) (Nat.le_of_ble_eq_true rfl) ?_
  exact W.vret hx hb hr (fun tz htz hW => ⟨⟨u_1, rfl, trivial, g_end htz hP⟩, hS.F htz⟩) hS.2.2 dJx4a65c_add_72be8_22
set_option maxHeartbeats 4000000 in
set_option maxRecDepth 100000 in
theorem kJx4a65c_add_72be8_g15 (l : Launch) (G : gT) (al : Nat → Nat) (c : mC) (li : Nat) (di : Nat) (mo : Int32) (nd : Nat) (ff : Nat → Option Nat) (hf : Nat → Nat) (j : Nat) (ci : Nat) (vs : List Value) (r : vw_C) (e1 : c li = some (.inr (0, [.int mo, .ref (al di), .int 15]))) (e2 : c di = some (.inl (gO G, 15, .inr (.inr (.inr (.inr ff)))))) (hj : c j = some (.inr (ci, vs))) (hrr : vwCl[ci]? = some r) (hro : r.1 ∈ fObj) (hjl : j ≠ li) (hjd : j ≠ di) (hne : li ≠ di) (hnd : di ≠ nd) (hn1 : li ≠ nd) (hjn : j ≠ nd) (hcn : c nd = none) (hel : ∀ i, i < 15 → ff i = some (al (hf i)) ∧ hf i ≠ nd ∧ ∃ vs, c (hf i) = some (.inr (ci, vs))) : Met l yJx4a65c_add_72be8 (fW yJx4a65c_add_72be8 cJx4a65c_add_72be8 4 none) { frames := 5, cells := 1, slots := 22, locals := 105 } (gPre G al (c) [.ref (al li), .ref (al j), .ref (al di), .int 15]) (gQv (S := Nat) G (fun u => va_up al nd u) (fun u => up (up c nd (.inl (gO G, 22, .inr (.inr (.inr (.inr (va_up (va_cpy ff (fun _ => none) 0 0 15) 15 (some (al j))))))))) li (.inr (0, [.int mo, .ref u, .int 16])))) 1 22 (gA G) := by
  refine Met.ofW (cc := cJx4a65c_add_72be8) (maxL := 4) (ret := none) (by decide) rfl ?_
  intro pz ez s m args below meth c₀ s₁ Bo hml hv
  obtain ⟨rfl, hb0, hP, hE⟩ := hv
  have hx := Bo.exec
  have hb := Bo.bytes
  have hr := Bo.returns
  have hts0 := atoms_spec (ws := (fW yJx4a65c_add_72be8 cJx4a65c_add_72be8 4 none)) Bo.pre
  have hts : ∀ w ∈ fA, w.before _ s = true := fun w h => hts0 w (List.mem_cons_of_mem _ h)
  have hown : s.vm.findClass RJx4a65c = some m.cls := findClass_of_methodNamed Bo.named
  have hlocks := Bo.notSynchronized
  have hl := lv_entry ([.ref (al li), .ref (al j), .ref (al di), .int 15]) (n := 4) (Nat.le_of_ble_eq_true rfl)
  rw [lg_entry_eq]
  generalize (lg_sl ([.ref (al li), .ref (al j), .ref (al di), .int 15]) ++ List.replicate (4 - (lg_sl ([.ref (al li), .ref (al j), .ref (al di), .int 15])).length) Slot.unset).toArray = ls at hl ⊢
  have hl : lv_has ls 4 [(0, .ref (al li)), (1, .ref (al j)), (2, .ref (al di)), (3, .int 15)] := hl
  refine g_start hP (fun H hP hS => ?_)
  refine lv_iload_n hx hb dJx4a65c_add_72be8_0 rfl (lv_at hl 3 rfl) ?_
  refine lv_aload_n hx hb dJx4a65c_add_72be8_1 rfl (lv_at hl 2 rfl) ?_
  refine m_alen hx hb hE hP di rfl e2 dJx4a65c_add_72be8_2 ?_
  refine f_topi (v := 15) (by decide) ?_
  refine lv_icmp_ne (tgt := 11) hx hb dJx4a65c_add_72be8_3 (by decide) (fun h => absurd (by decide) h) (fun _ => ?_)
  refine lv_aload_n hx hb dJx4a65c_add_72be8_6 rfl (lv_at hl 0 rfl) ?_
  refine g_aft_r (g_runV (As := []) (rest := []) hx hb hml hown hts (kJx4a65c_grow_d5877_g15 l G al c li di nd ff hf ci r mo e1 e2 hne hnd hn1 hcn hel hrr hro) (fcwV 0 hts q117 q118 q119 q50 q120 rfl rfl (by decide +kernel) ⟨(Nat.le_of_ble_eq_true rfl), (Nat.le_of_ble_eq_true rfl)⟩) hE hb0 hP hS (m_recvA hE hP li rfl e1 rfl) rfl hl.1 rfl (Nat.le_of_ble_eq_true rfl) dJx4a65c_add_72be8_7 ⟨(Nat.le_of_ble_eq_true rfl), (Nat.le_of_ble_eq_true rfl)⟩) hS (fun u_1 H locs hP hS => ?_)
  have hP : mP G (va_up al nd u_1) (up (up c nd (.inl (gO G, 22, .inr (.inr (.inr (.inr (va_cpy ff (fun _ => none) 0 0 15))))))) li (.inr (0, [.int mo, .ref u_1, .int 15]))) H := hP
  refine g_topr (v := u_1) rfl ?_
  refine lv_astore_n (lv' := [(2, .ref u_1), (0, .ref (al li)), (1, .ref (al j)), (3, .int 15)]) hx hb dJx4a65c_add_72be8_10 rfl hl (by decide) rfl (fun ls hl => ?_)
  refine lv_aload_n hx hb dJx4a65c_add_72be8_11 rfl (lv_at hl 0 rfl) ?_
  refine lv_iload_n hx hb dJx4a65c_add_72be8_12 rfl (lv_at hl 3 rfl) ?_
  refine lv_aload_n hx hb dJx4a65c_add_72be8_13 rfl (lv_at hl 2 rfl) ?_
  refine m_aast hx hb hE hP hS nd (au_s _ _ _) ((up_n _ _ (by omega)).trans (up_s _ _ _)) j ((au_n _ _ (by omega)).trans rfl) ((up_n _ _ (by omega)).trans ((up_n _ _ (by omega)).trans hj)) hrr hro (by unfold vp_in; decide) dJx4a65c_add_72be8_14 (fun H locs hP hS => ?_)
  rw [show (15 : Int32).toNatClampNeg = 15 from by decide] at hP
  have hP := m_cv hP (up_far1 (by omega))
  have hP : mP G (va_up al nd u_1) (up (up c nd (.inl (gO G, 22, .inr (.inr (.inr (.inr (va_up (va_cpy ff (fun _ => none) 0 0 15) 15 (some (al j))))))))) li (.inr (0, [.int mo, .ref u_1, .int 15]))) H := hP
  refine lv_aload_n hx hb dJx4a65c_add_72be8_15 rfl (lv_at hl 1 rfl) ?_
  refine lv_iload_n hx hb dJx4a65c_add_72be8_16 rfl (lv_at hl 3 rfl) ?_
  refine lv_iconst (v := 1) hx hb dJx4a65c_add_72be8_17 (by decide) ?_
  refine lv_iadd hx hb dJx4a65c_add_72be8_18 ?_
  refine f_topi (v := 16) (by decide) ?_
  refine m_put (v := .int 16) (ty := .int) (C := RJx4a65c) (T := TJx4a65c) (N := 3) (ci := 0) hx hb hts uJx4a65c tyJx4a65c tyJx4a65c_ok nmJx4a65c hown hE hP hS li ((au_n _ _ (by omega)).trans rfl) (up_s _ _ _) rfl 2 (by decide) (hts _ q35) (fun _ h9 => h9) rfl (by decide +kernel) rfl rfl (Nat.le_of_ble_eq_true rfl) dJx4a65c_add_72be8_19 (fun H locs hP hS => ?_)
  have hP := m_cv hP (up_up _ _ _ _)
  have hP : mP G (va_up al nd u_1) (up (up c nd (.inl (gO G, 22, .inr (.inr (.inr (.inr (va_up (va_cpy ff (fun _ => none) 0 0 15) 15 (some (al j))))))))) li (.inr (0, [.int mo, .ref u_1, .int 16]))) H := hP
  refine W.widen (k := 1) (n := 22) (Nat.le_of_ble_eq_true rfl) (Nat.le_of_ble_eq_true rfl) ?_
  exact W.vret hx hb hr (fun tz htz hW => ⟨⟨u_1, rfl, trivial, g_end htz hP⟩, hS.F htz⟩) hS.2.2 dJx4a65c_add_72be8_22
set_option maxHeartbeats 4000000 in
set_option maxRecDepth 100000 in
theorem kJx4a65c_add_72be8_r (l : Launch) (G : gT) (al : Nat → Nat) (c : mC) (li : Nat) (di : Nat) (mo : Int32) (cap : Nat) (ff : Nat → Option Nat) (n : Nat) (j : Nat) (ci : Nat) (vs : List Value) (r : vw_C) (e1 : c li = some (.inr (0, [.int mo, .ref (al di), .int (nI n)]))) (e2 : c di = some (.inl (gO G, cap, .inr (.inr (.inr (.inr ff)))))) (hj : c j = some (.inr (ci, vs))) (hrr : vwCl[ci]? = some r) (hro : r.1 ∈ fObj) (hjl : j ≠ li) (hjd : j ≠ di) (hne : li ≠ di) (hn : n < cap) (hcap : cap < 100) : Met l yJx4a65c_add_72be8 (fW yJx4a65c_add_72be8 cJx4a65c_add_72be8 4 none) { frames := 0, cells := 0, slots := 0, locals := 0 } (gPre G al (c) [.ref (al li), .ref (al j), .ref (al di), .int (nI n)]) (gQv (S := Unit) G (fun _ => al) (fun _ => up (up c di (.inl (gO G, cap, .inr (.inr (.inr (.inr (va_up ff n (some (al j))))))))) li (.inr (0, [.int mo, .ref (al di), .int (nI (n + 1))])))) 0 0 (gA G) := by
  refine Met.ofW (cc := cJx4a65c_add_72be8) (maxL := 4) (ret := none) (by decide) rfl ?_
  intro pz ez s m args below meth c₀ s₁ Bo hml hv
  obtain ⟨rfl, hb0, hP, hE⟩ := hv
  have hx := Bo.exec
  have hb := Bo.bytes
  have hr := Bo.returns
  have hts0 := atoms_spec (ws := (fW yJx4a65c_add_72be8 cJx4a65c_add_72be8 4 none)) Bo.pre
  have hts : ∀ w ∈ fA, w.before _ s = true := fun w h => hts0 w (List.mem_cons_of_mem _ h)
  have hown : s.vm.findClass RJx4a65c = some m.cls := findClass_of_methodNamed Bo.named
  have hlocks := Bo.notSynchronized
  have hl := lv_entry ([.ref (al li), .ref (al j), .ref (al di), .int (nI n)]) (n := 4) (Nat.le_of_ble_eq_true rfl)
  rw [lg_entry_eq]
  generalize (lg_sl ([.ref (al li), .ref (al j), .ref (al di), .int (nI n)]) ++ List.replicate (4 - (lg_sl ([.ref (al li), .ref (al j), .ref (al di), .int (nI n)])).length) Slot.unset).toArray = ls at hl ⊢
  have hl : lv_has ls 4 [(0, .ref (al li)), (1, .ref (al j)), (2, .ref (al di)), (3, .int (nI n))] := hl
  refine g_start hP (fun H hP hS => ?_)
  refine lv_iload_n hx hb dJx4a65c_add_72be8_0 rfl (lv_at hl 3 rfl) ?_
  refine lv_aload_n hx hb dJx4a65c_add_72be8_1 rfl (lv_at hl 2 rfl) ?_
  refine m_alen hx hb hE hP di rfl e2 dJx4a65c_add_72be8_2 ?_
  refine lv_icmp_ne (tgt := 11) hx hb dJx4a65c_add_72be8_3 (by decide) (fun _ => ?_) (fun h => absurd h (fun h9 => absurd ((nI_eq (by omega) (by omega)).mp h9) (by omega)))
  refine lv_aload_n hx hb dJx4a65c_add_72be8_11 rfl (lv_at hl 2 rfl) ?_
  refine lv_iload_n hx hb dJx4a65c_add_72be8_12 rfl (lv_at hl 3 rfl) ?_
  refine lv_aload_n hx hb dJx4a65c_add_72be8_13 rfl (lv_at hl 1 rfl) ?_
  refine m_aast hx hb hE hP hS di rfl e2 j rfl hj hrr hro (nI_in (by omega) (by omega)) dJx4a65c_add_72be8_14 (fun H locs hP hS => ?_)
  rw [show (nI n : Int32).toNatClampNeg = n from nI_clamp (by omega)] at hP
  have hP : mP G al (up c di (.inl (gO G, cap, .inr (.inr (.inr (.inr (va_up ff n (some (al j))))))))) H := hP
  refine lv_aload_n hx hb dJx4a65c_add_72be8_15 rfl (lv_at hl 0 rfl) ?_
  refine lv_iload_n hx hb dJx4a65c_add_72be8_16 rfl (lv_at hl 3 rfl) ?_
  refine lv_iconst (v := 1) hx hb dJx4a65c_add_72be8_17 (by decide) ?_
  refine lv_iadd hx hb dJx4a65c_add_72be8_18 ?_
  refine f_topi (v := nI (n + 1)) (nI_1 _) ?_
  refine m_put (v := .int (nI (n + 1))) (ty := .int) (C := RJx4a65c) (T := TJx4a65c) (N := 3) (ci := 0) hx hb hts uJx4a65c tyJx4a65c tyJx4a65c_ok nmJx4a65c hown hE hP hS li rfl ((up_n _ _ (by omega)).trans e1) rfl 2 (by decide) (hts _ q35) (fun _ h9 => h9) rfl (by decide +kernel) rfl rfl (Nat.le_of_ble_eq_true rfl) dJx4a65c_add_72be8_19 (fun H locs hP hS => ?_)
  have hP : mP G al (up (up c di (.inl (gO G, cap, .inr (.inr (.inr (.inr (va_up ff n (some (al j))))))))) li (.inr (0, [.int mo, .ref (al di), .int (nI (n + 1))]))) H := hP
  refine W.widen (k := 0) (n := 0) (Nat.le_of_ble_eq_true rfl) (Nat.le_of_ble_eq_true rfl) ?_
  exact W.vret hx hb hr (fun tz htz hW => ⟨⟨(), rfl, trivial, g_end htz hP⟩, hS.F htz⟩) hS.2.2 dJx4a65c_add_72be8_22
set_option maxHeartbeats 4000000 in
set_option maxRecDepth 100000 in
theorem kJx4a65c_add_9ea2d (l : Launch) (G : gT) (al : Nat → Nat) (c : mC) (li : Nat) (di : Nat) (n : Nat) (hf : Nat → Nat) (j : Nat) (ci : Nat) (vs : List Value) (r : vw_C) (hlst : gLs G al c li di n hf) (hj : c j = some (.inr (ci, vs))) (hrr : vwCl[ci]? = some r) (hro : r.1 ∈ fObj) (hjl : j ≠ li) (hjd : j ≠ di) (hne : li ≠ di) (hn : n ≤ 20) (hfd : ∀ i, i < n → hf i ≠ di) (hfl : ∀ i, i < n → hf i ≠ li) (hgr : n < 10 ∨ (c 999 = none ∧ di ≠ 999 ∧ li ≠ 999 ∧ j ≠ 999 ∧ ∀ i, i < n → hf i ≠ 999 ∧ ∃ vs, c (hf i) = some (.inr (ci, vs)))) : Met l yJx4a65c_add_9ea2d (fW yJx4a65c_add_9ea2d cJx4a65c_add_9ea2d 2 (some .boolean)) { frames := 6, cells := 1, slots := 22, locals := 128 } (gPre G al (c) [.ref (al li), .ref (al j)]) (gQip (S := (Nat → Nat) × mC) G (addP G al c li di n hf j) (fun u => 1) (fun u => u.1) (fun u => u.2)) 1 22 (gA G) := by
  refine Met.ofW (cc := cJx4a65c_add_9ea2d) (maxL := 2) (ret := (some .boolean)) (by decide) rfl ?_
  intro pz ez s m args below meth c₀ s₁ Bo hml hv
  obtain ⟨rfl, hb0, hP, hE⟩ := hv
  have hx := Bo.exec
  have hb := Bo.bytes
  have hr := Bo.returns
  have hts0 := atoms_spec (ws := (fW yJx4a65c_add_9ea2d cJx4a65c_add_9ea2d 2 (some .boolean))) Bo.pre
  have hts : ∀ w ∈ fA, w.before _ s = true := fun w h => hts0 w (List.mem_cons_of_mem _ h)
  have hown : s.vm.findClass RJx4a65c = some m.cls := findClass_of_methodNamed Bo.named
  have hlocks := Bo.notSynchronized
  have hl := lv_entry ([.ref (al li), .ref (al j)]) (n := 2) (Nat.le_of_ble_eq_true rfl)
  rw [lg_entry_eq]
  generalize (lg_sl ([.ref (al li), .ref (al j)]) ++ List.replicate (2 - (lg_sl ([.ref (al li), .ref (al j)])).length) Slot.unset).toArray = ls at hl ⊢
  have hl : lv_has ls 2 [(0, .ref (al li)), (1, .ref (al j))] := hl
  have hcase : (n = 0 ∧ ∃ mo : Int32, c li = some (.inr (0, [.int mo, .ref (gEm G), .int 0]))) ∨ (∃ (mo : Int32) (cap : Nat) (ff : Nat → Option Nat), c li = some (.inr (0, [.int mo, .ref (al di), .int (nI n)])) ∧ c di = some (.inl (gO G, cap, .inr (.inr (.inr (.inr ff))))) ∧ n < cap ∧ (cap = 10 ∨ cap = 15 ∨ cap = 22) ∧ ∀ i, i < n → ff i = some (al (hf i))) ∨ (n = 10 ∧ (c 999 = none ∧ di ≠ 999 ∧ li ≠ 999 ∧ j ≠ 999 ∧ ∀ i, i < n → hf i ≠ 999 ∧ ∃ vs, c (hf i) = some (.inr (ci, vs))) ∧ ∃ (mo : Int32) (ff : Nat → Option Nat), c li = some (.inr (0, [.int mo, .ref (al di), .int 10])) ∧ c di = some (.inl (gO G, 10, .inr (.inr (.inr (.inr ff))))) ∧ ∀ i, i < n → ff i = some (al (hf i))) ∨ (n = 15 ∧ (c 999 = none ∧ di ≠ 999 ∧ li ≠ 999 ∧ j ≠ 999 ∧ ∀ i, i < n → hf i ≠ 999 ∧ ∃ vs, c (hf i) = some (.inr (ci, vs))) ∧ ∃ (mo : Int32) (ff : Nat → Option Nat), c li = some (.inr (0, [.int mo, .ref (al di), .int 15])) ∧ c di = some (.inl (gO G, 15, .inr (.inr (.inr (.inr ff))))) ∧ ∀ i, i < n → ff i = some (al (hf i))) := by
    rcases hlst with h0 | ⟨mo, cap, ff, e1, e2, e3, e4, e5⟩
    · exact Or.inl h0
    · by_cases hlt : n < cap
      · exact Or.inr (Or.inl ⟨mo, cap, ff, e1, e2, hlt, e4, e5⟩)
      · obtain rfl : cap = n := by omega
        rcases e4 with rfl | rfl | rfl
        · exact Or.inr (Or.inr (Or.inl ⟨rfl, hgr.resolve_left (by omega), mo, ff, e1, e2, e5⟩))
        · exact Or.inr (Or.inr (Or.inr ⟨rfl, hgr.resolve_left (by omega), mo, ff, e1, e2, e5⟩))
        · omega
  refine g_start hP (fun H hP hS => ?_)
  rcases hcase with ⟨h0, mo, e1⟩ | ⟨mo, cap, ff, e1, e2, e3, e4, e5⟩ | ⟨rfl, hg9, mo, ff, e1, e2, e5⟩ | ⟨rfl, hg9, mo, ff, e1, e2, e5⟩
  · skip
    subst h0
    refine lv_aload_n hx hb dJx4a65c_add_9ea2d_0 rfl (lv_at hl 0 rfl) ?_
    refine lv_dup hx hb dJx4a65c_add_9ea2d_1 rfl ?_
    refine m_get (C := RJx4a65c) (T := TJx4a65c) (N := 3) (ci := 0) (v := .int mo) hx hb hts uJx4a65c hown hE hP li rfl e1 rfl 0 (by decide) (hts _ q122) (f_same (hts _ q123)) rfl dJx4a65c_add_9ea2d_2 ?_
    refine lv_iconst (v := 1) hx hb dJx4a65c_add_9ea2d_5 (by decide) ?_
    refine lv_iadd hx hb dJx4a65c_add_9ea2d_6 ?_
    refine m_put (v := .int (mo + 1)) (ty := .int) (C := RJx4a65c) (T := TJx4a65c) (N := 3) (ci := 0) hx hb hts uJx4a65c tyJx4a65c tyJx4a65c_ok nmJx4a65c hown hE hP hS li rfl e1 rfl 0 (by decide) (hts _ q122) (f_same (hts _ q123)) rfl (by decide +kernel) rfl rfl (Nat.le_of_ble_eq_true rfl) dJx4a65c_add_9ea2d_7 (fun H locs hP hS => ?_)
    have hP : mP G al (up c li (.inr (0, [.int (mo + 1), .ref (gEm G), .int 0]))) H := hP
    refine lv_aload_n hx hb dJx4a65c_add_9ea2d_10 rfl (lv_at hl 0 rfl) ?_
    refine lv_aload_n hx hb dJx4a65c_add_9ea2d_11 rfl (lv_at hl 1 rfl) ?_
    refine lv_aload_n hx hb dJx4a65c_add_9ea2d_12 rfl (lv_at hl 0 rfl) ?_
    refine m_get (C := RJx4a65c) (T := TJx4a65c) (N := 3) (ci := 0) (v := .ref (gEm G)) hx hb hts uJx4a65c hown hE hP li rfl (up_s _ _ _) rfl 1 (by decide) (hts _ q42) (fun _ h9 => h9) rfl dJx4a65c_add_9ea2d_13 ?_
    refine lv_aload_n hx hb dJx4a65c_add_9ea2d_16 rfl (lv_at hl 0 rfl) ?_
    refine m_get (C := RJx4a65c) (T := TJx4a65c) (N := 3) (ci := 0) (v := .int 0) hx hb hts uJx4a65c hown hE hP li rfl (up_s _ _ _) rfl 2 (by decide) (hts _ q35) (fun _ h9 => h9) rfl dJx4a65c_add_9ea2d_17 ?_
    refine g_aft_v (g_runV (As := [.ref (al j), .ref (gEm G), .int 0]) (rest := []) hx hb hml hown hts (kJx4a65c_add_72be8_e l G al (up c li (.inr (0, [.int (mo + 1), .ref (gEm G), .int 0]))) li di (mo + 1) j ci vs r (up_s _ _ _) ((up_n _ _ (by omega)).trans hj) hrr hro hjl hjd hne) (fcwV 3 hts q124 q125 q126 q50 q121 rfl rfl (by decide +kernel) ⟨(Nat.le_of_ble_eq_true rfl), (Nat.le_of_ble_eq_true rfl)⟩) hE hb0 hP hS (m_recvA hE hP li rfl (up_s _ _ _) rfl) rfl hl.1 rfl (Nat.le_of_ble_eq_true rfl) dJx4a65c_add_9ea2d_20 ⟨(Nat.le_of_ble_eq_true rfl), (Nat.le_of_ble_eq_true rfl)⟩) hS (fun u_1 H locs hP hS => ?_)
    have hP : mP G (va_up al di u_1) (up (up (up c li (.inr (0, [.int (mo + 1), .ref (gEm G), .int 0]))) di (.inl (gO G, 10, .inr (.inr (.inr (.inr (va_up (fun _ => none) 0 (some (al j))))))))) li (.inr (0, [.int (mo + 1), .ref u_1, .int 1]))) H := hP
    refine lv_iconst (v := 1) hx hb dJx4a65c_add_9ea2d_23 (by decide) ?_
    refine W.widen (k := 1) (n := 22) (Nat.le_of_ble_eq_true rfl) (Nat.le_of_ble_eq_true rfl) ?_
    exact W.zret (v := 1) hx hb hr (by decide) (fun tz htz hW => ⟨⟨1, (va_up al di u_1, up (up (up c li (.inr (0, [.int (mo + 1), .ref (gEm G), .int 0]))) di (.inl (gO G, 10, .inr (.inr (.inr (.inr (va_up (fun _ => none) 0 (some (al j))))))))) li (.inr (0, [.int (mo + 1), .ref u_1, .int 1]))), rfl, ⟨rfl, (add_post (G := G) (up_s _ _ _) (au_s _ _ _) rfl ((up_n _ _ (by omega)).trans (up_s _ _ _)) (by decide) (Or.inl rfl) va_up_s (fun i hi => absurd hi (by omega)) (fun i hi => au_n _ _ hi) hjd (fun i hi => absurd hi (by omega)) (fun i h1 h2 => by simp only [up, h1, h2, if_false]))⟩, g_end htz hP⟩, hS.F htz⟩) hS.2.2 dJx4a65c_add_9ea2d_24
  · skip
    have hc100 : cap < 100 := by rcases e4 with rfl | rfl | rfl <;> decide
    refine lv_aload_n hx hb dJx4a65c_add_9ea2d_0 rfl (lv_at hl 0 rfl) ?_
    refine lv_dup hx hb dJx4a65c_add_9ea2d_1 rfl ?_
    refine m_get (C := RJx4a65c) (T := TJx4a65c) (N := 3) (ci := 0) (v := .int mo) hx hb hts uJx4a65c hown hE hP li rfl e1 rfl 0 (by decide) (hts _ q122) (f_same (hts _ q123)) rfl dJx4a65c_add_9ea2d_2 ?_
    refine lv_iconst (v := 1) hx hb dJx4a65c_add_9ea2d_5 (by decide) ?_
    refine lv_iadd hx hb dJx4a65c_add_9ea2d_6 ?_
    refine m_put (v := .int (mo + 1)) (ty := .int) (C := RJx4a65c) (T := TJx4a65c) (N := 3) (ci := 0) hx hb hts uJx4a65c tyJx4a65c tyJx4a65c_ok nmJx4a65c hown hE hP hS li rfl e1 rfl 0 (by decide) (hts _ q122) (f_same (hts _ q123)) rfl (by decide +kernel) rfl rfl (Nat.le_of_ble_eq_true rfl) dJx4a65c_add_9ea2d_7 (fun H locs hP hS => ?_)
    have hP : mP G al (up c li (.inr (0, [.int (mo + 1), .ref (al di), .int (nI n)]))) H := hP
    refine lv_aload_n hx hb dJx4a65c_add_9ea2d_10 rfl (lv_at hl 0 rfl) ?_
    refine lv_aload_n hx hb dJx4a65c_add_9ea2d_11 rfl (lv_at hl 1 rfl) ?_
    refine lv_aload_n hx hb dJx4a65c_add_9ea2d_12 rfl (lv_at hl 0 rfl) ?_
    refine m_get (C := RJx4a65c) (T := TJx4a65c) (N := 3) (ci := 0) (v := .ref (al di)) hx hb hts uJx4a65c hown hE hP li rfl (up_s _ _ _) rfl 1 (by decide) (hts _ q42) (fun _ h9 => h9) rfl dJx4a65c_add_9ea2d_13 ?_
    refine lv_aload_n hx hb dJx4a65c_add_9ea2d_16 rfl (lv_at hl 0 rfl) ?_
    refine m_get (C := RJx4a65c) (T := TJx4a65c) (N := 3) (ci := 0) (v := .int (nI n)) hx hb hts uJx4a65c hown hE hP li rfl (up_s _ _ _) rfl 2 (by decide) (hts _ q35) (fun _ h9 => h9) rfl dJx4a65c_add_9ea2d_17 ?_
    refine g_aft_v (g_runV (As := [.ref (al j), .ref (al di), .int (nI n)]) (rest := []) hx hb hml hown hts (kJx4a65c_add_72be8_r l G al (up c li (.inr (0, [.int (mo + 1), .ref (al di), .int (nI n)]))) li di (mo + 1) cap ff n j ci vs r (up_s _ _ _) ((up_n _ _ (by omega)).trans e2) ((up_n _ _ (by omega)).trans hj) hrr hro hjl hjd hne e3 hc100) (fcwV 3 hts q124 q125 q126 q50 q121 rfl rfl (by decide +kernel) ⟨(Nat.le_of_ble_eq_true rfl), (Nat.le_of_ble_eq_true rfl)⟩) hE hb0 hP hS (m_recvA hE hP li rfl (up_s _ _ _) rfl) rfl hl.1 rfl (Nat.le_of_ble_eq_true rfl) dJx4a65c_add_9ea2d_20 ⟨(Nat.le_of_ble_eq_true rfl), (Nat.le_of_ble_eq_true rfl)⟩) hS (fun u H locs hP hS => ?_)
    have hP : mP G al (up (up (up c li (.inr (0, [.int (mo + 1), .ref (al di), .int (nI n)]))) di (.inl (gO G, cap, .inr (.inr (.inr (.inr (va_up ff n (some (al j))))))))) li (.inr (0, [.int (mo + 1), .ref (al di), .int (nI (n + 1))]))) H := hP
    refine lv_iconst (v := 1) hx hb dJx4a65c_add_9ea2d_23 (by decide) ?_
    refine W.widen (k := 1) (n := 22) (Nat.le_of_ble_eq_true rfl) (Nat.le_of_ble_eq_true rfl) ?_
    exact W.zret (v := 1) hx hb hr (by decide) (fun tz htz hW => ⟨⟨1, (al, up (up (up c li (.inr (0, [.int (mo + 1), .ref (al di), .int (nI n)]))) di (.inl (gO G, cap, .inr (.inr (.inr (.inr (va_up ff n (some (al j))))))))) li (.inr (0, [.int (mo + 1), .ref (al di), .int (nI (n + 1))]))), rfl, ⟨rfl, (add_post (G := G) (hf := hf) (up_s _ _ _) rfl rfl ((up_n _ _ (by omega)).trans (up_s _ _ _)) (by omega) e4 va_up_s (fun i hi => (va_up_n (by omega)).trans (e5 i hi)) (fun i hi => rfl) hjd hfd (fun i h1 h2 => by simp only [up, h1, h2, if_false]))⟩, g_end htz hP⟩, hS.F htz⟩) hS.2.2 dJx4a65c_add_9ea2d_24
  · skip
    obtain ⟨hc9, hd9, hl9, hj9, hel9⟩ := hg9
    have hel := fun z (hz : z < 10) => (⟨e5 z hz, (hel9 z hz).1, (hel9 z hz).2⟩ : ff z = some (al (hf z)) ∧ hf z ≠ 999 ∧ ∃ vs, c (hf z) = some (.inr (ci, vs)))
    have hcn := hc9
    refine lv_aload_n hx hb dJx4a65c_add_9ea2d_0 rfl (lv_at hl 0 rfl) ?_
    refine lv_dup hx hb dJx4a65c_add_9ea2d_1 rfl ?_
    refine m_get (C := RJx4a65c) (T := TJx4a65c) (N := 3) (ci := 0) (v := .int mo) hx hb hts uJx4a65c hown hE hP li rfl e1 rfl 0 (by decide) (hts _ q122) (f_same (hts _ q123)) rfl dJx4a65c_add_9ea2d_2 ?_
    refine lv_iconst (v := 1) hx hb dJx4a65c_add_9ea2d_5 (by decide) ?_
    refine lv_iadd hx hb dJx4a65c_add_9ea2d_6 ?_
    refine m_put (v := .int (mo + 1)) (ty := .int) (C := RJx4a65c) (T := TJx4a65c) (N := 3) (ci := 0) hx hb hts uJx4a65c tyJx4a65c tyJx4a65c_ok nmJx4a65c hown hE hP hS li rfl e1 rfl 0 (by decide) (hts _ q122) (f_same (hts _ q123)) rfl (by decide +kernel) rfl rfl (Nat.le_of_ble_eq_true rfl) dJx4a65c_add_9ea2d_7 (fun H locs hP hS => ?_)
    have hP : mP G al (up c li (.inr (0, [.int (mo + 1), .ref (al di), .int 10]))) H := hP
    refine lv_aload_n hx hb dJx4a65c_add_9ea2d_10 rfl (lv_at hl 0 rfl) ?_
    refine lv_aload_n hx hb dJx4a65c_add_9ea2d_11 rfl (lv_at hl 1 rfl) ?_
    refine lv_aload_n hx hb dJx4a65c_add_9ea2d_12 rfl (lv_at hl 0 rfl) ?_
    refine m_get (C := RJx4a65c) (T := TJx4a65c) (N := 3) (ci := 0) (v := .ref (al di)) hx hb hts uJx4a65c hown hE hP li rfl (up_s _ _ _) rfl 1 (by decide) (hts _ q42) (fun _ h9 => h9) rfl dJx4a65c_add_9ea2d_13 ?_
    refine lv_aload_n hx hb dJx4a65c_add_9ea2d_16 rfl (lv_at hl 0 rfl) ?_
    refine m_get (C := RJx4a65c) (T := TJx4a65c) (N := 3) (ci := 0) (v := .int 10) hx hb hts uJx4a65c hown hE hP li rfl (up_s _ _ _) rfl 2 (by decide) (hts _ q35) (fun _ h9 => h9) rfl dJx4a65c_add_9ea2d_17 ?_
    refine g_aft_v (g_runV (As := [.ref (al j), .ref (al di), .int 10]) (rest := []) hx hb hml hown hts (kJx4a65c_add_72be8_g10 l G al (up c li (.inr (0, [.int (mo + 1), .ref (al di), .int 10]))) li di (mo + 1) 999 ff hf j ci vs r (up_s _ _ _) ((up_n _ _ (by omega)).trans e2) ((up_n _ _ (by omega)).trans hj) hrr hro hjl hjd hne hd9 hl9 hj9 ((up_n _ _ (by omega)).trans hcn) (fun z hz => by obtain ⟨x1, x2, vs, x3⟩ := hel z hz; exact ⟨x1, x2, vs, by rw [up_n _ _ (hfl z hz)]; exact x3⟩)) (fcwV 3 hts q124 q125 q126 q50 q121 rfl rfl (by decide +kernel) ⟨(Nat.le_of_ble_eq_true rfl), (Nat.le_of_ble_eq_true rfl)⟩) hE hb0 hP hS (m_recvA hE hP li rfl (up_s _ _ _) rfl) rfl hl.1 rfl (Nat.le_of_ble_eq_true rfl) dJx4a65c_add_9ea2d_20 ⟨(Nat.le_of_ble_eq_true rfl), (Nat.le_of_ble_eq_true rfl)⟩) hS (fun u_1 H locs hP hS => ?_)
    have hP : mP G (va_up al 999 u_1) (up (up (up c li (.inr (0, [.int (mo + 1), .ref (al di), .int 10]))) 999 (.inl (gO G, 15, .inr (.inr (.inr (.inr (va_up (va_cpy ff (fun _ => none) 0 0 10) 10 (some (al j))))))))) li (.inr (0, [.int (mo + 1), .ref u_1, .int 11]))) H := hP
    refine lv_iconst (v := 1) hx hb dJx4a65c_add_9ea2d_23 (by decide) ?_
    have hP : mP G (va_up al di u_1) (up (up c di (.inl (gO G, 15, .inr (.inr (.inr (.inr (va_up (va_cpy ff (fun _ => none) 0 0 10) 10 (some (al j))))))))) li (.inr (0, [.int (mo + 1), .ref u_1, .int 11]))) H := by
      have h9 := m_cv hP (show up (up (up c li (.inr (0, [.int (mo + 1), .ref (al di), .int 10]))) 999 (.inl (gO G, 15, .inr (.inr (.inr (.inr (va_up (va_cpy ff (fun _ => none) 0 0 10) 10 (some (al j))))))))) li (.inr (0, [.int (mo + 1), .ref u_1, .int 11])) = up (up c li (.inr (0, [.int (mo + 1), .ref u_1, .int 11]))) 999 (.inl (gO G, 15, .inr (.inr (.inr (.inr (va_up (va_cpy ff (fun _ => none) 0 0 10) 10 (some (al j)))))))) from (by funext z9; simp only [up]; repeat' split; all_goals first | rfl | (exfalso; omega) | simp_all))
      have h8 := m_ren (di := di) ((up_n _ _ (fun h7 => hl9 h7.symm)).trans hc9) h9
      exact m_cv h8 (up_sw _ _ _ (fun h7 => hne h7.symm))
    refine W.widen (k := 1) (n := 22) (Nat.le_of_ble_eq_true rfl) (Nat.le_of_ble_eq_true rfl) ?_
    exact W.zret (v := 1) hx hb hr (by decide) (fun tz htz hW => ⟨⟨1, (va_up al di u_1, up (up c di (.inl (gO G, 15, .inr (.inr (.inr (.inr (va_up (va_cpy ff (fun _ => none) 0 0 10) 10 (some (al j))))))))) li (.inr (0, [.int (mo + 1), .ref u_1, .int 11]))), rfl, ⟨rfl, (add_post (G := G) (hf := hf) (up_s _ _ _) (au_s _ _ _) rfl ((up_n _ _ (fun h9 => hne h9.symm)).trans (up_s _ _ _)) (by decide) (by decide) va_up_s (fun i hi => ((va_up_n (by omega)).trans (cpy_lt hi)).trans (e5 i hi)) (fun i hi => au_n _ _ hi) hjd hfd (fun i h1 h2 => by simp only [up, h1, h2, if_false]))⟩, g_end htz hP⟩, hS.F htz⟩) hS.2.2 dJx4a65c_add_9ea2d_24
  · skip
    obtain ⟨hc9, hd9, hl9, hj9, hel9⟩ := hg9
    have hel := fun z (hz : z < 15) => (⟨e5 z hz, (hel9 z hz).1, (hel9 z hz).2⟩ : ff z = some (al (hf z)) ∧ hf z ≠ 999 ∧ ∃ vs, c (hf z) = some (.inr (ci, vs)))
    have hcn := hc9
    refine lv_aload_n hx hb dJx4a65c_add_9ea2d_0 rfl (lv_at hl 0 rfl) ?_
    refine lv_dup hx hb dJx4a65c_add_9ea2d_1 rfl ?_
    refine m_get (C := RJx4a65c) (T := TJx4a65c) (N := 3) (ci := 0) (v := .int mo) hx hb hts uJx4a65c hown hE hP li rfl e1 rfl 0 (by decide) (hts _ q122) (f_same (hts _ q123)) rfl dJx4a65c_add_9ea2d_2 ?_
    refine lv_iconst (v := 1) hx hb dJx4a65c_add_9ea2d_5 (by decide) ?_
    refine lv_iadd hx hb dJx4a65c_add_9ea2d_6 ?_
    refine m_put (v := .int (mo + 1)) (ty := .int) (C := RJx4a65c) (T := TJx4a65c) (N := 3) (ci := 0) hx hb hts uJx4a65c tyJx4a65c tyJx4a65c_ok nmJx4a65c hown hE hP hS li rfl e1 rfl 0 (by decide) (hts _ q122) (f_same (hts _ q123)) rfl (by decide +kernel) rfl rfl (Nat.le_of_ble_eq_true rfl) dJx4a65c_add_9ea2d_7 (fun H locs hP hS => ?_)
    have hP : mP G al (up c li (.inr (0, [.int (mo + 1), .ref (al di), .int 15]))) H := hP
    refine lv_aload_n hx hb dJx4a65c_add_9ea2d_10 rfl (lv_at hl 0 rfl) ?_
    refine lv_aload_n hx hb dJx4a65c_add_9ea2d_11 rfl (lv_at hl 1 rfl) ?_
    refine lv_aload_n hx hb dJx4a65c_add_9ea2d_12 rfl (lv_at hl 0 rfl) ?_
    refine m_get (C := RJx4a65c) (T := TJx4a65c) (N := 3) (ci := 0) (v := .ref (al di)) hx hb hts uJx4a65c hown hE hP li rfl (up_s _ _ _) rfl 1 (by decide) (hts _ q42) (fun _ h9 => h9) rfl dJx4a65c_add_9ea2d_13 ?_
    refine lv_aload_n hx hb dJx4a65c_add_9ea2d_16 rfl (lv_at hl 0 rfl) ?_
    refine m_get (C := RJx4a65c) (T := TJx4a65c) (N := 3) (ci := 0) (v := .int 15) hx hb hts uJx4a65c hown hE hP li rfl (up_s _ _ _) rfl 2 (by decide) (hts _ q35) (fun _ h9 => h9) rfl dJx4a65c_add_9ea2d_17 ?_
    refine g_aft_v (g_runV (As := [.ref (al j), .ref (al di), .int 15]) (rest := []) hx hb hml hown hts (kJx4a65c_add_72be8_g15 l G al (up c li (.inr (0, [.int (mo + 1), .ref (al di), .int 15]))) li di (mo + 1) 999 ff hf j ci vs r (up_s _ _ _) ((up_n _ _ (by omega)).trans e2) ((up_n _ _ (by omega)).trans hj) hrr hro hjl hjd hne hd9 hl9 hj9 ((up_n _ _ (by omega)).trans hcn) (fun z hz => by obtain ⟨x1, x2, vs, x3⟩ := hel z hz; exact ⟨x1, x2, vs, by rw [up_n _ _ (hfl z hz)]; exact x3⟩)) (fcwV 3 hts q124 q125 q126 q50 q121 rfl rfl (by decide +kernel) ⟨(Nat.le_of_ble_eq_true rfl), (Nat.le_of_ble_eq_true rfl)⟩) hE hb0 hP hS (m_recvA hE hP li rfl (up_s _ _ _) rfl) rfl hl.1 rfl (Nat.le_of_ble_eq_true rfl) dJx4a65c_add_9ea2d_20 ⟨(Nat.le_of_ble_eq_true rfl), (Nat.le_of_ble_eq_true rfl)⟩) hS (fun u_1 H locs hP hS => ?_)
    have hP : mP G (va_up al 999 u_1) (up (up (up c li (.inr (0, [.int (mo + 1), .ref (al di), .int 15]))) 999 (.inl (gO G, 22, .inr (.inr (.inr (.inr (va_up (va_cpy ff (fun _ => none) 0 0 15) 15 (some (al j))))))))) li (.inr (0, [.int (mo + 1), .ref u_1, .int 16]))) H := hP
    refine lv_iconst (v := 1) hx hb dJx4a65c_add_9ea2d_23 (by decide) ?_
    have hP : mP G (va_up al di u_1) (up (up c di (.inl (gO G, 22, .inr (.inr (.inr (.inr (va_up (va_cpy ff (fun _ => none) 0 0 15) 15 (some (al j))))))))) li (.inr (0, [.int (mo + 1), .ref u_1, .int 16]))) H := by
      have h9 := m_cv hP (show up (up (up c li (.inr (0, [.int (mo + 1), .ref (al di), .int 15]))) 999 (.inl (gO G, 22, .inr (.inr (.inr (.inr (va_up (va_cpy ff (fun _ => none) 0 0 15) 15 (some (al j))))))))) li (.inr (0, [.int (mo + 1), .ref u_1, .int 16])) = up (up c li (.inr (0, [.int (mo + 1), .ref u_1, .int 16]))) 999 (.inl (gO G, 22, .inr (.inr (.inr (.inr (va_up (va_cpy ff (fun _ => none) 0 0 15) 15 (some (al j)))))))) from (by funext z9; simp only [up]; repeat' split; all_goals first | rfl | (exfalso; omega) | simp_all))
      have h8 := m_ren (di := di) ((up_n _ _ (fun h7 => hl9 h7.symm)).trans hc9) h9
      exact m_cv h8 (up_sw _ _ _ (fun h7 => hne h7.symm))
    refine W.widen (k := 1) (n := 22) (Nat.le_of_ble_eq_true rfl) (Nat.le_of_ble_eq_true rfl) ?_
    exact W.zret (v := 1) hx hb hr (by decide) (fun tz htz hW => ⟨⟨1, (va_up al di u_1, up (up c di (.inl (gO G, 22, .inr (.inr (.inr (.inr (va_up (va_cpy ff (fun _ => none) 0 0 15) 15 (some (al j))))))))) li (.inr (0, [.int (mo + 1), .ref u_1, .int 16]))), rfl, ⟨rfl, (add_post (G := G) (hf := hf) (up_s _ _ _) (au_s _ _ _) rfl ((up_n _ _ (fun h9 => hne h9.symm)).trans (up_s _ _ _)) (by decide) (by decide) va_up_s (fun i hi => ((va_up_n (by omega)).trans (cpy_lt hi)).trans (e5 i hi)) (fun i hi => au_n _ _ hi) hjd hfd (fun i h1 h2 => by simp only [up, h1, h2, if_false]))⟩, g_end htz hP⟩, hS.F htz⟩) hS.2.2 dJx4a65c_add_9ea2d_24
