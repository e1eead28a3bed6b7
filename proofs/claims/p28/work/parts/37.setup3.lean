set_option maxHeartbeats 4000000 in
set_option maxRecDepth 100000 in
theorem kX7_isValue (l : Launch) (G : gT) (al : Nat → Nat) (c : mC) (v : Int32)  : Met l yX7_isValue (fW yX7_isValue cX7_isValue 1 (some .boolean)) { frames := 0, cells := 0, slots := 0, locals := 0 } (gPre G al (c) [.int v]) (gQi (S := Unit) G (fun _ => mIsV v) (fun _ => al) (fun _ => c)) 0 0 (gA G) := by
  refine Met.ofW (cc := cX7_isValue) (maxL := 1) (ret := (some .boolean)) (by decide) rfl ?_
  intro pz ez s m args below meth c₀ s₁ Bo hml hv
  obtain ⟨rfl, hb0, hP, hE⟩ := hv
  have hx := Bo.exec
  have hb := Bo.bytes
  have hr := Bo.returns
  have hts0 := atoms_spec (ws := (fW yX7_isValue cX7_isValue 1 (some .boolean))) Bo.pre
  have hts : ∀ w ∈ fA, w.before _ s = true := fun w h => hts0 w (List.mem_cons_of_mem _ h)
  have hown : s.vm.findClass RX7 = some m.cls := findClass_of_methodNamed Bo.named
  have hlocks := Bo.notSynchronized
  have hl := lv_entry ([.int v]) (n := 1) (Nat.le_of_ble_eq_true rfl)
  rw [lg_entry_eq]
  generalize (lg_sl ([.int v]) ++ List.replicate (1 - (lg_sl ([.int v])).length) Slot.unset).toArray = ls at hl ⊢
  have hl : lv_has ls 1 [(0, .int v)] := hl
  refine g_start hP (fun H hP hS => ?_)
  refine lv_iload_n hx hb dX7_isValue_0 rfl (lv_at hl 0 rfl) ?_
  refine lv_if_lt (tgt := 10) hx hb dX7_isValue_1 (by decide) (fun hc_1 => ?_) (fun hc_1 => ?_)
  · skip
    refine lv_iload_n hx hb dX7_isValue_10 rfl (lv_at hl 0 rfl) ?_
    refine lv_bipush (v := 10) hx hb dX7_isValue_11 (by decide) ?_
    refine lv_icmp_lt (tgt := 26) hx hb dX7_isValue_13 (by decide) (fun hc_2 => ?_) (fun hc_2 => ?_)
    · skip
      refine lv_iconst (v := 0) hx hb dX7_isValue_26 (by decide) ?_
      refine W.widen (k := 0) (n := 0) (Nat.le_of_ble_eq_true rfl) (Nat.le_of_ble_eq_true rfl) ?_
      exact W.zret (v := 0) hx hb hr (by decide) (fun tz htz hW => ⟨⟨0, (), rfl, (by unfold mIsV; rw [if_pos hc_1, if_pos hc_2]; try rfl), g_end htz hP⟩, hS.F htz⟩) hS.2.2 dX7_isValue_27
    · skip
      refine lv_iload_n hx hb dX7_isValue_16 rfl (lv_at hl 0 rfl) ?_
      refine lv_bipush (v := 20) hx hb dX7_isValue_17 (by decide) ?_
      refine lv_icmp_gt (tgt := 26) hx hb dX7_isValue_19 (by decide) (fun hc_3 => ?_) (fun hc_3 => ?_)
      · skip
        refine lv_iconst (v := 0) hx hb dX7_isValue_26 (by decide) ?_
        refine W.widen (k := 0) (n := 0) (Nat.le_of_ble_eq_true rfl) (Nat.le_of_ble_eq_true rfl) ?_
        exact W.zret (v := 0) hx hb hr (by decide) (fun tz htz hW => ⟨⟨0, (), rfl, (by unfold mIsV; rw [if_pos hc_1, if_neg hc_2, if_pos hc_3]; try rfl), g_end htz hP⟩, hS.F htz⟩) hS.2.2 dX7_isValue_27
      · skip
        refine lv_iconst (v := 1) hx hb dX7_isValue_22 (by decide) ?_
        refine lv_goto (tgt := 27) hx hb dX7_isValue_23 (by decide) ?_
        refine W.widen (k := 0) (n := 0) (Nat.le_of_ble_eq_true rfl) (Nat.le_of_ble_eq_true rfl) ?_
        exact W.zret (v := 1) hx hb hr (by decide) (fun tz htz hW => ⟨⟨1, (), rfl, (by unfold mIsV; rw [if_pos hc_1, if_neg hc_2, if_neg hc_3]; try rfl), g_end htz hP⟩, hS.F htz⟩) hS.2.2 dX7_isValue_27
  · skip
    refine lv_iload_n hx hb dX7_isValue_4 rfl (lv_at hl 0 rfl) ?_
    refine lv_bipush (v := 6) hx hb dX7_isValue_5 (by decide) ?_
    refine lv_icmp_le (tgt := 22) hx hb dX7_isValue_7 (by decide) (fun hc_4 => ?_) (fun hc_4 => ?_)
    · skip
      refine lv_iconst (v := 1) hx hb dX7_isValue_22 (by decide) ?_
      refine lv_goto (tgt := 27) hx hb dX7_isValue_23 (by decide) ?_
      refine W.widen (k := 0) (n := 0) (Nat.le_of_ble_eq_true rfl) (Nat.le_of_ble_eq_true rfl) ?_
      exact W.zret (v := 1) hx hb hr (by decide) (fun tz htz hW => ⟨⟨1, (), rfl, (by unfold mIsV; rw [if_neg hc_1, if_pos hc_4]; try rfl), g_end htz hP⟩, hS.F htz⟩) hS.2.2 dX7_isValue_27
    · skip
      refine lv_iload_n hx hb dX7_isValue_10 rfl (lv_at hl 0 rfl) ?_
      refine lv_bipush (v := 10) hx hb dX7_isValue_11 (by decide) ?_
      refine lv_icmp_lt (tgt := 26) hx hb dX7_isValue_13 (by decide) (fun hc_5 => ?_) (fun hc_5 => ?_)
      · skip
        refine lv_iconst (v := 0) hx hb dX7_isValue_26 (by decide) ?_
        refine W.widen (k := 0) (n := 0) (Nat.le_of_ble_eq_true rfl) (Nat.le_of_ble_eq_true rfl) ?_
        exact W.zret (v := 0) hx hb hr (by decide) (fun tz htz hW => ⟨⟨0, (), rfl, (by unfold mIsV; rw [if_neg hc_1, if_neg hc_4, if_pos hc_5]; try rfl), g_end htz hP⟩, hS.F htz⟩) hS.2.2 dX7_isValue_27
      · skip
        refine lv_iload_n hx hb dX7_isValue_16 rfl (lv_at hl 0 rfl) ?_
        refine lv_bipush (v := 20) hx hb dX7_isValue_17 (by decide) ?_
        refine lv_icmp_gt (tgt := 26) hx hb dX7_isValue_19 (by decide) (fun hc_6 => ?_) (fun hc_6 => ?_)
        · skip
          refine lv_iconst (v := 0) hx hb dX7_isValue_26 (by decide) ?_
          refine W.widen (k := 0) (n := 0) (Nat.le_of_ble_eq_true rfl) (Nat.le_of_ble_eq_true rfl) ?_
          exact W.zret (v := 0) hx hb hr (by decide) (fun tz htz hW => ⟨⟨0, (), rfl, (by unfold mIsV; rw [if_neg hc_1, if_neg hc_4, if_neg hc_5, if_pos hc_6]; try rfl), g_end htz hP⟩, hS.F htz⟩) hS.2.2 dX7_isValue_27
        · skip
          refine lv_iconst (v := 1) hx hb dX7_isValue_22 (by decide) ?_
          refine lv_goto (tgt := 27) hx hb dX7_isValue_23 (by decide) ?_
          refine W.widen (k := 0) (n := 0) (Nat.le_of_ble_eq_true rfl) (Nat.le_of_ble_eq_true rfl) ?_
          exact W.zret (v := 1) hx hb hr (by decide) (fun tz htz hW => ⟨⟨1, (), rfl, (by unfold mIsV; rw [if_neg hc_1, if_neg hc_4, if_neg hc_5, if_neg hc_6]; try rfl), g_end htz hP⟩, hS.F htz⟩) hS.2.2 dX7_isValue_27
set_option maxHeartbeats 4000000 in
set_option maxRecDepth 100000 in
theorem kX7_pumpNumbered_u (l : Launch) (G : gT) (al : Nat → Nat) (c : mC) (k : gC) (p : Nat) (e0 : c 0 = some (.inr (8, [.ref (al 1), .ref (al 100), .ref (al 200)]))) (e1 : c 100 = some (.inr (6, [.ref (al (100 + 1)), .ref (al (100 + 3)), .ref (al (100 + 5)), .ref (al (100 + 7)), .int 0, .int 3000, .int 0, .int 0, .int 0, .int 0, .int 0, .int 0, .int 0, .int 0, .int 0]))) (l1 : gLs G al c (100 + 1) (100 + 2) 2 (fun z => 100 + 11 + z)) (hp : p < 2) (e7 : c (100 + 11 + p) = some (.inr (5, [.int (nI p), .int (k.2.2 (1 + p) 1), .int 0, .int 0, .int 0, .int 0]))) : Met l yX7_pumpNumbered (fW yX7_pumpNumbered cX7_pumpNumbered 2 (some (.object "JetWaltz$Pump"))) { frames := 3, cells := 0, slots := 0, locals := 64 } (gPre G al (c) [.ref (al 0), .int (nI p)]) (gQr (S := Unit) G (fun _ => al (100 + 11 + p)) (fun _ => al) (fun _ => c)) 0 0 (gA G) := by
  refine Met.ofW (cc := cX7_pumpNumbered) (maxL := 2) (ret := (some (.object "JetWaltz$Pump"))) (by decide) rfl ?_
  intro pz ez s m args below meth c₀ s₁ Bo hml hv
  obtain ⟨rfl, hb0, hP, hE⟩ := hv
  have hx := Bo.exec
  have hb := Bo.bytes
  have hr := Bo.returns
  have hts0 := atoms_spec (ws := (fW yX7_pumpNumbered cX7_pumpNumbered 2 (some (.object "JetWaltz$Pump")))) Bo.pre
  have hts : ∀ w ∈ fA, w.before _ s = true := fun w h => hts0 w (List.mem_cons_of_mem _ h)
  have hown : s.vm.findClass RX7 = some m.cls := findClass_of_methodNamed Bo.named
  have hlocks := Bo.notSynchronized
  have hl := lv_entry ([.ref (al 0), .int (nI p)]) (n := 2) (Nat.le_of_ble_eq_true rfl)
  rw [lg_entry_eq]
  generalize (lg_sl ([.ref (al 0), .int (nI p)]) ++ List.replicate (2 - (lg_sl ([.ref (al 0), .int (nI p)])).length) Slot.unset).toArray = ls at hl ⊢
  have hl : lv_has ls 2 [(0, .ref (al 0)), (1, .int (nI p))] := hl
  generalize (#[.ref (al 0), .int (nI p)] : Array Value) = ar9 at hts ⊢
  refine g_start hP (fun H hP hS => ?_)
  refine lv_iload_n hx hb dX7_pumpNumbered_0 rfl (lv_at hl 1 rfl) ?_
  refine lv_if_lt (tgt := 18) hx hb dX7_pumpNumbered_1 (by decide) (fun h => absurd h (nI_pos (by omega))) (fun _ => ?_)
  refine lv_iload_n hx hb dX7_pumpNumbered_4 rfl (lv_at hl 1 rfl) ?_
  refine lv_aload_n hx hb dX7_pumpNumbered_5 rfl (lv_at hl 0 rfl) ?_
  refine m_get (C := RX7) (T := TX7) (N := 3) (ci := 8) (v := .ref (al 100)) hx hb hts uX7 hown hE hP 0 rfl e0 rfl 1 (by decide) (hts _ q368) (fun _ h9 => h9) rfl dX7_pumpNumbered_6 ?_
  refine m_get (C := RX5) (T := TX5) (N := 15) (ci := 6) (v := .ref (al (100 + 1))) hx hb hts uX5 hown hE hP 100 rfl e1 rfl 0 (by decide) (hts _ q377) (fun _ h9 => h9) rfl dX7_pumpNumbered_9 ?_
  refine g_aft_i (g_runV (As := []) (rest := [.int (nI p)]) hx hb hml hown hts (kJx4a65c_size_8abf5 l G al c (100 + 1) (100 + 2) 2 (fun z => 100 + 11 + z) l1) (fcwV 0 hts q380 q53 q54 q50 q34 rfl rfl (by decide +kernel) ⟨(Nat.le_of_ble_eq_true rfl), (Nat.le_of_ble_eq_true rfl)⟩) hE hb0 hP hS (m_recvL hE hP l1 rfl) rfl hl.1 rfl (Nat.le_of_ble_eq_true rfl) dX7_pumpNumbered_12 ⟨(Nat.le_of_ble_eq_true rfl), (Nat.le_of_ble_eq_true rfl)⟩) hS (fun u H locs hP hS => ?_)
  refine f_topi (v := nI 2) rfl ?_
  refine lv_icmp_lt (tgt := 29) hx hb dX7_pumpNumbered_15 (by decide) (fun _ => ?_) (fun h => absurd (nI_lt (b := 2) hp (by omega)) h)
  refine lv_aload_n hx hb dX7_pumpNumbered_29 rfl (lv_at hl 0 rfl) ?_
  refine m_get (C := RX7) (T := TX7) (N := 3) (ci := 8) (v := .ref (al 100)) hx hb hts uX7 hown hE hP 0 rfl e0 rfl 1 (by decide) (hts _ q368) (fun _ h9 => h9) rfl dX7_pumpNumbered_30 ?_
  refine m_get (C := RX5) (T := TX5) (N := 15) (ci := 6) (v := .ref (al (100 + 1))) hx hb hts uX5 hown hE hP 100 rfl e1 rfl 0 (by decide) (hts _ q377) (fun _ h9 => h9) rfl dX7_pumpNumbered_33 ?_
  refine lv_iload_n hx hb dX7_pumpNumbered_36 rfl (lv_at hl 1 rfl) ?_
  refine g_aft_r (g_runV (As := [.int (nI p)]) (rest := []) hx hb hml hown hts (kJx4a65c_get_915e3 l G al c (100 + 1) (100 + 2) 2 (fun z => 100 + 11 + z) p l1 (by omega)) (fcwV 1 hts q388 q56 q57 q50 q43 rfl rfl (by decide +kernel) ⟨(Nat.le_of_ble_eq_true rfl), (Nat.le_of_ble_eq_true rfl)⟩) hE hb0 hP hS (m_recvL hE hP l1 rfl) rfl hl.1 rfl (Nat.le_of_ble_eq_true rfl) dX7_pumpNumbered_37 ⟨(Nat.le_of_ble_eq_true rfl), (Nat.le_of_ble_eq_true rfl)⟩) hS (fun u H locs hP hS => ?_)
  refine g_topr (v := al (100 + 11 + p)) rfl ?_
  refine m_cast hx hb hown (hts _ q387) hE hP (100 + 11 + p) rfl e7 rfl dX7_pumpNumbered_40 ?_
  refine W.widen (k := 0) (n := 0) (Nat.le_of_ble_eq_true rfl) (Nat.le_of_ble_eq_true rfl) ?_
  exact W.aret hx hb hr (Or.inl ⟨_, rfl⟩) (Or.inr ⟨_, rfl⟩) (fun tz htz hW => ⟨⟨(), al (100 + 11 + p), rfl, trivial, rfl, g_end htz hP⟩, hS.F htz⟩) hS.2.2 dX7_pumpNumbered_43
set_option maxHeartbeats 4000000 in
set_option maxRecDepth 100000 in
theorem kX7_figureNumbered_u (l : Launch) (G : gT) (al : Nat → Nat) (c : mC) (f : Nat) (e0 : c 0 = some (.inr (8, [.ref (al 1), .ref (al 100), .ref (al 200)]))) (l1 : gLs G al c 1 2 2 (fun z => 10 + z)) (hf : f < 2) (e7 : c (10 + f) = some (.inr (3, [.ref (al (12 + f))]))) : Met l yX7_figureNumbered (fW yX7_figureNumbered cX7_figureNumbered 2 (some (.object "JetWaltz$Figure"))) { frames := 3, cells := 0, slots := 0, locals := 64 } (gPre G al (c) [.ref (al 0), .int (nI f)]) (gQr (S := Unit) G (fun _ => al (10 + f)) (fun _ => al) (fun _ => c)) 0 0 (gA G) := by
  refine Met.ofW (cc := cX7_figureNumbered) (maxL := 2) (ret := (some (.object "JetWaltz$Figure"))) (by decide) rfl ?_
  intro pz ez s m args below meth c₀ s₁ Bo hml hv
  obtain ⟨rfl, hb0, hP, hE⟩ := hv
  have hx := Bo.exec
  have hb := Bo.bytes
  have hr := Bo.returns
  have hts0 := atoms_spec (ws := (fW yX7_figureNumbered cX7_figureNumbered 2 (some (.object "JetWaltz$Figure")))) Bo.pre
  have hts : ∀ w ∈ fA, w.before _ s = true := fun w h => hts0 w (List.mem_cons_of_mem _ h)
  have hown : s.vm.findClass RX7 = some m.cls := findClass_of_methodNamed Bo.named
  have hlocks := Bo.notSynchronized
  have hl := lv_entry ([.ref (al 0), .int (nI f)]) (n := 2) (Nat.le_of_ble_eq_true rfl)
  rw [lg_entry_eq]
  generalize (lg_sl ([.ref (al 0), .int (nI f)]) ++ List.replicate (2 - (lg_sl ([.ref (al 0), .int (nI f)])).length) Slot.unset).toArray = ls at hl ⊢
  have hl : lv_has ls 2 [(0, .ref (al 0)), (1, .int (nI f))] := hl
  generalize (#[.ref (al 0), .int (nI f)] : Array Value) = ar9 at hts ⊢
  refine g_start hP (fun H hP hS => ?_)
  refine lv_iload_n hx hb dX7_figureNumbered_0 rfl (lv_at hl 1 rfl) ?_
  refine lv_if_lt (tgt := 15) hx hb dX7_figureNumbered_1 (by decide) (fun h => absurd h (nI_pos (by omega))) (fun _ => ?_)
  refine lv_iload_n hx hb dX7_figureNumbered_4 rfl (lv_at hl 1 rfl) ?_
  refine lv_aload_n hx hb dX7_figureNumbered_5 rfl (lv_at hl 0 rfl) ?_
  refine m_get (C := RX7) (T := TX7) (N := 3) (ci := 8) (v := .ref (al 1)) hx hb hts uX7 hown hE hP 0 rfl e0 rfl 0 (by decide) (hts _ q365) (fun _ h9 => h9) rfl dX7_figureNumbered_6 ?_
  refine g_aft_i (g_runV (As := []) (rest := [.int (nI f)]) hx hb hml hown hts (kJx4a65c_size_8abf5 l G al c 1 2 2 (fun z => 10 + z) l1) (fcwV 0 hts q380 q53 q54 q50 q34 rfl rfl (by decide +kernel) ⟨(Nat.le_of_ble_eq_true rfl), (Nat.le_of_ble_eq_true rfl)⟩) hE hb0 hP hS (m_recvL hE hP l1 rfl) rfl hl.1 rfl (Nat.le_of_ble_eq_true rfl) dX7_figureNumbered_9 ⟨(Nat.le_of_ble_eq_true rfl), (Nat.le_of_ble_eq_true rfl)⟩) hS (fun u H locs hP hS => ?_)
  refine f_topi (v := nI 2) rfl ?_
  refine lv_icmp_lt (tgt := 26) hx hb dX7_figureNumbered_12 (by decide) (fun _ => ?_) (fun h => absurd (nI_lt (b := 2) hf (by omega)) h)
  refine lv_aload_n hx hb dX7_figureNumbered_26 rfl (lv_at hl 0 rfl) ?_
  refine m_get (C := RX7) (T := TX7) (N := 3) (ci := 8) (v := .ref (al 1)) hx hb hts uX7 hown hE hP 0 rfl e0 rfl 0 (by decide) (hts _ q365) (fun _ h9 => h9) rfl dX7_figureNumbered_27 ?_
  refine lv_iload_n hx hb dX7_figureNumbered_30 rfl (lv_at hl 1 rfl) ?_
  refine g_aft_r (g_runV (As := [.int (nI f)]) (rest := []) hx hb hml hown hts (kJx4a65c_get_915e3 l G al c 1 2 2 (fun z => 10 + z) f l1 (by omega)) (fcwV 1 hts q388 q56 q57 q50 q43 rfl rfl (by decide +kernel) ⟨(Nat.le_of_ble_eq_true rfl), (Nat.le_of_ble_eq_true rfl)⟩) hE hb0 hP hS (m_recvL hE hP l1 rfl) rfl hl.1 rfl (Nat.le_of_ble_eq_true rfl) dX7_figureNumbered_31 ⟨(Nat.le_of_ble_eq_true rfl), (Nat.le_of_ble_eq_true rfl)⟩) hS (fun u H locs hP hS => ?_)
  refine g_topr (v := al (10 + f)) rfl ?_
  refine m_cast hx hb hown (hts _ q403) hE hP (10 + f) rfl e7 rfl dX7_figureNumbered_34 ?_
  refine W.widen (k := 0) (n := 0) (Nat.le_of_ble_eq_true rfl) (Nat.le_of_ble_eq_true rfl) ?_
  exact W.aret hx hb hr (Or.inl ⟨_, rfl⟩) (Or.inr ⟨_, rfl⟩) (fun tz htz hW => ⟨⟨(), al (10 + f), rfl, trivial, rfl, g_end htz hP⟩, hS.F htz⟩) hS.2.2 dX7_figureNumbered_37
set_option maxHeartbeats 4000000 in
set_option maxRecDepth 100000 in
theorem kX5_addJet_100 (l : Launch) (G : gT) (al : Nat → Nat) (c : mC) (k : gC) (nj : Nat) (p : Nat) (pl : Int32) (no : Int32) (sl : Int32) (e1 : c 100 = some (.inr (6, [.ref (al (100 + 1)), .ref (al (100 + 3)), .ref (al (100 + 5)), .ref (al (100 + 7)), .int 0, .int 3000, .int 0, .int 0, .int 0, .int 0, .int 0, .int 0, .int 0, .int 0, .int 0]))) (l1 : gLs G al c (100 + 1) (100 + 2) 2 (fun z => 100 + 11 + z)) (l3 : gLs G al c (100 + 3) (100 + 4) nj (fun z => 100 + 20 + z)) (hp : p < 2) (hnj : nj < 8) (e7 : c (100 + 11 + p) = some (.inr (5, [.int (nI p), .int (k.2.2 (1 + p) 1), .int 0, .int 0, .int 0, .int 0]))) : Met l yX5_addJet (fW yX5_addJet cX5_addJet 5 none) { frames := 7, cells := 2, slots := 32, locals := 149 } (gPre G al (c) [.ref (al 100), .int (nI p), .int pl, .int no, .int sl]) (gQvp (S := (Nat → Nat) × mC) G (fun u => u.2 (100 + 20 + nj) = some (.inr (4, [.ref (u.1 (100 + 11 + p)), .int pl, .int no, .int sl, .int 0, .int 0, .int 0, .int 0, .int 0, .int 0])) ∧ gLs G u.1 u.2 (100 + 3) (100 + 4) (nj + 1) (fun z => 100 + 20 + z) ∧ (∀ i, (i ≠ 100 + 3 ∧ i ≠ 100 + 4 ∧ i ≠ 100 + 20 + nj) → u.2 i = c i) ∧ ∀ i, (i ≠ 100 + 4 ∧ i ≠ 100 + 20 + nj) → u.1 i = al i) (fun u => u.1) (fun u => u.2)) 2 32 (gA G) := by
  refine Met.ofW (cc := cX5_addJet) (maxL := 5) (ret := none) (by decide) rfl ?_
  intro pz ez s m args below meth c₀ s₁ Bo hml hv
  obtain ⟨rfl, hb0, hP, hE⟩ := hv
  have hx := Bo.exec
  have hb := Bo.bytes
  have hr := Bo.returns
  have hts0 := atoms_spec (ws := (fW yX5_addJet cX5_addJet 5 none)) Bo.pre
  have hts : ∀ w ∈ fA, w.before _ s = true := fun w h => hts0 w (List.mem_cons_of_mem _ h)
  have hown : s.vm.findClass RX5 = some m.cls := findClass_of_methodNamed Bo.named
  have hlocks := Bo.notSynchronized
  have hl := lv_entry ([.ref (al 100), .int (nI p), .int pl, .int no, .int sl]) (n := 5) (Nat.le_of_ble_eq_true rfl)
  rw [lg_entry_eq]
  generalize (lg_sl ([.ref (al 100), .int (nI p), .int pl, .int no, .int sl]) ++ List.replicate (5 - (lg_sl ([.ref (al 100), .int (nI p), .int pl, .int no, .int sl])).length) Slot.unset).toArray = ls at hl ⊢
  have hl : lv_has ls 5 [(0, .ref (al 100)), (1, .int (nI p)), (2, .int pl), (3, .int no), (4, .int sl)] := hl
  obtain ⟨al0, hal0⟩ : ∃ z, z = al := ⟨_, rfl⟩
  obtain ⟨c0, hc0⟩ : ∃ z, z = c := ⟨_, rfl⟩
  have hfc : ∀ i, (i ≠ 100 + 3 ∧ i ≠ 100 + 4 ∧ i ≠ 100 + 20 + nj) → c i = c0 i := fun i _ => by rw [hc0]
  have hfa : ∀ i, (i ≠ 100 + 4 ∧ i ≠ 100 + 20 + nj) → al i = al0 i := fun i _ => by rw [hal0]
  generalize (#[.ref (al 100), .int (nI p), .int pl, .int no, .int sl] : Array Value) = ar9 at hts ⊢
  refine g_start hP (fun H hP hS => ?_)
  refine lv_iload_n hx hb dX5_addJet_0 rfl (lv_at hl 1 rfl) ?_
  refine lv_if_lt (tgt := 45) hx hb dX5_addJet_1 (by decide) (fun h => absurd h (nI_pos (by omega))) (fun _ => ?_)
  refine lv_iload_n hx hb dX5_addJet_4 rfl (lv_at hl 1 rfl) ?_
  refine lv_aload_n hx hb dX5_addJet_5 rfl (lv_at hl 0 rfl) ?_
  refine m_get (C := RX5) (T := TX5) (N := 15) (ci := 6) (v := .ref (al (100 + 1))) hx hb hts uX5 hown hE hP 100 rfl e1 rfl 0 (by decide) (hts _ q173) (fun _ h9 => h9) rfl dX5_addJet_6 ?_
  refine g_aft_i (g_runV (As := []) (rest := [.int (nI p)]) hx hb hml hown hts (kJx4a65c_size_8abf5 l G al c (100 + 1) (100 + 2) 2 (fun z => 100 + 11 + z) l1) (fcwV 0 hts q187 q53 q54 q50 q34 rfl rfl (by decide +kernel) ⟨(Nat.le_of_ble_eq_true rfl), (Nat.le_of_ble_eq_true rfl)⟩) hE hb0 hP hS (m_recvL hE hP l1 rfl) rfl hl.1 rfl (Nat.le_of_ble_eq_true rfl) dX5_addJet_9 ⟨(Nat.le_of_ble_eq_true rfl), (Nat.le_of_ble_eq_true rfl)⟩) hS (fun u H locs hP hS => ?_)
  refine f_topi (v := nI 2) rfl ?_
  refine lv_icmp_ge (tgt := 45) hx hb dX5_addJet_12 (by decide) (fun h => absurd h (nI_ge (b := 2) hp (by omega))) (fun _ => ?_)
  refine lv_aload_n hx hb dX5_addJet_15 rfl (lv_at hl 0 rfl) ?_
  refine m_get (C := RX5) (T := TX5) (N := 15) (ci := 6) (v := .ref (al (100 + 3))) hx hb hts uX5 hown hE hP 100 rfl e1 rfl 1 (by decide) (hts _ q174) (fun _ h9 => h9) rfl dX5_addJet_16 ?_
  refine m_new (100 + 20 + nj) (ci := 4) (fs := [.null, .int 0, .int 0, .int 0, .int 0, .int 0, .int 0, .int 0, .int 0, .int 0]) (C := RX3) (T := TX3) (N := 10) hx hb hts uX3 tyX3 tyX3_ok hown (hts _ q196) (hts _ q184) (hts _ q185) hE hb0 hP hS rfl (fun j hj => by rcases f_lt10 hj with rfl | rfl | rfl | rfl | rfl | rfl | rfl | rfl | rfl | rfl <;> rfl) (Nat.le_of_ble_eq_true rfl) (Nat.le_of_ble_eq_true rfl) dX5_addJet_19 (fun n_1 H hP hS => ?_)
  have hP : mP G (va_up al (100 + 20 + nj) n_1) (up c (100 + 20 + nj) (.inr (4, [.null, .int 0, .int 0, .int 0, .int 0, .int 0, .int 0, .int 0, .int 0, .int 0]))) H := hP
  have hax0 : ∀ x, x ≠ 100 + 20 + nj → va_up al (100 + 20 + nj) n_1 x = al x := fun x hx => au_n _ _ hx
  have has0 : va_up al (100 + 20 + nj) n_1 (100 + 20 + nj) = n_1 := au_s _ _ _
  obtain ⟨al, hau⟩ : ∃ z, z = va_up al (100 + 20 + nj) n_1 := ⟨_, rfl⟩
  rw [← hau] at hax0 has0 hP
  have hcx0 : ∀ x, x ≠ 100 + 20 + nj → (up c (100 + 20 + nj) (.inr (4, [.null, .int 0, .int 0, .int 0, .int 0, .int 0, .int 0, .int 0, .int 0, .int 0]))) x = c x := fun x hx => up_n _ _ hx
  have hcs0 : (up c (100 + 20 + nj) (.inr (4, [.null, .int 0, .int 0, .int 0, .int 0, .int 0, .int 0, .int 0, .int 0, .int 0]))) (100 + 20 + nj) = some (.inr (4, [.null, .int 0, .int 0, .int 0, .int 0, .int 0, .int 0, .int 0, .int 0, .int 0])) := up_s _ _ _
  obtain ⟨c, hcu⟩ : ∃ z, z = up c (100 + 20 + nj) (.inr (4, [.null, .int 0, .int 0, .int 0, .int 0, .int 0, .int 0, .int 0, .int 0, .int 0])) := ⟨_, rfl⟩
  rw [← hcu] at hcx0 hcs0 hP
  have e1 : c 100 = some (.inr (6, [.ref (al (100 + 1)), .ref (al (100 + 3)), .ref (al (100 + 5)), .ref (al (100 + 7)), .int 0, .int 3000, .int 0, .int 0, .int 0, .int 0, .int 0, .int 0, .int 0, .int 0, .int 0])) := by rw [hcx0 100 (by omega), hax0 (100 + 1) (by omega), hax0 (100 + 3) (by omega), hax0 (100 + 5) (by omega), hax0 (100 + 7) (by omega)]; exact e1
  have e7 : c (100 + 11 + p) = some (.inr (5, [.int (nI p), .int (k.2.2 (1 + p) 1), .int 0, .int 0, .int 0, .int 0])) := by rw [hcx0 (100 + 11 + p) (by omega)]; exact e7
  have l1 : gLs G al c (100 + 1) (100 + 2) 2 (fun z => 100 + 11 + z) := (gLs_al (gLs_cv l1 (hcx0 _ (by omega)) (hcx0 _ (by omega))) (hax0 _ (by omega)) (fun z hz => hax0 _ (by show 100 + 11 + z ≠ 100 + 20 + nj; omega)))
  have l3 : gLs G al c (100 + 3) (100 + 4) nj (fun z => 100 + 20 + z) := (gLs_al (gLs_cv l3 (hcx0 _ (by omega)) (hcx0 _ (by omega))) (hax0 _ (by omega)) (fun z hz => hax0 _ (by show 100 + 20 + z ≠ 100 + 20 + nj; omega)))
  have hfc : ∀ i, (i ≠ 100 + 3 ∧ i ≠ 100 + 4 ∧ i ≠ 100 + 20 + nj) → c i = c0 i := fun i hi => (hcx0 i (by omega)).trans (hfc i hi)
  have hfa : ∀ i, (i ≠ 100 + 4 ∧ i ≠ 100 + 20 + nj) → al i = al0 i := fun i hi => (hax0 i (by omega)).trans (hfa i hi)
  have e_2 : c (100 + 20 + nj) = some (.inr (4, [.null, .int 0, .int 0, .int 0, .int 0, .int 0, .int 0, .int 0, .int 0, .int 0])) := hcs0
  rw [← has0]
  have hl : lv_has ls 5 [(0, .ref (al 100)), (1, .int (nI p)), (2, .int pl), (3, .int no), (4, .int sl)] := by rw [hax0 100 (by omega)]; exact hl
  rw [← hax0 (100 + 3) (by omega)]
  refine lv_dup hx hb dX5_addJet_22 rfl ?_
  refine lv_aload_n hx hb dX5_addJet_23 rfl (lv_at hl 0 rfl) ?_
  refine m_get (C := RX5) (T := TX5) (N := 15) (ci := 6) (v := .ref (al (100 + 1))) hx hb hts uX5 hown hE hP 100 rfl e1 rfl 0 (by decide) (hts _ q173) (fun _ h9 => h9) rfl dX5_addJet_24 ?_
  refine lv_iload_n hx hb dX5_addJet_27 rfl (lv_at hl 1 rfl) ?_
  refine g_aft_r (g_runV (As := [.int (nI p)]) (rest := [.ref (al (100 + 20 + nj)), .ref (al (100 + 20 + nj)), .ref (al (100 + 3))]) hx hb hml hown hts (kJx4a65c_get_915e3 l G al c (100 + 1) (100 + 2) 2 (fun z => 100 + 11 + z) p l1 (by omega)) (fcwV 1 hts q188 q56 q57 q50 q43 rfl rfl (by decide +kernel) ⟨(Nat.le_of_ble_eq_true rfl), (Nat.le_of_ble_eq_true rfl)⟩) hE hb0 hP hS (m_recvL hE hP l1 rfl) rfl hl.1 rfl (Nat.le_of_ble_eq_true rfl) dX5_addJet_28 ⟨(Nat.le_of_ble_eq_true rfl), (Nat.le_of_ble_eq_true rfl)⟩) hS (fun u H locs hP hS => ?_)
  refine g_topr (v := al (100 + 11 + p)) rfl ?_
  refine m_cast hx hb hown (hts _ q186) hE hP (100 + 11 + p) rfl e7 rfl dX5_addJet_31 ?_
  refine lv_iload_n hx hb dX5_addJet_34 rfl (lv_at hl 2 rfl) ?_
  refine lv_iload_n hx hb dX5_addJet_35 rfl (lv_at hl 3 rfl) ?_
  refine lv_iload hx hb dX5_addJet_36 (lv_at hl 4 rfl) ?_
  refine g_aft_v (g_runI (As := [.ref (al (100 + 11 + p)), .int pl, .int no, .int sl]) (rest := [.ref (al (100 + 20 + nj)), .ref (al (100 + 3))]) hx hb hml hown hts (kX3_init l G al c (100 + 20 + nj) (100 + 11 + p) pl no sl e_2) (fcwI 4 hts q189 q190 q185 q135 rfl rfl rfl (by decide +kernel) ⟨(Nat.le_of_ble_eq_true rfl), (Nat.le_of_ble_eq_true rfl)⟩) hE hb0 hP hS rfl hl.1 rfl (Nat.le_of_ble_eq_true rfl) dX5_addJet_38 ⟨(Nat.le_of_ble_eq_true rfl), (Nat.le_of_ble_eq_true rfl)⟩) hS (fun u H locs hP hS => ?_)
  have hP : mP G al (up c (100 + 20 + nj) (.inr (4, [.ref (al (100 + 11 + p)), .int pl, .int no, .int sl, .int 0, .int 0, .int 0, .int 0, .int 0, .int 0]))) H := hP
  have hcx0 : ∀ x, x ≠ 100 + 20 + nj → (up c (100 + 20 + nj) (.inr (4, [.ref (al (100 + 11 + p)), .int pl, .int no, .int sl, .int 0, .int 0, .int 0, .int 0, .int 0, .int 0]))) x = c x := fun x hx => up_n _ _ hx
  have hcs0 : (up c (100 + 20 + nj) (.inr (4, [.ref (al (100 + 11 + p)), .int pl, .int no, .int sl, .int 0, .int 0, .int 0, .int 0, .int 0, .int 0]))) (100 + 20 + nj) = some (.inr (4, [.ref (al (100 + 11 + p)), .int pl, .int no, .int sl, .int 0, .int 0, .int 0, .int 0, .int 0, .int 0])) := up_s _ _ _
  obtain ⟨c, hcu⟩ : ∃ z, z = up c (100 + 20 + nj) (.inr (4, [.ref (al (100 + 11 + p)), .int pl, .int no, .int sl, .int 0, .int 0, .int 0, .int 0, .int 0, .int 0])) := ⟨_, rfl⟩
  rw [← hcu] at hcx0 hcs0 hP
  have e1 : c 100 = some (.inr (6, [.ref (al (100 + 1)), .ref (al (100 + 3)), .ref (al (100 + 5)), .ref (al (100 + 7)), .int 0, .int 3000, .int 0, .int 0, .int 0, .int 0, .int 0, .int 0, .int 0, .int 0, .int 0])) := by rw [hcx0 100 (by omega)]; exact e1
  have e7 : c (100 + 11 + p) = some (.inr (5, [.int (nI p), .int (k.2.2 (1 + p) 1), .int 0, .int 0, .int 0, .int 0])) := by rw [hcx0 (100 + 11 + p) (by omega)]; exact e7
  have l1 : gLs G al c (100 + 1) (100 + 2) 2 (fun z => 100 + 11 + z) := (gLs_cv l1 (hcx0 _ (by omega)) (hcx0 _ (by omega)))
  have l3 : gLs G al c (100 + 3) (100 + 4) nj (fun z => 100 + 20 + z) := (gLs_cv l3 (hcx0 _ (by omega)) (hcx0 _ (by omega)))
  have hfc : ∀ i, (i ≠ 100 + 3 ∧ i ≠ 100 + 4 ∧ i ≠ 100 + 20 + nj) → c i = c0 i := fun i hi => (hcx0 i (by omega)).trans (hfc i hi)
  have e_2 : c (100 + 20 + nj) = some (.inr (4, [.ref (al (100 + 11 + p)), .int pl, .int no, .int sl, .int 0, .int 0, .int 0, .int 0, .int 0, .int 0])) := hcs0
  refine g_aft_ip (g_runV (As := [.ref (al (100 + 20 + nj))]) (rest := []) hx hb hml hown hts (kJx4a65c_add_9ea2d l G al c (100 + 3) (100 + 4) nj (fun z => 100 + 20 + z) (100 + 20 + nj) 4 ([.ref (al (100 + 11 + p)), .int pl, .int no, .int sl, .int 0, .int 0, .int 0, .int 0, .int 0, .int 0]) _ l3 e_2 rfl (by decide +kernel) (by omega) (by omega) (by decide) (by omega) (fun i hi => by show 100 + 20 + i ≠ 100 + 4; omega) (fun i hi => by show 100 + 20 + i ≠ 100 + 3; omega) (Or.inl (by omega))) (fcwV 1 hts q191 q132 q133 q50 q127 rfl rfl (by decide +kernel) ⟨(Nat.le_of_ble_eq_true rfl), (Nat.le_of_ble_eq_true rfl)⟩) hE hb0 hP hS (m_recvL hE hP l3 rfl) rfl hl.1 rfl (Nat.le_of_ble_eq_true rfl) dX5_addJet_41 ⟨(Nat.le_of_ble_eq_true rfl), (Nat.le_of_ble_eq_true rfl)⟩) hS (fun u_3 H locs hu_3 hP hS => ?_)
  obtain ⟨al, c⟩ := u_3
  have hP : mP G al c H := hP
  obtain ⟨hL9, hcx0, hax0⟩ := hu_3
  dsimp only at hL9 hcx0 hax0
  have e1 : c 100 = some (.inr (6, [.ref (al (100 + 1)), .ref (al (100 + 3)), .ref (al (100 + 5)), .ref (al (100 + 7)), .int 0, .int 3000, .int 0, .int 0, .int 0, .int 0, .int 0, .int 0, .int 0, .int 0, .int 0])) := by rw [hcx0 100 (by omega) (by omega), hax0 (100 + 1) (by omega), hax0 (100 + 3) (by omega), hax0 (100 + 5) (by omega), hax0 (100 + 7) (by omega)]; exact e1
  have e7 : c (100 + 11 + p) = some (.inr (5, [.int (nI p), .int (k.2.2 (1 + p) 1), .int 0, .int 0, .int 0, .int 0])) := by rw [hcx0 (100 + 11 + p) (by omega) (by omega)]; exact e7
  have e_2 : c (100 + 20 + nj) = some (.inr (4, [.ref (al (100 + 11 + p)), .int pl, .int no, .int sl, .int 0, .int 0, .int 0, .int 0, .int 0, .int 0])) := by rw [hcx0 (100 + 20 + nj) (by omega) (by omega), hax0 (100 + 11 + p) (by omega)]; exact e_2
  have l1 : gLs G al c (100 + 1) (100 + 2) 2 (fun z => 100 + 11 + z) := (gLs_al (gLs_cv l1 (hcx0 _ (by omega) (by omega)) (hcx0 _ (by omega) (by omega))) (hax0 _ (by omega)) (fun z hz => hax0 _ (by show 100 + 11 + z ≠ 100 + 4; omega)))
  have hfc : ∀ i, (i ≠ 100 + 3 ∧ i ≠ 100 + 4 ∧ i ≠ 100 + 20 + nj) → c i = c0 i := fun i hi => (hcx0 i (by omega) (by omega)).trans (hfc i hi)
  have hfa : ∀ i, (i ≠ 100 + 4 ∧ i ≠ 100 + 20 + nj) → al i = al0 i := fun i hi => (hax0 i (by omega)).trans (hfa i hi)
  have l3 : gLs G al c (100 + 3) (100 + 4) (nj + 1) (fun z => 100 + 20 + z) := gLs_al hL9 rfl (fun i hi => congrArg al (congrFun (va_up_id (fun z => 100 + 20 + z) nj) i).symm)
  have hl : lv_has ls 5 [(0, .ref (al 100)), (1, .int (nI p)), (2, .int pl), (3, .int no), (4, .int sl)] := by rw [hax0 100 (by omega)]; exact hl
  refine f_topi (v := 1) rfl ?_
  refine lv_pop hx hb dX5_addJet_44 rfl ?_
  refine W.widen (k := 2) (n := 32) (Nat.le_of_ble_eq_true rfl) (Nat.le_of_ble_eq_true rfl) ?_
  exact W.vret hx hb hr (fun tz htz hW => ⟨⟨(al, c), rfl, ⟨e_2, l3, fun i hi => (hfc i hi).trans (congrFun hc0 i), fun i hi => (hfa i hi).trans (congrFun hal0 i)⟩, g_end htz hP⟩, hS.F htz⟩) hS.2.2 dX5_addJet_45
set_option maxHeartbeats 4000000 in
set_option maxRecDepth 100000 in
theorem kX5_addJet_200 (l : Launch) (G : gT) (al : Nat → Nat) (c : mC) (k : gC) (nj : Nat) (p : Nat) (pl : Int32) (no : Int32) (sl : Int32) (e1 : c 200 = some (.inr (6, [.ref (al (200 + 1)), .ref (al (200 + 3)), .ref (al (200 + 5)), .ref (al (200 + 7)), .int 0, .int 3000, .int 0, .int 0, .int 0, .int 0, .int 0, .int 0, .int 0, .int 0, .int 0]))) (l1 : gLs G al c (200 + 1) (200 + 2) 2 (fun z => 200 + 11 + z)) (l3 : gLs G al c (200 + 3) (200 + 4) nj (fun z => 200 + 20 + z)) (hp : p < 2) (hnj : nj < 8) (e7 : c (200 + 11 + p) = some (.inr (5, [.int (nI p), .int (k.2.2 (1 + p) 1), .int 0, .int 0, .int 0, .int 0]))) : Met l yX5_addJet (fW yX5_addJet cX5_addJet 5 none) { frames := 7, cells := 2, slots := 32, locals := 149 } (gPre G al (c) [.ref (al 200), .int (nI p), .int pl, .int no, .int sl]) (gQvp (S := (Nat → Nat) × mC) G (fun u => u.2 (200 + 20 + nj) = some (.inr (4, [.ref (u.1 (200 + 11 + p)), .int pl, .int no, .int sl, .int 0, .int 0, .int 0, .int 0, .int 0, .int 0])) ∧ gLs G u.1 u.2 (200 + 3) (200 + 4) (nj + 1) (fun z => 200 + 20 + z) ∧ (∀ i, (i ≠ 200 + 3 ∧ i ≠ 200 + 4 ∧ i ≠ 200 + 20 + nj) → u.2 i = c i) ∧ ∀ i, (i ≠ 200 + 4 ∧ i ≠ 200 + 20 + nj) → u.1 i = al i) (fun u => u.1) (fun u => u.2)) 2 32 (gA G) := by
  refine Met.ofW (cc := cX5_addJet) (maxL := 5) (ret := none) (by decide) rfl ?_
  intro pz ez s m args below meth c₀ s₁ Bo hml hv
  obtain ⟨rfl, hb0, hP, hE⟩ := hv
  have hx := Bo.exec
  have hb := Bo.bytes
  have hr := Bo.returns
  have hts0 := atoms_spec (ws := (fW yX5_addJet cX5_addJet 5 none)) Bo.pre
  have hts : ∀ w ∈ fA, w.before _ s = true := fun w h => hts0 w (List.mem_cons_of_mem _ h)
  have hown : s.vm.findClass RX5 = some m.cls := findClass_of_methodNamed Bo.named
  have hlocks := Bo.notSynchronized
  have hl := lv_entry ([.ref (al 200), .int (nI p), .int pl, .int no, .int sl]) (n := 5) (Nat.le_of_ble_eq_true rfl)
  rw [lg_entry_eq]
  generalize (lg_sl ([.ref (al 200), .int (nI p), .int pl, .int no, .int sl]) ++ List.replicate (5 - (lg_sl ([.ref (al 200), .int (nI p), .int pl, .int no, .int sl])).length) Slot.unset).toArray = ls at hl ⊢
  have hl : lv_has ls 5 [(0, .ref (al 200)), (1, .int (nI p)), (2, .int pl), (3, .int no), (4, .int sl)] := hl
  obtain ⟨al0, hal0⟩ : ∃ z, z = al := ⟨_, rfl⟩
  obtain ⟨c0, hc0⟩ : ∃ z, z = c := ⟨_, rfl⟩
  have hfc : ∀ i, (i ≠ 200 + 3 ∧ i ≠ 200 + 4 ∧ i ≠ 200 + 20 + nj) → c i = c0 i := fun i _ => by rw [hc0]
  have hfa : ∀ i, (i ≠ 200 + 4 ∧ i ≠ 200 + 20 + nj) → al i = al0 i := fun i _ => by rw [hal0]
  generalize (#[.ref (al 200), .int (nI p), .int pl, .int no, .int sl] : Array Value) = ar9 at hts ⊢
  refine g_start hP (fun H hP hS => ?_)
  refine lv_iload_n hx hb dX5_addJet_0 rfl (lv_at hl 1 rfl) ?_
  refine lv_if_lt (tgt := 45) hx hb dX5_addJet_1 (by decide) (fun h => absurd h (nI_pos (by omega))) (fun _ => ?_)
  refine lv_iload_n hx hb dX5_addJet_4 rfl (lv_at hl 1 rfl) ?_
  refine lv_aload_n hx hb dX5_addJet_5 rfl (lv_at hl 0 rfl) ?_
  refine m_get (C := RX5) (T := TX5) (N := 15) (ci := 6) (v := .ref (al (200 + 1))) hx hb hts uX5 hown hE hP 200 rfl e1 rfl 0 (by decide) (hts _ q173) (fun _ h9 => h9) rfl dX5_addJet_6 ?_
  refine g_aft_i (g_runV (As := []) (rest := [.int (nI p)]) hx hb hml hown hts (kJx4a65c_size_8abf5 l G al c (200 + 1) (200 + 2) 2 (fun z => 200 + 11 + z) l1) (fcwV 0 hts q187 q53 q54 q50 q34 rfl rfl (by decide +kernel) ⟨(Nat.le_of_ble_eq_true rfl), (Nat.le_of_ble_eq_true rfl)⟩) hE hb0 hP hS (m_recvL hE hP l1 rfl) rfl hl.1 rfl (Nat.le_of_ble_eq_true rfl) dX5_addJet_9 ⟨(Nat.le_of_ble_eq_true rfl), (Nat.le_of_ble_eq_true rfl)⟩) hS (fun u H locs hP hS => ?_)
  refine f_topi (v := nI 2) rfl ?_
  refine lv_icmp_ge (tgt := 45) hx hb dX5_addJet_12 (by decide) (fun h => absurd h (nI_ge (b := 2) hp (by omega))) (fun _ => ?_)
  refine lv_aload_n hx hb dX5_addJet_15 rfl (lv_at hl 0 rfl) ?_
  refine m_get (C := RX5) (T := TX5) (N := 15) (ci := 6) (v := .ref (al (200 + 3))) hx hb hts uX5 hown hE hP 200 rfl e1 rfl 1 (by decide) (hts _ q174) (fun _ h9 => h9) rfl dX5_addJet_16 ?_
  refine m_new (200 + 20 + nj) (ci := 4) (fs := [.null, .int 0, .int 0, .int 0, .int 0, .int 0, .int 0, .int 0, .int 0, .int 0]) (C := RX3) (T := TX3) (N := 10) hx hb hts uX3 tyX3 tyX3_ok hown (hts _ q196) (hts _ q184) (hts _ q185) hE hb0 hP hS rfl (fun j hj => by rcases f_lt10 hj with rfl | rfl | rfl | rfl | rfl | rfl | rfl | rfl | rfl | rfl <;> rfl) (Nat.le_of_ble_eq_true rfl) (Nat.le_of_ble_eq_true rfl) dX5_addJet_19 (fun n_1 H hP hS => ?_)
  have hP : mP G (va_up al (200 + 20 + nj) n_1) (up c (200 + 20 + nj) (.inr (4, [.null, .int 0, .int 0, .int 0, .int 0, .int 0, .int 0, .int 0, .int 0, .int 0]))) H := hP
  have hax0 : ∀ x, x ≠ 200 + 20 + nj → va_up al (200 + 20 + nj) n_1 x = al x := fun x hx => au_n _ _ hx
  have has0 : va_up al (200 + 20 + nj) n_1 (200 + 20 + nj) = n_1 := au_s _ _ _
  obtain ⟨al, hau⟩ : ∃ z, z = va_up al (200 + 20 + nj) n_1 := ⟨_, rfl⟩
  rw [← hau] at hax0 has0 hP
  have hcx0 : ∀ x, x ≠ 200 + 20 + nj → (up c (200 + 20 + nj) (.inr (4, [.null, .int 0, .int 0, .int 0, .int 0, .int 0, .int 0, .int 0, .int 0, .int 0]))) x = c x := fun x hx => up_n _ _ hx
  have hcs0 : (up c (200 + 20 + nj) (.inr (4, [.null, .int 0, .int 0, .int 0, .int 0, .int 0, .int 0, .int 0, .int 0, .int 0]))) (200 + 20 + nj) = some (.inr (4, [.null, .int 0, .int 0, .int 0, .int 0, .int 0, .int 0, .int 0, .int 0, .int 0])) := up_s _ _ _
  obtain ⟨c, hcu⟩ : ∃ z, z = up c (200 + 20 + nj) (.inr (4, [.null, .int 0, .int 0, .int 0, .int 0, .int 0, .int 0, .int 0, .int 0, .int 0])) := ⟨_, rfl⟩
  rw [← hcu] at hcx0 hcs0 hP
  have e1 : c 200 = some (.inr (6, [.ref (al (200 + 1)), .ref (al (200 + 3)), .ref (al (200 + 5)), .ref (al (200 + 7)), .int 0, .int 3000, .int 0, .int 0, .int 0, .int 0, .int 0, .int 0, .int 0, .int 0, .int 0])) := by rw [hcx0 200 (by omega), hax0 (200 + 1) (by omega), hax0 (200 + 3) (by omega), hax0 (200 + 5) (by omega), hax0 (200 + 7) (by omega)]; exact e1
  have e7 : c (200 + 11 + p) = some (.inr (5, [.int (nI p), .int (k.2.2 (1 + p) 1), .int 0, .int 0, .int 0, .int 0])) := by rw [hcx0 (200 + 11 + p) (by omega)]; exact e7
  have l1 : gLs G al c (200 + 1) (200 + 2) 2 (fun z => 200 + 11 + z) := (gLs_al (gLs_cv l1 (hcx0 _ (by omega)) (hcx0 _ (by omega))) (hax0 _ (by omega)) (fun z hz => hax0 _ (by show 200 + 11 + z ≠ 200 + 20 + nj; omega)))
  have l3 : gLs G al c (200 + 3) (200 + 4) nj (fun z => 200 + 20 + z) := (gLs_al (gLs_cv l3 (hcx0 _ (by omega)) (hcx0 _ (by omega))) (hax0 _ (by omega)) (fun z hz => hax0 _ (by show 200 + 20 + z ≠ 200 + 20 + nj; omega)))
  have hfc : ∀ i, (i ≠ 200 + 3 ∧ i ≠ 200 + 4 ∧ i ≠ 200 + 20 + nj) → c i = c0 i := fun i hi => (hcx0 i (by omega)).trans (hfc i hi)
  have hfa : ∀ i, (i ≠ 200 + 4 ∧ i ≠ 200 + 20 + nj) → al i = al0 i := fun i hi => (hax0 i (by omega)).trans (hfa i hi)
  have e_2 : c (200 + 20 + nj) = some (.inr (4, [.null, .int 0, .int 0, .int 0, .int 0, .int 0, .int 0, .int 0, .int 0, .int 0])) := hcs0
  rw [← has0]
  have hl : lv_has ls 5 [(0, .ref (al 200)), (1, .int (nI p)), (2, .int pl), (3, .int no), (4, .int sl)] := by rw [hax0 200 (by omega)]; exact hl
  rw [← hax0 (200 + 3) (by omega)]
  refine lv_dup hx hb dX5_addJet_22 rfl ?_
  refine lv_aload_n hx hb dX5_addJet_23 rfl (lv_at hl 0 rfl) ?_
  refine m_get (C := RX5) (T := TX5) (N := 15) (ci := 6) (v := .ref (al (200 + 1))) hx hb hts uX5 hown hE hP 200 rfl e1 rfl 0 (by decide) (hts _ q173) (fun _ h9 => h9) rfl dX5_addJet_24 ?_
  refine lv_iload_n hx hb dX5_addJet_27 rfl (lv_at hl 1 rfl) ?_
  refine g_aft_r (g_runV (As := [.int (nI p)]) (rest := [.ref (al (200 + 20 + nj)), .ref (al (200 + 20 + nj)), .ref (al (200 + 3))]) hx hb hml hown hts (kJx4a65c_get_915e3 l G al c (200 + 1) (200 + 2) 2 (fun z => 200 + 11 + z) p l1 (by omega)) (fcwV 1 hts q188 q56 q57 q50 q43 rfl rfl (by decide +kernel) ⟨(Nat.le_of_ble_eq_true rfl), (Nat.le_of_ble_eq_true rfl)⟩) hE hb0 hP hS (m_recvL hE hP l1 rfl) rfl hl.1 rfl (Nat.le_of_ble_eq_true rfl) dX5_addJet_28 ⟨(Nat.le_of_ble_eq_true rfl), (Nat.le_of_ble_eq_true rfl)⟩) hS (fun u H locs hP hS => ?_)
  refine g_topr (v := al (200 + 11 + p)) rfl ?_
  refine m_cast hx hb hown (hts _ q186) hE hP (200 + 11 + p) rfl e7 rfl dX5_addJet_31 ?_
  refine lv_iload_n hx hb dX5_addJet_34 rfl (lv_at hl 2 rfl) ?_
  refine lv_iload_n hx hb dX5_addJet_35 rfl (lv_at hl 3 rfl) ?_
  refine lv_iload hx hb dX5_addJet_36 (lv_at hl 4 rfl) ?_
  refine g_aft_v (g_runI (As := [.ref (al (200 + 11 + p)), .int pl, .int no, .int sl]) (rest := [.ref (al (200 + 20 + nj)), .ref (al (200 + 3))]) hx hb hml hown hts (kX3_init l G al c (200 + 20 + nj) (200 + 11 + p) pl no sl e_2) (fcwI 4 hts q189 q190 q185 q135 rfl rfl rfl (by decide +kernel) ⟨(Nat.le_of_ble_eq_true rfl), (Nat.le_of_ble_eq_true rfl)⟩) hE hb0 hP hS rfl hl.1 rfl (Nat.le_of_ble_eq_true rfl) dX5_addJet_38 ⟨(Nat.le_of_ble_eq_true rfl), (Nat.le_of_ble_eq_true rfl)⟩) hS (fun u H locs hP hS => ?_)
  have hP : mP G al (up c (200 + 20 + nj) (.inr (4, [.ref (al (200 + 11 + p)), .int pl, .int no, .int sl, .int 0, .int 0, .int 0, .int 0, .int 0, .int 0]))) H := hP
  have hcx0 : ∀ x, x ≠ 200 + 20 + nj → (up c (200 + 20 + nj) (.inr (4, [.ref (al (200 + 11 + p)), .int pl, .int no, .int sl, .int 0, .int 0, .int 0, .int 0, .int 0, .int 0]))) x = c x := fun x hx => up_n _ _ hx
  have hcs0 : (up c (200 + 20 + nj) (.inr (4, [.ref (al (200 + 11 + p)), .int pl, .int no, .int sl, .int 0, .int 0, .int 0, .int 0, .int 0, .int 0]))) (200 + 20 + nj) = some (.inr (4, [.ref (al (200 + 11 + p)), .int pl, .int no, .int sl, .int 0, .int 0, .int 0, .int 0, .int 0, .int 0])) := up_s _ _ _
  obtain ⟨c, hcu⟩ : ∃ z, z = up c (200 + 20 + nj) (.inr (4, [.ref (al (200 + 11 + p)), .int pl, .int no, .int sl, .int 0, .int 0, .int 0, .int 0, .int 0, .int 0])) := ⟨_, rfl⟩
  rw [← hcu] at hcx0 hcs0 hP
  have e1 : c 200 = some (.inr (6, [.ref (al (200 + 1)), .ref (al (200 + 3)), .ref (al (200 + 5)), .ref (al (200 + 7)), .int 0, .int 3000, .int 0, .int 0, .int 0, .int 0, .int 0, .int 0, .int 0, .int 0, .int 0])) := by rw [hcx0 200 (by omega)]; exact e1
  have e7 : c (200 + 11 + p) = some (.inr (5, [.int (nI p), .int (k.2.2 (1 + p) 1), .int 0, .int 0, .int 0, .int 0])) := by rw [hcx0 (200 + 11 + p) (by omega)]; exact e7
  have l1 : gLs G al c (200 + 1) (200 + 2) 2 (fun z => 200 + 11 + z) := (gLs_cv l1 (hcx0 _ (by omega)) (hcx0 _ (by omega)))
  have l3 : gLs G al c (200 + 3) (200 + 4) nj (fun z => 200 + 20 + z) := (gLs_cv l3 (hcx0 _ (by omega)) (hcx0 _ (by omega)))
  have hfc : ∀ i, (i ≠ 200 + 3 ∧ i ≠ 200 + 4 ∧ i ≠ 200 + 20 + nj) → c i = c0 i := fun i hi => (hcx0 i (by omega)).trans (hfc i hi)
  have e_2 : c (200 + 20 + nj) = some (.inr (4, [.ref (al (200 + 11 + p)), .int pl, .int no, .int sl, .int 0, .int 0, .int 0, .int 0, .int 0, .int 0])) := hcs0
  refine g_aft_ip (g_runV (As := [.ref (al (200 + 20 + nj))]) (rest := []) hx hb hml hown hts (kJx4a65c_add_9ea2d l G al c (200 + 3) (200 + 4) nj (fun z => 200 + 20 + z) (200 + 20 + nj) 4 ([.ref (al (200 + 11 + p)), .int pl, .int no, .int sl, .int 0, .int 0, .int 0, .int 0, .int 0, .int 0]) _ l3 e_2 rfl (by decide +kernel) (by omega) (by omega) (by decide) (by omega) (fun i hi => by show 200 + 20 + i ≠ 200 + 4; omega) (fun i hi => by show 200 + 20 + i ≠ 200 + 3; omega) (Or.inl (by omega))) (fcwV 1 hts q191 q132 q133 q50 q127 rfl rfl (by decide +kernel) ⟨(Nat.le_of_ble_eq_true rfl), (Nat.le_of_ble_eq_true rfl)⟩) hE hb0 hP hS (m_recvL hE hP l3 rfl) rfl hl.1 rfl (Nat.le_of_ble_eq_true rfl) dX5_addJet_41 ⟨(Nat.le_of_ble_eq_true rfl), (Nat.le_of_ble_eq_true rfl)⟩) hS (fun u_3 H locs hu_3 hP hS => ?_)
  obtain ⟨al, c⟩ := u_3
  have hP : mP G al c H := hP
  obtain ⟨hL9, hcx0, hax0⟩ := hu_3
  dsimp only at hL9 hcx0 hax0
  have e1 : c 200 = some (.inr (6, [.ref (al (200 + 1)), .ref (al (200 + 3)), .ref (al (200 + 5)), .ref (al (200 + 7)), .int 0, .int 3000, .int 0, .int 0, .int 0, .int 0, .int 0, .int 0, .int 0, .int 0, .int 0])) := by rw [hcx0 200 (by omega) (by omega), hax0 (200 + 1) (by omega), hax0 (200 + 3) (by omega), hax0 (200 + 5) (by omega), hax0 (200 + 7) (by omega)]; exact e1
  have e7 : c (200 + 11 + p) = some (.inr (5, [.int (nI p), .int (k.2.2 (1 + p) 1), .int 0, .int 0, .int 0, .int 0])) := by rw [hcx0 (200 + 11 + p) (by omega) (by omega)]; exact e7
  have e_2 : c (200 + 20 + nj) = some (.inr (4, [.ref (al (200 + 11 + p)), .int pl, .int no, .int sl, .int 0, .int 0, .int 0, .int 0, .int 0, .int 0])) := by rw [hcx0 (200 + 20 + nj) (by omega) (by omega), hax0 (200 + 11 + p) (by omega)]; exact e_2
  have l1 : gLs G al c (200 + 1) (200 + 2) 2 (fun z => 200 + 11 + z) := (gLs_al (gLs_cv l1 (hcx0 _ (by omega) (by omega)) (hcx0 _ (by omega) (by omega))) (hax0 _ (by omega)) (fun z hz => hax0 _ (by show 200 + 11 + z ≠ 200 + 4; omega)))
  have hfc : ∀ i, (i ≠ 200 + 3 ∧ i ≠ 200 + 4 ∧ i ≠ 200 + 20 + nj) → c i = c0 i := fun i hi => (hcx0 i (by omega) (by omega)).trans (hfc i hi)
  have hfa : ∀ i, (i ≠ 200 + 4 ∧ i ≠ 200 + 20 + nj) → al i = al0 i := fun i hi => (hax0 i (by omega)).trans (hfa i hi)
  have l3 : gLs G al c (200 + 3) (200 + 4) (nj + 1) (fun z => 200 + 20 + z) := gLs_al hL9 rfl (fun i hi => congrArg al (congrFun (va_up_id (fun z => 200 + 20 + z) nj) i).symm)
  have hl : lv_has ls 5 [(0, .ref (al 200)), (1, .int (nI p)), (2, .int pl), (3, .int no), (4, .int sl)] := by rw [hax0 200 (by omega)]; exact hl
  refine f_topi (v := 1) rfl ?_
  refine lv_pop hx hb dX5_addJet_44 rfl ?_
  refine W.widen (k := 2) (n := 32) (Nat.le_of_ble_eq_true rfl) (Nat.le_of_ble_eq_true rfl) ?_
  exact W.vret hx hb hr (fun tz htz hW => ⟨⟨(al, c), rfl, ⟨e_2, l3, fun i hi => (hfc i hi).trans (congrFun hc0 i), fun i hi => (hfa i hi).trans (congrFun hal0 i)⟩, g_end htz hP⟩, hS.F htz⟩) hS.2.2 dX5_addJet_45
set_option maxHeartbeats 4000000 in
set_option maxRecDepth 100000 in
theorem kX7_jet (l : Launch) (G : gT) (al : Nat → Nat) (c : mC) (k : gC) (w : Nat → Nat → Int32) (ns : Nat → Nat) (nj : Nat) (hU : gU G al k w 2 2 nj ns c) (hns : ∀ f, f < 2 → ns f ≤ 3) (hnj : nj < 8) (hpp : ∀ j, j < nj + 1 → k.2.1 j < 2) (h1 : ¬ k.2.2 (3 + nj) 1 < 0) (h2 : ¬ 19 < k.2.2 (3 + nj) 1) (h3 : ¬ k.2.2 (3 + nj) 2 < 1) (h4 : ¬ 5 < k.2.2 (3 + nj) 2) (h5 : ¬ k.2.2 (3 + nj) 3 < (-3)) (h6 : k.2.2 (3 + nj) 3 ≤ 3) : Met l yX7_jet (fW yX7_jet cX7_jet 6 (some .int)) { frames := 8, cells := 4, slots := 64, locals := 173 } (gPre G al (c) [.ref (al 0), .int (nI (k.2.1 nj)), .int (k.2.2 (3 + nj) 1), .int (k.2.2 (3 + nj) 2), .int (k.2.2 (3 + nj) 3)]) (gQip (S := (Nat → Nat) × mC) G (fun u => gU G u.1 k w 2 2 (nj + 1) ns u.2 ∧ u.1 0 = al 0) (fun u => nI nj) (fun u => u.1) (fun u => u.2)) 4 64 (gA G) := by
  refine Met.ofW (cc := cX7_jet) (maxL := 6) (ret := (some .int)) (by decide) rfl ?_
  intro pz ez s m args below meth c₀ s₁ Bo hml hv
  obtain ⟨rfl, hb0, hP, hE⟩ := hv
  have hx := Bo.exec
  have hb := Bo.bytes
  have hr := Bo.returns
  have hts0 := atoms_spec (ws := (fW yX7_jet cX7_jet 6 (some .int))) Bo.pre
  have hts : ∀ w ∈ fA, w.before _ s = true := fun w h => hts0 w (List.mem_cons_of_mem _ h)
  have hown : s.vm.findClass RX7 = some m.cls := findClass_of_methodNamed Bo.named
  have hlocks := Bo.notSynchronized
  have hl := lv_entry ([.ref (al 0), .int (nI (k.2.1 nj)), .int (k.2.2 (3 + nj) 1), .int (k.2.2 (3 + nj) 2), .int (k.2.2 (3 + nj) 3)]) (n := 6) (Nat.le_of_ble_eq_true rfl)
  rw [lg_entry_eq]
  generalize (lg_sl ([.ref (al 0), .int (nI (k.2.1 nj)), .int (k.2.2 (3 + nj) 1), .int (k.2.2 (3 + nj) 2), .int (k.2.2 (3 + nj) 3)]) ++ List.replicate (6 - (lg_sl ([.ref (al 0), .int (nI (k.2.1 nj)), .int (k.2.2 (3 + nj) 1), .int (k.2.2 (3 + nj) 2), .int (k.2.2 (3 + nj) 3)])).length) Slot.unset).toArray = ls at hl ⊢
  have hl : lv_has ls 6 [(0, .ref (al 0)), (1, .int (nI (k.2.1 nj))), (2, .int (k.2.2 (3 + nj) 1)), (3, .int (k.2.2 (3 + nj) 2)), (4, .int (k.2.2 (3 + nj) 3))] := hl
  have hp9 := hpp nj (by omega)
  have hU9 := hU
  obtain ⟨u0, hB1, hB2, hUF, u9⟩ := hU9
  have hB19 := hB1
  have hB29 := hB2
  obtain ⟨b1, b2, b3, -, -, -, b7, -⟩ := hB19
  obtain ⟨d1, d2, d3, -, -, -, d7, -⟩ := hB29
  have b79 := b7 _ hp9
  have d79 := d7 _ hp9
  obtain ⟨al0, hal0⟩ : ∃ z, z = al := ⟨_, rfl⟩
  obtain ⟨c0, hc0⟩ : ∃ z, z = c := ⟨_, rfl⟩
  have hfc : ∀ i, (i ≠ 100 + 3 ∧ i ≠ 100 + 4 ∧ i ≠ 100 + 20 + nj ∧ i ≠ 200 + 3 ∧ i ≠ 200 + 4 ∧ i ≠ 200 + 20 + nj) → c i = c0 i := fun i _ => by rw [hc0]
  have hfa : ∀ i, (i ≠ 100 + 4 ∧ i ≠ 100 + 20 + nj ∧ i ≠ 200 + 4 ∧ i ≠ 200 + 20 + nj) → al i = al0 i := fun i _ => by rw [hal0]
  generalize (#[.ref (al 0), .int (nI (k.2.1 nj)), .int (k.2.2 (3 + nj) 1), .int (k.2.2 (3 + nj) 2), .int (k.2.2 (3 + nj) 3)] : Array Value) = ar9 at hts ⊢
  refine g_start hP (fun H hP hS => ?_)
  refine lv_aload_n hx hb dX7_jet_0 rfl (lv_at hl 0 rfl) ?_
  refine lv_iload_n hx hb dX7_jet_1 rfl (lv_at hl 1 rfl) ?_
  refine g_aft_r (g_runV (As := [.int (nI (k.2.1 nj))]) (rest := []) hx hb hml hown hts (kX7_pumpNumbered_u l G al c k (k.2.1 nj) u0 b1 b2 hp9 b79) (fcwV 1 hts q391 q392 q393 q148 q389 rfl rfl (by decide +kernel) ⟨(Nat.le_of_ble_eq_true rfl), (Nat.le_of_ble_eq_true rfl)⟩) hE hb0 hP hS (m_recvA hE hP 0 rfl u0 rfl) rfl hl.1 rfl (Nat.le_of_ble_eq_true rfl) dX7_jet_2 ⟨(Nat.le_of_ble_eq_true rfl), (Nat.le_of_ble_eq_true rfl)⟩) hS (fun u H locs hP hS => ?_)
  refine g_topr (v := al (100 + 11 + (k.2.1 nj))) rfl ?_
  refine lv_pop hx hb dX7_jet_5 rfl ?_
  refine lv_iload_n hx hb dX7_jet_6 rfl (lv_at hl 2 rfl) ?_
  refine lv_if_lt (tgt := 39) hx hb dX7_jet_7 (by decide) (fun h => absurd h h1) (fun _ => ?_)
  refine lv_iload_n hx hb dX7_jet_10 rfl (lv_at hl 2 rfl) ?_
  refine lv_bipush (v := 19) hx hb dX7_jet_11 (by decide) ?_
  refine lv_icmp_gt (tgt := 39) hx hb dX7_jet_13 (by decide) (fun h => absurd h h2) (fun _ => ?_)
  refine lv_iload_n hx hb dX7_jet_16 rfl (lv_at hl 3 rfl) ?_
  refine lv_iconst (v := 1) hx hb dX7_jet_17 (by decide) ?_
  refine lv_icmp_lt (tgt := 39) hx hb dX7_jet_18 (by decide) (fun h => absurd h h3) (fun _ => ?_)
  refine lv_iload_n hx hb dX7_jet_21 rfl (lv_at hl 3 rfl) ?_
  refine lv_iconst (v := 5) hx hb dX7_jet_22 (by decide) ?_
  refine lv_icmp_gt (tgt := 39) hx hb dX7_jet_23 (by decide) (fun h => absurd h h4) (fun _ => ?_)
  refine lv_iload hx hb dX7_jet_26 (lv_at hl 4 rfl) ?_
  refine lv_bipush (v := (-3)) hx hb dX7_jet_28 (by decide) ?_
  refine lv_icmp_lt (tgt := 39) hx hb dX7_jet_30 (by decide) (fun h => absurd h h5) (fun _ => ?_)
  refine lv_iload hx hb dX7_jet_33 (lv_at hl 4 rfl) ?_
  refine lv_iconst (v := 3) hx hb dX7_jet_35 (by decide) ?_
  refine lv_icmp_le (tgt := 49) hx hb dX7_jet_36 (by decide) (fun _ => ?_) (fun h => absurd h6 h)
  refine lv_aload_n hx hb dX7_jet_49 rfl (lv_at hl 0 rfl) ?_
  refine m_get (C := RX7) (T := TX7) (N := 3) (ci := 8) (v := .ref (al 100)) hx hb hts uX7 hown hE hP 0 rfl u0 rfl 1 (by decide) (hts _ q368) (fun _ h9 => h9) rfl dX7_jet_50 ?_
  refine m_get (C := RX5) (T := TX5) (N := 15) (ci := 6) (v := .ref (al (100 + 3))) hx hb hts uX5 hown hE hP 100 rfl b1 rfl 1 (by decide) (hts _ q390) (fun _ h9 => h9) rfl dX7_jet_53 ?_
  refine g_aft_i (g_runV (As := []) (rest := []) hx hb hml hown hts (kJx4a65c_size_8abf5 l G al c (100 + 3) (100 + 4) nj (fun z => 100 + 20 + z) b3) (fcwV 0 hts q380 q53 q54 q50 q34 rfl rfl (by decide +kernel) ⟨(Nat.le_of_ble_eq_true rfl), (Nat.le_of_ble_eq_true rfl)⟩) hE hb0 hP hS (m_recvL hE hP b3 rfl) rfl hl.1 rfl (Nat.le_of_ble_eq_true rfl) dX7_jet_56 ⟨(Nat.le_of_ble_eq_true rfl), (Nat.le_of_ble_eq_true rfl)⟩) hS (fun u H locs hP hS => ?_)
  refine f_topi (v := nI nj) rfl ?_
  refine lv_istore (lv' := [(5, .int (nI nj)), (0, .ref (al 0)), (1, .int (nI (k.2.1 nj))), (2, .int (k.2.2 (3 + nj) 1)), (3, .int (k.2.2 (3 + nj) 2)), (4, .int (k.2.2 (3 + nj) 3))]) hx hb dX7_jet_59 hl (by decide) rfl (fun ls hl => ?_)
  refine lv_iload hx hb dX7_jet_61 (lv_at hl 0 rfl) ?_
  refine lv_bipush (v := 10) hx hb dX7_jet_63 (by decide) ?_
  refine lv_icmp_lt (tgt := 78) hx hb dX7_jet_65 (by decide) (fun _ => ?_) (fun h => absurd (nI_lt (b := 10) (by omega) (by omega)) h)
  refine lv_aload_n hx hb dX7_jet_78 rfl (lv_at hl 1 rfl) ?_
  refine m_get (C := RX7) (T := TX7) (N := 3) (ci := 8) (v := .ref (al 100)) hx hb hts uX7 hown hE hP 0 rfl u0 rfl 1 (by decide) (hts _ q368) (fun _ h9 => h9) rfl dX7_jet_79 ?_
  refine lv_iload_n hx hb dX7_jet_82 rfl (lv_at hl 2 rfl) ?_
  refine lv_iload_n hx hb dX7_jet_83 rfl (lv_at hl 3 rfl) ?_
  refine lv_iload_n hx hb dX7_jet_84 rfl (lv_at hl 4 rfl) ?_
  refine lv_iload hx hb dX7_jet_85 (lv_at hl 5 rfl) ?_
  refine g_aft_vp (g_runV (As := [.int (nI (k.2.1 nj)), .int (k.2.2 (3 + nj) 1), .int (k.2.2 (3 + nj) 2), .int (k.2.2 (3 + nj) 3)]) (rest := []) hx hb hml hown hts (kX5_addJet_100 l G al c k nj (k.2.1 nj) (k.2.2 (3 + nj) 1) (k.2.2 (3 + nj) 2) (k.2.2 (3 + nj) 3) b1 b2 b3 hp9 (by omega) b79) (fcwV 4 hts q394 q395 q396 q211 q192 rfl rfl (by decide +kernel) ⟨(Nat.le_of_ble_eq_true rfl), (Nat.le_of_ble_eq_true rfl)⟩) hE hb0 hP hS (m_recvA hE hP 100 rfl b1 rfl) rfl hl.1 rfl (Nat.le_of_ble_eq_true rfl) dX7_jet_87 ⟨(Nat.le_of_ble_eq_true rfl), (Nat.le_of_ble_eq_true rfl)⟩) hS (fun u_1 H locs hu_1 hP hS => ?_)
  obtain ⟨al, c⟩ := u_1
  have hP : mP G al c H := hP
  obtain ⟨e_2, l_3, hcx9, hax9⟩ := hu_1
  dsimp only at e_2 l_3 hcx9 hax9
  have hcx0 := fun x (h0 : x ≠ 100 + 3) (h1 : x ≠ 100 + 4) (h2 : x ≠ 100 + 20 + nj) => hcx9 x ⟨h0, h1, h2⟩
  have hax0 := fun x (h0 : x ≠ 100 + 4) (h1 : x ≠ 100 + 20 + nj) => hax9 x ⟨h0, h1⟩
  have u0 : c 0 = some (.inr (8, [.ref (al 1), .ref (al 100), .ref (al 200)])) := by rw [hcx0 0 (by omega) (by omega) (by omega), hax0 1 (by omega) (by omega), hax0 100 (by omega) (by omega), hax0 200 (by omega) (by omega)]; exact u0
  have b1 : c 100 = some (.inr (6, [.ref (al (100 + 1)), .ref (al (100 + 3)), .ref (al (100 + 5)), .ref (al (100 + 7)), .int 0, .int 3000, .int 0, .int 0, .int 0, .int 0, .int 0, .int 0, .int 0, .int 0, .int 0])) := by rw [hcx0 100 (by omega) (by omega) (by omega), hax0 (100 + 1) (by omega) (by omega), hax0 (100 + 3) (by omega) (by omega), hax0 (100 + 5) (by omega) (by omega), hax0 (100 + 7) (by omega) (by omega)]; exact b1
  have d1 : c 200 = some (.inr (6, [.ref (al (200 + 1)), .ref (al (200 + 3)), .ref (al (200 + 5)), .ref (al (200 + 7)), .int 0, .int 3000, .int 0, .int 0, .int 0, .int 0, .int 0, .int 0, .int 0, .int 0, .int 0])) := by rw [hcx0 200 (by omega) (by omega) (by omega), hax0 (200 + 1) (by omega) (by omega), hax0 (200 + 3) (by omega) (by omega), hax0 (200 + 5) (by omega) (by omega), hax0 (200 + 7) (by omega) (by omega)]; exact d1
  have b79 : c (100 + 11 + k.2.1 nj) = some (.inr (5, [.int (nI (k.2.1 nj)), .int (k.2.2 (1 + k.2.1 nj) 1), .int 0, .int 0, .int 0, .int 0])) := by rw [hcx0 (100 + 11 + k.2.1 nj) (by omega) (by omega) (by omega)]; exact b79
  have d79 : c (200 + 11 + k.2.1 nj) = some (.inr (5, [.int (nI (k.2.1 nj)), .int (k.2.2 (1 + k.2.1 nj) 1), .int 0, .int 0, .int 0, .int 0])) := by rw [hcx0 (200 + 11 + k.2.1 nj) (by omega) (by omega) (by omega)]; exact d79
  have b2 : gLs G al c (100 + 1) (100 + 2) 2 (fun z => 100 + 11 + z) := (gLs_al (gLs_cv b2 (hcx0 _ (by omega) (by omega) (by omega)) (hcx0 _ (by omega) (by omega) (by omega))) (hax0 _ (by omega) (by omega)) (fun z hz => hax0 _ (by show 100 + 11 + z ≠ 100 + 4; omega) (by show 100 + 11 + z ≠ 100 + 20 + nj; omega)))
  have d2 : gLs G al c (200 + 1) (200 + 2) 2 (fun z => 200 + 11 + z) := (gLs_al (gLs_cv d2 (hcx0 _ (by omega) (by omega) (by omega)) (hcx0 _ (by omega) (by omega) (by omega))) (hax0 _ (by omega) (by omega)) (fun z hz => hax0 _ (by show 200 + 11 + z ≠ 100 + 4; omega) (by show 200 + 11 + z ≠ 100 + 20 + nj; omega)))
  have d3 : gLs G al c (200 + 3) (200 + 4) nj (fun z => 200 + 20 + z) := (gLs_al (gLs_cv d3 (hcx0 _ (by omega) (by omega) (by omega)) (hcx0 _ (by omega) (by omega) (by omega))) (hax0 _ (by omega) (by omega)) (fun z hz => hax0 _ (by show 200 + 20 + z ≠ 100 + 4; omega) (by show 200 + 20 + z ≠ 100 + 20 + nj; omega)))
  have hfc : ∀ i, (i ≠ 100 + 3 ∧ i ≠ 100 + 4 ∧ i ≠ 100 + 20 + nj ∧ i ≠ 200 + 3 ∧ i ≠ 200 + 4 ∧ i ≠ 200 + 20 + nj) → c i = c0 i := fun i hi => (hcx0 i (by omega) (by omega) (by omega)).trans (hfc i hi)
  have hfa : ∀ i, (i ≠ 100 + 4 ∧ i ≠ 100 + 20 + nj ∧ i ≠ 200 + 4 ∧ i ≠ 200 + 20 + nj) → al i = al0 i := fun i hi => (hax0 i (by omega) (by omega)).trans (hfa i hi)
  have hl : lv_has ls 6 [(5, .int (nI nj)), (0, .ref (al 0)), (1, .int (nI (k.2.1 nj))), (2, .int (k.2.2 (3 + nj) 1)), (3, .int (k.2.2 (3 + nj) 2)), (4, .int (k.2.2 (3 + nj) 3))] := by rw [hax0 0 (by omega) (by omega)]; exact hl
  refine lv_aload_n hx hb dX7_jet_90 rfl (lv_at hl 1 rfl) ?_
  refine m_get (C := RX7) (T := TX7) (N := 3) (ci := 8) (v := .ref (al 200)) hx hb hts uX7 hown hE hP 0 rfl u0 rfl 2 (by decide) (hts _ q369) (fun _ h9 => h9) rfl dX7_jet_91 ?_
  refine lv_iload_n hx hb dX7_jet_94 rfl (lv_at hl 2 rfl) ?_
  refine lv_iload_n hx hb dX7_jet_95 rfl (lv_at hl 3 rfl) ?_
  refine lv_iload_n hx hb dX7_jet_96 rfl (lv_at hl 4 rfl) ?_
  refine lv_iload hx hb dX7_jet_97 (lv_at hl 5 rfl) ?_
  refine g_aft_vp (g_runV (As := [.int (nI (k.2.1 nj)), .int (k.2.2 (3 + nj) 1), .int (k.2.2 (3 + nj) 2), .int (k.2.2 (3 + nj) 3)]) (rest := []) hx hb hml hown hts (kX5_addJet_200 l G al c k nj (k.2.1 nj) (k.2.2 (3 + nj) 1) (k.2.2 (3 + nj) 2) (k.2.2 (3 + nj) 3) d1 d2 d3 hp9 (by omega) d79) (fcwV 4 hts q394 q395 q396 q211 q192 rfl rfl (by decide +kernel) ⟨(Nat.le_of_ble_eq_true rfl), (Nat.le_of_ble_eq_true rfl)⟩) hE hb0 hP hS (m_recvA hE hP 200 rfl d1 rfl) rfl hl.1 rfl (Nat.le_of_ble_eq_true rfl) dX7_jet_99 ⟨(Nat.le_of_ble_eq_true rfl), (Nat.le_of_ble_eq_true rfl)⟩) hS (fun u_4 H locs hu_4 hP hS => ?_)
  obtain ⟨al, c⟩ := u_4
  have hP : mP G al c H := hP
  obtain ⟨e_5, l_6, hcx9, hax9⟩ := hu_4
  dsimp only at e_5 l_6 hcx9 hax9
  have hcx0 := fun x (h0 : x ≠ 200 + 3) (h1 : x ≠ 200 + 4) (h2 : x ≠ 200 + 20 + nj) => hcx9 x ⟨h0, h1, h2⟩
  have hax0 := fun x (h0 : x ≠ 200 + 4) (h1 : x ≠ 200 + 20 + nj) => hax9 x ⟨h0, h1⟩
  have u0 : c 0 = some (.inr (8, [.ref (al 1), .ref (al 100), .ref (al 200)])) := by rw [hcx0 0 (by omega) (by omega) (by omega), hax0 1 (by omega) (by omega), hax0 100 (by omega) (by omega), hax0 200 (by omega) (by omega)]; exact u0
  have b1 : c 100 = some (.inr (6, [.ref (al (100 + 1)), .ref (al (100 + 3)), .ref (al (100 + 5)), .ref (al (100 + 7)), .int 0, .int 3000, .int 0, .int 0, .int 0, .int 0, .int 0, .int 0, .int 0, .int 0, .int 0])) := by rw [hcx0 100 (by omega) (by omega) (by omega), hax0 (100 + 1) (by omega) (by omega), hax0 (100 + 3) (by omega) (by omega), hax0 (100 + 5) (by omega) (by omega), hax0 (100 + 7) (by omega) (by omega)]; exact b1
  have d1 : c 200 = some (.inr (6, [.ref (al (200 + 1)), .ref (al (200 + 3)), .ref (al (200 + 5)), .ref (al (200 + 7)), .int 0, .int 3000, .int 0, .int 0, .int 0, .int 0, .int 0, .int 0, .int 0, .int 0, .int 0])) := by rw [hcx0 200 (by omega) (by omega) (by omega), hax0 (200 + 1) (by omega) (by omega), hax0 (200 + 3) (by omega) (by omega), hax0 (200 + 5) (by omega) (by omega), hax0 (200 + 7) (by omega) (by omega)]; exact d1
  have b79 : c (100 + 11 + k.2.1 nj) = some (.inr (5, [.int (nI (k.2.1 nj)), .int (k.2.2 (1 + k.2.1 nj) 1), .int 0, .int 0, .int 0, .int 0])) := by rw [hcx0 (100 + 11 + k.2.1 nj) (by omega) (by omega) (by omega)]; exact b79
  have d79 : c (200 + 11 + k.2.1 nj) = some (.inr (5, [.int (nI (k.2.1 nj)), .int (k.2.2 (1 + k.2.1 nj) 1), .int 0, .int 0, .int 0, .int 0])) := by rw [hcx0 (200 + 11 + k.2.1 nj) (by omega) (by omega) (by omega)]; exact d79
  have e_2 : c (100 + 20 + nj) = some (.inr (4, [.ref (al (100 + 11 + k.2.1 nj)), .int (k.2.2 (3 + nj) 1), .int (k.2.2 (3 + nj) 2), .int (k.2.2 (3 + nj) 3), .int 0, .int 0, .int 0, .int 0, .int 0, .int 0])) := by rw [hcx0 (100 + 20 + nj) (by omega) (by omega) (by omega), hax0 (100 + 11 + k.2.1 nj) (by omega) (by omega)]; exact e_2
  have b2 : gLs G al c (100 + 1) (100 + 2) 2 (fun z => 100 + 11 + z) := (gLs_al (gLs_cv b2 (hcx0 _ (by omega) (by omega) (by omega)) (hcx0 _ (by omega) (by omega) (by omega))) (hax0 _ (by omega) (by omega)) (fun z hz => hax0 _ (by show 100 + 11 + z ≠ 200 + 4; omega) (by show 100 + 11 + z ≠ 200 + 20 + nj; omega)))
  have d2 : gLs G al c (200 + 1) (200 + 2) 2 (fun z => 200 + 11 + z) := (gLs_al (gLs_cv d2 (hcx0 _ (by omega) (by omega) (by omega)) (hcx0 _ (by omega) (by omega) (by omega))) (hax0 _ (by omega) (by omega)) (fun z hz => hax0 _ (by show 200 + 11 + z ≠ 200 + 4; omega) (by show 200 + 11 + z ≠ 200 + 20 + nj; omega)))
  have l_3 : gLs G al c (100 + 3) (100 + 4) (nj + 1) (fun z => 100 + 20 + z) := (gLs_al (gLs_cv l_3 (hcx0 _ (by omega) (by omega) (by omega)) (hcx0 _ (by omega) (by omega) (by omega))) (hax0 _ (by omega) (by omega)) (fun z hz => hax0 _ (by show 100 + 20 + z ≠ 200 + 4; omega) (by show 100 + 20 + z ≠ 200 + 20 + nj; omega)))
  have hfc : ∀ i, (i ≠ 100 + 3 ∧ i ≠ 100 + 4 ∧ i ≠ 100 + 20 + nj ∧ i ≠ 200 + 3 ∧ i ≠ 200 + 4 ∧ i ≠ 200 + 20 + nj) → c i = c0 i := fun i hi => (hcx0 i (by omega) (by omega) (by omega)).trans (hfc i hi)
  have hfa : ∀ i, (i ≠ 100 + 4 ∧ i ≠ 100 + 20 + nj ∧ i ≠ 200 + 4 ∧ i ≠ 200 + 20 + nj) → al i = al0 i := fun i hi => (hax0 i (by omega) (by omega)).trans (hfa i hi)
  have hl : lv_has ls 6 [(5, .int (nI nj)), (0, .ref (al 0)), (1, .int (nI (k.2.1 nj))), (2, .int (k.2.2 (3 + nj) 1)), (3, .int (k.2.2 (3 + nj) 2)), (4, .int (k.2.2 (3 + nj) 3))] := by rw [hax0 0 (by omega) (by omega)]; exact hl
  refine lv_iload hx hb dX7_jet_102 (lv_at hl 0 rfl) ?_
  refine W.widen (k := 4) (n := 64) (Nat.le_of_ble_eq_true rfl) (Nat.le_of_ble_eq_true rfl) ?_
  exact W.iret (v := nI nj) hx hb hr (fun tz htz hW => ⟨⟨nI nj, (al, c), rfl, ⟨rfl, ⟨⟨u0, (gUB_j hB1 hnj hpp (fun i h1 h2 h3 h4 h5 => (hfc i (by omega)).trans (congrFun hc0 i)) (fun i h1 h2 h3 h4 => (hfa i (by omega)).trans (congrFun hal0 i)) l_3 e_2), (gUB_j hB2 hnj hpp (fun i h1 h2 h3 h4 h5 => (hfc i (by omega)).trans (congrFun hc0 i)) (fun i h1 h2 h3 h4 => (hfa i (by omega)).trans (congrFun hal0 i)) l_6 e_5), gUF_o hUF (by decide) hns (fun i h1 => (hfc i (by omega)).trans (congrFun hc0 i)) (fun i h1 => (hfa i (by omega)).trans (congrFun hal0 i)), ((hfc 999 (by omega)).trans ((congrFun hc0 999).trans u9))⟩, ((hfa 0 (by omega)).trans (congrFun hal0 0))⟩⟩, g_end htz hP⟩, hS.F htz⟩) hS.2.2 dX7_jet_104
set_option maxHeartbeats 4000000 in
set_option maxRecDepth 100000 in
theorem kX7_step (l : Launch) (G : gT) (al : Nat → Nat) (c : mC) (k : gC) (w : Nat → Nat → Int32) (ns : Nat → Nat) (nj : Nat) (f : Nat) (sx : Nat) (ns2 : Nat → Nat) (hU : gU G al k w 2 2 nj ns c) (hns : ∀ f, f < 2 → ns f ≤ 3) (hnj : nj ≤ 8) (hpp : ∀ j, j < nj → k.2.1 j < 2) (hf : f < 2) (hs0 : ns f = sx) (hs3 : sx < 3) (hn1 : ns2 f = sx + 1) (hn2 : ∀ f9, f9 ≠ f → ns2 f9 = ns f9) (h1 : ¬ w (3 * f + sx) 0 < 0) (h2 : ¬ 99 < w (3 * f + sx) 0) (h3 : ¬ w (3 * f + sx) 1 < 1) (h4 : ¬ 1023 < w (3 * f + sx) 1) (hv : ¬ mIsV (w (3 * f + sx) 2) = 0) : Met l yX7_step (fW yX7_step cX7_step 6 (some .int)) { frames := 7, cells := 2, slots := 25, locals := 149 } (gPre G al (c) [.ref (al 0), .int (nI f), .int (w (3 * f + sx) 0), .int (w (3 * f + sx) 1), .int (w (3 * f + sx) 2)]) (gQip (S := (Nat → Nat) × mC) G (fun u => gU G u.1 k w 2 2 nj ns2 u.2 ∧ u.1 0 = al 0) (fun u => nI (sx + 1)) (fun u => u.1) (fun u => u.2)) 2 25 (gA G) := by
  refine Met.ofW (cc := cX7_step) (maxL := 6) (ret := (some .int)) (by decide) rfl ?_
  intro pz ez s m args below meth c₀ s₁ Bo hml hv
  obtain ⟨rfl, hb0, hP, hE⟩ := hv
  have hx := Bo.exec
  have hb := Bo.bytes
  have hr := Bo.returns
  have hts0 := atoms_spec (ws := (fW yX7_step cX7_step 6 (some .int))) Bo.pre
  have hts : ∀ w ∈ fA, w.before _ s = true := fun w h => hts0 w (List.mem_cons_of_mem _ h)
  have hown : s.vm.findClass RX7 = some m.cls := findClass_of_methodNamed Bo.named
  have hlocks := Bo.notSynchronized
  have hl := lv_entry ([.ref (al 0), .int (nI f), .int (w (3 * f + sx) 0), .int (w (3 * f + sx) 1), .int (w (3 * f + sx) 2)]) (n := 6) (Nat.le_of_ble_eq_true rfl)
  rw [lg_entry_eq]
  generalize (lg_sl ([.ref (al 0), .int (nI f), .int (w (3 * f + sx) 0), .int (w (3 * f + sx) 1), .int (w (3 * f + sx) 2)]) ++ List.replicate (6 - (lg_sl ([.ref (al 0), .int (nI f), .int (w (3 * f + sx) 0), .int (w (3 * f + sx) 1), .int (w (3 * f + sx) 2)])).length) Slot.unset).toArray = ls at hl ⊢
  have hl : lv_has ls 6 [(0, .ref (al 0)), (1, .int (nI f)), (2, .int (w (3 * f + sx) 0)), (3, .int (w (3 * f + sx) 1)), (4, .int (w (3 * f + sx) 2))] := hl
  have hU9 := hU
  obtain ⟨u0, hB1, hB2, hUF, u9⟩ := hU9
  have f1 := hUF.1
  have f2 := (hUF.2.1 f hf).1
  have f3 := (hUF.2.1 f hf).2
  rw [hs0] at f3
  obtain ⟨al0, hal0⟩ : ∃ z, z = al := ⟨_, rfl⟩
  obtain ⟨c0, hc0⟩ : ∃ z, z = c := ⟨_, rfl⟩
  have hfc : ∀ i, (i ≠ 12 + f ∧ i ≠ 14 + f ∧ i ≠ 20 + (3 * f + sx)) → c i = c0 i := fun i _ => by rw [hc0]
  have hfa : ∀ i, (i ≠ 14 + f ∧ i ≠ 20 + (3 * f + sx)) → al i = al0 i := fun i _ => by rw [hal0]
  generalize (#[.ref (al 0), .int (nI f), .int (w (3 * f + sx) 0), .int (w (3 * f + sx) 1), .int (w (3 * f + sx) 2)] : Array Value) = ar9 at hts ⊢
  refine g_start hP (fun H hP hS => ?_)
  refine lv_aload_n hx hb dX7_step_0 rfl (lv_at hl 0 rfl) ?_
  refine lv_iload_n hx hb dX7_step_1 rfl (lv_at hl 1 rfl) ?_
  refine g_aft_r (g_runV (As := [.int (nI f)]) (rest := []) hx hb hml hown hts (kX7_figureNumbered_u l G al c f u0 f1 hf f2) (fcwV 1 hts q409 q410 q411 q148 q404 rfl rfl (by decide +kernel) ⟨(Nat.le_of_ble_eq_true rfl), (Nat.le_of_ble_eq_true rfl)⟩) hE hb0 hP hS (m_recvA hE hP 0 rfl u0 rfl) rfl hl.1 rfl (Nat.le_of_ble_eq_true rfl) dX7_step_2 ⟨(Nat.le_of_ble_eq_true rfl), (Nat.le_of_ble_eq_true rfl)⟩) hS (fun u H locs hP hS => ?_)
  refine g_topr (v := al (10 + f)) rfl ?_
  refine lv_astore (lv' := [(5, .ref (al (10 + f))), (0, .ref (al 0)), (1, .int (nI f)), (2, .int (w (3 * f + sx) 0)), (3, .int (w (3 * f + sx) 1)), (4, .int (w (3 * f + sx) 2))]) hx hb dX7_step_5 hl (by decide) rfl (fun ls hl => ?_)
  refine lv_iload_n hx hb dX7_step_7 rfl (lv_at hl 3 rfl) ?_
  refine lv_if_lt (tgt := 37) hx hb dX7_step_8 (by decide) (fun h => absurd h h1) (fun _ => ?_)
  refine lv_iload_n hx hb dX7_step_11 rfl (lv_at hl 3 rfl) ?_
  refine lv_bipush (v := 99) hx hb dX7_step_12 (by decide) ?_
  refine lv_icmp_gt (tgt := 37) hx hb dX7_step_14 (by decide) (fun h => absurd h h2) (fun _ => ?_)
  refine lv_iload_n hx hb dX7_step_17 rfl (lv_at hl 4 rfl) ?_
  refine lv_iconst (v := 1) hx hb dX7_step_18 (by decide) ?_
  refine lv_icmp_lt (tgt := 37) hx hb dX7_step_19 (by decide) (fun h => absurd h h3) (fun _ => ?_)
  refine lv_iload_n hx hb dX7_step_22 rfl (lv_at hl 4 rfl) ?_
  refine lv_sipush (v := 1023) hx hb dX7_step_23 (by decide) ?_
  refine lv_icmp_gt (tgt := 37) hx hb dX7_step_26 (by decide) (fun h => absurd h h4) (fun _ => ?_)
  refine lv_iload hx hb dX7_step_29 (lv_at hl 5 rfl) ?_
  refine g_aft_i (g_runS (As := [.int (w (3 * f + sx) 2)]) (rest := []) hx hb hml hown hts (kX7_isValue l G al c (w (3 * f + sx) 2)) (fcwS 1 hts q412 q413 q148 q405 rfl rfl (by decide +kernel) ⟨(Nat.le_of_ble_eq_true rfl), (Nat.le_of_ble_eq_true rfl)⟩) hE hb0 hP hS rfl hl.1 rfl (Nat.le_of_ble_eq_true rfl) dX7_step_31 ⟨(Nat.le_of_ble_eq_true rfl), (Nat.le_of_ble_eq_true rfl)⟩) hS (fun u H locs hP hS => ?_)
  refine f_topi (v := mIsV (w (3 * f + sx) 2)) rfl ?_
  refine lv_if_ne (tgt := 47) hx hb dX7_step_34 (by decide) (fun _ => ?_) (fun h => absurd h hv)
  refine lv_aload hx hb dX7_step_47 (lv_at hl 0 rfl) ?_
  refine m_get (C := RX2) (T := TX2) (N := 1) (ci := 3) (v := .ref (al (12 + f))) hx hb hts uX2 hown hE hP (10 + f) rfl f2 rfl 0 (by decide) (hts _ q406) (fun _ h9 => h9) rfl dX7_step_49 ?_
  refine g_aft_i (g_runV (As := []) (rest := []) hx hb hml hown hts (kJx4a65c_size_8abf5 l G al c (12 + f) (14 + f) sx (fun z => 20 + (3 * f + z)) f3) (fcwV 0 hts q380 q53 q54 q50 q34 rfl rfl (by decide +kernel) ⟨(Nat.le_of_ble_eq_true rfl), (Nat.le_of_ble_eq_true rfl)⟩) hE hb0 hP hS (m_recvL hE hP f3 rfl) rfl hl.1 rfl (Nat.le_of_ble_eq_true rfl) dX7_step_52 ⟨(Nat.le_of_ble_eq_true rfl), (Nat.le_of_ble_eq_true rfl)⟩) hS (fun u H locs hP hS => ?_)
  refine f_topi (v := nI sx) rfl ?_
  refine lv_bipush (v := 8) hx hb dX7_step_55 (by decide) ?_
  refine lv_icmp_lt (tgt := 70) hx hb dX7_step_57 (by decide) (fun _ => ?_) (fun h => absurd (nI_lt (b := 8) (by omega) (by omega)) h)
  refine lv_aload hx hb dX7_step_70 (lv_at hl 0 rfl) ?_
  refine m_get (C := RX2) (T := TX2) (N := 1) (ci := 3) (v := .ref (al (12 + f))) hx hb hts uX2 hown hE hP (10 + f) rfl f2 rfl 0 (by decide) (hts _ q406) (fun _ h9 => h9) rfl dX7_step_72 ?_
  refine m_new (20 + (3 * f + sx)) (ci := 7) (fs := [.int 0, .int 0, .int 0]) (C := RX6) (T := TX6) (N := 3) hx hb hts uX6 tyX6 tyX6_ok hown (hts _ q407) (hts _ q408) (hts _ q224) hE hb0 hP hS rfl (fun j hj => by rcases f_lt3 hj with rfl | rfl | rfl <;> rfl) (Nat.le_of_ble_eq_true rfl) (Nat.le_of_ble_eq_true rfl) dX7_step_75 (fun n_1 H hP hS => ?_)
  have hP : mP G (va_up al (20 + (3 * f + sx)) n_1) (up c (20 + (3 * f + sx)) (.inr (7, [.int 0, .int 0, .int 0]))) H := hP
  have hax0 : ∀ x, x ≠ 20 + (3 * f + sx) → va_up al (20 + (3 * f + sx)) n_1 x = al x := fun x hx => au_n _ _ hx
  have has0 : va_up al (20 + (3 * f + sx)) n_1 (20 + (3 * f + sx)) = n_1 := au_s _ _ _
  obtain ⟨al, hau⟩ : ∃ z, z = va_up al (20 + (3 * f + sx)) n_1 := ⟨_, rfl⟩
  rw [← hau] at hax0 has0 hP
  have hcx0 : ∀ x, x ≠ 20 + (3 * f + sx) → (up c (20 + (3 * f + sx)) (.inr (7, [.int 0, .int 0, .int 0]))) x = c x := fun x hx => up_n _ _ hx
  have hcs0 : (up c (20 + (3 * f + sx)) (.inr (7, [.int 0, .int 0, .int 0]))) (20 + (3 * f + sx)) = some (.inr (7, [.int 0, .int 0, .int 0])) := up_s _ _ _
  obtain ⟨c, hcu⟩ : ∃ z, z = up c (20 + (3 * f + sx)) (.inr (7, [.int 0, .int 0, .int 0])) := ⟨_, rfl⟩
  rw [← hcu] at hcx0 hcs0 hP
  have u0 : c 0 = some (.inr (8, [.ref (al 1), .ref (al 100), .ref (al 200)])) := by rw [hcx0 0 (by omega), hax0 1 (by omega), hax0 100 (by omega), hax0 200 (by omega)]; exact u0
  have f2 : c (10 + f) = some (.inr (3, [.ref (al (12 + f))])) := by rw [hcx0 (10 + f) (by omega), hax0 (12 + f) (by omega)]; exact f2
  have f1 : gLs G al c 1 2 2 (fun z => 10 + z) := (gLs_al (gLs_cv f1 (hcx0 _ (by omega)) (hcx0 _ (by omega))) (hax0 _ (by omega)) (fun z hz => hax0 _ (by show 10 + z ≠ 20 + (3 * f + sx); omega)))
  have f3 : gLs G al c (12 + f) (14 + f) sx (fun z => 20 + (3 * f + z)) := (gLs_al (gLs_cv f3 (hcx0 _ (by omega)) (hcx0 _ (by omega))) (hax0 _ (by omega)) (fun z hz => hax0 _ (by show 20 + (3 * f + z) ≠ 20 + (3 * f + sx); omega)))
  have hfc : ∀ i, (i ≠ 12 + f ∧ i ≠ 14 + f ∧ i ≠ 20 + (3 * f + sx)) → c i = c0 i := fun i hi => (hcx0 i (by omega)).trans (hfc i hi)
  have hfa : ∀ i, (i ≠ 14 + f ∧ i ≠ 20 + (3 * f + sx)) → al i = al0 i := fun i hi => (hax0 i (by omega)).trans (hfa i hi)
  have e_2 : c (20 + (3 * f + sx)) = some (.inr (7, [.int 0, .int 0, .int 0])) := hcs0
  rw [← has0]
  have hl : lv_has ls 6 [(5, .ref (al (10 + f))), (0, .ref (al 0)), (1, .int (nI f)), (2, .int (w (3 * f + sx) 0)), (3, .int (w (3 * f + sx) 1)), (4, .int (w (3 * f + sx) 2))] := by rw [hax0 0 (by omega), hax0 (10 + f) (by omega)]; exact hl
  rw [← hax0 (12 + f) (by omega)]
  refine lv_dup hx hb dX7_step_78 rfl ?_
  refine lv_iload_n hx hb dX7_step_79 rfl (lv_at hl 3 rfl) ?_
  refine lv_iload_n hx hb dX7_step_80 rfl (lv_at hl 4 rfl) ?_
  refine lv_iload hx hb dX7_step_81 (lv_at hl 5 rfl) ?_
  refine g_aft_v (g_runI (As := [.int (w (3 * f + sx) 0), .int (w (3 * f + sx) 1), .int (w (3 * f + sx) 2)]) (rest := [.ref (al (20 + (3 * f + sx))), .ref (al (12 + f))]) hx hb hml hown hts (kX6_init l G al c (20 + (3 * f + sx)) (w (3 * f + sx) 0) (w (3 * f + sx) 1) (w (3 * f + sx) 2) e_2) (fcwI 3 hts q414 q415 q224 q359 rfl rfl rfl (by decide +kernel) ⟨(Nat.le_of_ble_eq_true rfl), (Nat.le_of_ble_eq_true rfl)⟩) hE hb0 hP hS rfl hl.1 rfl (Nat.le_of_ble_eq_true rfl) dX7_step_83 ⟨(Nat.le_of_ble_eq_true rfl), (Nat.le_of_ble_eq_true rfl)⟩) hS (fun u H locs hP hS => ?_)
  have hP : mP G al (up c (20 + (3 * f + sx)) (.inr (7, [.int (w (3 * f + sx) 0), .int (w (3 * f + sx) 1), .int (w (3 * f + sx) 2)]))) H := hP
  have hcx0 : ∀ x, x ≠ 20 + (3 * f + sx) → (up c (20 + (3 * f + sx)) (.inr (7, [.int (w (3 * f + sx) 0), .int (w (3 * f + sx) 1), .int (w (3 * f + sx) 2)]))) x = c x := fun x hx => up_n _ _ hx
  have hcs0 : (up c (20 + (3 * f + sx)) (.inr (7, [.int (w (3 * f + sx) 0), .int (w (3 * f + sx) 1), .int (w (3 * f + sx) 2)]))) (20 + (3 * f + sx)) = some (.inr (7, [.int (w (3 * f + sx) 0), .int (w (3 * f + sx) 1), .int (w (3 * f + sx) 2)])) := up_s _ _ _
  obtain ⟨c, hcu⟩ : ∃ z, z = up c (20 + (3 * f + sx)) (.inr (7, [.int (w (3 * f + sx) 0), .int (w (3 * f + sx) 1), .int (w (3 * f + sx) 2)])) := ⟨_, rfl⟩
  rw [← hcu] at hcx0 hcs0 hP
  have u0 : c 0 = some (.inr (8, [.ref (al 1), .ref (al 100), .ref (al 200)])) := by rw [hcx0 0 (by omega)]; exact u0
  have f2 : c (10 + f) = some (.inr (3, [.ref (al (12 + f))])) := by rw [hcx0 (10 + f) (by omega)]; exact f2
  have f1 : gLs G al c 1 2 2 (fun z => 10 + z) := (gLs_cv f1 (hcx0 _ (by omega)) (hcx0 _ (by omega)))
  have f3 : gLs G al c (12 + f) (14 + f) sx (fun z => 20 + (3 * f + z)) := (gLs_cv f3 (hcx0 _ (by omega)) (hcx0 _ (by omega)))
  have hfc : ∀ i, (i ≠ 12 + f ∧ i ≠ 14 + f ∧ i ≠ 20 + (3 * f + sx)) → c i = c0 i := fun i hi => (hcx0 i (by omega)).trans (hfc i hi)
  have e_2 : c (20 + (3 * f + sx)) = some (.inr (7, [.int (w (3 * f + sx) 0), .int (w (3 * f + sx) 1), .int (w (3 * f + sx) 2)])) := hcs0
  refine g_aft_ip (g_runV (As := [.ref (al (20 + (3 * f + sx)))]) (rest := []) hx hb hml hown hts (kJx4a65c_add_9ea2d l G al c (12 + f) (14 + f) sx (fun z => 20 + (3 * f + z)) (20 + (3 * f + sx)) 7 ([.int (w (3 * f + sx) 0), .int (w (3 * f + sx) 1), .int (w (3 * f + sx) 2)]) _ f3 e_2 rfl (by decide +kernel) (by omega) (by omega) (by omega) (by omega) (fun i hi => by show 20 + (3 * f + i) ≠ 14 + f; omega) (fun i hi => by show 20 + (3 * f + i) ≠ 12 + f; omega) (Or.inl (by omega))) (fcwV 1 hts q383 q132 q133 q50 q127 rfl rfl (by decide +kernel) ⟨(Nat.le_of_ble_eq_true rfl), (Nat.le_of_ble_eq_true rfl)⟩) hE hb0 hP hS (m_recvL hE hP f3 rfl) rfl hl.1 rfl (Nat.le_of_ble_eq_true rfl) dX7_step_86 ⟨(Nat.le_of_ble_eq_true rfl), (Nat.le_of_ble_eq_true rfl)⟩) hS (fun u_3 H locs hu_3 hP hS => ?_)
  obtain ⟨al, c⟩ := u_3
  have hP : mP G al c H := hP
  obtain ⟨hL9, hcx0, hax0⟩ := hu_3
  dsimp only at hL9 hcx0 hax0
  have u0 : c 0 = some (.inr (8, [.ref (al 1), .ref (al 100), .ref (al 200)])) := by rw [hcx0 0 (by omega) (by omega), hax0 1 (by omega), hax0 100 (by omega), hax0 200 (by omega)]; exact u0
  have f2 : c (10 + f) = some (.inr (3, [.ref (al (12 + f))])) := by rw [hcx0 (10 + f) (by omega) (by omega), hax0 (12 + f) (by omega)]; exact f2
  have e_2 : c (20 + (3 * f + sx)) = some (.inr (7, [.int (w (3 * f + sx) 0), .int (w (3 * f + sx) 1), .int (w (3 * f + sx) 2)])) := by rw [hcx0 (20 + (3 * f + sx)) (by omega) (by omega)]; exact e_2
  have f1 : gLs G al c 1 2 2 (fun z => 10 + z) := (gLs_al (gLs_cv f1 (hcx0 _ (by omega) (by omega)) (hcx0 _ (by omega) (by omega))) (hax0 _ (by omega)) (fun z hz => hax0 _ (by show 10 + z ≠ 14 + f; omega)))
  have hfc : ∀ i, (i ≠ 12 + f ∧ i ≠ 14 + f ∧ i ≠ 20 + (3 * f + sx)) → c i = c0 i := fun i hi => (hcx0 i (by omega) (by omega)).trans (hfc i hi)
  have hfa : ∀ i, (i ≠ 14 + f ∧ i ≠ 20 + (3 * f + sx)) → al i = al0 i := fun i hi => (hax0 i (by omega)).trans (hfa i hi)
  have f3 : gLs G al c (12 + f) (14 + f) (sx + 1) (fun z => 20 + (3 * f + z)) := gLs_al hL9 rfl (fun i hi => congrArg al (congrFun (va_up_id (fun z => 20 + (3 * f + z)) sx) i).symm)
  have hl : lv_has ls 6 [(5, .ref (al (10 + f))), (0, .ref (al 0)), (1, .int (nI f)), (2, .int (w (3 * f + sx) 0)), (3, .int (w (3 * f + sx) 1)), (4, .int (w (3 * f + sx) 2))] := by rw [hax0 0 (by omega), hax0 (10 + f) (by omega)]; exact hl
  refine f_topi (v := 1) rfl ?_
  refine lv_pop hx hb dX7_step_89 rfl ?_
  refine lv_aload hx hb dX7_step_90 (lv_at hl 0 rfl) ?_
  refine m_get (C := RX2) (T := TX2) (N := 1) (ci := 3) (v := .ref (al (12 + f))) hx hb hts uX2 hown hE hP (10 + f) rfl f2 rfl 0 (by decide) (hts _ q406) (fun _ h9 => h9) rfl dX7_step_92 ?_
  refine g_aft_i (g_runV (As := []) (rest := []) hx hb hml hown hts (kJx4a65c_size_8abf5 l G al c (12 + f) (14 + f) (sx + 1) (fun z => 20 + (3 * f + z)) f3) (fcwV 0 hts q380 q53 q54 q50 q34 rfl rfl (by decide +kernel) ⟨(Nat.le_of_ble_eq_true rfl), (Nat.le_of_ble_eq_true rfl)⟩) hE hb0 hP hS (m_recvL hE hP f3 rfl) rfl hl.1 rfl (Nat.le_of_ble_eq_true rfl) dX7_step_95 ⟨(Nat.le_of_ble_eq_true rfl), (Nat.le_of_ble_eq_true rfl)⟩) hS (fun u H locs hP hS => ?_)
  refine f_topi (v := nI (sx + 1)) rfl ?_
  refine W.widen (k := 2) (n := 25) (Nat.le_of_ble_eq_true rfl) (Nat.le_of_ble_eq_true rfl) ?_
  exact W.iret (v := nI (sx + 1)) hx hb hr (fun tz htz hW => ⟨⟨nI (sx + 1), (al, c), rfl, ⟨rfl, ⟨⟨u0, gUB_o hB1 (by decide) hnj hpp (fun i h1 h2 => (hfc i (by omega)).trans (congrFun hc0 i)) (fun i h1 h2 => (hfa i (by omega)).trans (congrFun hal0 i)), gUB_o hB2 (by decide) hnj hpp (fun i h1 h2 => (hfc i (by omega)).trans (congrFun hc0 i)) (fun i h1 h2 => (hfa i (by omega)).trans (congrFun hal0 i)), gUF_s hUF hf hs0 hs3 hns hn1 hn2 (fun i h1 h2 h3 h4 => (hfc i (by omega)).trans (congrFun hc0 i)) (fun i h1 h2 h3 => (hfa i (by omega)).trans (congrFun hal0 i)) f3 e_2, ((hfc 999 (by omega)).trans ((congrFun hc0 999).trans u9))⟩, ((hfa 0 (by omega)).trans (congrFun hal0 0))⟩⟩, g_end htz hP⟩, hS.F htz⟩) hS.2.2 dX7_step_98
