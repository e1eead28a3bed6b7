set_option maxHeartbeats 4000000 in
set_option maxRecDepth 100000 in
theorem kX7_pumpNumbered (l : Launch) (G : gT) (al : Nat → Nat) (k : gC) (h : gK) (c : mC) (g : St) (t : St) (p : Nat) (hX : gX G al k h c) (hp : p < 2) : Met l yX7_pumpNumbered (fW yX7_pumpNumbered cX7_pumpNumbered 2 (some (.object "JetWaltz$Pump"))) { frames := 3, cells := 0, slots := 0, locals := 64 } (gPre G al (w2 G al k c g t) [.ref (al 0), .int (nI p)]) (gQr (S := Unit) G (fun _ => al (100 + 11 + p)) (fun _ => al) (fun _ => w2 G al k c g t)) 0 0 (gA G) := by
  refine Met.ofW (cc := cX7_pumpNumbered) (maxL := 2) (ret := (some (.object "JetWaltz$Pump"))) (by decide) rfl ?_
  intro pz ez s m args below meth c₀ s₁ Bo hml hv
  obtain ⟨rfl, hb0, hP, hE⟩ := hv
  have hx := Bo.exec
  have hb := Bo.bytes
  have hr := Bo.returns
  have hts0 := atoms_spec (ws := (fW yX7_pumpNumbered cX7_pumpNumbered 2 (some (.object "JetWaltz$Pump")))) Bo.pre
  have hts : ∀ w ∈ fA, w.before _ s = true := fun w h => hts0 w (List.mem_cons_of_mem _ h)
  have hown : s.vm.findClass RX7 = some m.cls := findClass_of_methodNamed Bo.named
  have hlocks := Bo.notSynchronized
  have hl := lv_entry ([.ref (al 0), .int (nI p)]) (n := 2) (Nat.le_of_ble_eq_true rfl)
  rw [lg_entry_eq]
  generalize (lg_sl ([.ref (al 0), .int (nI p)]) ++ List.replicate (2 - (lg_sl ([.ref (al 0), .int (nI p)])).length) Slot.unset).toArray = ls at hl ⊢
  have hl : lv_has ls 2 [(0, .ref (al 0)), (1, .int (nI p))] := hl
  have hJ := gX_J hX
  refine g_start hP (fun H hP hS => ?_)
  refine lv_iload_n hx hb dX7_pumpNumbered_0 rfl (lv_at hl 1 rfl) ?_
  refine lv_if_lt (tgt := 18) hx hb dX7_pumpNumbered_1 (by decide) (fun h => absurd h (nI_pos (by omega))) (fun _ => ?_)
  refine lv_iload_n hx hb dX7_pumpNumbered_4 rfl (lv_at hl 1 rfl) ?_
  refine lv_aload_n hx hb dX7_pumpNumbered_5 rfl (lv_at hl 0 rfl) ?_
  refine m_get (C := RX7) (T := TX7) (N := 3) (ci := 8) (v := .ref (al 100)) hx hb hts uX7 hown hE hP 0 rfl (gX_0 hX) rfl 1 (by decide) (hts _ q368) (fun _ h9 => h9) rfl dX7_pumpNumbered_6 ?_
  refine m_get (C := RX5) (T := TX5) (N := 15) (ci := 6) (v := .ref (al (100 + 1))) hx hb hts uX5 hown hE hP 100 rfl ((congrFun (w2_c hJ) _).trans ov_s) rfl 0 (by decide) (hts _ q377) (fun _ h9 => h9) rfl dX7_pumpNumbered_9 ?_
  refine g_aft_i (g_runV (As := []) (rest := [.int (nI p)]) hx hb hml hown hts (kJx4a65c_size_8abf5 l G al (w2 G al k c g t) (100 + 1) (100 + 2) 2 (fun p => 100 + 11 + p) ((w2_c (G := G) (al := al) (c := c) (g := g) (t := t) hJ) ▸ (gF_p (gF_o2 (gX_1 hX))) : gLs G al (w2 G al k c g t) (100 + 1) (100 + 2) 2 (fun p => 100 + 11 + p))) (fcwV 0 hts q380 q53 q54 q50 q34 rfl rfl (by decide +kernel) ⟨(Nat.le_of_ble_eq_true rfl), (Nat.le_of_ble_eq_true rfl)⟩) hE hb0 hP hS (m_recvL hE hP ((w2_c (G := G) (al := al) (c := c) (g := g) (t := t) hJ) ▸ (gF_p (gF_o2 (gX_1 hX))) : gLs G al (w2 G al k c g t) (100 + 1) (100 + 2) 2 (fun p => 100 + 11 + p)) rfl) rfl hl.1 rfl (Nat.le_of_ble_eq_true rfl) dX7_pumpNumbered_12 ⟨(Nat.le_of_ble_eq_true rfl), (Nat.le_of_ble_eq_true rfl)⟩) hS (fun u H locs hP hS => ?_)
  refine f_topi (v := nI 2) rfl ?_
  refine lv_icmp_lt (tgt := 29) hx hb dX7_pumpNumbered_15 (by decide) (fun _ => ?_) (fun h => absurd (nI_lt (b := 2) hp (by omega)) h)
  refine lv_aload_n hx hb dX7_pumpNumbered_29 rfl (lv_at hl 0 rfl) ?_
  refine m_get (C := RX7) (T := TX7) (N := 3) (ci := 8) (v := .ref (al 100)) hx hb hts uX7 hown hE hP 0 rfl (gX_0 hX) rfl 1 (by decide) (hts _ q368) (fun _ h9 => h9) rfl dX7_pumpNumbered_30 ?_
  refine m_get (C := RX5) (T := TX5) (N := 15) (ci := 6) (v := .ref (al (100 + 1))) hx hb hts uX5 hown hE hP 100 rfl ((congrFun (w2_c hJ) _).trans ov_s) rfl 0 (by decide) (hts _ q377) (fun _ h9 => h9) rfl dX7_pumpNumbered_33 ?_
  refine lv_iload_n hx hb dX7_pumpNumbered_36 rfl (lv_at hl 1 rfl) ?_
  refine g_aft_r (g_runV (As := [.int (nI p)]) (rest := []) hx hb hml hown hts (kJx4a65c_get_915e3 l G al (w2 G al k c g t) (100 + 1) (100 + 2) 2 (fun p => 100 + 11 + p) p ((w2_c (G := G) (al := al) (c := c) (g := g) (t := t) hJ) ▸ (gF_p (gF_o2 (gX_1 hX))) : gLs G al (w2 G al k c g t) (100 + 1) (100 + 2) 2 (fun p => 100 + 11 + p)) hp) (fcwV 1 hts q388 q56 q57 q50 q43 rfl rfl (by decide +kernel) ⟨(Nat.le_of_ble_eq_true rfl), (Nat.le_of_ble_eq_true rfl)⟩) hE hb0 hP hS (m_recvL hE hP ((w2_c (G := G) (al := al) (c := c) (g := g) (t := t) hJ) ▸ (gF_p (gF_o2 (gX_1 hX))) : gLs G al (w2 G al k c g t) (100 + 1) (100 + 2) 2 (fun p => 100 + 11 + p)) rfl) rfl hl.1 rfl (Nat.le_of_ble_eq_true rfl) dX7_pumpNumbered_37 ⟨(Nat.le_of_ble_eq_true rfl), (Nat.le_of_ble_eq_true rfl)⟩) hS (fun u H locs hP hS => ?_)
  refine g_topr (v := al (100 + 11 + p)) rfl ?_
  refine m_cast hx hb hown (hts _ q387) hE hP (100 + 11 + p) rfl ((congrFun (w2_c hJ) _).trans (ov_p hp)) rfl dX7_pumpNumbered_40 ?_
  refine W.widen (k := 0) (n := 0) (Nat.le_of_ble_eq_true rfl) (Nat.le_of_ble_eq_true rfl) ?_
  exact W.aret hx hb hr (Or.inl ⟨_, rfl⟩) (Or.inr ⟨_, rfl⟩) (fun tz htz hW => ⟨⟨(), al (100 + 11 + p), rfl, trivial, rfl, g_end htz hP⟩, hS.F htz⟩) hS.2.2 dX7_pumpNumbered_43
set_option maxHeartbeats 4000000 in
set_option maxRecDepth 100000 in
theorem kX7_jetNumbered (l : Launch) (G : gT) (al : Nat → Nat) (k : gC) (h : gK) (c : mC) (g : St) (t : St) (j : Nat) (hX : gX G al k h c) (hj : j < k.1) : Met l yX7_jetNumbered (fW yX7_jetNumbered cX7_jetNumbered 2 (some (.object "JetWaltz$Jet"))) { frames := 3, cells := 0, slots := 0, locals := 64 } (gPre G al (w2 G al k c g t) [.ref (al 0), .int (nI j)]) (gQr (S := Unit) G (fun _ => al (100 + 20 + j)) (fun _ => al) (fun _ => w2 G al k c g t)) 0 0 (gA G) := by
  refine Met.ofW (cc := cX7_jetNumbered) (maxL := 2) (ret := (some (.object "JetWaltz$Jet"))) (by decide) rfl ?_
  intro pz ez s m args below meth c₀ s₁ Bo hml hv
  obtain ⟨rfl, hb0, hP, hE⟩ := hv
  have hx := Bo.exec
  have hb := Bo.bytes
  have hr := Bo.returns
  have hts0 := atoms_spec (ws := (fW yX7_jetNumbered cX7_jetNumbered 2 (some (.object "JetWaltz$Jet")))) Bo.pre
  have hts : ∀ w ∈ fA, w.before _ s = true := fun w h => hts0 w (List.mem_cons_of_mem _ h)
  have hown : s.vm.findClass RX7 = some m.cls := findClass_of_methodNamed Bo.named
  have hlocks := Bo.notSynchronized
  have hl := lv_entry ([.ref (al 0), .int (nI j)]) (n := 2) (Nat.le_of_ble_eq_true rfl)
  rw [lg_entry_eq]
  generalize (lg_sl ([.ref (al 0), .int (nI j)]) ++ List.replicate (2 - (lg_sl ([.ref (al 0), .int (nI j)])).length) Slot.unset).toArray = ls at hl ⊢
  have hl : lv_has ls 2 [(0, .ref (al 0)), (1, .int (nI j))] := hl
  have hJ := gX_J hX
  refine g_start hP (fun H hP hS => ?_)
  refine lv_iload_n hx hb dX7_jetNumbered_0 rfl (lv_at hl 1 rfl) ?_
  refine lv_if_lt (tgt := 18) hx hb dX7_jetNumbered_1 (by decide) (fun h => absurd h (nI_pos (by omega))) (fun _ => ?_)
  refine lv_iload_n hx hb dX7_jetNumbered_4 rfl (lv_at hl 1 rfl) ?_
  refine lv_aload_n hx hb dX7_jetNumbered_5 rfl (lv_at hl 0 rfl) ?_
  refine m_get (C := RX7) (T := TX7) (N := 3) (ci := 8) (v := .ref (al 100)) hx hb hts uX7 hown hE hP 0 rfl (gX_0 hX) rfl 1 (by decide) (hts _ q368) (fun _ h9 => h9) rfl dX7_jetNumbered_6 ?_
  refine m_get (C := RX5) (T := TX5) (N := 15) (ci := 6) (v := .ref (al (100 + 3))) hx hb hts uX5 hown hE hP 100 rfl ((congrFun (w2_c hJ) _).trans ov_s) rfl 1 (by decide) (hts _ q390) (fun _ h9 => h9) rfl dX7_jetNumbered_9 ?_
  refine g_aft_i (g_runV (As := []) (rest := [.int (nI j)]) hx hb hml hown hts (kJx4a65c_size_8abf5 l G al (w2 G al k c g t) (100 + 3) (100 + 4) k.1 (fun j => 100 + 20 + j) ((w2_c (G := G) (al := al) (c := c) (g := g) (t := t) hJ) ▸ (gF_j (gF_o2 (gX_1 hX))) : gLs G al (w2 G al k c g t) (100 + 3) (100 + 4) k.1 (fun j => 100 + 20 + j))) (fcwV 0 hts q380 q53 q54 q50 q34 rfl rfl (by decide +kernel) ⟨(Nat.le_of_ble_eq_true rfl), (Nat.le_of_ble_eq_true rfl)⟩) hE hb0 hP hS (m_recvL hE hP ((w2_c (G := G) (al := al) (c := c) (g := g) (t := t) hJ) ▸ (gF_j (gF_o2 (gX_1 hX))) : gLs G al (w2 G al k c g t) (100 + 3) (100 + 4) k.1 (fun j => 100 + 20 + j)) rfl) rfl hl.1 rfl (Nat.le_of_ble_eq_true rfl) dX7_jetNumbered_12 ⟨(Nat.le_of_ble_eq_true rfl), (Nat.le_of_ble_eq_true rfl)⟩) hS (fun u H locs hP hS => ?_)
  refine f_topi (v := nI k.1) rfl ?_
  refine lv_icmp_lt (tgt := 29) hx hb dX7_jetNumbered_15 (by decide) (fun _ => ?_) (fun h => absurd (nI_lt hj (by omega)) h)
  refine lv_aload_n hx hb dX7_jetNumbered_29 rfl (lv_at hl 0 rfl) ?_
  refine m_get (C := RX7) (T := TX7) (N := 3) (ci := 8) (v := .ref (al 100)) hx hb hts uX7 hown hE hP 0 rfl (gX_0 hX) rfl 1 (by decide) (hts _ q368) (fun _ h9 => h9) rfl dX7_jetNumbered_30 ?_
  refine m_get (C := RX5) (T := TX5) (N := 15) (ci := 6) (v := .ref (al (100 + 3))) hx hb hts uX5 hown hE hP 100 rfl ((congrFun (w2_c hJ) _).trans ov_s) rfl 1 (by decide) (hts _ q390) (fun _ h9 => h9) rfl dX7_jetNumbered_33 ?_
  refine lv_iload_n hx hb dX7_jetNumbered_36 rfl (lv_at hl 1 rfl) ?_
  refine g_aft_r (g_runV (As := [.int (nI j)]) (rest := []) hx hb hml hown hts (kJx4a65c_get_915e3 l G al (w2 G al k c g t) (100 + 3) (100 + 4) k.1 (fun j => 100 + 20 + j) j ((w2_c (G := G) (al := al) (c := c) (g := g) (t := t) hJ) ▸ (gF_j (gF_o2 (gX_1 hX))) : gLs G al (w2 G al k c g t) (100 + 3) (100 + 4) k.1 (fun j => 100 + 20 + j)) hj) (fcwV 1 hts q388 q56 q57 q50 q43 rfl rfl (by decide +kernel) ⟨(Nat.le_of_ble_eq_true rfl), (Nat.le_of_ble_eq_true rfl)⟩) hE hb0 hP hS (m_recvL hE hP ((w2_c (G := G) (al := al) (c := c) (g := g) (t := t) hJ) ▸ (gF_j (gF_o2 (gX_1 hX))) : gLs G al (w2 G al k c g t) (100 + 3) (100 + 4) k.1 (fun j => 100 + 20 + j)) rfl) rfl hl.1 rfl (Nat.le_of_ble_eq_true rfl) dX7_jetNumbered_37 ⟨(Nat.le_of_ble_eq_true rfl), (Nat.le_of_ble_eq_true rfl)⟩) hS (fun u H locs hP hS => ?_)
  refine g_topr (v := al (100 + 20 + j)) rfl ?_
  refine m_cast hx hb hown (hts _ q420) hE hP (100 + 20 + j) rfl ((congrFun (w2_c hJ) _).trans (ov_j hj)) rfl dX7_jetNumbered_40 ?_
  refine W.widen (k := 0) (n := 0) (Nat.le_of_ble_eq_true rfl) (Nat.le_of_ble_eq_true rfl) ?_
  exact W.aret hx hb hr (Or.inl ⟨_, rfl⟩) (Or.inr ⟨_, rfl⟩) (fun tz htz hW => ⟨⟨(), al (100 + 20 + j), rfl, trivial, rfl, g_end htz hP⟩, hS.F htz⟩) hS.2.2 dX7_jetNumbered_43
set_option maxHeartbeats 4000000 in
set_option maxRecDepth 100000 in
theorem kX7_figureNumbered (l : Launch) (G : gT) (al : Nat → Nat) (k : gC) (h : gK) (c : mC) (g : St) (t : St) (f : Nat) (hX : gX G al k h c) (hf : f < 2) : Met l yX7_figureNumbered (fW yX7_figureNumbered cX7_figureNumbered 2 (some (.object "JetWaltz$Figure"))) { frames := 3, cells := 0, slots := 0, locals := 64 } (gPre G al (w2 G al k c g t) [.ref (al 0), .int (nI f)]) (gQr (S := Unit) G (fun _ => al (10 + f)) (fun _ => al) (fun _ => w2 G al k c g t)) 0 0 (gA G) := by
  refine Met.ofW (cc := cX7_figureNumbered) (maxL := 2) (ret := (some (.object "JetWaltz$Figure"))) (by decide) rfl ?_
  intro pz ez s m args below meth c₀ s₁ Bo hml hv
  obtain ⟨rfl, hb0, hP, hE⟩ := hv
  have hx := Bo.exec
  have hb := Bo.bytes
  have hr := Bo.returns
  have hts0 := atoms_spec (ws := (fW yX7_figureNumbered cX7_figureNumbered 2 (some (.object "JetWaltz$Figure")))) Bo.pre
  have hts : ∀ w ∈ fA, w.before _ s = true := fun w h => hts0 w (List.mem_cons_of_mem _ h)
  have hown : s.vm.findClass RX7 = some m.cls := findClass_of_methodNamed Bo.named
  have hlocks := Bo.notSynchronized
  have hl := lv_entry ([.ref (al 0), .int (nI f)]) (n := 2) (Nat.le_of_ble_eq_true rfl)
  rw [lg_entry_eq]
  generalize (lg_sl ([.ref (al 0), .int (nI f)]) ++ List.replicate (2 - (lg_sl ([.ref (al 0), .int (nI f)])).length) Slot.unset).toArray = ls at hl ⊢
  have hl : lv_has ls 2 [(0, .ref (al 0)), (1, .int (nI f))] := hl
  have hJ := gX_J hX
  refine g_start hP (fun H hP hS => ?_)
  refine lv_iload_n hx hb dX7_figureNumbered_0 rfl (lv_at hl 1 rfl) ?_
  refine lv_if_lt (tgt := 15) hx hb dX7_figureNumbered_1 (by decide) (fun h => absurd h (nI_pos (by omega))) (fun _ => ?_)
  refine lv_iload_n hx hb dX7_figureNumbered_4 rfl (lv_at hl 1 rfl) ?_
  refine lv_aload_n hx hb dX7_figureNumbered_5 rfl (lv_at hl 0 rfl) ?_
  refine m_get (C := RX7) (T := TX7) (N := 3) (ci := 8) (v := .ref (al 1)) hx hb hts uX7 hown hE hP 0 rfl (gX_0 hX) rfl 0 (by decide) (hts _ q365) (fun _ h9 => h9) rfl dX7_figureNumbered_6 ?_
  refine g_aft_i (g_runV (As := []) (rest := [.int (nI f)]) hx hb hml hown hts (kJx4a65c_size_8abf5 l G al (w2 G al k c g t) 1 2 2 (fun i => 10 + i) (gX_l hX)) (fcwV 0 hts q380 q53 q54 q50 q34 rfl rfl (by decide +kernel) ⟨(Nat.le_of_ble_eq_true rfl), (Nat.le_of_ble_eq_true rfl)⟩) hE hb0 hP hS (m_recvL hE hP (gX_l hX) rfl) rfl hl.1 rfl (Nat.le_of_ble_eq_true rfl) dX7_figureNumbered_9 ⟨(Nat.le_of_ble_eq_true rfl), (Nat.le_of_ble_eq_true rfl)⟩) hS (fun u H locs hP hS => ?_)
  refine f_topi (v := nI 2) rfl ?_
  refine lv_icmp_lt (tgt := 26) hx hb dX7_figureNumbered_12 (by decide) (fun _ => ?_) (fun h => absurd (nI_lt (b := 2) hf (by omega)) h)
  refine lv_aload_n hx hb dX7_figureNumbered_26 rfl (lv_at hl 0 rfl) ?_
  refine m_get (C := RX7) (T := TX7) (N := 3) (ci := 8) (v := .ref (al 1)) hx hb hts uX7 hown hE hP 0 rfl (gX_0 hX) rfl 0 (by decide) (hts _ q365) (fun _ h9 => h9) rfl dX7_figureNumbered_27 ?_
  refine lv_iload_n hx hb dX7_figureNumbered_30 rfl (lv_at hl 1 rfl) ?_
  refine g_aft_r (g_runV (As := [.int (nI f)]) (rest := []) hx hb hml hown hts (kJx4a65c_get_915e3 l G al (w2 G al k c g t) 1 2 2 (fun i => 10 + i) f (gX_l hX) hf) (fcwV 1 hts q388 q56 q57 q50 q43 rfl rfl (by decide +kernel) ⟨(Nat.le_of_ble_eq_true rfl), (Nat.le_of_ble_eq_true rfl)⟩) hE hb0 hP hS (m_recvL hE hP (gX_l hX) rfl) rfl hl.1 rfl (Nat.le_of_ble_eq_true rfl) dX7_figureNumbered_31 ⟨(Nat.le_of_ble_eq_true rfl), (Nat.le_of_ble_eq_true rfl)⟩) hS (fun u H locs hP hS => ?_)
  refine g_topr (v := al (10 + f)) rfl ?_
  refine m_cast hx hb hown (hts _ q403) hE hP (10 + f) rfl (gX_f hX hf) rfl dX7_figureNumbered_34 ?_
  refine W.widen (k := 0) (n := 0) (Nat.le_of_ble_eq_true rfl) (Nat.le_of_ble_eq_true rfl) ?_
  exact W.aret hx hb hr (Or.inl ⟨_, rfl⟩) (Or.inr ⟨_, rfl⟩) (fun tz htz hW => ⟨⟨(), al (10 + f), rfl, trivial, rfl, g_end htz hP⟩, hS.F htz⟩) hS.2.2 dX7_figureNumbered_37
set_option maxHeartbeats 4000000 in
set_option maxRecDepth 100000 in
theorem kX7_wind (l : Launch) (G : gT) (al : Nat → Nat) (k : gC) (h : gK) (c : mC) (g : St) (t : St) (w : Int32) (gu : Int32) (hX : gX G al k h c) (h1 : ¬ w < (-4)) (h2 : ¬ 4 < w) (h3 : ¬ gu < 0) (h4 : gu ≤ 2) : Met l yX7_wind (fW yX7_wind cX7_wind 4 (some .int)) { frames := 0, cells := 0, slots := 0, locals := 0 } (gPre G al (w2 G al k c g t) [.ref (al 0), .int w, .int gu]) (gQi (S := Unit) G (fun _ => g 0 12) (fun _ => al) (fun _ => w2 G al k c (s2 (s2 g 0 12 w) 0 13 gu) t)) 0 0 (gA G) := by
  refine Met.ofW (cc := cX7_wind) (maxL := 4) (ret := (some .int)) (by decide) rfl ?_
  intro pz ez s m args below meth c₀ s₁ Bo hml hv
  obtain ⟨rfl, hb0, hP, hE⟩ := hv
  have hx := Bo.exec
  have hb := Bo.bytes
  have hr := Bo.returns
  have hts0 := atoms_spec (ws := (fW yX7_wind cX7_wind 4 (some .int))) Bo.pre
  have hts : ∀ w ∈ fA, w.before _ s = true := fun w h => hts0 w (List.mem_cons_of_mem _ h)
  have hown : s.vm.findClass RX7 = some m.cls := findClass_of_methodNamed Bo.named
  have hlocks := Bo.notSynchronized
  have hl := lv_entry ([.ref (al 0), .int w, .int gu]) (n := 4) (Nat.le_of_ble_eq_true rfl)
  rw [lg_entry_eq]
  generalize (lg_sl ([.ref (al 0), .int w, .int gu]) ++ List.replicate (4 - (lg_sl ([.ref (al 0), .int w, .int gu])).length) Slot.unset).toArray = ls at hl ⊢
  have hl : lv_has ls 4 [(0, .ref (al 0)), (1, .int w), (2, .int gu)] := hl
  have hJ := gX_J hX
  refine g_start hP (fun H hP hS => ?_)
  refine lv_iload_n hx hb dX7_wind_0 rfl (lv_at hl 1 rfl) ?_
  refine lv_bipush (v := (-4)) hx hb dX7_wind_1 (by decide) ?_
  refine lv_icmp_lt (tgt := 20) hx hb dX7_wind_3 (by decide) (fun h => absurd h h1) (fun _ => ?_)
  refine lv_iload_n hx hb dX7_wind_6 rfl (lv_at hl 1 rfl) ?_
  refine lv_iconst (v := 4) hx hb dX7_wind_7 (by decide) ?_
  refine lv_icmp_gt (tgt := 20) hx hb dX7_wind_8 (by decide) (fun h => absurd h h2) (fun _ => ?_)
  refine lv_iload_n hx hb dX7_wind_11 rfl (lv_at hl 2 rfl) ?_
  refine lv_if_lt (tgt := 20) hx hb dX7_wind_12 (by decide) (fun h => absurd h h3) (fun _ => ?_)
  refine lv_iload_n hx hb dX7_wind_15 rfl (lv_at hl 2 rfl) ?_
  refine lv_iconst (v := 2) hx hb dX7_wind_16 (by decide) ?_
  refine lv_icmp_le (tgt := 30) hx hb dX7_wind_17 (by decide) (fun _ => ?_) (fun h => absurd h4 h)
  refine lv_aload_n hx hb dX7_wind_30 rfl (lv_at hl 0 rfl) ?_
  refine m_get (C := RX7) (T := TX7) (N := 3) (ci := 8) (v := .ref (al 100)) hx hb hts uX7 hown hE hP 0 rfl (gX_0 hX) rfl 1 (by decide) (hts _ q368) (fun _ h9 => h9) rfl dX7_wind_31 ?_
  refine m_get (C := RX5) (T := TX5) (N := 15) (ci := 6) (v := .int (g 0 12)) hx hb hts uX5 hown hE hP 100 rfl ((congrFun (w2_c hJ) _).trans ov_s) rfl 12 (by decide) (hts _ q418) (fun _ h9 => h9) rfl dX7_wind_34 ?_
  refine lv_istore_n (lv' := [(3, .int (g 0 12)), (0, .ref (al 0)), (1, .int w), (2, .int gu)]) hx hb dX7_wind_37 rfl hl (by decide) rfl (fun ls hl => ?_)
  refine lv_aload_n hx hb dX7_wind_38 rfl (lv_at hl 1 rfl) ?_
  refine m_get (C := RX7) (T := TX7) (N := 3) (ci := 8) (v := .ref (al 100)) hx hb hts uX7 hown hE hP 0 rfl (gX_0 hX) rfl 1 (by decide) (hts _ q368) (fun _ h9 => h9) rfl dX7_wind_39 ?_
  refine lv_iload_n hx hb dX7_wind_42 rfl (lv_at hl 2 rfl) ?_
  refine m_put (v := .int w) (ty := .int) (C := RX5) (T := TX5) (N := 15) (ci := 6) hx hb hts uX5 tyX5 tyX5_ok nmX5 hown hE hP hS 100 rfl ((congrFun (w2_c hJ) _).trans ov_s) rfl 12 (by decide) (hts _ q418) (fun _ h9 => h9) rfl (by decide +kernel) rfl rfl (Nat.le_of_ble_eq_true rfl) dX7_wind_43 (fun H locs hP hS => ?_)
  have hP := m_cv hP (congrFun (congrArg (fun z => up z 100) (w2_c hJ)) _)
  have hP := m_cv hP (ov_us (r := upd (g 0) 12 w) rfl)
  have hP : mP G al (ov G al k 100 (ov G al k 200 c t) (s2 g 0 12 w)) H := hP
  have hP := m_cv hP (w2_c hJ).symm
  have hP : mP G al (w2 G al k c (s2 g 0 12 w) t) H := hP
  refine lv_aload_n hx hb dX7_wind_46 rfl (lv_at hl 1 rfl) ?_
  refine m_get (C := RX7) (T := TX7) (N := 3) (ci := 8) (v := .ref (al 100)) hx hb hts uX7 hown hE hP 0 rfl (gX_0 hX) rfl 1 (by decide) (hts _ q368) (fun _ h9 => h9) rfl dX7_wind_47 ?_
  refine lv_iload_n hx hb dX7_wind_50 rfl (lv_at hl 3 rfl) ?_
  refine m_put (v := .int gu) (ty := .int) (C := RX5) (T := TX5) (N := 15) (ci := 6) hx hb hts uX5 tyX5 tyX5_ok nmX5 hown hE hP hS 100 rfl ((congrFun (w2_c hJ) _).trans ov_s) rfl 13 (by decide) (hts _ q419) (fun _ h9 => h9) rfl (by decide +kernel) rfl rfl (Nat.le_of_ble_eq_true rfl) dX7_wind_51 (fun H locs hP hS => ?_)
  have hP := m_cv hP (congrFun (congrArg (fun z => up z 100) (w2_c hJ)) _)
  have hP := m_cv hP (ov_us (r := upd ((s2 g 0 12 w) 0) 13 gu) rfl)
  have hP : mP G al (ov G al k 100 (ov G al k 200 c t) (s2 (s2 g 0 12 w) 0 13 gu)) H := hP
  have hP := m_cv hP (w2_c hJ).symm
  have hP : mP G al (w2 G al k c (s2 (s2 g 0 12 w) 0 13 gu) t) H := hP
  refine lv_iload_n hx hb dX7_wind_54 rfl (lv_at hl 0 rfl) ?_
  refine W.widen (k := 0) (n := 0) (Nat.le_of_ble_eq_true rfl) (Nat.le_of_ble_eq_true rfl) ?_
  exact W.iret (v := g 0 12) hx hb hr (fun tz htz hW => ⟨⟨g 0 12, (), rfl, rfl, g_end htz hP⟩, hS.F htz⟩) hS.2.2 dX7_wind_55
set_option maxHeartbeats 4000000 in
set_option maxRecDepth 100000 in
theorem kX7_valve (l : Launch) (G : gT) (al : Nat → Nat) (k : gC) (h : gK) (c : mC) (g : St) (t : St) (j : Nat) (v : Int32) (hX : gX G al k h c) (hj : j < k.1) (h1 : ¬ v < 0) (h2 : v ≤ 4) (h3 : bz (g 0 14) = 0) : Met l yX7_valve (fW yX7_valve cX7_valve 5 (some .int)) { frames := 4, cells := 0, slots := 0, locals := 85 } (gPre G al (w2 G al k c g t) [.ref (al 0), .int (nI j), .int v]) (gQi (S := Unit) G (fun _ => g (3 + j) 4) (fun _ => al) (fun _ => w2 G al k c (s2 g (3 + j) 4 v) t)) 0 0 (gA G) := by
  refine Met.ofW (cc := cX7_valve) (maxL := 5) (ret := (some .int)) (by decide) rfl ?_
  intro pz ez s m args below meth c₀ s₁ Bo hml hv
  obtain ⟨rfl, hb0, hP, hE⟩ := hv
  have hx := Bo.exec
  have hb := Bo.bytes
  have hr := Bo.returns
  have hts0 := atoms_spec (ws := (fW yX7_valve cX7_valve 5 (some .int))) Bo.pre
  have hts : ∀ w ∈ fA, w.before _ s = true := fun w h => hts0 w (List.mem_cons_of_mem _ h)
  have hown : s.vm.findClass RX7 = some m.cls := findClass_of_methodNamed Bo.named
  have hlocks := Bo.notSynchronized
  have hl := lv_entry ([.ref (al 0), .int (nI j), .int v]) (n := 5) (Nat.le_of_ble_eq_true rfl)
  rw [lg_entry_eq]
  generalize (lg_sl ([.ref (al 0), .int (nI j), .int v]) ++ List.replicate (5 - (lg_sl ([.ref (al 0), .int (nI j), .int v])).length) Slot.unset).toArray = ls at hl ⊢
  have hl : lv_has ls 5 [(0, .ref (al 0)), (1, .int (nI j)), (2, .int v)] := hl
  have hJ := gX_J hX
  refine g_start hP (fun H hP hS => ?_)
  refine lv_aload_n hx hb dX7_valve_0 rfl (lv_at hl 0 rfl) ?_
  refine lv_iload_n hx hb dX7_valve_1 rfl (lv_at hl 1 rfl) ?_
  refine g_aft_r (g_runV (As := [.int (nI j)]) (rest := []) hx hb hml hown hts (kX7_jetNumbered l G al k h c g t j hX hj) (fcwV 1 hts q424 q425 q426 q148 q421 rfl rfl (by decide +kernel) ⟨(Nat.le_of_ble_eq_true rfl), (Nat.le_of_ble_eq_true rfl)⟩) hE hb0 hP hS (m_recvA hE hP 0 rfl (gX_0 hX) rfl) rfl hl.1 rfl (Nat.le_of_ble_eq_true rfl) dX7_valve_2 ⟨(Nat.le_of_ble_eq_true rfl), (Nat.le_of_ble_eq_true rfl)⟩) hS (fun u H locs hP hS => ?_)
  have hP : mP G al (w2 G al k c g t) H := hP
  refine g_topr (v := al (100 + 20 + j)) rfl ?_
  refine lv_astore_n (lv' := [(3, .ref (al (100 + 20 + j))), (0, .ref (al 0)), (1, .int (nI j)), (2, .int v)]) hx hb dX7_valve_5 rfl hl (by decide) rfl (fun ls hl => ?_)
  refine lv_iload_n hx hb dX7_valve_6 rfl (lv_at hl 3 rfl) ?_
  refine lv_if_lt (tgt := 15) hx hb dX7_valve_7 (by decide) (fun h => absurd h h1) (fun _ => ?_)
  refine lv_iload_n hx hb dX7_valve_10 rfl (lv_at hl 3 rfl) ?_
  refine lv_iconst (v := 4) hx hb dX7_valve_11 (by decide) ?_
  refine lv_icmp_le (tgt := 25) hx hb dX7_valve_12 (by decide) (fun _ => ?_) (fun h => absurd h2 h)
  refine lv_aload_n hx hb dX7_valve_25 rfl (lv_at hl 1 rfl) ?_
  refine m_get (C := RX7) (T := TX7) (N := 3) (ci := 8) (v := .ref (al 100)) hx hb hts uX7 hown hE hP 0 rfl (gX_0 hX) rfl 1 (by decide) (hts _ q368) (fun _ h9 => h9) rfl dX7_valve_26 ?_
  refine m_get (C := RX5) (T := TX5) (N := 15) (ci := 6) (v := .int (bz (g 0 14))) hx hb hts uX5 hown hE hP 100 rfl ((congrFun (w2_c hJ) _).trans ov_s) rfl 14 (by decide) (hts _ q422) (fun _ h9 => h9) rfl dX7_valve_29 ?_
  refine lv_if_eq (tgt := 45) hx hb dX7_valve_32 (by decide) (fun _ => ?_) (fun h => absurd h3 h)
  refine lv_aload_n hx hb dX7_valve_45 rfl (lv_at hl 0 rfl) ?_
  refine m_get (C := RX3) (T := TX3) (N := 10) (ci := 4) (v := .int (g (3 + j) 4)) hx hb hts uX3 hown hE hP (100 + 20 + j) rfl ((congrFun (w2_c hJ) _).trans (ov_j hj)) rfl 4 (by decide) (hts _ q423) (fun _ h9 => h9) rfl dX7_valve_46 ?_
  refine lv_istore (lv' := [(4, .int (g (3 + j) 4)), (3, .ref (al (100 + 20 + j))), (0, .ref (al 0)), (1, .int (nI j)), (2, .int v)]) hx hb dX7_valve_49 hl (by decide) rfl (fun ls hl => ?_)
  refine lv_aload_n hx hb dX7_valve_51 rfl (lv_at hl 1 rfl) ?_
  refine lv_iload_n hx hb dX7_valve_52 rfl (lv_at hl 4 rfl) ?_
  refine m_put (v := .int v) (ty := .int) (C := RX3) (T := TX3) (N := 10) (ci := 4) hx hb hts uX3 tyX3 tyX3_ok nmX3 hown hE hP hS (100 + 20 + j) rfl ((congrFun (w2_c hJ) _).trans (ov_j hj)) rfl 4 (by decide) (hts _ q423) (fun _ h9 => h9) rfl (by decide +kernel) rfl rfl (Nat.le_of_ble_eq_true rfl) dX7_valve_53 (fun H locs hP hS => ?_)
  have hP := m_cv hP (congrFun (congrArg (fun z => up z (100 + 20 + j)) (w2_c hJ)) _)
  have hP := m_cv hP (ov_uj (r := upd (g (3 + j)) 4 v) hj hJ rfl)
  have hP : mP G al (ov G al k 100 (ov G al k 200 c t) (s2 g (3 + j) 4 v)) H := hP
  have hP := m_cv hP (w2_c hJ).symm
  have hP : mP G al (w2 G al k c (s2 g (3 + j) 4 v) t) H := hP
  refine lv_iload hx hb dX7_valve_56 (lv_at hl 0 rfl) ?_
  refine W.widen (k := 0) (n := 0) (Nat.le_of_ble_eq_true rfl) (Nat.le_of_ble_eq_true rfl) ?_
  exact W.iret (v := g (3 + j) 4) hx hb hr (fun tz htz hW => ⟨⟨g (3 + j) 4, (), rfl, rfl, g_end htz hP⟩, hS.F htz⟩) hS.2.2 dX7_valve_58
set_option maxHeartbeats 4000000 in
set_option maxRecDepth 100000 in
theorem kX7_setting (l : Launch) (G : gT) (al : Nat → Nat) (k : gC) (h : gK) (c : mC) (g : St) (t : St) (p : Nat) (v : Int32) (hX : gX G al k h c) (hp : p < 2) (h1 : ¬ v < 0) (h2 : v ≤ 10) (h3 : bz (g 0 14) = 0) (h4 : bz (g (1 + p) 4) = 0) : Met l yX7_setting (fW yX7_setting cX7_setting 5 (some .int)) { frames := 4, cells := 0, slots := 0, locals := 85 } (gPre G al (w2 G al k c g t) [.ref (al 0), .int (nI p), .int v]) (gQi (S := Unit) G (fun _ => g (1 + p) 2) (fun _ => al) (fun _ => w2 G al k c (mSetTo g p v) t)) 0 0 (gA G) := by
  refine Met.ofW (cc := cX7_setting) (maxL := 5) (ret := (some .int)) (by decide) rfl ?_
  intro pz ez s m args below meth c₀ s₁ Bo hml hv
  obtain ⟨rfl, hb0, hP, hE⟩ := hv
  have hx := Bo.exec
  have hb := Bo.bytes
  have hr := Bo.returns
  have hts0 := atoms_spec (ws := (fW yX7_setting cX7_setting 5 (some .int))) Bo.pre
  have hts : ∀ w ∈ fA, w.before _ s = true := fun w h => hts0 w (List.mem_cons_of_mem _ h)
  have hown : s.vm.findClass RX7 = some m.cls := findClass_of_methodNamed Bo.named
  have hlocks := Bo.notSynchronized
  have hl := lv_entry ([.ref (al 0), .int (nI p), .int v]) (n := 5) (Nat.le_of_ble_eq_true rfl)
  rw [lg_entry_eq]
  generalize (lg_sl ([.ref (al 0), .int (nI p), .int v]) ++ List.replicate (5 - (lg_sl ([.ref (al 0), .int (nI p), .int v])).length) Slot.unset).toArray = ls at hl ⊢
  have hl : lv_has ls 5 [(0, .ref (al 0)), (1, .int (nI p)), (2, .int v)] := hl
  have hJ := gX_J hX
  refine g_start hP (fun H hP hS => ?_)
  refine lv_aload_n hx hb dX7_setting_0 rfl (lv_at hl 0 rfl) ?_
  refine lv_iload_n hx hb dX7_setting_1 rfl (lv_at hl 1 rfl) ?_
  refine g_aft_r (g_runV (As := [.int (nI p)]) (rest := []) hx hb hml hown hts (kX7_pumpNumbered l G al k h c g t p hX hp) (fcwV 1 hts q391 q392 q393 q148 q389 rfl rfl (by decide +kernel) ⟨(Nat.le_of_ble_eq_true rfl), (Nat.le_of_ble_eq_true rfl)⟩) hE hb0 hP hS (m_recvA hE hP 0 rfl (gX_0 hX) rfl) rfl hl.1 rfl (Nat.le_of_ble_eq_true rfl) dX7_setting_2 ⟨(Nat.le_of_ble_eq_true rfl), (Nat.le_of_ble_eq_true rfl)⟩) hS (fun u H locs hP hS => ?_)
  have hP : mP G al (w2 G al k c g t) H := hP
  refine g_topr (v := al (100 + 11 + p)) rfl ?_
  refine lv_astore_n (lv' := [(3, .ref (al (100 + 11 + p))), (0, .ref (al 0)), (1, .int (nI p)), (2, .int v)]) hx hb dX7_setting_5 rfl hl (by decide) rfl (fun ls hl => ?_)
  refine lv_iload_n hx hb dX7_setting_6 rfl (lv_at hl 3 rfl) ?_
  refine lv_if_lt (tgt := 16) hx hb dX7_setting_7 (by decide) (fun h => absurd h h1) (fun _ => ?_)
  refine lv_iload_n hx hb dX7_setting_10 rfl (lv_at hl 3 rfl) ?_
  refine lv_bipush (v := 10) hx hb dX7_setting_11 (by decide) ?_
  refine lv_icmp_le (tgt := 26) hx hb dX7_setting_13 (by decide) (fun _ => ?_) (fun h => absurd h2 h)
  refine lv_aload_n hx hb dX7_setting_26 rfl (lv_at hl 1 rfl) ?_
  refine m_get (C := RX7) (T := TX7) (N := 3) (ci := 8) (v := .ref (al 100)) hx hb hts uX7 hown hE hP 0 rfl (gX_0 hX) rfl 1 (by decide) (hts _ q368) (fun _ h9 => h9) rfl dX7_setting_27 ?_
  refine m_get (C := RX5) (T := TX5) (N := 15) (ci := 6) (v := .int (bz (g 0 14))) hx hb hts uX5 hown hE hP 100 rfl ((congrFun (w2_c hJ) _).trans ov_s) rfl 14 (by decide) (hts _ q422) (fun _ h9 => h9) rfl dX7_setting_30 ?_
  refine lv_if_ne (tgt := 43) hx hb dX7_setting_33 (by decide) (fun h => absurd h3 h) (fun _ => ?_)
  refine lv_aload_n hx hb dX7_setting_36 rfl (lv_at hl 0 rfl) ?_
  refine m_get (C := RX4) (T := TX4) (N := 6) (ci := 5) (v := .int (bz (g (1 + p) 4))) hx hb hts uX4 hown hE hP (100 + 11 + p) rfl ((congrFun (w2_c hJ) _).trans (ov_p hp)) rfl 4 (by decide) (hts _ q428) (fun _ h9 => h9) rfl dX7_setting_37 ?_
  refine lv_if_eq (tgt := 53) hx hb dX7_setting_40 (by decide) (fun _ => ?_) (fun h => absurd h4 h)
  refine lv_aload_n hx hb dX7_setting_53 rfl (lv_at hl 0 rfl) ?_
  refine m_get (C := RX4) (T := TX4) (N := 6) (ci := 5) (v := .int (g (1 + p) 2)) hx hb hts uX4 hown hE hP (100 + 11 + p) rfl ((congrFun (w2_c hJ) _).trans (ov_p hp)) rfl 2 (by decide) (hts _ q429) (fun _ h9 => h9) rfl dX7_setting_54 ?_
  refine lv_istore (lv' := [(4, .int (g (1 + p) 2)), (3, .ref (al (100 + 11 + p))), (0, .ref (al 0)), (1, .int (nI p)), (2, .int v)]) hx hb dX7_setting_57 hl (by decide) rfl (fun ls hl => ?_)
  refine lv_aload_n hx hb dX7_setting_59 rfl (lv_at hl 1 rfl) ?_
  refine lv_iload_n hx hb dX7_setting_60 rfl (lv_at hl 4 rfl) ?_
  have hP := m_cv hP (w2_c hJ)
  refine g_aft_v (g_runV (As := [.int v]) (rest := []) hx hb hml hown hts (kX4_setTo l G al k h 100 (ov G al k 200 c t) g p v hp) (fcwV 1 hts q430 q157 q158 q159 q152 rfl rfl (by decide +kernel) ⟨(Nat.le_of_ble_eq_true rfl), (Nat.le_of_ble_eq_true rfl)⟩) hE hb0 hP hS (m_recvA hE hP (100 + 11 + p) rfl (ov_p hp) rfl) rfl hl.1 rfl (Nat.le_of_ble_eq_true rfl) dX7_setting_61 ⟨(Nat.le_of_ble_eq_true rfl), (Nat.le_of_ble_eq_true rfl)⟩) hS (fun u H locs hP hS => ?_)
  have hP := m_cv hP (w2_c hJ).symm
  have hP : mP G al (w2 G al k c (mSetTo g p v) t) H := hP
  refine lv_iload hx hb dX7_setting_64 (lv_at hl 0 rfl) ?_
  refine W.widen (k := 0) (n := 0) (Nat.le_of_ble_eq_true rfl) (Nat.le_of_ble_eq_true rfl) ?_
  exact W.iret (v := g (1 + p) 2) hx hb hr (fun tz htz hW => ⟨⟨g (1 + p) 2, (), rfl, rfl, g_end htz hP⟩, hS.F htz⟩) hS.2.2 dX7_setting_66
set_option maxHeartbeats 4000000 in
set_option maxRecDepth 100000 in
theorem kX7_reset (l : Launch) (G : gT) (al : Nat → Nat) (k : gC) (h : gK) (c : mC) (g : St) (t : St) (p : Nat) (hX : gX G al k h c) (hp : p < 2) (h1 : ¬ bz (g (1 + p) 4) = 0) (h2 : 300 ≤ g 0 5) : Met l yX7_reset (fW yX7_reset cX7_reset 3 (some .int)) { frames := 4, cells := 0, slots := 0, locals := 85 } (gPre G al (w2 G al k c g t) [.ref (al 0), .int (nI p)]) (gQi (S := Unit) G (fun _ => g (1 + p) 5) (fun _ => al) (fun _ => w2 G al k c (s2 g (1 + p) 4 0) t)) 0 0 (gA G) := by
  refine Met.ofW (cc := cX7_reset) (maxL := 3) (ret := (some .int)) (by decide) rfl ?_
  intro pz ez s m args below meth c₀ s₁ Bo hml hv
  obtain ⟨rfl, hb0, hP, hE⟩ := hv
  have hx := Bo.exec
  have hb := Bo.bytes
  have hr := Bo.returns
  have hts0 := atoms_spec (ws := (fW yX7_reset cX7_reset 3 (some .int))) Bo.pre
  have hts : ∀ w ∈ fA, w.before _ s = true := fun w h => hts0 w (List.mem_cons_of_mem _ h)
  have hown : s.vm.findClass RX7 = some m.cls := findClass_of_methodNamed Bo.named
  have hlocks := Bo.notSynchronized
  have hl := lv_entry ([.ref (al 0), .int (nI p)]) (n := 3) (Nat.le_of_ble_eq_true rfl)
  rw [lg_entry_eq]
  generalize (lg_sl ([.ref (al 0), .int (nI p)]) ++ List.replicate (3 - (lg_sl ([.ref (al 0), .int (nI p)])).length) Slot.unset).toArray = ls at hl ⊢
  have hl : lv_has ls 3 [(0, .ref (al 0)), (1, .int (nI p))] := hl
  have hJ := gX_J hX
  refine g_start hP (fun H hP hS => ?_)
  refine lv_aload_n hx hb dX7_reset_0 rfl (lv_at hl 0 rfl) ?_
  refine lv_iload_n hx hb dX7_reset_1 rfl (lv_at hl 1 rfl) ?_
  refine g_aft_r (g_runV (As := [.int (nI p)]) (rest := []) hx hb hml hown hts (kX7_pumpNumbered l G al k h c g t p hX hp) (fcwV 1 hts q391 q392 q393 q148 q389 rfl rfl (by decide +kernel) ⟨(Nat.le_of_ble_eq_true rfl), (Nat.le_of_ble_eq_true rfl)⟩) hE hb0 hP hS (m_recvA hE hP 0 rfl (gX_0 hX) rfl) rfl hl.1 rfl (Nat.le_of_ble_eq_true rfl) dX7_reset_2 ⟨(Nat.le_of_ble_eq_true rfl), (Nat.le_of_ble_eq_true rfl)⟩) hS (fun u H locs hP hS => ?_)
  have hP : mP G al (w2 G al k c g t) H := hP
  refine g_topr (v := al (100 + 11 + p)) rfl ?_
  refine lv_astore_n (lv' := [(2, .ref (al (100 + 11 + p))), (0, .ref (al 0)), (1, .int (nI p))]) hx hb dX7_reset_5 rfl hl (by decide) rfl (fun ls hl => ?_)
  refine lv_aload_n hx hb dX7_reset_6 rfl (lv_at hl 0 rfl) ?_
  refine m_get (C := RX4) (T := TX4) (N := 6) (ci := 5) (v := .int (bz (g (1 + p) 4))) hx hb hts uX4 hown hE hP (100 + 11 + p) rfl ((congrFun (w2_c hJ) _).trans (ov_p hp)) rfl 4 (by decide) (hts _ q428) (fun _ h9 => h9) rfl dX7_reset_7 ?_
  refine lv_if_eq (tgt := 26) hx hb dX7_reset_10 (by decide) (fun h => absurd h h1) (fun _ => ?_)
  refine lv_aload_n hx hb dX7_reset_13 rfl (lv_at hl 1 rfl) ?_
  refine m_get (C := RX7) (T := TX7) (N := 3) (ci := 8) (v := .ref (al 100)) hx hb hts uX7 hown hE hP 0 rfl (gX_0 hX) rfl 1 (by decide) (hts _ q368) (fun _ h9 => h9) rfl dX7_reset_14 ?_
  refine m_get (C := RX5) (T := TX5) (N := 15) (ci := 6) (v := .int (g 0 5)) hx hb hts uX5 hown hE hP 100 rfl ((congrFun (w2_c hJ) _).trans ov_s) rfl 5 (by decide) (hts _ q432) (fun _ h9 => h9) rfl dX7_reset_17 ?_
  refine lv_sipush (v := 300) hx hb dX7_reset_20 (by decide) ?_
  refine lv_icmp_ge (tgt := 36) hx hb dX7_reset_23 (by decide) (fun _ => ?_) (fun h => absurd h2 h)
  refine lv_aload_n hx hb dX7_reset_36 rfl (lv_at hl 0 rfl) ?_
  refine lv_iconst (v := 0) hx hb dX7_reset_37 (by decide) ?_
  refine m_put (v := .int 0) (ty := .boolean) (C := RX4) (T := TX4) (N := 6) (ci := 5) hx hb hts uX4 tyX4 tyX4_ok nmX4 hown hE hP hS (100 + 11 + p) rfl ((congrFun (w2_c hJ) _).trans (ov_p hp)) rfl 4 (by decide) (hts _ q428) (fun _ h9 => h9) rfl (by decide +kernel) (by decide) (by decide) (Nat.le_of_ble_eq_true rfl) dX7_reset_38 (fun H locs hP hS => ?_)
  have hP := m_cv hP (congrFun (congrArg (fun z => up z (100 + 11 + p)) (w2_c hJ)) _)
  have hP := m_cv hP (ov_up (r := upd (g (1 + p)) 4 0) hp rfl)
  have hP : mP G al (ov G al k 100 (ov G al k 200 c t) (s2 g (1 + p) 4 0)) H := hP
  have hP := m_cv hP (w2_c hJ).symm
  have hP : mP G al (w2 G al k c (s2 g (1 + p) 4 0) t) H := hP
  refine lv_aload_n hx hb dX7_reset_41 rfl (lv_at hl 0 rfl) ?_
  refine m_get (C := RX4) (T := TX4) (N := 6) (ci := 5) (v := .int ((s2 g (1 + p) 4 0) (1 + p) 5)) hx hb hts uX4 hown hE hP (100 + 11 + p) rfl ((congrFun (w2_c hJ) _).trans (ov_p hp)) rfl 5 (by decide) (hts _ q433) (fun _ h9 => h9) rfl dX7_reset_42 ?_
  refine f_topi (v := g (1 + p) 5) (s2_k _ _ _ (by decide)) ?_
  refine W.widen (k := 0) (n := 0) (Nat.le_of_ble_eq_true rfl) (Nat.le_of_ble_eq_true rfl) ?_
  exact W.iret (v := g (1 + p) 5) hx hb hr (fun tz htz hW => ⟨⟨g (1 + p) 5, (), rfl, rfl, g_end htz hP⟩, hS.F htz⟩) hS.2.2 dX7_reset_45
set_option maxHeartbeats 4000000 in
set_option maxRecDepth 100000 in
theorem kX7_lamp (l : Launch) (G : gT) (al : Nat → Nat) (k : gC) (h : gK) (c : mC) (g : St) (t : St) (j : Nat) (hX : gX G al k h c) (hj : j < k.1) : Met l yX7_lamp (fW yX7_lamp cX7_lamp 5 (some .boolean)) { frames := 4, cells := 0, slots := 0, locals := 85 } (gPre G al (w2 G al k c g t) [.ref (al 0), .int (nI j), .int 1]) (gQi (S := Unit) G (fun _ => bz (g (3 + j) 7)) (fun _ => al) (fun _ => w2 G al k c (s2 g (3 + j) 7 1) t)) 0 0 (gA G) := by
  refine Met.ofW (cc := cX7_lamp) (maxL := 5) (ret := (some .boolean)) (by decide) rfl ?_
  intro pz ez s m args below meth c₀ s₁ Bo hml hv
  obtain ⟨rfl, hb0, hP, hE⟩ := hv
  have hx := Bo.exec
  have hb := Bo.bytes
  have hr := Bo.returns
  have hts0 := atoms_spec (ws := (fW yX7_lamp cX7_lamp 5 (some .boolean))) Bo.pre
  have hts : ∀ w ∈ fA, w.before _ s = true := fun w h => hts0 w (List.mem_cons_of_mem _ h)
  have hown : s.vm.findClass RX7 = some m.cls := findClass_of_methodNamed Bo.named
  have hlocks := Bo.notSynchronized
  have hl := lv_entry ([.ref (al 0), .int (nI j), .int 1]) (n := 5) (Nat.le_of_ble_eq_true rfl)
  rw [lg_entry_eq]
  generalize (lg_sl ([.ref (al 0), .int (nI j), .int 1]) ++ List.replicate (5 - (lg_sl ([.ref (al 0), .int (nI j), .int 1])).length) Slot.unset).toArray = ls at hl ⊢
  have hl : lv_has ls 5 [(0, .ref (al 0)), (1, .int (nI j)), (2, .int 1)] := hl
  have hJ := gX_J hX
  refine g_start hP (fun H hP hS => ?_)
  refine lv_aload_n hx hb dX7_lamp_0 rfl (lv_at hl 0 rfl) ?_
  refine lv_iload_n hx hb dX7_lamp_1 rfl (lv_at hl 1 rfl) ?_
  refine g_aft_r (g_runV (As := [.int (nI j)]) (rest := []) hx hb hml hown hts (kX7_jetNumbered l G al k h c g t j hX hj) (fcwV 1 hts q424 q425 q426 q148 q421 rfl rfl (by decide +kernel) ⟨(Nat.le_of_ble_eq_true rfl), (Nat.le_of_ble_eq_true rfl)⟩) hE hb0 hP hS (m_recvA hE hP 0 rfl (gX_0 hX) rfl) rfl hl.1 rfl (Nat.le_of_ble_eq_true rfl) dX7_lamp_2 ⟨(Nat.le_of_ble_eq_true rfl), (Nat.le_of_ble_eq_true rfl)⟩) hS (fun u H locs hP hS => ?_)
  have hP : mP G al (w2 G al k c g t) H := hP
  refine g_topr (v := al (100 + 20 + j)) rfl ?_
  refine lv_astore_n (lv' := [(3, .ref (al (100 + 20 + j))), (0, .ref (al 0)), (1, .int (nI j)), (2, .int 1)]) hx hb dX7_lamp_5 rfl hl (by decide) rfl (fun ls hl => ?_)
  refine lv_aload_n hx hb dX7_lamp_6 rfl (lv_at hl 0 rfl) ?_
  refine m_get (C := RX3) (T := TX3) (N := 10) (ci := 4) (v := .int (bz (g (3 + j) 7))) hx hb hts uX3 hown hE hP (100 + 20 + j) rfl ((congrFun (w2_c hJ) _).trans (ov_j hj)) rfl 7 (by decide) (hts _ q435) (fun _ h9 => h9) rfl dX7_lamp_7 ?_
  refine lv_istore (lv' := [(4, .int (bz (g (3 + j) 7))), (3, .ref (al (100 + 20 + j))), (0, .ref (al 0)), (1, .int (nI j)), (2, .int 1)]) hx hb dX7_lamp_10 hl (by decide) rfl (fun ls hl => ?_)
  refine lv_aload_n hx hb dX7_lamp_12 rfl (lv_at hl 1 rfl) ?_
  refine lv_iload_n hx hb dX7_lamp_13 rfl (lv_at hl 4 rfl) ?_
  refine m_put (v := .int 1) (ty := .boolean) (C := RX3) (T := TX3) (N := 10) (ci := 4) hx hb hts uX3 tyX3 tyX3_ok nmX3 hown hE hP hS (100 + 20 + j) rfl ((congrFun (w2_c hJ) _).trans (ov_j hj)) rfl 7 (by decide) (hts _ q435) (fun _ h9 => h9) rfl (by decide +kernel) (by decide) (by decide) (Nat.le_of_ble_eq_true rfl) dX7_lamp_14 (fun H locs hP hS => ?_)
  have hP := m_cv hP (congrFun (congrArg (fun z => up z (100 + 20 + j)) (w2_c hJ)) _)
  have hP := m_cv hP (ov_uj (r := upd (g (3 + j)) 7 1) hj hJ rfl)
  have hP : mP G al (ov G al k 100 (ov G al k 200 c t) (s2 g (3 + j) 7 1)) H := hP
  have hP := m_cv hP (w2_c hJ).symm
  have hP : mP G al (w2 G al k c (s2 g (3 + j) 7 1) t) H := hP
  refine lv_iload hx hb dX7_lamp_17 (lv_at hl 0 rfl) ?_
  refine W.widen (k := 0) (n := 0) (Nat.le_of_ble_eq_true rfl) (Nat.le_of_ble_eq_true rfl) ?_
  exact W.zret (v := bz (g (3 + j) 7)) hx hb hr (bz_nar _) (fun tz htz hW => ⟨⟨bz (g (3 + j) 7), (), rfl, rfl, g_end htz hP⟩, hS.F htz⟩) hS.2.2 dX7_lamp_19
set_option maxHeartbeats 4000000 in
set_option maxRecDepth 100000 in
theorem kX7_fault_0 (l : Launch) (G : gT) (al : Nat → Nat) (k : gC) (h : gK) (c : mC) (g : St) (t : St) (j : Nat) (w : Int32) (hX : gX G al k h c) (hj : j < k.1) : Met l yX7_fault (fW yX7_fault cX7_fault 6 (some .boolean)) { frames := 4, cells := 0, slots := 0, locals := 85 } (gPre G al (w2 G al k c g t) [.ref (al 0), .int (nI j), .int 0, .int (bz w)]) (gQi (S := Unit) G (fun _ => bz (g (3 + j) 6)) (fun _ => al) (fun _ => w2 G al k c (s2 (s2 g (3 + j) 6 0) (3 + j) 8 w) t)) 0 0 (gA G) := by
  refine Met.ofW (cc := cX7_fault) (maxL := 6) (ret := (some .boolean)) (by decide) rfl ?_
  intro pz ez s m args below meth c₀ s₁ Bo hml hv
  obtain ⟨rfl, hb0, hP, hE⟩ := hv
  have hx := Bo.exec
  have hb := Bo.bytes
  have hr := Bo.returns
  have hts0 := atoms_spec (ws := (fW yX7_fault cX7_fault 6 (some .boolean))) Bo.pre
  have hts : ∀ w ∈ fA, w.before _ s = true := fun w h => hts0 w (List.mem_cons_of_mem _ h)
  have hown : s.vm.findClass RX7 = some m.cls := findClass_of_methodNamed Bo.named
  have hlocks := Bo.notSynchronized
  have hl := lv_entry ([.ref (al 0), .int (nI j), .int 0, .int (bz w)]) (n := 6) (Nat.le_of_ble_eq_true rfl)
  rw [lg_entry_eq]
  generalize (lg_sl ([.ref (al 0), .int (nI j), .int 0, .int (bz w)]) ++ List.replicate (6 - (lg_sl ([.ref (al 0), .int (nI j), .int 0, .int (bz w)])).length) Slot.unset).toArray = ls at hl ⊢
  have hl : lv_has ls 6 [(0, .ref (al 0)), (1, .int (nI j)), (2, .int 0), (3, .int (bz w))] := hl
  have hJ := gX_J hX
  refine g_start hP (fun H hP hS => ?_)
  refine lv_aload_n hx hb dX7_fault_0 rfl (lv_at hl 0 rfl) ?_
  refine lv_iload_n hx hb dX7_fault_1 rfl (lv_at hl 1 rfl) ?_
  refine g_aft_r (g_runV (As := [.int (nI j)]) (rest := []) hx hb hml hown hts (kX7_jetNumbered l G al k h c g t j hX hj) (fcwV 1 hts q424 q425 q426 q148 q421 rfl rfl (by decide +kernel) ⟨(Nat.le_of_ble_eq_true rfl), (Nat.le_of_ble_eq_true rfl)⟩) hE hb0 hP hS (m_recvA hE hP 0 rfl (gX_0 hX) rfl) rfl hl.1 rfl (Nat.le_of_ble_eq_true rfl) dX7_fault_2 ⟨(Nat.le_of_ble_eq_true rfl), (Nat.le_of_ble_eq_true rfl)⟩) hS (fun u H locs hP hS => ?_)
  have hP : mP G al (w2 G al k c g t) H := hP
  refine g_topr (v := al (100 + 20 + j)) rfl ?_
  refine lv_astore (lv' := [(4, .ref (al (100 + 20 + j))), (0, .ref (al 0)), (1, .int (nI j)), (2, .int 0), (3, .int (bz w))]) hx hb dX7_fault_5 hl (by decide) rfl (fun ls hl => ?_)
  refine lv_aload hx hb dX7_fault_7 (lv_at hl 0 rfl) ?_
  refine m_get (C := RX3) (T := TX3) (N := 10) (ci := 4) (v := .int (bz (g (3 + j) 6))) hx hb hts uX3 hown hE hP (100 + 20 + j) rfl ((congrFun (w2_c hJ) _).trans (ov_j hj)) rfl 6 (by decide) (hts _ q437) (fun _ h9 => h9) rfl dX7_fault_9 ?_
  refine lv_istore (lv' := [(5, .int (bz (g (3 + j) 6))), (4, .ref (al (100 + 20 + j))), (0, .ref (al 0)), (1, .int (nI j)), (2, .int 0), (3, .int (bz w))]) hx hb dX7_fault_12 hl (by decide) rfl (fun ls hl => ?_)
  refine lv_aload hx hb dX7_fault_14 (lv_at hl 1 rfl) ?_
  refine lv_iload_n hx hb dX7_fault_16 rfl (lv_at hl 4 rfl) ?_
  refine m_put (v := .int 0) (ty := .boolean) (C := RX3) (T := TX3) (N := 10) (ci := 4) hx hb hts uX3 tyX3 tyX3_ok nmX3 hown hE hP hS (100 + 20 + j) rfl ((congrFun (w2_c hJ) _).trans (ov_j hj)) rfl 6 (by decide) (hts _ q437) (fun _ h9 => h9) rfl (by decide +kernel) (by decide) (by decide) (Nat.le_of_ble_eq_true rfl) dX7_fault_17 (fun H locs hP hS => ?_)
  have hP := m_cv hP (congrFun (congrArg (fun z => up z (100 + 20 + j)) (w2_c hJ)) _)
  have hP := m_cv hP (ov_uj (r := upd (g (3 + j)) 6 0) hj hJ rfl)
  have hP : mP G al (ov G al k 100 (ov G al k 200 c t) (s2 g (3 + j) 6 0)) H := hP
  have hP := m_cv hP (w2_c hJ).symm
  have hP : mP G al (w2 G al k c (s2 g (3 + j) 6 0) t) H := hP
  refine lv_aload hx hb dX7_fault_20 (lv_at hl 1 rfl) ?_
  refine lv_iload_n hx hb dX7_fault_22 rfl (lv_at hl 5 rfl) ?_
  refine m_put (v := .int (bz w)) (ty := .boolean) (C := RX3) (T := TX3) (N := 10) (ci := 4) hx hb hts uX3 tyX3 tyX3_ok nmX3 hown hE hP hS (100 + 20 + j) rfl ((congrFun (w2_c hJ) _).trans (ov_j hj)) rfl 8 (by decide) (hts _ q438) (fun _ h9 => h9) rfl (by decide +kernel) (bz_nar _) (bz_fit _) (Nat.le_of_ble_eq_true rfl) dX7_fault_23 (fun H locs hP hS => ?_)
  have hP := m_cv hP (congrFun (congrArg (fun z => up z (100 + 20 + j)) (w2_c hJ)) _)
  have hP := m_cv hP (ov_uj (r := upd ((s2 g (3 + j) 6 0) (3 + j)) 8 w) hj hJ rfl)
  have hP : mP G al (ov G al k 100 (ov G al k 200 c t) (s2 (s2 g (3 + j) 6 0) (3 + j) 8 w)) H := hP
  have hP := m_cv hP (w2_c hJ).symm
  have hP : mP G al (w2 G al k c (s2 (s2 g (3 + j) 6 0) (3 + j) 8 w) t) H := hP
  refine lv_iload hx hb dX7_fault_26 (lv_at hl 0 rfl) ?_
  refine W.widen (k := 0) (n := 0) (Nat.le_of_ble_eq_true rfl) (Nat.le_of_ble_eq_true rfl) ?_
  exact W.zret (v := bz (g (3 + j) 6)) hx hb hr (bz_nar _) (fun tz htz hW => ⟨⟨bz (g (3 + j) 6), (), rfl, rfl, g_end htz hP⟩, hS.F htz⟩) hS.2.2 dX7_fault_28
set_option maxHeartbeats 4000000 in
set_option maxRecDepth 100000 in
theorem kX7_fault_1 (l : Launch) (G : gT) (al : Nat → Nat) (k : gC) (h : gK) (c : mC) (g : St) (t : St) (j : Nat) (w : Int32) (hX : gX G al k h c) (hj : j < k.1) : Met l yX7_fault (fW yX7_fault cX7_fault 6 (some .boolean)) { frames := 4, cells := 0, slots := 0, locals := 85 } (gPre G al (w2 G al k c g t) [.ref (al 0), .int (nI j), .int 1, .int (bz w)]) (gQi (S := Unit) G (fun _ => bz (g (3 + j) 6)) (fun _ => al) (fun _ => w2 G al k c (s2 (s2 g (3 + j) 6 1) (3 + j) 8 w) t)) 0 0 (gA G) := by
  refine Met.ofW (cc := cX7_fault) (maxL := 6) (ret := (some .boolean)) (by decide) rfl ?_
  intro pz ez s m args below meth c₀ s₁ Bo hml hv
  obtain ⟨rfl, hb0, hP, hE⟩ := hv
  have hx := Bo.exec
  have hb := Bo.bytes
  have hr := Bo.returns
  have hts0 := atoms_spec (ws := (fW yX7_fault cX7_fault 6 (some .boolean))) Bo.pre
  have hts : ∀ w ∈ fA, w.before _ s = true := fun w h => hts0 w (List.mem_cons_of_mem _ h)
  have hown : s.vm.findClass RX7 = some m.cls := findClass_of_methodNamed Bo.named
  have hlocks := Bo.notSynchronized
  have hl := lv_entry ([.ref (al 0), .int (nI j), .int 1, .int (bz w)]) (n := 6) (Nat.le_of_ble_eq_true rfl)
  rw [lg_entry_eq]
  generalize (lg_sl ([.ref (al 0), .int (nI j), .int 1, .int (bz w)]) ++ List.replicate (6 - (lg_sl ([.ref (al 0), .int (nI j), .int 1, .int (bz w)])).length) Slot.unset).toArray = ls at hl ⊢
  have hl : lv_has ls 6 [(0, .ref (al 0)), (1, .int (nI j)), (2, .int 1), (3, .int (bz w))] := hl
  have hJ := gX_J hX
  refine g_start hP (fun H hP hS => ?_)
  refine lv_aload_n hx hb dX7_fault_0 rfl (lv_at hl 0 rfl) ?_
  refine lv_iload_n hx hb dX7_fault_1 rfl (lv_at hl 1 rfl) ?_
  refine g_aft_r (g_runV (As := [.int (nI j)]) (rest := []) hx hb hml hown hts (kX7_jetNumbered l G al k h c g t j hX hj) (fcwV 1 hts q424 q425 q426 q148 q421 rfl rfl (by decide +kernel) ⟨(Nat.le_of_ble_eq_true rfl), (Nat.le_of_ble_eq_true rfl)⟩) hE hb0 hP hS (m_recvA hE hP 0 rfl (gX_0 hX) rfl) rfl hl.1 rfl (Nat.le_of_ble_eq_true rfl) dX7_fault_2 ⟨(Nat.le_of_ble_eq_true rfl), (Nat.le_of_ble_eq_true rfl)⟩) hS (fun u H locs hP hS => ?_)
  have hP : mP G al (w2 G al k c g t) H := hP
  refine g_topr (v := al (100 + 20 + j)) rfl ?_
  refine lv_astore (lv' := [(4, .ref (al (100 + 20 + j))), (0, .ref (al 0)), (1, .int (nI j)), (2, .int 1), (3, .int (bz w))]) hx hb dX7_fault_5 hl (by decide) rfl (fun ls hl => ?_)
  refine lv_aload hx hb dX7_fault_7 (lv_at hl 0 rfl) ?_
  refine m_get (C := RX3) (T := TX3) (N := 10) (ci := 4) (v := .int (bz (g (3 + j) 6))) hx hb hts uX3 hown hE hP (100 + 20 + j) rfl ((congrFun (w2_c hJ) _).trans (ov_j hj)) rfl 6 (by decide) (hts _ q437) (fun _ h9 => h9) rfl dX7_fault_9 ?_
  refine lv_istore (lv' := [(5, .int (bz (g (3 + j) 6))), (4, .ref (al (100 + 20 + j))), (0, .ref (al 0)), (1, .int (nI j)), (2, .int 1), (3, .int (bz w))]) hx hb dX7_fault_12 hl (by decide) rfl (fun ls hl => ?_)
  refine lv_aload hx hb dX7_fault_14 (lv_at hl 1 rfl) ?_
  refine lv_iload_n hx hb dX7_fault_16 rfl (lv_at hl 4 rfl) ?_
  refine m_put (v := .int 1) (ty := .boolean) (C := RX3) (T := TX3) (N := 10) (ci := 4) hx hb hts uX3 tyX3 tyX3_ok nmX3 hown hE hP hS (100 + 20 + j) rfl ((congrFun (w2_c hJ) _).trans (ov_j hj)) rfl 6 (by decide) (hts _ q437) (fun _ h9 => h9) rfl (by decide +kernel) (by decide) (by decide) (Nat.le_of_ble_eq_true rfl) dX7_fault_17 (fun H locs hP hS => ?_)
  have hP := m_cv hP (congrFun (congrArg (fun z => up z (100 + 20 + j)) (w2_c hJ)) _)
  have hP := m_cv hP (ov_uj (r := upd (g (3 + j)) 6 1) hj hJ rfl)
  have hP : mP G al (ov G al k 100 (ov G al k 200 c t) (s2 g (3 + j) 6 1)) H := hP
  have hP := m_cv hP (w2_c hJ).symm
  have hP : mP G al (w2 G al k c (s2 g (3 + j) 6 1) t) H := hP
  refine lv_aload hx hb dX7_fault_20 (lv_at hl 1 rfl) ?_
  refine lv_iload_n hx hb dX7_fault_22 rfl (lv_at hl 5 rfl) ?_
  refine m_put (v := .int (bz w)) (ty := .boolean) (C := RX3) (T := TX3) (N := 10) (ci := 4) hx hb hts uX3 tyX3 tyX3_ok nmX3 hown hE hP hS (100 + 20 + j) rfl ((congrFun (w2_c hJ) _).trans (ov_j hj)) rfl 8 (by decide) (hts _ q438) (fun _ h9 => h9) rfl (by decide +kernel) (bz_nar _) (bz_fit _) (Nat.le_of_ble_eq_true rfl) dX7_fault_23 (fun H locs hP hS => ?_)
  have hP := m_cv hP (congrFun (congrArg (fun z => up z (100 + 20 + j)) (w2_c hJ)) _)
  have hP := m_cv hP (ov_uj (r := upd ((s2 g (3 + j) 6 1) (3 + j)) 8 w) hj hJ rfl)
  have hP : mP G al (ov G al k 100 (ov G al k 200 c t) (s2 (s2 g (3 + j) 6 1) (3 + j) 8 w)) H := hP
  have hP := m_cv hP (w2_c hJ).symm
  have hP : mP G al (w2 G al k c (s2 (s2 g (3 + j) 6 1) (3 + j) 8 w) t) H := hP
  refine lv_iload hx hb dX7_fault_26 (lv_at hl 0 rfl) ?_
  refine W.widen (k := 0) (n := 0) (Nat.le_of_ble_eq_true rfl) (Nat.le_of_ble_eq_true rfl) ?_
  exact W.zret (v := bz (g (3 + j) 6)) hx hb hr (bz_nar _) (fun tz htz hW => ⟨⟨bz (g (3 + j) 6), (), rfl, rfl, g_end htz hP⟩, hS.F htz⟩) hS.2.2 dX7_fault_28
set_option maxHeartbeats 4000000 in
set_option maxRecDepth 100000 in
theorem kX7_swim_0 (l : Launch) (G : gT) (al : Nat → Nat) (k : gC) (h : gK) (c : mC) (g : St) (t : St) (hX : gX G al k h c) : Met l yX7_swim (fW yX7_swim cX7_swim 3 (some .boolean)) { frames := 0, cells := 0, slots := 0, locals := 0 } (gPre G al (w2 G al k c g t) [.ref (al 0), .int 0]) (gQi (S := Unit) G (fun _ => bz (g 0 14)) (fun _ => al) (fun _ => w2 G al k c (s2 g 0 14 0) t)) 0 0 (gA G) := by
  refine Met.ofW (cc := cX7_swim) (maxL := 3) (ret := (some .boolean)) (by decide) rfl ?_
  intro pz ez s m args below meth c₀ s₁ Bo hml hv
  obtain ⟨rfl, hb0, hP, hE⟩ := hv
  have hx := Bo.exec
  have hb := Bo.bytes
  have hr := Bo.returns
  have hts0 := atoms_spec (ws := (fW yX7_swim cX7_swim 3 (some .boolean))) Bo.pre
  have hts : ∀ w ∈ fA, w.before _ s = true := fun w h => hts0 w (List.mem_cons_of_mem _ h)
  have hown : s.vm.findClass RX7 = some m.cls := findClass_of_methodNamed Bo.named
  have hlocks := Bo.notSynchronized
  have hl := lv_entry ([.ref (al 0), .int 0]) (n := 3) (Nat.le_of_ble_eq_true rfl)
  rw [lg_entry_eq]
  generalize (lg_sl ([.ref (al 0), .int 0]) ++ List.replicate (3 - (lg_sl ([.ref (al 0), .int 0])).length) Slot.unset).toArray = ls at hl ⊢
  have hl : lv_has ls 3 [(0, .ref (al 0)), (1, .int 0)] := hl
  have hJ := gX_J hX
  refine g_start hP (fun H hP hS => ?_)
  refine lv_aload_n hx hb dX7_swim_0 rfl (lv_at hl 0 rfl) ?_
  refine m_get (C := RX7) (T := TX7) (N := 3) (ci := 8) (v := .ref (al 100)) hx hb hts uX7 hown hE hP 0 rfl (gX_0 hX) rfl 1 (by decide) (hts _ q368) (fun _ h9 => h9) rfl dX7_swim_1 ?_
  refine m_get (C := RX5) (T := TX5) (N := 15) (ci := 6) (v := .int (bz (g 0 14))) hx hb hts uX5 hown hE hP 100 rfl ((congrFun (w2_c hJ) _).trans ov_s) rfl 14 (by decide) (hts _ q422) (fun _ h9 => h9) rfl dX7_swim_4 ?_
  refine lv_istore_n (lv' := [(2, .int (bz (g 0 14))), (0, .ref (al 0)), (1, .int 0)]) hx hb dX7_swim_7 rfl hl (by decide) rfl (fun ls hl => ?_)
  refine lv_aload_n hx hb dX7_swim_8 rfl (lv_at hl 1 rfl) ?_
  refine m_get (C := RX7) (T := TX7) (N := 3) (ci := 8) (v := .ref (al 100)) hx hb hts uX7 hown hE hP 0 rfl (gX_0 hX) rfl 1 (by decide) (hts _ q368) (fun _ h9 => h9) rfl dX7_swim_9 ?_
  refine lv_iload_n hx hb dX7_swim_12 rfl (lv_at hl 2 rfl) ?_
  refine m_put (v := .int 0) (ty := .boolean) (C := RX5) (T := TX5) (N := 15) (ci := 6) hx hb hts uX5 tyX5 tyX5_ok nmX5 hown hE hP hS 100 rfl ((congrFun (w2_c hJ) _).trans ov_s) rfl 14 (by decide) (hts _ q422) (fun _ h9 => h9) rfl (by decide +kernel) (by decide) (by decide) (Nat.le_of_ble_eq_true rfl) dX7_swim_13 (fun H locs hP hS => ?_)
  have hP := m_cv hP (congrFun (congrArg (fun z => up z 100) (w2_c hJ)) _)
  have hP := m_cv hP (ov_us (r := upd (g 0) 14 0) rfl)
  have hP : mP G al (ov G al k 100 (ov G al k 200 c t) (s2 g 0 14 0)) H := hP
  have hP := m_cv hP (w2_c hJ).symm
  have hP : mP G al (w2 G al k c (s2 g 0 14 0) t) H := hP
  refine lv_iload_n hx hb dX7_swim_16 rfl (lv_at hl 2 rfl) ?_
  refine lv_if_eq (tgt := 27) hx hb dX7_swim_17 (by decide) (fun _ => ?_) (fun h => absurd (by decide) h)
  refine lv_iload_n hx hb dX7_swim_27 rfl (lv_at hl 0 rfl) ?_
  refine W.widen (k := 0) (n := 0) (Nat.le_of_ble_eq_true rfl) (Nat.le_of_ble_eq_true rfl) ?_
  exact W.zret (v := bz (g 0 14)) hx hb hr (bz_nar _) (fun tz htz hW => ⟨⟨bz (g 0 14), (), rfl, rfl, g_end htz hP⟩, hS.F htz⟩) hS.2.2 dX7_swim_28
set_option maxHeartbeats 4000000 in
set_option maxRecDepth 100000 in
theorem kX7_swim_1 (l : Launch) (G : gT) (al : Nat → Nat) (k : gC) (h : gK) (c : mC) (g : St) (t : St) (hX : gX G al k h c) : Met l yX7_swim (fW yX7_swim cX7_swim 3 (some .boolean)) { frames := 5, cells := 0, slots := 0, locals := 106 } (gPre G al (w2 G al k c g t) [.ref (al 0), .int 1]) (gQi (S := Unit) G (fun _ => bz (g 0 14)) (fun _ => al) (fun _ => w2 G al k c (mShut k (s2 g 0 14 1)) t)) 0 0 (gA G) := by
  refine Met.ofW (cc := cX7_swim) (maxL := 3) (ret := (some .boolean)) (by decide) rfl ?_
  intro pz ez s m args below meth c₀ s₁ Bo hml hv
  obtain ⟨rfl, hb0, hP, hE⟩ := hv
  have hx := Bo.exec
  have hb := Bo.bytes
  have hr := Bo.returns
  have hts0 := atoms_spec (ws := (fW yX7_swim cX7_swim 3 (some .boolean))) Bo.pre
  have hts : ∀ w ∈ fA, w.before _ s = true := fun w h => hts0 w (List.mem_cons_of_mem _ h)
  have hown : s.vm.findClass RX7 = some m.cls := findClass_of_methodNamed Bo.named
  have hlocks := Bo.notSynchronized
  have hl := lv_entry ([.ref (al 0), .int 1]) (n := 3) (Nat.le_of_ble_eq_true rfl)
  rw [lg_entry_eq]
  generalize (lg_sl ([.ref (al 0), .int 1]) ++ List.replicate (3 - (lg_sl ([.ref (al 0), .int 1])).length) Slot.unset).toArray = ls at hl ⊢
  have hl : lv_has ls 3 [(0, .ref (al 0)), (1, .int 1)] := hl
  have hJ := gX_J hX
  refine g_start hP (fun H hP hS => ?_)
  refine lv_aload_n hx hb dX7_swim_0 rfl (lv_at hl 0 rfl) ?_
  refine m_get (C := RX7) (T := TX7) (N := 3) (ci := 8) (v := .ref (al 100)) hx hb hts uX7 hown hE hP 0 rfl (gX_0 hX) rfl 1 (by decide) (hts _ q368) (fun _ h9 => h9) rfl dX7_swim_1 ?_
  refine m_get (C := RX5) (T := TX5) (N := 15) (ci := 6) (v := .int (bz (g 0 14))) hx hb hts uX5 hown hE hP 100 rfl ((congrFun (w2_c hJ) _).trans ov_s) rfl 14 (by decide) (hts _ q422) (fun _ h9 => h9) rfl dX7_swim_4 ?_
  refine lv_istore_n (lv' := [(2, .int (bz (g 0 14))), (0, .ref (al 0)), (1, .int 1)]) hx hb dX7_swim_7 rfl hl (by decide) rfl (fun ls hl => ?_)
  refine lv_aload_n hx hb dX7_swim_8 rfl (lv_at hl 1 rfl) ?_
  refine m_get (C := RX7) (T := TX7) (N := 3) (ci := 8) (v := .ref (al 100)) hx hb hts uX7 hown hE hP 0 rfl (gX_0 hX) rfl 1 (by decide) (hts _ q368) (fun _ h9 => h9) rfl dX7_swim_9 ?_
  refine lv_iload_n hx hb dX7_swim_12 rfl (lv_at hl 2 rfl) ?_
  refine m_put (v := .int 1) (ty := .boolean) (C := RX5) (T := TX5) (N := 15) (ci := 6) hx hb hts uX5 tyX5 tyX5_ok nmX5 hown hE hP hS 100 rfl ((congrFun (w2_c hJ) _).trans ov_s) rfl 14 (by decide) (hts _ q422) (fun _ h9 => h9) rfl (by decide +kernel) (by decide) (by decide) (Nat.le_of_ble_eq_true rfl) dX7_swim_13 (fun H locs hP hS => ?_)
  have hP := m_cv hP (congrFun (congrArg (fun z => up z 100) (w2_c hJ)) _)
  have hP := m_cv hP (ov_us (r := upd (g 0) 14 1) rfl)
  have hP : mP G al (ov G al k 100 (ov G al k 200 c t) (s2 g 0 14 1)) H := hP
  have hP := m_cv hP (w2_c hJ).symm
  have hP : mP G al (w2 G al k c (s2 g 0 14 1) t) H := hP
  refine lv_iload_n hx hb dX7_swim_16 rfl (lv_at hl 2 rfl) ?_
  refine lv_if_eq (tgt := 27) hx hb dX7_swim_17 (by decide) (fun h => absurd h (by decide)) (fun _ => ?_)
  refine lv_aload_n hx hb dX7_swim_20 rfl (lv_at hl 1 rfl) ?_
  refine m_get (C := RX7) (T := TX7) (N := 3) (ci := 8) (v := .ref (al 100)) hx hb hts uX7 hown hE hP 0 rfl (gX_0 hX) rfl 1 (by decide) (hts _ q368) (fun _ h9 => h9) rfl dX7_swim_21 ?_
  have hP := m_cv hP (w2_c hJ)
  refine g_aft_v (g_runV (As := []) (rest := []) hx hb hml hown hts (kX5_shutAll l G al k h 100 (ov G al k 200 c t) (s2 g 0 14 1) (gF_o2 (gX_1 hX))) (fcwV 0 hts q440 q441 q442 q211 q342 rfl rfl (by decide +kernel) ⟨(Nat.le_of_ble_eq_true rfl), (Nat.le_of_ble_eq_true rfl)⟩) hE hb0 hP hS (m_recvA hE hP 100 rfl ov_s rfl) rfl hl.1 rfl (Nat.le_of_ble_eq_true rfl) dX7_swim_24 ⟨(Nat.le_of_ble_eq_true rfl), (Nat.le_of_ble_eq_true rfl)⟩) hS (fun u H locs hP hS => ?_)
  have hP := m_cv hP (w2_c hJ).symm
  have hP : mP G al (w2 G al k c (mShut k (s2 g 0 14 1)) t) H := hP
  refine lv_iload_n hx hb dX7_swim_27 rfl (lv_at hl 0 rfl) ?_
  refine W.widen (k := 0) (n := 0) (Nat.le_of_ble_eq_true rfl) (Nat.le_of_ble_eq_true rfl) ?_
  exact W.zret (v := bz (g 0 14)) hx hb hr (bz_nar _) (fun tz htz hW => ⟨⟨bz (g 0 14), (), rfl, rfl, g_end htz hP⟩, hS.F htz⟩) hS.2.2 dX7_swim_28
set_option maxHeartbeats 4000000 in
set_option maxRecDepth 100000 in
theorem kX7_fill (l : Launch) (G : gT) (al : Nat → Nat) (k : gC) (h : gK) (c : mC) (g : St) (t : St) (v : Int32) (hX : gX G al k h c) (h1 : ¬ v < 1) (h2 : v ≤ 5000) : Met l yX7_fill (fW yX7_fill cX7_fill 2 (some .int)) { frames := 1, cells := 0, slots := 0, locals := 21 } (gPre G al (w2 G al k c g t) [.ref (al 0), .int v]) (gQi (S := Unit) G (fun _ => mPour g v 0 5) (fun _ => al) (fun _ => w2 G al k c (mPour g v) t)) 0 0 (gA G) := by
  refine Met.ofW (cc := cX7_fill) (maxL := 2) (ret := (some .int)) (by decide) rfl ?_
  intro pz ez s m args below meth c₀ s₁ Bo hml hv
  obtain ⟨rfl, hb0, hP, hE⟩ := hv
  have hx := Bo.exec
  have hb := Bo.bytes
  have hr := Bo.returns
  have hts0 := atoms_spec (ws := (fW yX7_fill cX7_fill 2 (some .int))) Bo.pre
  have hts : ∀ w ∈ fA, w.before _ s = true := fun w h => hts0 w (List.mem_cons_of_mem _ h)
  have hown : s.vm.findClass RX7 = some m.cls := findClass_of_methodNamed Bo.named
  have hlocks := Bo.notSynchronized
  have hl := lv_entry ([.ref (al 0), .int v]) (n := 2) (Nat.le_of_ble_eq_true rfl)
  rw [lg_entry_eq]
  generalize (lg_sl ([.ref (al 0), .int v]) ++ List.replicate (2 - (lg_sl ([.ref (al 0), .int v])).length) Slot.unset).toArray = ls at hl ⊢
  have hl : lv_has ls 2 [(0, .ref (al 0)), (1, .int v)] := hl
  have hJ := gX_J hX
  refine g_start hP (fun H hP hS => ?_)
  refine lv_iload_n hx hb dX7_fill_0 rfl (lv_at hl 1 rfl) ?_
  refine lv_iconst (v := 1) hx hb dX7_fill_1 (by decide) ?_
  refine lv_icmp_lt (tgt := 12) hx hb dX7_fill_2 (by decide) (fun h => absurd h h1) (fun _ => ?_)
  refine lv_iload_n hx hb dX7_fill_5 rfl (lv_at hl 1 rfl) ?_
  refine lv_sipush (v := 5000) hx hb dX7_fill_6 (by decide) ?_
  refine lv_icmp_le (tgt := 22) hx hb dX7_fill_9 (by decide) (fun _ => ?_) (fun h => absurd h2 h)
  refine lv_aload_n hx hb dX7_fill_22 rfl (lv_at hl 0 rfl) ?_
  refine m_get (C := RX7) (T := TX7) (N := 3) (ci := 8) (v := .ref (al 100)) hx hb hts uX7 hown hE hP 0 rfl (gX_0 hX) rfl 1 (by decide) (hts _ q368) (fun _ h9 => h9) rfl dX7_fill_23 ?_
  refine lv_iload_n hx hb dX7_fill_26 rfl (lv_at hl 1 rfl) ?_
  have hP := m_cv hP (w2_c hJ)
  refine g_aft_v (g_runV (As := [.int v]) (rest := []) hx hb hml hown hts (kX5_pour l G al k h 100 (ov G al k 200 c t) g v (gF_o2 (gX_1 hX))) (fcwV 1 hts q445 q258 q259 q211 q247 rfl rfl (by decide +kernel) ⟨(Nat.le_of_ble_eq_true rfl), (Nat.le_of_ble_eq_true rfl)⟩) hE hb0 hP hS (m_recvA hE hP 100 rfl ov_s rfl) rfl hl.1 rfl (Nat.le_of_ble_eq_true rfl) dX7_fill_27 ⟨(Nat.le_of_ble_eq_true rfl), (Nat.le_of_ble_eq_true rfl)⟩) hS (fun u H locs hP hS => ?_)
  have hP := m_cv hP (w2_c hJ).symm
  have hP : mP G al (w2 G al k c (mPour g v) t) H := hP
  refine lv_aload_n hx hb dX7_fill_30 rfl (lv_at hl 0 rfl) ?_
  refine m_get (C := RX7) (T := TX7) (N := 3) (ci := 8) (v := .ref (al 100)) hx hb hts uX7 hown hE hP 0 rfl (gX_0 hX) rfl 1 (by decide) (hts _ q368) (fun _ h9 => h9) rfl dX7_fill_31 ?_
  refine m_get (C := RX5) (T := TX5) (N := 15) (ci := 6) (v := .int ((mPour g v) 0 5)) hx hb hts uX5 hown hE hP 100 rfl ((congrFun (w2_c hJ) _).trans ov_s) rfl 5 (by decide) (hts _ q432) (fun _ h9 => h9) rfl dX7_fill_34 ?_
  refine W.widen (k := 0) (n := 0) (Nat.le_of_ble_eq_true rfl) (Nat.le_of_ble_eq_true rfl) ?_
  exact W.iret (v := (mPour g v) 0 5) hx hb hr (fun tz htz hW => ⟨⟨(mPour g v) 0 5, (), rfl, (by rfl), g_end htz hP⟩, hS.F htz⟩) hS.2.2 dX7_fill_37
set_option maxHeartbeats 4000000 in
set_option maxRecDepth 100000 in
theorem kX7_pass (l : Launch) (G : gT) (al : Nat → Nat) (k : gC) (h : gK) (c : mC) (g : St) (t : St) (hX : gX G al k h c) (h1 : g 0 4 + 1 ≤ 5000) : Met l yX7_pass (fW yX7_pass cX7_pass 4 (some .int)) { frames := 7, cells := 0, slots := 0, locals := 154 } (gPre G al (w2 G al k c g t) [.ref (al 0), .int 1]) (gQi (S := Unit) G (fun _ => 0 + mDown k h g) (fun _ => al) (fun _ => w2 G al k c (mTick k h g) t)) 0 0 (gA G) := by
  refine Met.ofW (cc := cX7_pass) (maxL := 4) (ret := (some .int)) (by decide) rfl ?_
  intro pz ez s m args below meth c₀ s₁ Bo hml hv
  obtain ⟨rfl, hb0, hP, hE⟩ := hv
  have hx := Bo.exec
  have hb := Bo.bytes
  have hr := Bo.returns
  have hts0 := atoms_spec (ws := (fW yX7_pass cX7_pass 4 (some .int))) Bo.pre
  have hts : ∀ w ∈ fA, w.before _ s = true := fun w h => hts0 w (List.mem_cons_of_mem _ h)
  have hown : s.vm.findClass RX7 = some m.cls := findClass_of_methodNamed Bo.named
  have hlocks := Bo.notSynchronized
  have hl := lv_entry ([.ref (al 0), .int 1]) (n := 4) (Nat.le_of_ble_eq_true rfl)
  rw [lg_entry_eq]
  generalize (lg_sl ([.ref (al 0), .int 1]) ++ List.replicate (4 - (lg_sl ([.ref (al 0), .int 1])).length) Slot.unset).toArray = ls at hl ⊢
  have hl : lv_has ls 4 [(0, .ref (al 0)), (1, .int 1)] := hl
  have hJ := gX_J hX
  refine g_start hP (fun H hP hS => ?_)
  refine lv_iload_n hx hb dX7_pass_0 rfl (lv_at hl 1 rfl) ?_
  refine lv_iconst (v := 1) hx hb dX7_pass_1 (by decide) ?_
  refine lv_icmp_lt (tgt := 11) hx hb dX7_pass_2 (by decide) (fun h => absurd h (by decide)) (fun _ => ?_)
  refine lv_iload_n hx hb dX7_pass_5 rfl (lv_at hl 1 rfl) ?_
  refine lv_bipush (v := 100) hx hb dX7_pass_6 (by decide) ?_
  refine lv_icmp_le (tgt := 21) hx hb dX7_pass_8 (by decide) (fun _ => ?_) (fun h => absurd (by decide) h)
  refine lv_aload_n hx hb dX7_pass_21 rfl (lv_at hl 0 rfl) ?_
  refine m_get (C := RX7) (T := TX7) (N := 3) (ci := 8) (v := .ref (al 100)) hx hb hts uX7 hown hE hP 0 rfl (gX_0 hX) rfl 1 (by decide) (hts _ q368) (fun _ h9 => h9) rfl dX7_pass_22 ?_
  refine m_get (C := RX5) (T := TX5) (N := 15) (ci := 6) (v := .int (g 0 4)) hx hb hts uX5 hown hE hP 100 rfl ((congrFun (w2_c hJ) _).trans ov_s) rfl 4 (by decide) (hts _ q449) (fun _ h9 => h9) rfl dX7_pass_25 ?_
  refine lv_iload_n hx hb dX7_pass_28 rfl (lv_at hl 1 rfl) ?_
  refine lv_iadd hx hb dX7_pass_29 ?_
  refine lv_sipush (v := 5000) hx hb dX7_pass_30 (by decide) ?_
  refine lv_icmp_le (tgt := 46) hx hb dX7_pass_33 (by decide) (fun _ => ?_) (fun h => absurd h1 h)
  refine lv_iconst (v := 0) hx hb dX7_pass_46 (by decide) ?_
  refine lv_istore_n (lv' := [(2, .int 0), (0, .ref (al 0)), (1, .int 1)]) hx hb dX7_pass_47 rfl hl (by decide) rfl (fun ls hl => ?_)
  refine lv_iconst (v := 0) hx hb dX7_pass_48 (by decide) ?_
  refine lv_istore_n (lv' := [(3, .int 0), (2, .int 0), (0, .ref (al 0)), (1, .int 1)]) hx hb dX7_pass_49 rfl hl (by decide) rfl (fun ls hl => ?_)
  refine lv_iload_n hx hb dX7_pass_50 rfl (lv_at hl 0 rfl) ?_
  refine lv_iload_n hx hb dX7_pass_51 rfl (lv_at hl 3 rfl) ?_
  refine lv_icmp_ge (tgt := 71) hx hb dX7_pass_52 (by decide) (fun h => absurd h (by decide)) (fun _ => ?_)
  refine lv_iload_n hx hb dX7_pass_55 rfl (lv_at hl 1 rfl) ?_
  refine lv_aload_n hx hb dX7_pass_56 rfl (lv_at hl 2 rfl) ?_
  refine m_get (C := RX7) (T := TX7) (N := 3) (ci := 8) (v := .ref (al 100)) hx hb hts uX7 hown hE hP 0 rfl (gX_0 hX) rfl 1 (by decide) (hts _ q368) (fun _ h9 => h9) rfl dX7_pass_57 ?_
  have hP := m_cv hP (w2_c hJ)
  refine g_aft_i (g_runV (As := []) (rest := [.int 0]) hx hb hml hown hts (kX5_tick l G al k h 100 (ov G al k 200 c t) g (gF_o2 (gX_1 hX)) (gH_o2 (gX_3 hX) hJ) (Or.inl rfl)) (fcwV 0 hts q456 q457 q458 q211 q340 rfl rfl (by decide +kernel) ⟨(Nat.le_of_ble_eq_true rfl), (Nat.le_of_ble_eq_true rfl)⟩) hE hb0 hP hS (m_recvA hE hP 100 rfl ov_s rfl) rfl hl.1 rfl (Nat.le_of_ble_eq_true rfl) dX7_pass_60 ⟨(Nat.le_of_ble_eq_true rfl), (Nat.le_of_ble_eq_true rfl)⟩) hS (fun u H locs hP hS => ?_)
  have hP := m_cv hP (w2_c hJ).symm
  have hP : mP G al (w2 G al k c (mTick k h g) t) H := hP
  refine f_topi (v := mDown k h g) rfl ?_
  refine lv_iadd hx hb dX7_pass_63 ?_
  refine lv_istore_n (lv' := [(2, .int (0 + (mDown k h g))), (3, .int 0), (0, .ref (al 0)), (1, .int 1)]) hx hb dX7_pass_64 rfl hl (by decide) rfl (fun ls hl => ?_)
  refine lv_iinc (v := 1) (lv' := [(3, .int 1), (2, .int (0 + (mDown k h g))), (0, .ref (al 0)), (1, .int 1)]) hx hb dX7_pass_65 hl (k := 1) rfl (by decide) (by decide) rfl (fun ls hl => ?_)
  refine lv_goto (tgt := 50) hx hb dX7_pass_68 (by decide) ?_
  refine lv_iload_n hx hb dX7_pass_50 rfl (lv_at hl 0 rfl) ?_
  refine lv_iload_n hx hb dX7_pass_51 rfl (lv_at hl 3 rfl) ?_
  refine lv_icmp_ge (tgt := 71) hx hb dX7_pass_52 (by decide) (fun _ => ?_) (fun h => absurd (by decide) h)
  refine lv_iload_n hx hb dX7_pass_71 rfl (lv_at hl 1 rfl) ?_
  refine W.widen (k := 0) (n := 0) (Nat.le_of_ble_eq_true rfl) (Nat.le_of_ble_eq_true rfl) ?_
  exact W.iret (v := 0 + (mDown k h g)) hx hb hr (fun tz htz hW => ⟨⟨0 + (mDown k h g), (), rfl, (by rfl), g_end htz hP⟩, hS.F htz⟩) hS.2.2 dX7_pass_72
set_option maxHeartbeats 4000000 in
set_option maxRecDepth 100000 in
theorem kX7_ofPump_0 (l : Launch) (G : gT) (al : Nat → Nat) (k : gC) (h : gK) (c : mC) (g : St) (t : St) (p : Nat) (hX : gX G al k h c) (hp : p < 2) : Met l yX7_ofPump (fW yX7_ofPump cX7_ofPump 4 (some .int)) { frames := 8, cells := 0, slots := 0, locals := 320 } (gPre G al (w2 G al k c g t) [.ref (al 0), .int (nI p), .int 0]) (gQi (S := Unit) G (fun _ => mOfP k g p 0) (fun _ => al) (fun _ => w2 G al k c g t)) 0 0 (gA G) := by
  refine Met.ofW (cc := cX7_ofPump) (maxL := 4) (ret := (some .int)) (by decide) rfl ?_
  intro pz ez s m args below meth c₀ s₁ Bo hml hv
  obtain ⟨rfl, hb0, hP, hE⟩ := hv
  have hx := Bo.exec
  have hb := Bo.bytes
  have hr := Bo.returns
  have hts0 := atoms_spec (ws := (fW yX7_ofPump cX7_ofPump 4 (some .int))) Bo.pre
  have hts : ∀ w ∈ fA, w.before _ s = true := fun w h => hts0 w (List.mem_cons_of_mem _ h)
  have hown : s.vm.findClass RX7 = some m.cls := findClass_of_methodNamed Bo.named
  have hlocks := Bo.notSynchronized
  have hl := lv_entry ([.ref (al 0), .int (nI p), .int 0]) (n := 4) (Nat.le_of_ble_eq_true rfl)
  rw [lg_entry_eq]
  generalize (lg_sl ([.ref (al 0), .int (nI p), .int 0]) ++ List.replicate (4 - (lg_sl ([.ref (al 0), .int (nI p), .int 0])).length) Slot.unset).toArray = ls at hl ⊢
  have hl : lv_has ls 4 [(0, .ref (al 0)), (1, .int (nI p)), (2, .int 0)] := hl
  have hJ := gX_J hX
  refine g_start hP (fun H hP hS => ?_)
  refine lv_aload_n hx hb dX7_ofPump_0 rfl (lv_at hl 0 rfl) ?_
  refine lv_iload_n hx hb dX7_ofPump_1 rfl (lv_at hl 1 rfl) ?_
  refine g_aft_r (g_runV (As := [.int (nI p)]) (rest := []) hx hb hml hown hts (kX7_pumpNumbered l G al k h c g t p hX hp) (fcwV 1 hts q391 q392 q393 q148 q389 rfl rfl (by decide +kernel) ⟨(Nat.le_of_ble_eq_true rfl), (Nat.le_of_ble_eq_true rfl)⟩) hE hb0 hP hS (m_recvA hE hP 0 rfl (gX_0 hX) rfl) rfl hl.1 rfl (Nat.le_of_ble_eq_true rfl) dX7_ofPump_2 ⟨(Nat.le_of_ble_eq_true rfl), (Nat.le_of_ble_eq_true rfl)⟩) hS (fun u H locs hP hS => ?_)
  have hP : mP G al (w2 G al k c g t) H := hP
  refine g_topr (v := al (100 + 11 + p)) rfl ?_
  refine lv_astore_n (lv' := [(3, .ref (al (100 + 11 + p))), (0, .ref (al 0)), (1, .int (nI p)), (2, .int 0)]) hx hb dX7_ofPump_5 rfl hl (by decide) rfl (fun ls hl => ?_)
  refine lv_iload_n hx hb dX7_ofPump_6 rfl (lv_at hl 3 rfl) ?_
  refine lv_tableIn (off := 41) (tgt := 48) hx hb dX7_ofPump_7 (by decide) (by decide) (by decide) (by decide) ?_
  refine lv_aload_n hx hb dX7_ofPump_48 rfl (lv_at hl 0 rfl) ?_
  refine m_get (C := RX4) (T := TX4) (N := 6) (ci := 5) (v := .int (k.2.2 (1 + p) 1)) hx hb hts uX4 hown hE hP (100 + 11 + p) rfl ((congrFun (w2_c hJ) _).trans (ov_p hp)) rfl 1 (by decide) (hts _ q460) (fun _ h9 => h9) rfl dX7_ofPump_49 ?_
  refine W.widen (k := 0) (n := 0) (Nat.le_of_ble_eq_true rfl) (Nat.le_of_ble_eq_true rfl) ?_
  exact W.iret (v := k.2.2 (1 + p) 1) hx hb hr (fun tz htz hW => ⟨⟨k.2.2 (1 + p) 1, (), rfl, (by unfold mOfP; rfl), g_end htz hP⟩, hS.F htz⟩) hS.2.2 dX7_ofPump_52
set_option maxHeartbeats 4000000 in
set_option maxRecDepth 100000 in
theorem kX7_ofPump_1 (l : Launch) (G : gT) (al : Nat → Nat) (k : gC) (h : gK) (c : mC) (g : St) (t : St) (p : Nat) (hX : gX G al k h c) (hp : p < 2) : Met l yX7_ofPump (fW yX7_ofPump cX7_ofPump 4 (some .int)) { frames := 8, cells := 0, slots := 0, locals := 320 } (gPre G al (w2 G al k c g t) [.ref (al 0), .int (nI p), .int 1]) (gQi (S := Unit) G (fun _ => mOfP k g p 1) (fun _ => al) (fun _ => w2 G al k c g t)) 0 0 (gA G) := by
  refine Met.ofW (cc := cX7_ofPump) (maxL := 4) (ret := (some .int)) (by decide) rfl ?_
  intro pz ez s m args below meth c₀ s₁ Bo hml hv
  obtain ⟨rfl, hb0, hP, hE⟩ := hv
  have hx := Bo.exec
  have hb := Bo.bytes
  have hr := Bo.returns
  have hts0 := atoms_spec (ws := (fW yX7_ofPump cX7_ofPump 4 (some .int))) Bo.pre
  have hts : ∀ w ∈ fA, w.before _ s = true := fun w h => hts0 w (List.mem_cons_of_mem _ h)
  have hown : s.vm.findClass RX7 = some m.cls := findClass_of_methodNamed Bo.named
  have hlocks := Bo.notSynchronized
  have hl := lv_entry ([.ref (al 0), .int (nI p), .int 1]) (n := 4) (Nat.le_of_ble_eq_true rfl)
  rw [lg_entry_eq]
  generalize (lg_sl ([.ref (al 0), .int (nI p), .int 1]) ++ List.replicate (4 - (lg_sl ([.ref (al 0), .int (nI p), .int 1])).length) Slot.unset).toArray = ls at hl ⊢
  have hl : lv_has ls 4 [(0, .ref (al 0)), (1, .int (nI p)), (2, .int 1)] := hl
  have hJ := gX_J hX
  refine g_start hP (fun H hP hS => ?_)
  refine lv_aload_n hx hb dX7_ofPump_0 rfl (lv_at hl 0 rfl) ?_
  refine lv_iload_n hx hb dX7_ofPump_1 rfl (lv_at hl 1 rfl) ?_
  refine g_aft_r (g_runV (As := [.int (nI p)]) (rest := []) hx hb hml hown hts (kX7_pumpNumbered l G al k h c g t p hX hp) (fcwV 1 hts q391 q392 q393 q148 q389 rfl rfl (by decide +kernel) ⟨(Nat.le_of_ble_eq_true rfl), (Nat.le_of_ble_eq_true rfl)⟩) hE hb0 hP hS (m_recvA hE hP 0 rfl (gX_0 hX) rfl) rfl hl.1 rfl (Nat.le_of_ble_eq_true rfl) dX7_ofPump_2 ⟨(Nat.le_of_ble_eq_true rfl), (Nat.le_of_ble_eq_true rfl)⟩) hS (fun u H locs hP hS => ?_)
  have hP : mP G al (w2 G al k c g t) H := hP
  refine g_topr (v := al (100 + 11 + p)) rfl ?_
  refine lv_astore_n (lv' := [(3, .ref (al (100 + 11 + p))), (0, .ref (al 0)), (1, .int (nI p)), (2, .int 1)]) hx hb dX7_ofPump_5 rfl hl (by decide) rfl (fun ls hl => ?_)
  refine lv_iload_n hx hb dX7_ofPump_6 rfl (lv_at hl 3 rfl) ?_
  refine lv_tableIn (off := 46) (tgt := 53) hx hb dX7_ofPump_7 (by decide) (by decide) (by decide) (by decide) ?_
  refine lv_aload_n hx hb dX7_ofPump_53 rfl (lv_at hl 0 rfl) ?_
  refine m_get (C := RX4) (T := TX4) (N := 6) (ci := 5) (v := .int (g (1 + p) 2)) hx hb hts uX4 hown hE hP (100 + 11 + p) rfl ((congrFun (w2_c hJ) _).trans (ov_p hp)) rfl 2 (by decide) (hts _ q429) (fun _ h9 => h9) rfl dX7_ofPump_54 ?_
  refine W.widen (k := 0) (n := 0) (Nat.le_of_ble_eq_true rfl) (Nat.le_of_ble_eq_true rfl) ?_
  exact W.iret (v := g (1 + p) 2) hx hb hr (fun tz htz hW => ⟨⟨g (1 + p) 2, (), rfl, (by unfold mOfP; rfl), g_end htz hP⟩, hS.F htz⟩) hS.2.2 dX7_ofPump_57
set_option maxHeartbeats 4000000 in
set_option maxRecDepth 100000 in
theorem kX7_ofPump_2 (l : Launch) (G : gT) (al : Nat → Nat) (k : gC) (h : gK) (c : mC) (g : St) (t : St) (p : Nat) (hX : gX G al k h c) (hp : p < 2) : Met l yX7_ofPump (fW yX7_ofPump cX7_ofPump 4 (some .int)) { frames := 8, cells := 0, slots := 0, locals := 320 } (gPre G al (w2 G al k c g t) [.ref (al 0), .int (nI p), .int 2]) (gQi (S := Unit) G (fun _ => mOfP k g p 2) (fun _ => al) (fun _ => w2 G al k c g t)) 0 0 (gA G) := by
  refine Met.ofW (cc := cX7_ofPump) (maxL := 4) (ret := (some .int)) (by decide) rfl ?_
  intro pz ez s m args below meth c₀ s₁ Bo hml hv
  obtain ⟨rfl, hb0, hP, hE⟩ := hv
  have hx := Bo.exec
  have hb := Bo.bytes
  have hr := Bo.returns
  have hts0 := atoms_spec (ws := (fW yX7_ofPump cX7_ofPump 4 (some .int))) Bo.pre
  have hts : ∀ w ∈ fA, w.before _ s = true := fun w h => hts0 w (List.mem_cons_of_mem _ h)
  have hown : s.vm.findClass RX7 = some m.cls := findClass_of_methodNamed Bo.named
  have hlocks := Bo.notSynchronized
  have hl := lv_entry ([.ref (al 0), .int (nI p), .int 2]) (n := 4) (Nat.le_of_ble_eq_true rfl)
  rw [lg_entry_eq]
  generalize (lg_sl ([.ref (al 0), .int (nI p), .int 2]) ++ List.replicate (4 - (lg_sl ([.ref (al 0), .int (nI p), .int 2])).length) Slot.unset).toArray = ls at hl ⊢
  have hl : lv_has ls 4 [(0, .ref (al 0)), (1, .int (nI p)), (2, .int 2)] := hl
  have hJ := gX_J hX
  refine g_start hP (fun H hP hS => ?_)
  refine lv_aload_n hx hb dX7_ofPump_0 rfl (lv_at hl 0 rfl) ?_
  refine lv_iload_n hx hb dX7_ofPump_1 rfl (lv_at hl 1 rfl) ?_
  refine g_aft_r (g_runV (As := [.int (nI p)]) (rest := []) hx hb hml hown hts (kX7_pumpNumbered l G al k h c g t p hX hp) (fcwV 1 hts q391 q392 q393 q148 q389 rfl rfl (by decide +kernel) ⟨(Nat.le_of_ble_eq_true rfl), (Nat.le_of_ble_eq_true rfl)⟩) hE hb0 hP hS (m_recvA hE hP 0 rfl (gX_0 hX) rfl) rfl hl.1 rfl (Nat.le_of_ble_eq_true rfl) dX7_ofPump_2 ⟨(Nat.le_of_ble_eq_true rfl), (Nat.le_of_ble_eq_true rfl)⟩) hS (fun u H locs hP hS => ?_)
  have hP : mP G al (w2 G al k c g t) H := hP
  refine g_topr (v := al (100 + 11 + p)) rfl ?_
  refine lv_astore_n (lv' := [(3, .ref (al (100 + 11 + p))), (0, .ref (al 0)), (1, .int (nI p)), (2, .int 2)]) hx hb dX7_ofPump_5 rfl hl (by decide) rfl (fun ls hl => ?_)
  refine lv_iload_n hx hb dX7_ofPump_6 rfl (lv_at hl 3 rfl) ?_
  refine lv_tableIn (off := 51) (tgt := 58) hx hb dX7_ofPump_7 (by decide) (by decide) (by decide) (by decide) ?_
  refine lv_aload_n hx hb dX7_ofPump_58 rfl (lv_at hl 0 rfl) ?_
  refine m_get (C := RX4) (T := TX4) (N := 6) (ci := 5) (v := .int (g (1 + p) 3)) hx hb hts uX4 hown hE hP (100 + 11 + p) rfl ((congrFun (w2_c hJ) _).trans (ov_p hp)) rfl 3 (by decide) (hts _ q461) (fun _ h9 => h9) rfl dX7_ofPump_59 ?_
  refine W.widen (k := 0) (n := 0) (Nat.le_of_ble_eq_true rfl) (Nat.le_of_ble_eq_true rfl) ?_
  exact W.iret (v := g (1 + p) 3) hx hb hr (fun tz htz hW => ⟨⟨g (1 + p) 3, (), rfl, (by unfold mOfP; rfl), g_end htz hP⟩, hS.F htz⟩) hS.2.2 dX7_ofPump_62
set_option maxHeartbeats 4000000 in
set_option maxRecDepth 100000 in
theorem kX7_ofPump_3 (l : Launch) (G : gT) (al : Nat → Nat) (k : gC) (h : gK) (c : mC) (g : St) (t : St) (p : Nat) (hX : gX G al k h c) (hp : p < 2) : Met l yX7_ofPump (fW yX7_ofPump cX7_ofPump 4 (some .int)) { frames := 8, cells := 0, slots := 0, locals := 320 } (gPre G al (w2 G al k c g t) [.ref (al 0), .int (nI p), .int 3]) (gQi (S := Unit) G (fun _ => mOfP k g p 3) (fun _ => al) (fun _ => w2 G al k c g t)) 0 0 (gA G) := by
  refine Met.ofW (cc := cX7_ofPump) (maxL := 4) (ret := (some .int)) (by decide) rfl ?_
  intro pz ez s m args below meth c₀ s₁ Bo hml hv
  obtain ⟨rfl, hb0, hP, hE⟩ := hv
  have hx := Bo.exec
  have hb := Bo.bytes
  have hr := Bo.returns
  have hts0 := atoms_spec (ws := (fW yX7_ofPump cX7_ofPump 4 (some .int))) Bo.pre
  have hts : ∀ w ∈ fA, w.before _ s = true := fun w h => hts0 w (List.mem_cons_of_mem _ h)
  have hown : s.vm.findClass RX7 = some m.cls := findClass_of_methodNamed Bo.named
  have hlocks := Bo.notSynchronized
  have hl := lv_entry ([.ref (al 0), .int (nI p), .int 3]) (n := 4) (Nat.le_of_ble_eq_true rfl)
  rw [lg_entry_eq]
  generalize (lg_sl ([.ref (al 0), .int (nI p), .int 3]) ++ List.replicate (4 - (lg_sl ([.ref (al 0), .int (nI p), .int 3])).length) Slot.unset).toArray = ls at hl ⊢
  have hl : lv_has ls 4 [(0, .ref (al 0)), (1, .int (nI p)), (2, .int 3)] := hl
  have hJ := gX_J hX
  refine g_start hP (fun H hP hS => ?_)
  refine lv_aload_n hx hb dX7_ofPump_0 rfl (lv_at hl 0 rfl) ?_
  refine lv_iload_n hx hb dX7_ofPump_1 rfl (lv_at hl 1 rfl) ?_
  refine g_aft_r (g_runV (As := [.int (nI p)]) (rest := []) hx hb hml hown hts (kX7_pumpNumbered l G al k h c g t p hX hp) (fcwV 1 hts q391 q392 q393 q148 q389 rfl rfl (by decide +kernel) ⟨(Nat.le_of_ble_eq_true rfl), (Nat.le_of_ble_eq_true rfl)⟩) hE hb0 hP hS (m_recvA hE hP 0 rfl (gX_0 hX) rfl) rfl hl.1 rfl (Nat.le_of_ble_eq_true rfl) dX7_ofPump_2 ⟨(Nat.le_of_ble_eq_true rfl), (Nat.le_of_ble_eq_true rfl)⟩) hS (fun u H locs hP hS => ?_)
  have hP : mP G al (w2 G al k c g t) H := hP
  refine g_topr (v := al (100 + 11 + p)) rfl ?_
  refine lv_astore_n (lv' := [(3, .ref (al (100 + 11 + p))), (0, .ref (al 0)), (1, .int (nI p)), (2, .int 3)]) hx hb dX7_ofPump_5 rfl hl (by decide) rfl (fun ls hl => ?_)
  refine lv_iload_n hx hb dX7_ofPump_6 rfl (lv_at hl 3 rfl) ?_
  refine lv_tableIn (off := 56) (tgt := 63) hx hb dX7_ofPump_7 (by decide) (by decide) (by decide) (by decide) ?_
  refine lv_aload_n hx hb dX7_ofPump_63 rfl (lv_at hl 1 rfl) ?_
  refine m_get (C := RX7) (T := TX7) (N := 3) (ci := 8) (v := .ref (al 100)) hx hb hts uX7 hown hE hP 0 rfl (gX_0 hX) rfl 1 (by decide) (hts _ q368) (fun _ h9 => h9) rfl dX7_ofPump_64 ?_
  refine lv_aload_n hx hb dX7_ofPump_67 rfl (lv_at hl 0 rfl) ?_
  have hP := m_cv hP (w2_c hJ)
  refine g_aft_i (g_runV (As := [.ref (al (100 + 11 + p))]) (rest := []) hx hb hml hown hts (kX5_pressureOf l G al k h 100 (ov G al k 200 c t) g p (gF_o2 (gX_1 hX)) hp) (fcwV 1 hts q462 q209 q210 q211 q204 rfl rfl (by decide +kernel) ⟨(Nat.le_of_ble_eq_true rfl), (Nat.le_of_ble_eq_true rfl)⟩) hE hb0 hP hS (m_recvA hE hP 100 rfl ov_s rfl) rfl hl.1 rfl (Nat.le_of_ble_eq_true rfl) dX7_ofPump_68 ⟨(Nat.le_of_ble_eq_true rfl), (Nat.le_of_ble_eq_true rfl)⟩) hS (fun u H locs hP hS => ?_)
  have hP := m_cv hP (w2_c hJ).symm
  have hP : mP G al (w2 G al k c g t) H := hP
  refine f_topi (v := mPress k g p) rfl ?_
  refine W.widen (k := 0) (n := 0) (Nat.le_of_ble_eq_true rfl) (Nat.le_of_ble_eq_true rfl) ?_
  exact W.iret (v := mPress k g p) hx hb hr (fun tz htz hW => ⟨⟨mPress k g p, (), rfl, (by unfold mOfP; rfl), g_end htz hP⟩, hS.F htz⟩) hS.2.2 dX7_ofPump_71
set_option maxHeartbeats 4000000 in
set_option maxRecDepth 100000 in
theorem kX7_ofPump_4 (l : Launch) (G : gT) (al : Nat → Nat) (k : gC) (h : gK) (c : mC) (g : St) (t : St) (p : Nat) (hX : gX G al k h c) (hp : p < 2) : Met l yX7_ofPump (fW yX7_ofPump cX7_ofPump 4 (some .int)) { frames := 8, cells := 0, slots := 0, locals := 320 } (gPre G al (w2 G al k c g t) [.ref (al 0), .int (nI p), .int 4]) (gQi (S := Unit) G (fun _ => mOfP k g p 4) (fun _ => al) (fun _ => w2 G al k c g t)) 0 0 (gA G) := by
  refine Met.ofW (cc := cX7_ofPump) (maxL := 4) (ret := (some .int)) (by decide) rfl ?_
  intro pz ez s m args below meth c₀ s₁ Bo hml hv
  obtain ⟨rfl, hb0, hP, hE⟩ := hv
  have hx := Bo.exec
  have hb := Bo.bytes
  have hr := Bo.returns
  have hts0 := atoms_spec (ws := (fW yX7_ofPump cX7_ofPump 4 (some .int))) Bo.pre
  have hts : ∀ w ∈ fA, w.before _ s = true := fun w h => hts0 w (List.mem_cons_of_mem _ h)
  have hown : s.vm.findClass RX7 = some m.cls := findClass_of_methodNamed Bo.named
  have hlocks := Bo.notSynchronized
  have hl := lv_entry ([.ref (al 0), .int (nI p), .int 4]) (n := 4) (Nat.le_of_ble_eq_true rfl)
  rw [lg_entry_eq]
  generalize (lg_sl ([.ref (al 0), .int (nI p), .int 4]) ++ List.replicate (4 - (lg_sl ([.ref (al 0), .int (nI p), .int 4])).length) Slot.unset).toArray = ls at hl ⊢
  have hl : lv_has ls 4 [(0, .ref (al 0)), (1, .int (nI p)), (2, .int 4)] := hl
  have hJ := gX_J hX
  refine g_start hP (fun H hP hS => ?_)
  refine lv_aload_n hx hb dX7_ofPump_0 rfl (lv_at hl 0 rfl) ?_
  refine lv_iload_n hx hb dX7_ofPump_1 rfl (lv_at hl 1 rfl) ?_
  refine g_aft_r (g_runV (As := [.int (nI p)]) (rest := []) hx hb hml hown hts (kX7_pumpNumbered l G al k h c g t p hX hp) (fcwV 1 hts q391 q392 q393 q148 q389 rfl rfl (by decide +kernel) ⟨(Nat.le_of_ble_eq_true rfl), (Nat.le_of_ble_eq_true rfl)⟩) hE hb0 hP hS (m_recvA hE hP 0 rfl (gX_0 hX) rfl) rfl hl.1 rfl (Nat.le_of_ble_eq_true rfl) dX7_ofPump_2 ⟨(Nat.le_of_ble_eq_true rfl), (Nat.le_of_ble_eq_true rfl)⟩) hS (fun u H locs hP hS => ?_)
  have hP : mP G al (w2 G al k c g t) H := hP
  refine g_topr (v := al (100 + 11 + p)) rfl ?_
  refine lv_astore_n (lv' := [(3, .ref (al (100 + 11 + p))), (0, .ref (al 0)), (1, .int (nI p)), (2, .int 4)]) hx hb dX7_ofPump_5 rfl hl (by decide) rfl (fun ls hl => ?_)
  refine lv_iload_n hx hb dX7_ofPump_6 rfl (lv_at hl 3 rfl) ?_
  refine lv_tableIn (off := 65) (tgt := 72) hx hb dX7_ofPump_7 (by decide) (by decide) (by decide) (by decide) ?_
  refine lv_aload_n hx hb dX7_ofPump_72 rfl (lv_at hl 0 rfl) ?_
  refine m_get (C := RX4) (T := TX4) (N := 6) (ci := 5) (v := .int (bz (g (1 + p) 4))) hx hb hts uX4 hown hE hP (100 + 11 + p) rfl ((congrFun (w2_c hJ) _).trans (ov_p hp)) rfl 4 (by decide) (hts _ q428) (fun _ h9 => h9) rfl dX7_ofPump_73 ?_
  refine lv_if_eq (tgt := 83) hx hb dX7_ofPump_76 (by decide) (fun hc_1 => ?_) (fun hc_1 => ?_)
  · skip
    refine lv_iconst (v := 0) hx hb dX7_ofPump_83 (by decide) ?_
    refine W.widen (k := 0) (n := 0) (Nat.le_of_ble_eq_true rfl) (Nat.le_of_ble_eq_true rfl) ?_
    exact W.iret (v := 0) hx hb hr (fun tz htz hW => ⟨⟨0, (), rfl, (by unfold mOfP; rw [if_pos hc_1]; try rfl), g_end htz hP⟩, hS.F htz⟩) hS.2.2 dX7_ofPump_84
  · skip
    refine lv_iconst (v := 1) hx hb dX7_ofPump_79 (by decide) ?_
    refine lv_goto (tgt := 84) hx hb dX7_ofPump_80 (by decide) ?_
    refine W.widen (k := 0) (n := 0) (Nat.le_of_ble_eq_true rfl) (Nat.le_of_ble_eq_true rfl) ?_
    exact W.iret (v := 1) hx hb hr (fun tz htz hW => ⟨⟨1, (), rfl, (by unfold mOfP; rw [if_neg hc_1]; try rfl), g_end htz hP⟩, hS.F htz⟩) hS.2.2 dX7_ofPump_84
set_option maxHeartbeats 4000000 in
set_option maxRecDepth 100000 in
theorem kX7_ofPump_5 (l : Launch) (G : gT) (al : Nat → Nat) (k : gC) (h : gK) (c : mC) (g : St) (t : St) (p : Nat) (hX : gX G al k h c) (hp : p < 2) : Met l yX7_ofPump (fW yX7_ofPump cX7_ofPump 4 (some .int)) { frames := 8, cells := 0, slots := 0, locals := 320 } (gPre G al (w2 G al k c g t) [.ref (al 0), .int (nI p), .int 5]) (gQi (S := Unit) G (fun _ => mOfP k g p 5) (fun _ => al) (fun _ => w2 G al k c g t)) 0 0 (gA G) := by
  refine Met.ofW (cc := cX7_ofPump) (maxL := 4) (ret := (some .int)) (by decide) rfl ?_
  intro pz ez s m args below meth c₀ s₁ Bo hml hv
  obtain ⟨rfl, hb0, hP, hE⟩ := hv
  have hx := Bo.exec
  have hb := Bo.bytes
  have hr := Bo.returns
  have hts0 := atoms_spec (ws := (fW yX7_ofPump cX7_ofPump 4 (some .int))) Bo.pre
  have hts : ∀ w ∈ fA, w.before _ s = true := fun w h => hts0 w (List.mem_cons_of_mem _ h)
  have hown : s.vm.findClass RX7 = some m.cls := findClass_of_methodNamed Bo.named
  have hlocks := Bo.notSynchronized
  have hl := lv_entry ([.ref (al 0), .int (nI p), .int 5]) (n := 4) (Nat.le_of_ble_eq_true rfl)
  rw [lg_entry_eq]
  generalize (lg_sl ([.ref (al 0), .int (nI p), .int 5]) ++ List.replicate (4 - (lg_sl ([.ref (al 0), .int (nI p), .int 5])).length) Slot.unset).toArray = ls at hl ⊢
  have hl : lv_has ls 4 [(0, .ref (al 0)), (1, .int (nI p)), (2, .int 5)] := hl
  have hJ := gX_J hX
  refine g_start hP (fun H hP hS => ?_)
  refine lv_aload_n hx hb dX7_ofPump_0 rfl (lv_at hl 0 rfl) ?_
  refine lv_iload_n hx hb dX7_ofPump_1 rfl (lv_at hl 1 rfl) ?_
  refine g_aft_r (g_runV (As := [.int (nI p)]) (rest := []) hx hb hml hown hts (kX7_pumpNumbered l G al k h c g t p hX hp) (fcwV 1 hts q391 q392 q393 q148 q389 rfl rfl (by decide +kernel) ⟨(Nat.le_of_ble_eq_true rfl), (Nat.le_of_ble_eq_true rfl)⟩) hE hb0 hP hS (m_recvA hE hP 0 rfl (gX_0 hX) rfl) rfl hl.1 rfl (Nat.le_of_ble_eq_true rfl) dX7_ofPump_2 ⟨(Nat.le_of_ble_eq_true rfl), (Nat.le_of_ble_eq_true rfl)⟩) hS (fun u H locs hP hS => ?_)
  have hP : mP G al (w2 G al k c g t) H := hP
  refine g_topr (v := al (100 + 11 + p)) rfl ?_
  refine lv_astore_n (lv' := [(3, .ref (al (100 + 11 + p))), (0, .ref (al 0)), (1, .int (nI p)), (2, .int 5)]) hx hb dX7_ofPump_5 rfl hl (by decide) rfl (fun ls hl => ?_)
  refine lv_iload_n hx hb dX7_ofPump_6 rfl (lv_at hl 3 rfl) ?_
  refine lv_tableIn (off := 78) (tgt := 85) hx hb dX7_ofPump_7 (by decide) (by decide) (by decide) (by decide) ?_
  refine lv_aload_n hx hb dX7_ofPump_85 rfl (lv_at hl 1 rfl) ?_
  refine m_get (C := RX7) (T := TX7) (N := 3) (ci := 8) (v := .ref (al 100)) hx hb hts uX7 hown hE hP 0 rfl (gX_0 hX) rfl 1 (by decide) (hts _ q368) (fun _ h9 => h9) rfl dX7_ofPump_86 ?_
  refine lv_aload_n hx hb dX7_ofPump_89 rfl (lv_at hl 0 rfl) ?_
  have hP := m_cv hP (w2_c hJ)
  refine g_aft_i (g_runV (As := [.ref (al (100 + 11 + p))]) (rest := []) hx hb hml hown hts (kX5_jetsOf l G al k h 100 (ov G al k 200 c t) g p (gF_o2 (gX_1 hX)) hp) (fcwV 1 hts q463 q464 q465 q211 q345 rfl rfl (by decide +kernel) ⟨(Nat.le_of_ble_eq_true rfl), (Nat.le_of_ble_eq_true rfl)⟩) hE hb0 hP hS (m_recvA hE hP 100 rfl ov_s rfl) rfl hl.1 rfl (Nat.le_of_ble_eq_true rfl) dX7_ofPump_90 ⟨(Nat.le_of_ble_eq_true rfl), (Nat.le_of_ble_eq_true rfl)⟩) hS (fun u H locs hP hS => ?_)
  have hP := m_cv hP (w2_c hJ).symm
  have hP : mP G al (w2 G al k c g t) H := hP
  refine f_topi (v := mJets k p) rfl ?_
  refine W.widen (k := 0) (n := 0) (Nat.le_of_ble_eq_true rfl) (Nat.le_of_ble_eq_true rfl) ?_
  exact W.iret (v := mJets k p) hx hb hr (fun tz htz hW => ⟨⟨mJets k p, (), rfl, (by unfold mOfP; rfl), g_end htz hP⟩, hS.F htz⟩) hS.2.2 dX7_ofPump_93
set_option maxHeartbeats 4000000 in
set_option maxRecDepth 100000 in
theorem kX7_ofPump_6 (l : Launch) (G : gT) (al : Nat → Nat) (k : gC) (h : gK) (c : mC) (g : St) (t : St) (p : Nat) (hX : gX G al k h c) (hp : p < 2) : Met l yX7_ofPump (fW yX7_ofPump cX7_ofPump 4 (some .int)) { frames := 8, cells := 0, slots := 0, locals := 320 } (gPre G al (w2 G al k c g t) [.ref (al 0), .int (nI p), .int 6]) (gQi (S := Unit) G (fun _ => mOfP k g p 6) (fun _ => al) (fun _ => w2 G al k c g t)) 0 0 (gA G) := by
  refine Met.ofW (cc := cX7_ofPump) (maxL := 4) (ret := (some .int)) (by decide) rfl ?_
  intro pz ez s m args below meth c₀ s₁ Bo hml hv
  obtain ⟨rfl, hb0, hP, hE⟩ := hv
  have hx := Bo.exec
  have hb := Bo.bytes
  have hr := Bo.returns
  have hts0 := atoms_spec (ws := (fW yX7_ofPump cX7_ofPump 4 (some .int))) Bo.pre
  have hts : ∀ w ∈ fA, w.before _ s = true := fun w h => hts0 w (List.mem_cons_of_mem _ h)
  have hown : s.vm.findClass RX7 = some m.cls := findClass_of_methodNamed Bo.named
  have hlocks := Bo.notSynchronized
  have hl := lv_entry ([.ref (al 0), .int (nI p), .int 6]) (n := 4) (Nat.le_of_ble_eq_true rfl)
  rw [lg_entry_eq]
  generalize (lg_sl ([.ref (al 0), .int (nI p), .int 6]) ++ List.replicate (4 - (lg_sl ([.ref (al 0), .int (nI p), .int 6])).length) Slot.unset).toArray = ls at hl ⊢
  have hl : lv_has ls 4 [(0, .ref (al 0)), (1, .int (nI p)), (2, .int 6)] := hl
  have hJ := gX_J hX
  refine g_start hP (fun H hP hS => ?_)
  refine lv_aload_n hx hb dX7_ofPump_0 rfl (lv_at hl 0 rfl) ?_
  refine lv_iload_n hx hb dX7_ofPump_1 rfl (lv_at hl 1 rfl) ?_
  refine g_aft_r (g_runV (As := [.int (nI p)]) (rest := []) hx hb hml hown hts (kX7_pumpNumbered l G al k h c g t p hX hp) (fcwV 1 hts q391 q392 q393 q148 q389 rfl rfl (by decide +kernel) ⟨(Nat.le_of_ble_eq_true rfl), (Nat.le_of_ble_eq_true rfl)⟩) hE hb0 hP hS (m_recvA hE hP 0 rfl (gX_0 hX) rfl) rfl hl.1 rfl (Nat.le_of_ble_eq_true rfl) dX7_ofPump_2 ⟨(Nat.le_of_ble_eq_true rfl), (Nat.le_of_ble_eq_true rfl)⟩) hS (fun u H locs hP hS => ?_)
  have hP : mP G al (w2 G al k c g t) H := hP
  refine g_topr (v := al (100 + 11 + p)) rfl ?_
  refine lv_astore_n (lv' := [(3, .ref (al (100 + 11 + p))), (0, .ref (al 0)), (1, .int (nI p)), (2, .int 6)]) hx hb dX7_ofPump_5 rfl hl (by decide) rfl (fun ls hl => ?_)
  refine lv_iload_n hx hb dX7_ofPump_6 rfl (lv_at hl 3 rfl) ?_
  refine lv_tableIn (off := 87) (tgt := 94) hx hb dX7_ofPump_7 (by decide) (by decide) (by decide) (by decide) ?_
  refine lv_aload_n hx hb dX7_ofPump_94 rfl (lv_at hl 0 rfl) ?_
  refine m_get (C := RX4) (T := TX4) (N := 6) (ci := 5) (v := .int (g (1 + p) 5)) hx hb hts uX4 hown hE hP (100 + 11 + p) rfl ((congrFun (w2_c hJ) _).trans (ov_p hp)) rfl 5 (by decide) (hts _ q433) (fun _ h9 => h9) rfl dX7_ofPump_95 ?_
  refine W.widen (k := 0) (n := 0) (Nat.le_of_ble_eq_true rfl) (Nat.le_of_ble_eq_true rfl) ?_
  exact W.iret (v := g (1 + p) 5) hx hb hr (fun tz htz hW => ⟨⟨g (1 + p) 5, (), rfl, (by unfold mOfP; rfl), g_end htz hP⟩, hS.F htz⟩) hS.2.2 dX7_ofPump_98
set_option maxHeartbeats 4000000 in
set_option maxRecDepth 100000 in
theorem kX7_ofJet_0 (l : Launch) (G : gT) (al : Nat → Nat) (k : gC) (h : gK) (c : mC) (g : St) (t : St) (j : Nat) (hX : gX G al k h c) (hj : j < k.1) : Met l yX7_ofJet (fW yX7_ofJet cX7_ofJet 4 (some .int)) { frames := 8, cells := 0, slots := 0, locals := 320 } (gPre G al (w2 G al k c g t) [.ref (al 0), .int (nI j), .int 0]) (gQi (S := Unit) G (fun _ => mOfJ k g j 0) (fun _ => al) (fun _ => w2 G al k c g t)) 0 0 (gA G) := by
  refine Met.ofW (cc := cX7_ofJet) (maxL := 4) (ret := (some .int)) (by decide) rfl ?_
  intro pz ez s m args below meth c₀ s₁ Bo hml hv
  obtain ⟨rfl, hb0, hP, hE⟩ := hv
  have hx := Bo.exec
  have hb := Bo.bytes
  have hr := Bo.returns
  have hts0 := atoms_spec (ws := (fW yX7_ofJet cX7_ofJet 4 (some .int))) Bo.pre
  have hts : ∀ w ∈ fA, w.before _ s = true := fun w h => hts0 w (List.mem_cons_of_mem _ h)
  have hown : s.vm.findClass RX7 = some m.cls := findClass_of_methodNamed Bo.named
  have hlocks := Bo.notSynchronized
  have hl := lv_entry ([.ref (al 0), .int (nI j), .int 0]) (n := 4) (Nat.le_of_ble_eq_true rfl)
  rw [lg_entry_eq]
  generalize (lg_sl ([.ref (al 0), .int (nI j), .int 0]) ++ List.replicate (4 - (lg_sl ([.ref (al 0), .int (nI j), .int 0])).length) Slot.unset).toArray = ls at hl ⊢
  have hl : lv_has ls 4 [(0, .ref (al 0)), (1, .int (nI j)), (2, .int 0)] := hl
  have hJ := gX_J hX
  refine g_start hP (fun H hP hS => ?_)
  refine lv_aload_n hx hb dX7_ofJet_0 rfl (lv_at hl 0 rfl) ?_
  refine lv_iload_n hx hb dX7_ofJet_1 rfl (lv_at hl 1 rfl) ?_
  refine g_aft_r (g_runV (As := [.int (nI j)]) (rest := []) hx hb hml hown hts (kX7_jetNumbered l G al k h c g t j hX hj) (fcwV 1 hts q424 q425 q426 q148 q421 rfl rfl (by decide +kernel) ⟨(Nat.le_of_ble_eq_true rfl), (Nat.le_of_ble_eq_true rfl)⟩) hE hb0 hP hS (m_recvA hE hP 0 rfl (gX_0 hX) rfl) rfl hl.1 rfl (Nat.le_of_ble_eq_true rfl) dX7_ofJet_2 ⟨(Nat.le_of_ble_eq_true rfl), (Nat.le_of_ble_eq_true rfl)⟩) hS (fun u H locs hP hS => ?_)
  have hP : mP G al (w2 G al k c g t) H := hP
  refine g_topr (v := al (100 + 20 + j)) rfl ?_
  refine lv_astore_n (lv' := [(3, .ref (al (100 + 20 + j))), (0, .ref (al 0)), (1, .int (nI j)), (2, .int 0)]) hx hb dX7_ofJet_5 rfl hl (by decide) rfl (fun ls hl => ?_)
  refine lv_iload_n hx hb dX7_ofJet_6 rfl (lv_at hl 3 rfl) ?_
  refine lv_tableIn (off := 61) (tgt := 68) hx hb dX7_ofJet_7 (by decide) (by decide) (by decide) (by decide) ?_
  refine lv_aload_n hx hb dX7_ofJet_68 rfl (lv_at hl 0 rfl) ?_
  refine m_get (C := RX3) (T := TX3) (N := 10) (ci := 4) (v := .ref (al (100 + 11 + k.2.1 j))) hx hb hts uX3 hown hE hP (100 + 20 + j) rfl ((congrFun (w2_c hJ) _).trans (ov_j hj)) rfl 0 (by decide) (hts _ q467) (fun _ h9 => h9) rfl dX7_ofJet_69 ?_
  refine m_get (C := RX4) (T := TX4) (N := 6) (ci := 5) (v := .int (nI (k.2.1 j))) hx hb hts uX4 hown hE hP (100 + 11 + k.2.1 j) rfl ((congrFun (w2_c hJ) _).trans (ov_p (gF_pp (gX_1 hX) hj))) rfl 0 (by decide) (hts _ q468) (fun _ h9 => h9) rfl dX7_ofJet_72 ?_
  refine W.widen (k := 0) (n := 0) (Nat.le_of_ble_eq_true rfl) (Nat.le_of_ble_eq_true rfl) ?_
  exact W.iret (v := nI (k.2.1 j)) hx hb hr (fun tz htz hW => ⟨⟨nI (k.2.1 j), (), rfl, (by unfold mOfJ; rfl), g_end htz hP⟩, hS.F htz⟩) hS.2.2 dX7_ofJet_75
set_option maxHeartbeats 4000000 in
set_option maxRecDepth 100000 in
theorem kX7_ofJet_1 (l : Launch) (G : gT) (al : Nat → Nat) (k : gC) (h : gK) (c : mC) (g : St) (t : St) (j : Nat) (hX : gX G al k h c) (hj : j < k.1) : Met l yX7_ofJet (fW yX7_ofJet cX7_ofJet 4 (some .int)) { frames := 8, cells := 0, slots := 0, locals := 320 } (gPre G al (w2 G al k c g t) [.ref (al 0), .int (nI j), .int 1]) (gQi (S := Unit) G (fun _ => mOfJ k g j 1) (fun _ => al) (fun _ => w2 G al k c g t)) 0 0 (gA G) := by
  refine Met.ofW (cc := cX7_ofJet) (maxL := 4) (ret := (some .int)) (by decide) rfl ?_
  intro pz ez s m args below meth c₀ s₁ Bo hml hv
  obtain ⟨rfl, hb0, hP, hE⟩ := hv
  have hx := Bo.exec
  have hb := Bo.bytes
  have hr := Bo.returns
  have hts0 := atoms_spec (ws := (fW yX7_ofJet cX7_ofJet 4 (some .int))) Bo.pre
  have hts : ∀ w ∈ fA, w.before _ s = true := fun w h => hts0 w (List.mem_cons_of_mem _ h)
  have hown : s.vm.findClass RX7 = some m.cls := findClass_of_methodNamed Bo.named
  have hlocks := Bo.notSynchronized
  have hl := lv_entry ([.ref (al 0), .int (nI j), .int 1]) (n := 4) (Nat.le_of_ble_eq_true rfl)
  rw [lg_entry_eq]
  generalize (lg_sl ([.ref (al 0), .int (nI j), .int 1]) ++ List.replicate (4 - (lg_sl ([.ref (al 0), .int (nI j), .int 1])).length) Slot.unset).toArray = ls at hl ⊢
  have hl : lv_has ls 4 [(0, .ref (al 0)), (1, .int (nI j)), (2, .int 1)] := hl
  have hJ := gX_J hX
  refine g_start hP (fun H hP hS => ?_)
  refine lv_aload_n hx hb dX7_ofJet_0 rfl (lv_at hl 0 rfl) ?_
  refine lv_iload_n hx hb dX7_ofJet_1 rfl (lv_at hl 1 rfl) ?_
  refine g_aft_r (g_runV (As := [.int (nI j)]) (rest := []) hx hb hml hown hts (kX7_jetNumbered l G al k h c g t j hX hj) (fcwV 1 hts q424 q425 q426 q148 q421 rfl rfl (by decide +kernel) ⟨(Nat.le_of_ble_eq_true rfl), (Nat.le_of_ble_eq_true rfl)⟩) hE hb0 hP hS (m_recvA hE hP 0 rfl (gX_0 hX) rfl) rfl hl.1 rfl (Nat.le_of_ble_eq_true rfl) dX7_ofJet_2 ⟨(Nat.le_of_ble_eq_true rfl), (Nat.le_of_ble_eq_true rfl)⟩) hS (fun u H locs hP hS => ?_)
  have hP : mP G al (w2 G al k c g t) H := hP
  refine g_topr (v := al (100 + 20 + j)) rfl ?_
  refine lv_astore_n (lv' := [(3, .ref (al (100 + 20 + j))), (0, .ref (al 0)), (1, .int (nI j)), (2, .int 1)]) hx hb dX7_ofJet_5 rfl hl (by decide) rfl (fun ls hl => ?_)
  refine lv_iload_n hx hb dX7_ofJet_6 rfl (lv_at hl 3 rfl) ?_
  refine lv_tableIn (off := 69) (tgt := 76) hx hb dX7_ofJet_7 (by decide) (by decide) (by decide) (by decide) ?_
  refine lv_aload_n hx hb dX7_ofJet_76 rfl (lv_at hl 0 rfl) ?_
  refine m_get (C := RX3) (T := TX3) (N := 10) (ci := 4) (v := .int (k.2.2 (3 + j) 1)) hx hb hts uX3 hown hE hP (100 + 20 + j) rfl ((congrFun (w2_c hJ) _).trans (ov_j hj)) rfl 1 (by decide) (hts _ q469) (fun _ h9 => h9) rfl dX7_ofJet_77 ?_
  refine W.widen (k := 0) (n := 0) (Nat.le_of_ble_eq_true rfl) (Nat.le_of_ble_eq_true rfl) ?_
  exact W.iret (v := k.2.2 (3 + j) 1) hx hb hr (fun tz htz hW => ⟨⟨k.2.2 (3 + j) 1, (), rfl, (by unfold mOfJ; rfl), g_end htz hP⟩, hS.F htz⟩) hS.2.2 dX7_ofJet_80
set_option maxHeartbeats 4000000 in
set_option maxRecDepth 100000 in
theorem kX7_ofJet_2 (l : Launch) (G : gT) (al : Nat → Nat) (k : gC) (h : gK) (c : mC) (g : St) (t : St) (j : Nat) (hX : gX G al k h c) (hj : j < k.1) : Met l yX7_ofJet (fW yX7_ofJet cX7_ofJet 4 (some .int)) { frames := 8, cells := 0, slots := 0, locals := 320 } (gPre G al (w2 G al k c g t) [.ref (al 0), .int (nI j), .int 2]) (gQi (S := Unit) G (fun _ => mOfJ k g j 2) (fun _ => al) (fun _ => w2 G al k c g t)) 0 0 (gA G) := by
  refine Met.ofW (cc := cX7_ofJet) (maxL := 4) (ret := (some .int)) (by decide) rfl ?_
  intro pz ez s m args below meth c₀ s₁ Bo hml hv
  obtain ⟨rfl, hb0, hP, hE⟩ := hv
  have hx := Bo.exec
  have hb := Bo.bytes
  have hr := Bo.returns
  have hts0 := atoms_spec (ws := (fW yX7_ofJet cX7_ofJet 4 (some .int))) Bo.pre
  have hts : ∀ w ∈ fA, w.before _ s = true := fun w h => hts0 w (List.mem_cons_of_mem _ h)
  have hown : s.vm.findClass RX7 = some m.cls := findClass_of_methodNamed Bo.named
  have hlocks := Bo.notSynchronized
  have hl := lv_entry ([.ref (al 0), .int (nI j), .int 2]) (n := 4) (Nat.le_of_ble_eq_true rfl)
  rw [lg_entry_eq]
  generalize (lg_sl ([.ref (al 0), .int (nI j), .int 2]) ++ List.replicate (4 - (lg_sl ([.ref (al 0), .int (nI j), .int 2])).length) Slot.unset).toArray = ls at hl ⊢
  have hl : lv_has ls 4 [(0, .ref (al 0)), (1, .int (nI j)), (2, .int 2)] := hl
  have hJ := gX_J hX
  refine g_start hP (fun H hP hS => ?_)
  refine lv_aload_n hx hb dX7_ofJet_0 rfl (lv_at hl 0 rfl) ?_
  refine lv_iload_n hx hb dX7_ofJet_1 rfl (lv_at hl 1 rfl) ?_
  refine g_aft_r (g_runV (As := [.int (nI j)]) (rest := []) hx hb hml hown hts (kX7_jetNumbered l G al k h c g t j hX hj) (fcwV 1 hts q424 q425 q426 q148 q421 rfl rfl (by decide +kernel) ⟨(Nat.le_of_ble_eq_true rfl), (Nat.le_of_ble_eq_true rfl)⟩) hE hb0 hP hS (m_recvA hE hP 0 rfl (gX_0 hX) rfl) rfl hl.1 rfl (Nat.le_of_ble_eq_true rfl) dX7_ofJet_2 ⟨(Nat.le_of_ble_eq_true rfl), (Nat.le_of_ble_eq_true rfl)⟩) hS (fun u H locs hP hS => ?_)
  have hP : mP G al (w2 G al k c g t) H := hP
  refine g_topr (v := al (100 + 20 + j)) rfl ?_
  refine lv_astore_n (lv' := [(3, .ref (al (100 + 20 + j))), (0, .ref (al 0)), (1, .int (nI j)), (2, .int 2)]) hx hb dX7_ofJet_5 rfl hl (by decide) rfl (fun ls hl => ?_)
  refine lv_iload_n hx hb dX7_ofJet_6 rfl (lv_at hl 3 rfl) ?_
  refine lv_tableIn (off := 74) (tgt := 81) hx hb dX7_ofJet_7 (by decide) (by decide) (by decide) (by decide) ?_
  refine lv_aload_n hx hb dX7_ofJet_81 rfl (lv_at hl 0 rfl) ?_
  refine m_get (C := RX3) (T := TX3) (N := 10) (ci := 4) (v := .int (k.2.2 (3 + j) 2)) hx hb hts uX3 hown hE hP (100 + 20 + j) rfl ((congrFun (w2_c hJ) _).trans (ov_j hj)) rfl 2 (by decide) (hts _ q470) (fun _ h9 => h9) rfl dX7_ofJet_82 ?_
  refine W.widen (k := 0) (n := 0) (Nat.le_of_ble_eq_true rfl) (Nat.le_of_ble_eq_true rfl) ?_
  exact W.iret (v := k.2.2 (3 + j) 2) hx hb hr (fun tz htz hW => ⟨⟨k.2.2 (3 + j) 2, (), rfl, (by unfold mOfJ; rfl), g_end htz hP⟩, hS.F htz⟩) hS.2.2 dX7_ofJet_85
set_option maxHeartbeats 4000000 in
set_option maxRecDepth 100000 in
theorem kX7_ofJet_3 (l : Launch) (G : gT) (al : Nat → Nat) (k : gC) (h : gK) (c : mC) (g : St) (t : St) (j : Nat) (hX : gX G al k h c) (hj : j < k.1) : Met l yX7_ofJet (fW yX7_ofJet cX7_ofJet 4 (some .int)) { frames := 8, cells := 0, slots := 0, locals := 320 } (gPre G al (w2 G al k c g t) [.ref (al 0), .int (nI j), .int 3]) (gQi (S := Unit) G (fun _ => mOfJ k g j 3) (fun _ => al) (fun _ => w2 G al k c g t)) 0 0 (gA G) := by
  refine Met.ofW (cc := cX7_ofJet) (maxL := 4) (ret := (some .int)) (by decide) rfl ?_
  intro pz ez s m args below meth c₀ s₁ Bo hml hv
  obtain ⟨rfl, hb0, hP, hE⟩ := hv
  have hx := Bo.exec
  have hb := Bo.bytes
  have hr := Bo.returns
  have hts0 := atoms_spec (ws := (fW yX7_ofJet cX7_ofJet 4 (some .int))) Bo.pre
  have hts : ∀ w ∈ fA, w.before _ s = true := fun w h => hts0 w (List.mem_cons_of_mem _ h)
  have hown : s.vm.findClass RX7 = some m.cls := findClass_of_methodNamed Bo.named
  have hlocks := Bo.notSynchronized
  have hl := lv_entry ([.ref (al 0), .int (nI j), .int 3]) (n := 4) (Nat.le_of_ble_eq_true rfl)
  rw [lg_entry_eq]
  generalize (lg_sl ([.ref (al 0), .int (nI j), .int 3]) ++ List.replicate (4 - (lg_sl ([.ref (al 0), .int (nI j), .int 3])).length) Slot.unset).toArray = ls at hl ⊢
  have hl : lv_has ls 4 [(0, .ref (al 0)), (1, .int (nI j)), (2, .int 3)] := hl
  have hJ := gX_J hX
  refine g_start hP (fun H hP hS => ?_)
  refine lv_aload_n hx hb dX7_ofJet_0 rfl (lv_at hl 0 rfl) ?_
  refine lv_iload_n hx hb dX7_ofJet_1 rfl (lv_at hl 1 rfl) ?_
  refine g_aft_r (g_runV (As := [.int (nI j)]) (rest := []) hx hb hml hown hts (kX7_jetNumbered l G al k h c g t j hX hj) (fcwV 1 hts q424 q425 q426 q148 q421 rfl rfl (by decide +kernel) ⟨(Nat.le_of_ble_eq_true rfl), (Nat.le_of_ble_eq_true rfl)⟩) hE hb0 hP hS (m_recvA hE hP 0 rfl (gX_0 hX) rfl) rfl hl.1 rfl (Nat.le_of_ble_eq_true rfl) dX7_ofJet_2 ⟨(Nat.le_of_ble_eq_true rfl), (Nat.le_of_ble_eq_true rfl)⟩) hS (fun u H locs hP hS => ?_)
  have hP : mP G al (w2 G al k c g t) H := hP
  refine g_topr (v := al (100 + 20 + j)) rfl ?_
  refine lv_astore_n (lv' := [(3, .ref (al (100 + 20 + j))), (0, .ref (al 0)), (1, .int (nI j)), (2, .int 3)]) hx hb dX7_ofJet_5 rfl hl (by decide) rfl (fun ls hl => ?_)
  refine lv_iload_n hx hb dX7_ofJet_6 rfl (lv_at hl 3 rfl) ?_
  refine lv_tableIn (off := 79) (tgt := 86) hx hb dX7_ofJet_7 (by decide) (by decide) (by decide) (by decide) ?_
  refine lv_aload_n hx hb dX7_ofJet_86 rfl (lv_at hl 0 rfl) ?_
  refine m_get (C := RX3) (T := TX3) (N := 10) (ci := 4) (v := .int (k.2.2 (3 + j) 3)) hx hb hts uX3 hown hE hP (100 + 20 + j) rfl ((congrFun (w2_c hJ) _).trans (ov_j hj)) rfl 3 (by decide) (hts _ q471) (fun _ h9 => h9) rfl dX7_ofJet_87 ?_
  refine W.widen (k := 0) (n := 0) (Nat.le_of_ble_eq_true rfl) (Nat.le_of_ble_eq_true rfl) ?_
  exact W.iret (v := k.2.2 (3 + j) 3) hx hb hr (fun tz htz hW => ⟨⟨k.2.2 (3 + j) 3, (), rfl, (by unfold mOfJ; rfl), g_end htz hP⟩, hS.F htz⟩) hS.2.2 dX7_ofJet_90
set_option maxHeartbeats 4000000 in
set_option maxRecDepth 100000 in
theorem kX7_ofJet_4 (l : Launch) (G : gT) (al : Nat → Nat) (k : gC) (h : gK) (c : mC) (g : St) (t : St) (j : Nat) (hX : gX G al k h c) (hj : j < k.1) : Met l yX7_ofJet (fW yX7_ofJet cX7_ofJet 4 (some .int)) { frames := 8, cells := 0, slots := 0, locals := 320 } (gPre G al (w2 G al k c g t) [.ref (al 0), .int (nI j), .int 4]) (gQi (S := Unit) G (fun _ => mOfJ k g j 4) (fun _ => al) (fun _ => w2 G al k c g t)) 0 0 (gA G) := by
  refine Met.ofW (cc := cX7_ofJet) (maxL := 4) (ret := (some .int)) (by decide) rfl ?_
  intro pz ez s m args below meth c₀ s₁ Bo hml hv
  obtain ⟨rfl, hb0, hP, hE⟩ := hv
  have hx := Bo.exec
  have hb := Bo.bytes
  have hr := Bo.returns
  have hts0 := atoms_spec (ws := (fW yX7_ofJet cX7_ofJet 4 (some .int))) Bo.pre
  have hts : ∀ w ∈ fA, w.before _ s = true := fun w h => hts0 w (List.mem_cons_of_mem _ h)
  have hown : s.vm.findClass RX7 = some m.cls := findClass_of_methodNamed Bo.named
  have hlocks := Bo.notSynchronized
  have hl := lv_entry ([.ref (al 0), .int (nI j), .int 4]) (n := 4) (Nat.le_of_ble_eq_true rfl)
  rw [lg_entry_eq]
  generalize (lg_sl ([.ref (al 0), .int (nI j), .int 4]) ++ List.replicate (4 - (lg_sl ([.ref (al 0), .int (nI j), .int 4])).length) Slot.unset).toArray = ls at hl ⊢
  have hl : lv_has ls 4 [(0, .ref (al 0)), (1, .int (nI j)), (2, .int 4)] := hl
  have hJ := gX_J hX
  refine g_start hP (fun H hP hS => ?_)
  refine lv_aload_n hx hb dX7_ofJet_0 rfl (lv_at hl 0 rfl) ?_
  refine lv_iload_n hx hb dX7_ofJet_1 rfl (lv_at hl 1 rfl) ?_
  refine g_aft_r (g_runV (As := [.int (nI j)]) (rest := []) hx hb hml hown hts (kX7_jetNumbered l G al k h c g t j hX hj) (fcwV 1 hts q424 q425 q426 q148 q421 rfl rfl (by decide +kernel) ⟨(Nat.le_of_ble_eq_true rfl), (Nat.le_of_ble_eq_true rfl)⟩) hE hb0 hP hS (m_recvA hE hP 0 rfl (gX_0 hX) rfl) rfl hl.1 rfl (Nat.le_of_ble_eq_true rfl) dX7_ofJet_2 ⟨(Nat.le_of_ble_eq_true rfl), (Nat.le_of_ble_eq_true rfl)⟩) hS (fun u H locs hP hS => ?_)
  have hP : mP G al (w2 G al k c g t) H := hP
  refine g_topr (v := al (100 + 20 + j)) rfl ?_
  refine lv_astore_n (lv' := [(3, .ref (al (100 + 20 + j))), (0, .ref (al 0)), (1, .int (nI j)), (2, .int 4)]) hx hb dX7_ofJet_5 rfl hl (by decide) rfl (fun ls hl => ?_)
  refine lv_iload_n hx hb dX7_ofJet_6 rfl (lv_at hl 3 rfl) ?_
  refine lv_tableIn (off := 84) (tgt := 91) hx hb dX7_ofJet_7 (by decide) (by decide) (by decide) (by decide) ?_
  refine lv_aload_n hx hb dX7_ofJet_91 rfl (lv_at hl 0 rfl) ?_
  refine m_get (C := RX3) (T := TX3) (N := 10) (ci := 4) (v := .int (g (3 + j) 4)) hx hb hts uX3 hown hE hP (100 + 20 + j) rfl ((congrFun (w2_c hJ) _).trans (ov_j hj)) rfl 4 (by decide) (hts _ q423) (fun _ h9 => h9) rfl dX7_ofJet_92 ?_
  refine W.widen (k := 0) (n := 0) (Nat.le_of_ble_eq_true rfl) (Nat.le_of_ble_eq_true rfl) ?_
  exact W.iret (v := g (3 + j) 4) hx hb hr (fun tz htz hW => ⟨⟨g (3 + j) 4, (), rfl, (by unfold mOfJ; rfl), g_end htz hP⟩, hS.F htz⟩) hS.2.2 dX7_ofJet_95
set_option maxHeartbeats 4000000 in
set_option maxRecDepth 100000 in
theorem kX7_ofJet_5 (l : Launch) (G : gT) (al : Nat → Nat) (k : gC) (h : gK) (c : mC) (g : St) (t : St) (j : Nat) (hX : gX G al k h c) (hj : j < k.1) : Met l yX7_ofJet (fW yX7_ofJet cX7_ofJet 4 (some .int)) { frames := 8, cells := 0, slots := 0, locals := 320 } (gPre G al (w2 G al k c g t) [.ref (al 0), .int (nI j), .int 5]) (gQi (S := Unit) G (fun _ => mOfJ k g j 5) (fun _ => al) (fun _ => w2 G al k c g t)) 0 0 (gA G) := by
  refine Met.ofW (cc := cX7_ofJet) (maxL := 4) (ret := (some .int)) (by decide) rfl ?_
  intro pz ez s m args below meth c₀ s₁ Bo hml hv
  obtain ⟨rfl, hb0, hP, hE⟩ := hv
  have hx := Bo.exec
  have hb := Bo.bytes
  have hr := Bo.returns
  have hts0 := atoms_spec (ws := (fW yX7_ofJet cX7_ofJet 4 (some .int))) Bo.pre
  have hts : ∀ w ∈ fA, w.before _ s = true := fun w h => hts0 w (List.mem_cons_of_mem _ h)
  have hown : s.vm.findClass RX7 = some m.cls := findClass_of_methodNamed Bo.named
  have hlocks := Bo.notSynchronized
  have hl := lv_entry ([.ref (al 0), .int (nI j), .int 5]) (n := 4) (Nat.le_of_ble_eq_true rfl)
  rw [lg_entry_eq]
  generalize (lg_sl ([.ref (al 0), .int (nI j), .int 5]) ++ List.replicate (4 - (lg_sl ([.ref (al 0), .int (nI j), .int 5])).length) Slot.unset).toArray = ls at hl ⊢
  have hl : lv_has ls 4 [(0, .ref (al 0)), (1, .int (nI j)), (2, .int 5)] := hl
  have hJ := gX_J hX
  refine g_start hP (fun H hP hS => ?_)
  refine lv_aload_n hx hb dX7_ofJet_0 rfl (lv_at hl 0 rfl) ?_
  refine lv_iload_n hx hb dX7_ofJet_1 rfl (lv_at hl 1 rfl) ?_
  refine g_aft_r (g_runV (As := [.int (nI j)]) (rest := []) hx hb hml hown hts (kX7_jetNumbered l G al k h c g t j hX hj) (fcwV 1 hts q424 q425 q426 q148 q421 rfl rfl (by decide +kernel) ⟨(Nat.le_of_ble_eq_true rfl), (Nat.le_of_ble_eq_true rfl)⟩) hE hb0 hP hS (m_recvA hE hP 0 rfl (gX_0 hX) rfl) rfl hl.1 rfl (Nat.le_of_ble_eq_true rfl) dX7_ofJet_2 ⟨(Nat.le_of_ble_eq_true rfl), (Nat.le_of_ble_eq_true rfl)⟩) hS (fun u H locs hP hS => ?_)
  have hP : mP G al (w2 G al k c g t) H := hP
  refine g_topr (v := al (100 + 20 + j)) rfl ?_
  refine lv_astore_n (lv' := [(3, .ref (al (100 + 20 + j))), (0, .ref (al 0)), (1, .int (nI j)), (2, .int 5)]) hx hb dX7_ofJet_5 rfl hl (by decide) rfl (fun ls hl => ?_)
  refine lv_iload_n hx hb dX7_ofJet_6 rfl (lv_at hl 3 rfl) ?_
  refine lv_tableIn (off := 89) (tgt := 96) hx hb dX7_ofJet_7 (by decide) (by decide) (by decide) (by decide) ?_
  refine lv_aload_n hx hb dX7_ofJet_96 rfl (lv_at hl 0 rfl) ?_
  refine m_get (C := RX3) (T := TX3) (N := 10) (ci := 4) (v := .int (g (3 + j) 5)) hx hb hts uX3 hown hE hP (100 + 20 + j) rfl ((congrFun (w2_c hJ) _).trans (ov_j hj)) rfl 5 (by decide) (hts _ q472) (fun _ h9 => h9) rfl dX7_ofJet_97 ?_
  refine W.widen (k := 0) (n := 0) (Nat.le_of_ble_eq_true rfl) (Nat.le_of_ble_eq_true rfl) ?_
  exact W.iret (v := g (3 + j) 5) hx hb hr (fun tz htz hW => ⟨⟨g (3 + j) 5, (), rfl, (by unfold mOfJ; rfl), g_end htz hP⟩, hS.F htz⟩) hS.2.2 dX7_ofJet_100
set_option maxHeartbeats 4000000 in
set_option maxRecDepth 100000 in
theorem kX7_ofJet_6 (l : Launch) (G : gT) (al : Nat → Nat) (k : gC) (h : gK) (c : mC) (g : St) (t : St) (j : Nat) (hX : gX G al k h c) (hj : j < k.1) : Met l yX7_ofJet (fW yX7_ofJet cX7_ofJet 4 (some .int)) { frames := 8, cells := 0, slots := 0, locals := 320 } (gPre G al (w2 G al k c g t) [.ref (al 0), .int (nI j), .int 6]) (gQi (S := Unit) G (fun _ => mOfJ k g j 6) (fun _ => al) (fun _ => w2 G al k c g t)) 0 0 (gA G) := by
  refine Met.ofW (cc := cX7_ofJet) (maxL := 4) (ret := (some .int)) (by decide) rfl ?_
  intro pz ez s m args below meth c₀ s₁ Bo hml hv
  obtain ⟨rfl, hb0, hP, hE⟩ := hv
  have hx := Bo.exec
  have hb := Bo.bytes
  have hr := Bo.returns
  have hts0 := atoms_spec (ws := (fW yX7_ofJet cX7_ofJet 4 (some .int))) Bo.pre
  have hts : ∀ w ∈ fA, w.before _ s = true := fun w h => hts0 w (List.mem_cons_of_mem _ h)
  have hown : s.vm.findClass RX7 = some m.cls := findClass_of_methodNamed Bo.named
  have hlocks := Bo.notSynchronized
  have hl := lv_entry ([.ref (al 0), .int (nI j), .int 6]) (n := 4) (Nat.le_of_ble_eq_true rfl)
  rw [lg_entry_eq]
  generalize (lg_sl ([.ref (al 0), .int (nI j), .int 6]) ++ List.replicate (4 - (lg_sl ([.ref (al 0), .int (nI j), .int 6])).length) Slot.unset).toArray = ls at hl ⊢
  have hl : lv_has ls 4 [(0, .ref (al 0)), (1, .int (nI j)), (2, .int 6)] := hl
  have hJ := gX_J hX
  refine g_start hP (fun H hP hS => ?_)
  refine lv_aload_n hx hb dX7_ofJet_0 rfl (lv_at hl 0 rfl) ?_
  refine lv_iload_n hx hb dX7_ofJet_1 rfl (lv_at hl 1 rfl) ?_
  refine g_aft_r (g_runV (As := [.int (nI j)]) (rest := []) hx hb hml hown hts (kX7_jetNumbered l G al k h c g t j hX hj) (fcwV 1 hts q424 q425 q426 q148 q421 rfl rfl (by decide +kernel) ⟨(Nat.le_of_ble_eq_true rfl), (Nat.le_of_ble_eq_true rfl)⟩) hE hb0 hP hS (m_recvA hE hP 0 rfl (gX_0 hX) rfl) rfl hl.1 rfl (Nat.le_of_ble_eq_true rfl) dX7_ofJet_2 ⟨(Nat.le_of_ble_eq_true rfl), (Nat.le_of_ble_eq_true rfl)⟩) hS (fun u H locs hP hS => ?_)
  have hP : mP G al (w2 G al k c g t) H := hP
  refine g_topr (v := al (100 + 20 + j)) rfl ?_
  refine lv_astore_n (lv' := [(3, .ref (al (100 + 20 + j))), (0, .ref (al 0)), (1, .int (nI j)), (2, .int 6)]) hx hb dX7_ofJet_5 rfl hl (by decide) rfl (fun ls hl => ?_)
  refine lv_iload_n hx hb dX7_ofJet_6 rfl (lv_at hl 3 rfl) ?_
  refine lv_tableIn (off := 94) (tgt := 101) hx hb dX7_ofJet_7 (by decide) (by decide) (by decide) (by decide) ?_
  refine lv_aload_n hx hb dX7_ofJet_101 rfl (lv_at hl 0 rfl) ?_
  refine m_get (C := RX3) (T := TX3) (N := 10) (ci := 4) (v := .int (bz (g (3 + j) 6))) hx hb hts uX3 hown hE hP (100 + 20 + j) rfl ((congrFun (w2_c hJ) _).trans (ov_j hj)) rfl 6 (by decide) (hts _ q437) (fun _ h9 => h9) rfl dX7_ofJet_102 ?_
  refine lv_if_eq (tgt := 112) hx hb dX7_ofJet_105 (by decide) (fun hc_1 => ?_) (fun hc_1 => ?_)
  · skip
    refine lv_iconst (v := 0) hx hb dX7_ofJet_112 (by decide) ?_
    refine W.widen (k := 0) (n := 0) (Nat.le_of_ble_eq_true rfl) (Nat.le_of_ble_eq_true rfl) ?_
    exact W.iret (v := 0) hx hb hr (fun tz htz hW => ⟨⟨0, (), rfl, (by unfold mOfJ; rw [if_pos hc_1]; try rfl), g_end htz hP⟩, hS.F htz⟩) hS.2.2 dX7_ofJet_113
  · skip
    refine lv_iconst (v := 1) hx hb dX7_ofJet_108 (by decide) ?_
    refine lv_goto (tgt := 113) hx hb dX7_ofJet_109 (by decide) ?_
    refine W.widen (k := 0) (n := 0) (Nat.le_of_ble_eq_true rfl) (Nat.le_of_ble_eq_true rfl) ?_
    exact W.iret (v := 1) hx hb hr (fun tz htz hW => ⟨⟨1, (), rfl, (by unfold mOfJ; rw [if_neg hc_1]; try rfl), g_end htz hP⟩, hS.F htz⟩) hS.2.2 dX7_ofJet_113
set_option maxHeartbeats 4000000 in
set_option maxRecDepth 100000 in
theorem kX7_ofJet_7 (l : Launch) (G : gT) (al : Nat → Nat) (k : gC) (h : gK) (c : mC) (g : St) (t : St) (j : Nat) (hX : gX G al k h c) (hj : j < k.1) : Met l yX7_ofJet (fW yX7_ofJet cX7_ofJet 4 (some .int)) { frames := 8, cells := 0, slots := 0, locals := 320 } (gPre G al (w2 G al k c g t) [.ref (al 0), .int (nI j), .int 7]) (gQi (S := Unit) G (fun _ => mOfJ k g j 7) (fun _ => al) (fun _ => w2 G al k c g t)) 0 0 (gA G) := by
  refine Met.ofW (cc := cX7_ofJet) (maxL := 4) (ret := (some .int)) (by decide) rfl ?_
  intro pz ez s m args below meth c₀ s₁ Bo hml hv
  obtain ⟨rfl, hb0, hP, hE⟩ := hv
  have hx := Bo.exec
  have hb := Bo.bytes
  have hr := Bo.returns
  have hts0 := atoms_spec (ws := (fW yX7_ofJet cX7_ofJet 4 (some .int))) Bo.pre
  have hts : ∀ w ∈ fA, w.before _ s = true := fun w h => hts0 w (List.mem_cons_of_mem _ h)
  have hown : s.vm.findClass RX7 = some m.cls := findClass_of_methodNamed Bo.named
  have hlocks := Bo.notSynchronized
  have hl := lv_entry ([.ref (al 0), .int (nI j), .int 7]) (n := 4) (Nat.le_of_ble_eq_true rfl)
  rw [lg_entry_eq]
  generalize (lg_sl ([.ref (al 0), .int (nI j), .int 7]) ++ List.replicate (4 - (lg_sl ([.ref (al 0), .int (nI j), .int 7])).length) Slot.unset).toArray = ls at hl ⊢
  have hl : lv_has ls 4 [(0, .ref (al 0)), (1, .int (nI j)), (2, .int 7)] := hl
  have hJ := gX_J hX
  refine g_start hP (fun H hP hS => ?_)
  refine lv_aload_n hx hb dX7_ofJet_0 rfl (lv_at hl 0 rfl) ?_
  refine lv_iload_n hx hb dX7_ofJet_1 rfl (lv_at hl 1 rfl) ?_
  refine g_aft_r (g_runV (As := [.int (nI j)]) (rest := []) hx hb hml hown hts (kX7_jetNumbered l G al k h c g t j hX hj) (fcwV 1 hts q424 q425 q426 q148 q421 rfl rfl (by decide +kernel) ⟨(Nat.le_of_ble_eq_true rfl), (Nat.le_of_ble_eq_true rfl)⟩) hE hb0 hP hS (m_recvA hE hP 0 rfl (gX_0 hX) rfl) rfl hl.1 rfl (Nat.le_of_ble_eq_true rfl) dX7_ofJet_2 ⟨(Nat.le_of_ble_eq_true rfl), (Nat.le_of_ble_eq_true rfl)⟩) hS (fun u H locs hP hS => ?_)
  have hP : mP G al (w2 G al k c g t) H := hP
  refine g_topr (v := al (100 + 20 + j)) rfl ?_
  refine lv_astore_n (lv' := [(3, .ref (al (100 + 20 + j))), (0, .ref (al 0)), (1, .int (nI j)), (2, .int 7)]) hx hb dX7_ofJet_5 rfl hl (by decide) rfl (fun ls hl => ?_)
  refine lv_iload_n hx hb dX7_ofJet_6 rfl (lv_at hl 3 rfl) ?_
  refine lv_tableIn (off := 107) (tgt := 114) hx hb dX7_ofJet_7 (by decide) (by decide) (by decide) (by decide) ?_
  refine lv_aload_n hx hb dX7_ofJet_114 rfl (lv_at hl 0 rfl) ?_
  have hP := m_cv hP (w2_c hJ)
  refine g_aft_i (g_runV (As := []) (rest := []) hx hb hml hown hts (kX3_flow l G al k h 100 (ov G al k 200 c t) g j hj) (fcwV 0 hts q474 q201 q202 q185 q141 rfl rfl (by decide +kernel) ⟨(Nat.le_of_ble_eq_true rfl), (Nat.le_of_ble_eq_true rfl)⟩) hE hb0 hP hS (m_recvA hE hP (100 + 20 + j) rfl (ov_j hj) rfl) rfl hl.1 rfl (Nat.le_of_ble_eq_true rfl) dX7_ofJet_115 ⟨(Nat.le_of_ble_eq_true rfl), (Nat.le_of_ble_eq_true rfl)⟩) hS (fun u H locs hP hS => ?_)
  have hP := m_cv hP (w2_c hJ).symm
  have hP : mP G al (w2 G al k c g t) H := hP
  refine f_topi (v := mFlow k g j) rfl ?_
  refine W.widen (k := 0) (n := 0) (Nat.le_of_ble_eq_true rfl) (Nat.le_of_ble_eq_true rfl) ?_
  exact W.iret (v := mFlow k g j) hx hb hr (fun tz htz hW => ⟨⟨mFlow k g j, (), rfl, (by unfold mOfJ; rfl), g_end htz hP⟩, hS.F htz⟩) hS.2.2 dX7_ofJet_118
set_option maxHeartbeats 4000000 in
set_option maxRecDepth 100000 in
theorem kX7_ofJet_8 (l : Launch) (G : gT) (al : Nat → Nat) (k : gC) (h : gK) (c : mC) (g : St) (t : St) (j : Nat) (hX : gX G al k h c) (hj : j < k.1) : Met l yX7_ofJet (fW yX7_ofJet cX7_ofJet 4 (some .int)) { frames := 8, cells := 0, slots := 0, locals := 320 } (gPre G al (w2 G al k c g t) [.ref (al 0), .int (nI j), .int 8]) (gQi (S := Unit) G (fun _ => mOfJ k g j 8) (fun _ => al) (fun _ => w2 G al k c g t)) 0 0 (gA G) := by
  refine Met.ofW (cc := cX7_ofJet) (maxL := 4) (ret := (some .int)) (by decide) rfl ?_
  intro pz ez s m args below meth c₀ s₁ Bo hml hv
  obtain ⟨rfl, hb0, hP, hE⟩ := hv
  have hx := Bo.exec
  have hb := Bo.bytes
  have hr := Bo.returns
  have hts0 := atoms_spec (ws := (fW yX7_ofJet cX7_ofJet 4 (some .int))) Bo.pre
  have hts : ∀ w ∈ fA, w.before _ s = true := fun w h => hts0 w (List.mem_cons_of_mem _ h)
  have hown : s.vm.findClass RX7 = some m.cls := findClass_of_methodNamed Bo.named
  have hlocks := Bo.notSynchronized
  have hl := lv_entry ([.ref (al 0), .int (nI j), .int 8]) (n := 4) (Nat.le_of_ble_eq_true rfl)
  rw [lg_entry_eq]
  generalize (lg_sl ([.ref (al 0), .int (nI j), .int 8]) ++ List.replicate (4 - (lg_sl ([.ref (al 0), .int (nI j), .int 8])).length) Slot.unset).toArray = ls at hl ⊢
  have hl : lv_has ls 4 [(0, .ref (al 0)), (1, .int (nI j)), (2, .int 8)] := hl
  have hJ := gX_J hX
  refine g_start hP (fun H hP hS => ?_)
  refine lv_aload_n hx hb dX7_ofJet_0 rfl (lv_at hl 0 rfl) ?_
  refine lv_iload_n hx hb dX7_ofJet_1 rfl (lv_at hl 1 rfl) ?_
  refine g_aft_r (g_runV (As := [.int (nI j)]) (rest := []) hx hb hml hown hts (kX7_jetNumbered l G al k h c g t j hX hj) (fcwV 1 hts q424 q425 q426 q148 q421 rfl rfl (by decide +kernel) ⟨(Nat.le_of_ble_eq_true rfl), (Nat.le_of_ble_eq_true rfl)⟩) hE hb0 hP hS (m_recvA hE hP 0 rfl (gX_0 hX) rfl) rfl hl.1 rfl (Nat.le_of_ble_eq_true rfl) dX7_ofJet_2 ⟨(Nat.le_of_ble_eq_true rfl), (Nat.le_of_ble_eq_true rfl)⟩) hS (fun u H locs hP hS => ?_)
  have hP : mP G al (w2 G al k c g t) H := hP
  refine g_topr (v := al (100 + 20 + j)) rfl ?_
  refine lv_astore_n (lv' := [(3, .ref (al (100 + 20 + j))), (0, .ref (al 0)), (1, .int (nI j)), (2, .int 8)]) hx hb dX7_ofJet_5 rfl hl (by decide) rfl (fun ls hl => ?_)
  refine lv_iload_n hx hb dX7_ofJet_6 rfl (lv_at hl 3 rfl) ?_
  refine lv_tableIn (off := 112) (tgt := 119) hx hb dX7_ofJet_7 (by decide) (by decide) (by decide) (by decide) ?_
  refine lv_aload_n hx hb dX7_ofJet_119 rfl (lv_at hl 1 rfl) ?_
  refine m_get (C := RX7) (T := TX7) (N := 3) (ci := 8) (v := .ref (al 100)) hx hb hts uX7 hown hE hP 0 rfl (gX_0 hX) rfl 1 (by decide) (hts _ q368) (fun _ h9 => h9) rfl dX7_ofJet_120 ?_
  refine lv_aload_n hx hb dX7_ofJet_123 rfl (lv_at hl 0 rfl) ?_
  have hP := m_cv hP (w2_c hJ)
  refine g_aft_i (g_runV (As := [.ref (al (100 + 20 + j))]) (rest := []) hx hb hml hown hts (kX5_heightOf l G al k h 100 (ov G al k 200 c t) g j (gF_o2 (gX_1 hX)) hj) (fcwV 1 hts q475 q215 q216 q211 q213 rfl rfl (by decide +kernel) ⟨(Nat.le_of_ble_eq_true rfl), (Nat.le_of_ble_eq_true rfl)⟩) hE hb0 hP hS (m_recvA hE hP 100 rfl ov_s rfl) rfl hl.1 rfl (Nat.le_of_ble_eq_true rfl) dX7_ofJet_124 ⟨(Nat.le_of_ble_eq_true rfl), (Nat.le_of_ble_eq_true rfl)⟩) hS (fun u H locs hP hS => ?_)
  have hP := m_cv hP (w2_c hJ).symm
  have hP : mP G al (w2 G al k c g t) H := hP
  refine f_topi (v := mHt k g j) rfl ?_
  refine W.widen (k := 0) (n := 0) (Nat.le_of_ble_eq_true rfl) (Nat.le_of_ble_eq_true rfl) ?_
  exact W.iret (v := mHt k g j) hx hb hr (fun tz htz hW => ⟨⟨mHt k g j, (), rfl, (by unfold mOfJ; rfl), g_end htz hP⟩, hS.F htz⟩) hS.2.2 dX7_ofJet_127
set_option maxHeartbeats 4000000 in
set_option maxRecDepth 100000 in
theorem kX7_ofJet_9 (l : Launch) (G : gT) (al : Nat → Nat) (k : gC) (h : gK) (c : mC) (g : St) (t : St) (j : Nat) (hX : gX G al k h c) (hj : j < k.1) : Met l yX7_ofJet (fW yX7_ofJet cX7_ofJet 4 (some .int)) { frames := 8, cells := 0, slots := 0, locals := 320 } (gPre G al (w2 G al k c g t) [.ref (al 0), .int (nI j), .int 9]) (gQi (S := Unit) G (fun _ => mOfJ k g j 9) (fun _ => al) (fun _ => w2 G al k c g t)) 0 0 (gA G) := by
  refine Met.ofW (cc := cX7_ofJet) (maxL := 4) (ret := (some .int)) (by decide) rfl ?_
  intro pz ez s m args below meth c₀ s₁ Bo hml hv
  obtain ⟨rfl, hb0, hP, hE⟩ := hv
  have hx := Bo.exec
  have hb := Bo.bytes
  have hr := Bo.returns
  have hts0 := atoms_spec (ws := (fW yX7_ofJet cX7_ofJet 4 (some .int))) Bo.pre
  have hts : ∀ w ∈ fA, w.before _ s = true := fun w h => hts0 w (List.mem_cons_of_mem _ h)
  have hown : s.vm.findClass RX7 = some m.cls := findClass_of_methodNamed Bo.named
  have hlocks := Bo.notSynchronized
  have hl := lv_entry ([.ref (al 0), .int (nI j), .int 9]) (n := 4) (Nat.le_of_ble_eq_true rfl)
  rw [lg_entry_eq]
  generalize (lg_sl ([.ref (al 0), .int (nI j), .int 9]) ++ List.replicate (4 - (lg_sl ([.ref (al 0), .int (nI j), .int 9])).length) Slot.unset).toArray = ls at hl ⊢
  have hl : lv_has ls 4 [(0, .ref (al 0)), (1, .int (nI j)), (2, .int 9)] := hl
  have hJ := gX_J hX
  refine g_start hP (fun H hP hS => ?_)
  refine lv_aload_n hx hb dX7_ofJet_0 rfl (lv_at hl 0 rfl) ?_
  refine lv_iload_n hx hb dX7_ofJet_1 rfl (lv_at hl 1 rfl) ?_
  refine g_aft_r (g_runV (As := [.int (nI j)]) (rest := []) hx hb hml hown hts (kX7_jetNumbered l G al k h c g t j hX hj) (fcwV 1 hts q424 q425 q426 q148 q421 rfl rfl (by decide +kernel) ⟨(Nat.le_of_ble_eq_true rfl), (Nat.le_of_ble_eq_true rfl)⟩) hE hb0 hP hS (m_recvA hE hP 0 rfl (gX_0 hX) rfl) rfl hl.1 rfl (Nat.le_of_ble_eq_true rfl) dX7_ofJet_2 ⟨(Nat.le_of_ble_eq_true rfl), (Nat.le_of_ble_eq_true rfl)⟩) hS (fun u H locs hP hS => ?_)
  have hP : mP G al (w2 G al k c g t) H := hP
  refine g_topr (v := al (100 + 20 + j)) rfl ?_
  refine lv_astore_n (lv' := [(3, .ref (al (100 + 20 + j))), (0, .ref (al 0)), (1, .int (nI j)), (2, .int 9)]) hx hb dX7_ofJet_5 rfl hl (by decide) rfl (fun ls hl => ?_)
  refine lv_iload_n hx hb dX7_ofJet_6 rfl (lv_at hl 3 rfl) ?_
  refine lv_tableIn (off := 121) (tgt := 128) hx hb dX7_ofJet_7 (by decide) (by decide) (by decide) (by decide) ?_
  refine lv_aload_n hx hb dX7_ofJet_128 rfl (lv_at hl 0 rfl) ?_
  refine m_get (C := RX3) (T := TX3) (N := 10) (ci := 4) (v := .int (bz (g (3 + j) 7))) hx hb hts uX3 hown hE hP (100 + 20 + j) rfl ((congrFun (w2_c hJ) _).trans (ov_j hj)) rfl 7 (by decide) (hts _ q435) (fun _ h9 => h9) rfl dX7_ofJet_129 ?_
  refine lv_if_eq (tgt := 139) hx hb dX7_ofJet_132 (by decide) (fun hc_1 => ?_) (fun hc_1 => ?_)
  · skip
    refine lv_iconst (v := 0) hx hb dX7_ofJet_139 (by decide) ?_
    refine W.widen (k := 0) (n := 0) (Nat.le_of_ble_eq_true rfl) (Nat.le_of_ble_eq_true rfl) ?_
    exact W.iret (v := 0) hx hb hr (fun tz htz hW => ⟨⟨0, (), rfl, (by unfold mOfJ; rw [if_pos hc_1]; try rfl), g_end htz hP⟩, hS.F htz⟩) hS.2.2 dX7_ofJet_140
  · skip
    refine lv_iconst (v := 1) hx hb dX7_ofJet_135 (by decide) ?_
    refine lv_goto (tgt := 140) hx hb dX7_ofJet_136 (by decide) ?_
    refine W.widen (k := 0) (n := 0) (Nat.le_of_ble_eq_true rfl) (Nat.le_of_ble_eq_true rfl) ?_
    exact W.iret (v := 1) hx hb hr (fun tz htz hW => ⟨⟨1, (), rfl, (by unfold mOfJ; rw [if_neg hc_1]; try rfl), g_end htz hP⟩, hS.F htz⟩) hS.2.2 dX7_ofJet_140
set_option maxHeartbeats 4000000 in
set_option maxRecDepth 100000 in
theorem kX7_ofJet_10 (l : Launch) (G : gT) (al : Nat → Nat) (k : gC) (h : gK) (c : mC) (g : St) (t : St) (j : Nat) (hX : gX G al k h c) (hj : j < k.1) : Met l yX7_ofJet (fW yX7_ofJet cX7_ofJet 4 (some .int)) { frames := 8, cells := 0, slots := 0, locals := 320 } (gPre G al (w2 G al k c g t) [.ref (al 0), .int (nI j), .int 10]) (gQi (S := Unit) G (fun _ => mOfJ k g j 10) (fun _ => al) (fun _ => w2 G al k c g t)) 0 0 (gA G) := by
  refine Met.ofW (cc := cX7_ofJet) (maxL := 4) (ret := (some .int)) (by decide) rfl ?_
  intro pz ez s m args below meth c₀ s₁ Bo hml hv
  obtain ⟨rfl, hb0, hP, hE⟩ := hv
  have hx := Bo.exec
  have hb := Bo.bytes
  have hr := Bo.returns
  have hts0 := atoms_spec (ws := (fW yX7_ofJet cX7_ofJet 4 (some .int))) Bo.pre
  have hts : ∀ w ∈ fA, w.before _ s = true := fun w h => hts0 w (List.mem_cons_of_mem _ h)
  have hown : s.vm.findClass RX7 = some m.cls := findClass_of_methodNamed Bo.named
  have hlocks := Bo.notSynchronized
  have hl := lv_entry ([.ref (al 0), .int (nI j), .int 10]) (n := 4) (Nat.le_of_ble_eq_true rfl)
  rw [lg_entry_eq]
  generalize (lg_sl ([.ref (al 0), .int (nI j), .int 10]) ++ List.replicate (4 - (lg_sl ([.ref (al 0), .int (nI j), .int 10])).length) Slot.unset).toArray = ls at hl ⊢
  have hl : lv_has ls 4 [(0, .ref (al 0)), (1, .int (nI j)), (2, .int 10)] := hl
  have hJ := gX_J hX
  refine g_start hP (fun H hP hS => ?_)
  refine lv_aload_n hx hb dX7_ofJet_0 rfl (lv_at hl 0 rfl) ?_
  refine lv_iload_n hx hb dX7_ofJet_1 rfl (lv_at hl 1 rfl) ?_
  refine g_aft_r (g_runV (As := [.int (nI j)]) (rest := []) hx hb hml hown hts (kX7_jetNumbered l G al k h c g t j hX hj) (fcwV 1 hts q424 q425 q426 q148 q421 rfl rfl (by decide +kernel) ⟨(Nat.le_of_ble_eq_true rfl), (Nat.le_of_ble_eq_true rfl)⟩) hE hb0 hP hS (m_recvA hE hP 0 rfl (gX_0 hX) rfl) rfl hl.1 rfl (Nat.le_of_ble_eq_true rfl) dX7_ofJet_2 ⟨(Nat.le_of_ble_eq_true rfl), (Nat.le_of_ble_eq_true rfl)⟩) hS (fun u H locs hP hS => ?_)
  have hP : mP G al (w2 G al k c g t) H := hP
  refine g_topr (v := al (100 + 20 + j)) rfl ?_
  refine lv_astore_n (lv' := [(3, .ref (al (100 + 20 + j))), (0, .ref (al 0)), (1, .int (nI j)), (2, .int 10)]) hx hb dX7_ofJet_5 rfl hl (by decide) rfl (fun ls hl => ?_)
  refine lv_iload_n hx hb dX7_ofJet_6 rfl (lv_at hl 3 rfl) ?_
  refine lv_tableIn (off := 134) (tgt := 141) hx hb dX7_ofJet_7 (by decide) (by decide) (by decide) (by decide) ?_
  refine lv_aload_n hx hb dX7_ofJet_141 rfl (lv_at hl 0 rfl) ?_
  refine m_get (C := RX3) (T := TX3) (N := 10) (ci := 4) (v := .int (g (3 + j) 9)) hx hb hts uX3 hown hE hP (100 + 20 + j) rfl ((congrFun (w2_c hJ) _).trans (ov_j hj)) rfl 9 (by decide) (hts _ q473) (fun _ h9 => h9) rfl dX7_ofJet_142 ?_
  refine W.widen (k := 0) (n := 0) (Nat.le_of_ble_eq_true rfl) (Nat.le_of_ble_eq_true rfl) ?_
  exact W.iret (v := g (3 + j) 9) hx hb hr (fun tz htz hW => ⟨⟨g (3 + j) 9, (), rfl, (by unfold mOfJ; rfl), g_end htz hP⟩, hS.F htz⟩) hS.2.2 dX7_ofJet_145
set_option maxHeartbeats 4000000 in
set_option maxRecDepth 100000 in
theorem kX7_ofJet_11 (l : Launch) (G : gT) (al : Nat → Nat) (k : gC) (h : gK) (c : mC) (g : St) (t : St) (j : Nat) (hX : gX G al k h c) (hj : j < k.1) : Met l yX7_ofJet (fW yX7_ofJet cX7_ofJet 4 (some .int)) { frames := 8, cells := 0, slots := 0, locals := 320 } (gPre G al (w2 G al k c g t) [.ref (al 0), .int (nI j), .int 11]) (gQi (S := Unit) G (fun _ => mOfJ k g j 11) (fun _ => al) (fun _ => w2 G al k c g t)) 0 0 (gA G) := by
  refine Met.ofW (cc := cX7_ofJet) (maxL := 4) (ret := (some .int)) (by decide) rfl ?_
  intro pz ez s m args below meth c₀ s₁ Bo hml hv
  obtain ⟨rfl, hb0, hP, hE⟩ := hv
  have hx := Bo.exec
  have hb := Bo.bytes
  have hr := Bo.returns
  have hts0 := atoms_spec (ws := (fW yX7_ofJet cX7_ofJet 4 (some .int))) Bo.pre
  have hts : ∀ w ∈ fA, w.before _ s = true := fun w h => hts0 w (List.mem_cons_of_mem _ h)
  have hown : s.vm.findClass RX7 = some m.cls := findClass_of_methodNamed Bo.named
  have hlocks := Bo.notSynchronized
  have hl := lv_entry ([.ref (al 0), .int (nI j), .int 11]) (n := 4) (Nat.le_of_ble_eq_true rfl)
  rw [lg_entry_eq]
  generalize (lg_sl ([.ref (al 0), .int (nI j), .int 11]) ++ List.replicate (4 - (lg_sl ([.ref (al 0), .int (nI j), .int 11])).length) Slot.unset).toArray = ls at hl ⊢
  have hl : lv_has ls 4 [(0, .ref (al 0)), (1, .int (nI j)), (2, .int 11)] := hl
  have hJ := gX_J hX
  refine g_start hP (fun H hP hS => ?_)
  refine lv_aload_n hx hb dX7_ofJet_0 rfl (lv_at hl 0 rfl) ?_
  refine lv_iload_n hx hb dX7_ofJet_1 rfl (lv_at hl 1 rfl) ?_
  refine g_aft_r (g_runV (As := [.int (nI j)]) (rest := []) hx hb hml hown hts (kX7_jetNumbered l G al k h c g t j hX hj) (fcwV 1 hts q424 q425 q426 q148 q421 rfl rfl (by decide +kernel) ⟨(Nat.le_of_ble_eq_true rfl), (Nat.le_of_ble_eq_true rfl)⟩) hE hb0 hP hS (m_recvA hE hP 0 rfl (gX_0 hX) rfl) rfl hl.1 rfl (Nat.le_of_ble_eq_true rfl) dX7_ofJet_2 ⟨(Nat.le_of_ble_eq_true rfl), (Nat.le_of_ble_eq_true rfl)⟩) hS (fun u H locs hP hS => ?_)
  have hP : mP G al (w2 G al k c g t) H := hP
  refine g_topr (v := al (100 + 20 + j)) rfl ?_
  refine lv_astore_n (lv' := [(3, .ref (al (100 + 20 + j))), (0, .ref (al 0)), (1, .int (nI j)), (2, .int 11)]) hx hb dX7_ofJet_5 rfl hl (by decide) rfl (fun ls hl => ?_)
  refine lv_iload_n hx hb dX7_ofJet_6 rfl (lv_at hl 3 rfl) ?_
  refine lv_tableIn (off := 139) (tgt := 146) hx hb dX7_ofJet_7 (by decide) (by decide) (by decide) (by decide) ?_
  refine lv_aload_n hx hb dX7_ofJet_146 rfl (lv_at hl 1 rfl) ?_
  refine m_get (C := RX7) (T := TX7) (N := 3) (ci := 8) (v := .ref (al 100)) hx hb hts uX7 hown hE hP 0 rfl (gX_0 hX) rfl 1 (by decide) (hts _ q368) (fun _ h9 => h9) rfl dX7_ofJet_147 ?_
  refine lv_aload_n hx hb dX7_ofJet_150 rfl (lv_at hl 0 rfl) ?_
  refine lv_aload_n hx hb dX7_ofJet_151 rfl (lv_at hl 1 rfl) ?_
  refine m_get (C := RX7) (T := TX7) (N := 3) (ci := 8) (v := .ref (al 100)) hx hb hts uX7 hown hE hP 0 rfl (gX_0 hX) rfl 1 (by decide) (hts _ q368) (fun _ h9 => h9) rfl dX7_ofJet_152 ?_
  refine lv_aload_n hx hb dX7_ofJet_155 rfl (lv_at hl 0 rfl) ?_
  have hP := m_cv hP (w2_c hJ)
  refine g_aft_i (g_runV (As := [.ref (al (100 + 20 + j))]) (rest := [.ref (al (100 + 20 + j)), .ref (al 100)]) hx hb hml hown hts (kX5_heightOf l G al k h 100 (ov G al k 200 c t) g j (gF_o2 (gX_1 hX)) hj) (fcwV 1 hts q475 q215 q216 q211 q213 rfl rfl (by decide +kernel) ⟨(Nat.le_of_ble_eq_true rfl), (Nat.le_of_ble_eq_true rfl)⟩) hE hb0 hP hS (m_recvA hE hP 100 rfl ov_s rfl) rfl hl.1 rfl (Nat.le_of_ble_eq_true rfl) dX7_ofJet_156 ⟨(Nat.le_of_ble_eq_true rfl), (Nat.le_of_ble_eq_true rfl)⟩) hS (fun u H locs hP hS => ?_)
  have hP := m_cv hP (w2_c hJ).symm
  have hP : mP G al (w2 G al k c g t) H := hP
  refine f_topi (v := mHt k g j) rfl ?_
  have hP := m_cv hP (w2_c hJ)
  refine g_aft_i (g_runV (As := [.ref (al (100 + 20 + j)), .int (mHt k g j)]) (rest := []) hx hb hml hown hts (kX5_placeOfFall l G al k h 100 (ov G al k 200 c t) g j (mHt k g j) (gF_o2 (gX_1 hX)) hj) (fcwV 2 hts q476 q284 q285 q211 q272 rfl rfl (by decide +kernel) ⟨(Nat.le_of_ble_eq_true rfl), (Nat.le_of_ble_eq_true rfl)⟩) hE hb0 hP hS (m_recvA hE hP 100 rfl ov_s rfl) rfl hl.1 rfl (Nat.le_of_ble_eq_true rfl) dX7_ofJet_159 ⟨(Nat.le_of_ble_eq_true rfl), (Nat.le_of_ble_eq_true rfl)⟩) hS (fun u H locs hP hS => ?_)
  have hP := m_cv hP (w2_c hJ).symm
  have hP : mP G al (w2 G al k c g t) H := hP
  refine f_topi (v := mPlace k g j (mHt k g j)) rfl ?_
  refine W.widen (k := 0) (n := 0) (Nat.le_of_ble_eq_true rfl) (Nat.le_of_ble_eq_true rfl) ?_
  exact W.iret (v := mPlace k g j (mHt k g j)) hx hb hr (fun tz htz hW => ⟨⟨mPlace k g j (mHt k g j), (), rfl, (by unfold mOfJ; rfl), g_end htz hP⟩, hS.F htz⟩) hS.2.2 dX7_ofJet_162
set_option maxHeartbeats 4000000 in
set_option maxRecDepth 100000 in
theorem kX7_many_0 (l : Launch) (G : gT) (al : Nat → Nat) (k : gC) (h : gK) (c : mC) (g : St) (t : St) (hX : gX G al k h c) : Met l yX7_many (fW yX7_many cX7_many 2 (some .int)) { frames := 8, cells := 0, slots := 0, locals := 320 } (gPre G al (w2 G al k c g t) [.ref (al 0), .int 0]) (gQi (S := Unit) G (fun _ => mMany k h g 0) (fun _ => al) (fun _ => w2 G al k c g t)) 0 0 (gA G) := by
  refine Met.ofW (cc := cX7_many) (maxL := 2) (ret := (some .int)) (by decide) rfl ?_
  intro pz ez s m args below meth c₀ s₁ Bo hml hv
  obtain ⟨rfl, hb0, hP, hE⟩ := hv
  have hx := Bo.exec
  have hb := Bo.bytes
  have hr := Bo.returns
  have hts0 := atoms_spec (ws := (fW yX7_many cX7_many 2 (some .int))) Bo.pre
  have hts : ∀ w ∈ fA, w.before _ s = true := fun w h => hts0 w (List.mem_cons_of_mem _ h)
  have hown : s.vm.findClass RX7 = some m.cls := findClass_of_methodNamed Bo.named
  have hlocks := Bo.notSynchronized
  have hl := lv_entry ([.ref (al 0), .int 0]) (n := 2) (Nat.le_of_ble_eq_true rfl)
  rw [lg_entry_eq]
  generalize (lg_sl ([.ref (al 0), .int 0]) ++ List.replicate (2 - (lg_sl ([.ref (al 0), .int 0])).length) Slot.unset).toArray = ls at hl ⊢
  have hl : lv_has ls 2 [(0, .ref (al 0)), (1, .int 0)] := hl
  have hJ := gX_J hX
  refine g_start hP (fun H hP hS => ?_)
  refine lv_iload_n hx hb dX7_many_0 rfl (lv_at hl 1 rfl) ?_
  refine lv_tableIn (off := 79) (tgt := 80) hx hb dX7_many_1 (by decide) (by decide) (by decide) (by decide) ?_
  refine lv_aload_n hx hb dX7_many_80 rfl (lv_at hl 0 rfl) ?_
  refine m_get (C := RX7) (T := TX7) (N := 3) (ci := 8) (v := .ref (al 100)) hx hb hts uX7 hown hE hP 0 rfl (gX_0 hX) rfl 1 (by decide) (hts _ q368) (fun _ h9 => h9) rfl dX7_many_81 ?_
  refine m_get (C := RX5) (T := TX5) (N := 15) (ci := 6) (v := .int (g 0 4)) hx hb hts uX5 hown hE hP 100 rfl ((congrFun (w2_c hJ) _).trans ov_s) rfl 4 (by decide) (hts _ q449) (fun _ h9 => h9) rfl dX7_many_84 ?_
  refine W.widen (k := 0) (n := 0) (Nat.le_of_ble_eq_true rfl) (Nat.le_of_ble_eq_true rfl) ?_
  exact W.iret (v := g 0 4) hx hb hr (fun tz htz hW => ⟨⟨g 0 4, (), rfl, (by unfold mMany; rfl), g_end htz hP⟩, hS.F htz⟩) hS.2.2 dX7_many_87
set_option maxHeartbeats 4000000 in
set_option maxRecDepth 100000 in
theorem kX7_many_1 (l : Launch) (G : gT) (al : Nat → Nat) (k : gC) (h : gK) (c : mC) (g : St) (t : St) (hX : gX G al k h c) : Met l yX7_many (fW yX7_many cX7_many 2 (some .int)) { frames := 8, cells := 0, slots := 0, locals := 320 } (gPre G al (w2 G al k c g t) [.ref (al 0), .int 1]) (gQi (S := Unit) G (fun _ => mMany k h g 1) (fun _ => al) (fun _ => w2 G al k c g t)) 0 0 (gA G) := by
  refine Met.ofW (cc := cX7_many) (maxL := 2) (ret := (some .int)) (by decide) rfl ?_
  intro pz ez s m args below meth c₀ s₁ Bo hml hv
  obtain ⟨rfl, hb0, hP, hE⟩ := hv
  have hx := Bo.exec
  have hb := Bo.bytes
  have hr := Bo.returns
  have hts0 := atoms_spec (ws := (fW yX7_many cX7_many 2 (some .int))) Bo.pre
  have hts : ∀ w ∈ fA, w.before _ s = true := fun w h => hts0 w (List.mem_cons_of_mem _ h)
  have hown : s.vm.findClass RX7 = some m.cls := findClass_of_methodNamed Bo.named
  have hlocks := Bo.notSynchronized
  have hl := lv_entry ([.ref (al 0), .int 1]) (n := 2) (Nat.le_of_ble_eq_true rfl)
  rw [lg_entry_eq]
  generalize (lg_sl ([.ref (al 0), .int 1]) ++ List.replicate (2 - (lg_sl ([.ref (al 0), .int 1])).length) Slot.unset).toArray = ls at hl ⊢
  have hl : lv_has ls 2 [(0, .ref (al 0)), (1, .int 1)] := hl
  have hJ := gX_J hX
  refine g_start hP (fun H hP hS => ?_)
  refine lv_iload_n hx hb dX7_many_0 rfl (lv_at hl 1 rfl) ?_
  refine lv_tableIn (off := 87) (tgt := 88) hx hb dX7_many_1 (by decide) (by decide) (by decide) (by decide) ?_
  refine lv_aload_n hx hb dX7_many_88 rfl (lv_at hl 0 rfl) ?_
  refine m_get (C := RX7) (T := TX7) (N := 3) (ci := 8) (v := .ref (al 100)) hx hb hts uX7 hown hE hP 0 rfl (gX_0 hX) rfl 1 (by decide) (hts _ q368) (fun _ h9 => h9) rfl dX7_many_89 ?_
  refine m_get (C := RX5) (T := TX5) (N := 15) (ci := 6) (v := .ref (al (100 + 1))) hx hb hts uX5 hown hE hP 100 rfl ((congrFun (w2_c hJ) _).trans ov_s) rfl 0 (by decide) (hts _ q377) (fun _ h9 => h9) rfl dX7_many_92 ?_
  refine g_aft_i (g_runV (As := []) (rest := []) hx hb hml hown hts (kJx4a65c_size_8abf5 l G al (w2 G al k c g t) (100 + 1) (100 + 2) 2 (fun p => 100 + 11 + p) ((w2_c (G := G) (al := al) (c := c) (g := g) (t := t) hJ) ▸ (gF_p (gF_o2 (gX_1 hX))) : gLs G al (w2 G al k c g t) (100 + 1) (100 + 2) 2 (fun p => 100 + 11 + p))) (fcwV 0 hts q380 q53 q54 q50 q34 rfl rfl (by decide +kernel) ⟨(Nat.le_of_ble_eq_true rfl), (Nat.le_of_ble_eq_true rfl)⟩) hE hb0 hP hS (m_recvL hE hP ((w2_c (G := G) (al := al) (c := c) (g := g) (t := t) hJ) ▸ (gF_p (gF_o2 (gX_1 hX))) : gLs G al (w2 G al k c g t) (100 + 1) (100 + 2) 2 (fun p => 100 + 11 + p)) rfl) rfl hl.1 rfl (Nat.le_of_ble_eq_true rfl) dX7_many_95 ⟨(Nat.le_of_ble_eq_true rfl), (Nat.le_of_ble_eq_true rfl)⟩) hS (fun u H locs hP hS => ?_)
  refine f_topi (v := nI 2) rfl ?_
  refine W.widen (k := 0) (n := 0) (Nat.le_of_ble_eq_true rfl) (Nat.le_of_ble_eq_true rfl) ?_
  exact W.iret (v := nI 2) hx hb hr (fun tz htz hW => ⟨⟨nI 2, (), rfl, (by unfold mMany; rfl), g_end htz hP⟩, hS.F htz⟩) hS.2.2 dX7_many_98
set_option maxHeartbeats 4000000 in
set_option maxRecDepth 100000 in
theorem kX7_many_2 (l : Launch) (G : gT) (al : Nat → Nat) (k : gC) (h : gK) (c : mC) (g : St) (t : St) (hX : gX G al k h c) : Met l yX7_many (fW yX7_many cX7_many 2 (some .int)) { frames := 8, cells := 0, slots := 0, locals := 320 } (gPre G al (w2 G al k c g t) [.ref (al 0), .int 2]) (gQi (S := Unit) G (fun _ => mMany k h g 2) (fun _ => al) (fun _ => w2 G al k c g t)) 0 0 (gA G) := by
  refine Met.ofW (cc := cX7_many) (maxL := 2) (ret := (some .int)) (by decide) rfl ?_
  intro pz ez s m args below meth c₀ s₁ Bo hml hv
  obtain ⟨rfl, hb0, hP, hE⟩ := hv
  have hx := Bo.exec
  have hb := Bo.bytes
  have hr := Bo.returns
  have hts0 := atoms_spec (ws := (fW yX7_many cX7_many 2 (some .int))) Bo.pre
  have hts : ∀ w ∈ fA, w.before _ s = true := fun w h => hts0 w (List.mem_cons_of_mem _ h)
  have hown : s.vm.findClass RX7 = some m.cls := findClass_of_methodNamed Bo.named
  have hlocks := Bo.notSynchronized
  have hl := lv_entry ([.ref (al 0), .int 2]) (n := 2) (Nat.le_of_ble_eq_true rfl)
  rw [lg_entry_eq]
  generalize (lg_sl ([.ref (al 0), .int 2]) ++ List.replicate (2 - (lg_sl ([.ref (al 0), .int 2])).length) Slot.unset).toArray = ls at hl ⊢
  have hl : lv_has ls 2 [(0, .ref (al 0)), (1, .int 2)] := hl
  have hJ := gX_J hX
  refine g_start hP (fun H hP hS => ?_)
  refine lv_iload_n hx hb dX7_many_0 rfl (lv_at hl 1 rfl) ?_
  refine lv_tableIn (off := 98) (tgt := 99) hx hb dX7_many_1 (by decide) (by decide) (by decide) (by decide) ?_
  refine lv_aload_n hx hb dX7_many_99 rfl (lv_at hl 0 rfl) ?_
  refine m_get (C := RX7) (T := TX7) (N := 3) (ci := 8) (v := .ref (al 100)) hx hb hts uX7 hown hE hP 0 rfl (gX_0 hX) rfl 1 (by decide) (hts _ q368) (fun _ h9 => h9) rfl dX7_many_100 ?_
  refine m_get (C := RX5) (T := TX5) (N := 15) (ci := 6) (v := .ref (al (100 + 3))) hx hb hts uX5 hown hE hP 100 rfl ((congrFun (w2_c hJ) _).trans ov_s) rfl 1 (by decide) (hts _ q390) (fun _ h9 => h9) rfl dX7_many_103 ?_
  refine g_aft_i (g_runV (As := []) (rest := []) hx hb hml hown hts (kJx4a65c_size_8abf5 l G al (w2 G al k c g t) (100 + 3) (100 + 4) k.1 (fun j => 100 + 20 + j) ((w2_c (G := G) (al := al) (c := c) (g := g) (t := t) hJ) ▸ (gF_j (gF_o2 (gX_1 hX))) : gLs G al (w2 G al k c g t) (100 + 3) (100 + 4) k.1 (fun j => 100 + 20 + j))) (fcwV 0 hts q380 q53 q54 q50 q34 rfl rfl (by decide +kernel) ⟨(Nat.le_of_ble_eq_true rfl), (Nat.le_of_ble_eq_true rfl)⟩) hE hb0 hP hS (m_recvL hE hP ((w2_c (G := G) (al := al) (c := c) (g := g) (t := t) hJ) ▸ (gF_j (gF_o2 (gX_1 hX))) : gLs G al (w2 G al k c g t) (100 + 3) (100 + 4) k.1 (fun j => 100 + 20 + j)) rfl) rfl hl.1 rfl (Nat.le_of_ble_eq_true rfl) dX7_many_106 ⟨(Nat.le_of_ble_eq_true rfl), (Nat.le_of_ble_eq_true rfl)⟩) hS (fun u H locs hP hS => ?_)
  refine f_topi (v := nI k.1) rfl ?_
  refine W.widen (k := 0) (n := 0) (Nat.le_of_ble_eq_true rfl) (Nat.le_of_ble_eq_true rfl) ?_
  exact W.iret (v := nI k.1) hx hb hr (fun tz htz hW => ⟨⟨nI k.1, (), rfl, (by unfold mMany; rfl), g_end htz hP⟩, hS.F htz⟩) hS.2.2 dX7_many_109
set_option maxHeartbeats 4000000 in
set_option maxRecDepth 100000 in
theorem kX7_many_3 (l : Launch) (G : gT) (al : Nat → Nat) (k : gC) (h : gK) (c : mC) (g : St) (t : St) (hX : gX G al k h c) : Met l yX7_many (fW yX7_many cX7_many 2 (some .int)) { frames := 8, cells := 0, slots := 0, locals := 320 } (gPre G al (w2 G al k c g t) [.ref (al 0), .int 3]) (gQi (S := Unit) G (fun _ => mMany k h g 3) (fun _ => al) (fun _ => w2 G al k c g t)) 0 0 (gA G) := by
  refine Met.ofW (cc := cX7_many) (maxL := 2) (ret := (some .int)) (by decide) rfl ?_
  intro pz ez s m args below meth c₀ s₁ Bo hml hv
  obtain ⟨rfl, hb0, hP, hE⟩ := hv
  have hx := Bo.exec
  have hb := Bo.bytes
  have hr := Bo.returns
  have hts0 := atoms_spec (ws := (fW yX7_many cX7_many 2 (some .int))) Bo.pre
  have hts : ∀ w ∈ fA, w.before _ s = true := fun w h => hts0 w (List.mem_cons_of_mem _ h)
  have hown : s.vm.findClass RX7 = some m.cls := findClass_of_methodNamed Bo.named
  have hlocks := Bo.notSynchronized
  have hl := lv_entry ([.ref (al 0), .int 3]) (n := 2) (Nat.le_of_ble_eq_true rfl)
  rw [lg_entry_eq]
  generalize (lg_sl ([.ref (al 0), .int 3]) ++ List.replicate (2 - (lg_sl ([.ref (al 0), .int 3])).length) Slot.unset).toArray = ls at hl ⊢
  have hl : lv_has ls 2 [(0, .ref (al 0)), (1, .int 3)] := hl
  have hJ := gX_J hX
  refine g_start hP (fun H hP hS => ?_)
  refine lv_iload_n hx hb dX7_many_0 rfl (lv_at hl 1 rfl) ?_
  refine lv_tableIn (off := 109) (tgt := 110) hx hb dX7_many_1 (by decide) (by decide) (by decide) (by decide) ?_
  refine lv_aload_n hx hb dX7_many_110 rfl (lv_at hl 0 rfl) ?_
  refine m_get (C := RX7) (T := TX7) (N := 3) (ci := 8) (v := .ref (al 1)) hx hb hts uX7 hown hE hP 0 rfl (gX_0 hX) rfl 0 (by decide) (hts _ q365) (fun _ h9 => h9) rfl dX7_many_111 ?_
  refine g_aft_i (g_runV (As := []) (rest := []) hx hb hml hown hts (kJx4a65c_size_8abf5 l G al (w2 G al k c g t) 1 2 2 (fun i => 10 + i) (gX_l hX)) (fcwV 0 hts q380 q53 q54 q50 q34 rfl rfl (by decide +kernel) ⟨(Nat.le_of_ble_eq_true rfl), (Nat.le_of_ble_eq_true rfl)⟩) hE hb0 hP hS (m_recvL hE hP (gX_l hX) rfl) rfl hl.1 rfl (Nat.le_of_ble_eq_true rfl) dX7_many_114 ⟨(Nat.le_of_ble_eq_true rfl), (Nat.le_of_ble_eq_true rfl)⟩) hS (fun u H locs hP hS => ?_)
  refine f_topi (v := nI 2) rfl ?_
  refine W.widen (k := 0) (n := 0) (Nat.le_of_ble_eq_true rfl) (Nat.le_of_ble_eq_true rfl) ?_
  exact W.iret (v := nI 2) hx hb hr (fun tz htz hW => ⟨⟨nI 2, (), rfl, (by unfold mMany; rfl), g_end htz hP⟩, hS.F htz⟩) hS.2.2 dX7_many_117
set_option maxHeartbeats 4000000 in
set_option maxRecDepth 100000 in
theorem kX7_many_4 (l : Launch) (G : gT) (al : Nat → Nat) (k : gC) (h : gK) (c : mC) (g : St) (t : St) (hX : gX G al k h c) : Met l yX7_many (fW yX7_many cX7_many 2 (some .int)) { frames := 8, cells := 0, slots := 0, locals := 320 } (gPre G al (w2 G al k c g t) [.ref (al 0), .int 4]) (gQi (S := Unit) G (fun _ => mMany k h g 4) (fun _ => al) (fun _ => w2 G al k c g t)) 0 0 (gA G) := by
  refine Met.ofW (cc := cX7_many) (maxL := 2) (ret := (some .int)) (by decide) rfl ?_
  intro pz ez s m args below meth c₀ s₁ Bo hml hv
  obtain ⟨rfl, hb0, hP, hE⟩ := hv
  have hx := Bo.exec
  have hb := Bo.bytes
  have hr := Bo.returns
  have hts0 := atoms_spec (ws := (fW yX7_many cX7_many 2 (some .int))) Bo.pre
  have hts : ∀ w ∈ fA, w.before _ s = true := fun w h => hts0 w (List.mem_cons_of_mem _ h)
  have hown : s.vm.findClass RX7 = some m.cls := findClass_of_methodNamed Bo.named
  have hlocks := Bo.notSynchronized
  have hl := lv_entry ([.ref (al 0), .int 4]) (n := 2) (Nat.le_of_ble_eq_true rfl)
  rw [lg_entry_eq]
  generalize (lg_sl ([.ref (al 0), .int 4]) ++ List.replicate (2 - (lg_sl ([.ref (al 0), .int 4])).length) Slot.unset).toArray = ls at hl ⊢
  have hl : lv_has ls 2 [(0, .ref (al 0)), (1, .int 4)] := hl
  have hJ := gX_J hX
  refine g_start hP (fun H hP hS => ?_)
  refine lv_iload_n hx hb dX7_many_0 rfl (lv_at hl 1 rfl) ?_
  refine lv_tableIn (off := 117) (tgt := 118) hx hb dX7_many_1 (by decide) (by decide) (by decide) (by decide) ?_
  refine lv_aload_n hx hb dX7_many_118 rfl (lv_at hl 0 rfl) ?_
  refine m_get (C := RX7) (T := TX7) (N := 3) (ci := 8) (v := .ref (al 100)) hx hb hts uX7 hown hE hP 0 rfl (gX_0 hX) rfl 1 (by decide) (hts _ q368) (fun _ h9 => h9) rfl dX7_many_119 ?_
  refine m_get (C := RX5) (T := TX5) (N := 15) (ci := 6) (v := .ref (al (100 + 5))) hx hb hts uX5 hown hE hP 100 rfl ((congrFun (w2_c hJ) _).trans ov_s) rfl 2 (by decide) (hts _ q446) (fun _ h9 => h9) rfl dX7_many_122 ?_
  refine g_aft_i (g_runV (As := []) (rest := []) hx hb hml hown hts (kJx4a65c_size_8abf5 l G al (w2 G al k c g t) (100 + 5) (100 + 6) h.1 (fun i => 300 + 3 * i) ((w2_c (G := G) (al := al) (c := c) (g := g) (t := t) hJ) ▸ (gH_ov (gH_o2 (gX_3 hX) hJ) (Or.inl rfl) hJ).1 : gLs G al (w2 G al k c g t) (100 + 5) (100 + 6) h.1 (fun i => 300 + 3 * i))) (fcwV 0 hts q380 q53 q54 q50 q34 rfl rfl (by decide +kernel) ⟨(Nat.le_of_ble_eq_true rfl), (Nat.le_of_ble_eq_true rfl)⟩) hE hb0 hP hS (m_recvL hE hP ((w2_c (G := G) (al := al) (c := c) (g := g) (t := t) hJ) ▸ (gH_ov (gH_o2 (gX_3 hX) hJ) (Or.inl rfl) hJ).1 : gLs G al (w2 G al k c g t) (100 + 5) (100 + 6) h.1 (fun i => 300 + 3 * i)) rfl) rfl hl.1 rfl (Nat.le_of_ble_eq_true rfl) dX7_many_125 ⟨(Nat.le_of_ble_eq_true rfl), (Nat.le_of_ble_eq_true rfl)⟩) hS (fun u H locs hP hS => ?_)
  refine f_topi (v := nI h.1) rfl ?_
  refine W.widen (k := 0) (n := 0) (Nat.le_of_ble_eq_true rfl) (Nat.le_of_ble_eq_true rfl) ?_
  exact W.iret (v := nI h.1) hx hb hr (fun tz htz hW => ⟨⟨nI h.1, (), rfl, (by unfold mMany; rfl), g_end htz hP⟩, hS.F htz⟩) hS.2.2 dX7_many_128
set_option maxHeartbeats 4000000 in
set_option maxRecDepth 100000 in
theorem kX7_many_5 (l : Launch) (G : gT) (al : Nat → Nat) (k : gC) (h : gK) (c : mC) (g : St) (t : St) (hX : gX G al k h c) : Met l yX7_many (fW yX7_many cX7_many 2 (some .int)) { frames := 8, cells := 0, slots := 0, locals := 320 } (gPre G al (w2 G al k c g t) [.ref (al 0), .int 5]) (gQi (S := Unit) G (fun _ => mMany k h g 5) (fun _ => al) (fun _ => w2 G al k c g t)) 0 0 (gA G) := by
  refine Met.ofW (cc := cX7_many) (maxL := 2) (ret := (some .int)) (by decide) rfl ?_
  intro pz ez s m args below meth c₀ s₁ Bo hml hv
  obtain ⟨rfl, hb0, hP, hE⟩ := hv
  have hx := Bo.exec
  have hb := Bo.bytes
  have hr := Bo.returns
  have hts0 := atoms_spec (ws := (fW yX7_many cX7_many 2 (some .int))) Bo.pre
  have hts : ∀ w ∈ fA, w.before _ s = true := fun w h => hts0 w (List.mem_cons_of_mem _ h)
  have hown : s.vm.findClass RX7 = some m.cls := findClass_of_methodNamed Bo.named
  have hlocks := Bo.notSynchronized
  have hl := lv_entry ([.ref (al 0), .int 5]) (n := 2) (Nat.le_of_ble_eq_true rfl)
  rw [lg_entry_eq]
  generalize (lg_sl ([.ref (al 0), .int 5]) ++ List.replicate (2 - (lg_sl ([.ref (al 0), .int 5])).length) Slot.unset).toArray = ls at hl ⊢
  have hl : lv_has ls 2 [(0, .ref (al 0)), (1, .int 5)] := hl
  have hJ := gX_J hX
  refine g_start hP (fun H hP hS => ?_)
  refine lv_iload_n hx hb dX7_many_0 rfl (lv_at hl 1 rfl) ?_
  refine lv_tableIn (off := 128) (tgt := 129) hx hb dX7_many_1 (by decide) (by decide) (by decide) (by decide) ?_
  refine lv_aload_n hx hb dX7_many_129 rfl (lv_at hl 0 rfl) ?_
  refine m_get (C := RX7) (T := TX7) (N := 3) (ci := 8) (v := .ref (al 100)) hx hb hts uX7 hown hE hP 0 rfl (gX_0 hX) rfl 1 (by decide) (hts _ q368) (fun _ h9 => h9) rfl dX7_many_130 ?_
  refine m_get (C := RX5) (T := TX5) (N := 15) (ci := 6) (v := .int (g 0 5)) hx hb hts uX5 hown hE hP 100 rfl ((congrFun (w2_c hJ) _).trans ov_s) rfl 5 (by decide) (hts _ q432) (fun _ h9 => h9) rfl dX7_many_133 ?_
  refine W.widen (k := 0) (n := 0) (Nat.le_of_ble_eq_true rfl) (Nat.le_of_ble_eq_true rfl) ?_
  exact W.iret (v := g 0 5) hx hb hr (fun tz htz hW => ⟨⟨g 0 5, (), rfl, (by unfold mMany; rfl), g_end htz hP⟩, hS.F htz⟩) hS.2.2 dX7_many_136
set_option maxHeartbeats 4000000 in
set_option maxRecDepth 100000 in
theorem kX7_many_6 (l : Launch) (G : gT) (al : Nat → Nat) (k : gC) (h : gK) (c : mC) (g : St) (t : St) (hX : gX G al k h c) : Met l yX7_many (fW yX7_many cX7_many 2 (some .int)) { frames := 8, cells := 0, slots := 0, locals := 320 } (gPre G al (w2 G al k c g t) [.ref (al 0), .int 6]) (gQi (S := Unit) G (fun _ => mMany k h g 6) (fun _ => al) (fun _ => w2 G al k c g t)) 0 0 (gA G) := by
  refine Met.ofW (cc := cX7_many) (maxL := 2) (ret := (some .int)) (by decide) rfl ?_
  intro pz ez s m args below meth c₀ s₁ Bo hml hv
  obtain ⟨rfl, hb0, hP, hE⟩ := hv
  have hx := Bo.exec
  have hb := Bo.bytes
  have hr := Bo.returns
  have hts0 := atoms_spec (ws := (fW yX7_many cX7_many 2 (some .int))) Bo.pre
  have hts : ∀ w ∈ fA, w.before _ s = true := fun w h => hts0 w (List.mem_cons_of_mem _ h)
  have hown : s.vm.findClass RX7 = some m.cls := findClass_of_methodNamed Bo.named
  have hlocks := Bo.notSynchronized
  have hl := lv_entry ([.ref (al 0), .int 6]) (n := 2) (Nat.le_of_ble_eq_true rfl)
  rw [lg_entry_eq]
  generalize (lg_sl ([.ref (al 0), .int 6]) ++ List.replicate (2 - (lg_sl ([.ref (al 0), .int 6])).length) Slot.unset).toArray = ls at hl ⊢
  have hl : lv_has ls 2 [(0, .ref (al 0)), (1, .int 6)] := hl
  have hJ := gX_J hX
  refine g_start hP (fun H hP hS => ?_)
  refine lv_iload_n hx hb dX7_many_0 rfl (lv_at hl 1 rfl) ?_
  refine lv_tableIn (off := 136) (tgt := 137) hx hb dX7_many_1 (by decide) (by decide) (by decide) (by decide) ?_
  refine lv_aload_n hx hb dX7_many_137 rfl (lv_at hl 0 rfl) ?_
  refine m_get (C := RX7) (T := TX7) (N := 3) (ci := 8) (v := .ref (al 100)) hx hb hts uX7 hown hE hP 0 rfl (gX_0 hX) rfl 1 (by decide) (hts _ q368) (fun _ h9 => h9) rfl dX7_many_138 ?_
  refine m_get (C := RX5) (T := TX5) (N := 15) (ci := 6) (v := .ref (al (100 + 7))) hx hb hts uX5 hown hE hP 100 rfl ((congrFun (w2_c hJ) _).trans ov_s) rfl 3 (by decide) (hts _ q479) (fun _ h9 => h9) rfl dX7_many_141 ?_
  have hP := m_cv hP (w2_c hJ)
  refine g_aft_i (g_runV (As := []) (rest := []) hx hb hml hown hts (kX0_all l G al k h 100 (ov G al k 200 c t) g (gF_o2 (gX_1 hX))) (fcwV 0 hts q492 q493 q494 q16 q21 rfl rfl (by decide +kernel) ⟨(Nat.le_of_ble_eq_true rfl), (Nat.le_of_ble_eq_true rfl)⟩) hE hb0 hP hS (m_recvA hE hP (100 + 7) rfl (gF_a (gF_o2 (gX_1 hX))) rfl) rfl hl.1 rfl (Nat.le_of_ble_eq_true rfl) dX7_many_144 ⟨(Nat.le_of_ble_eq_true rfl), (Nat.le_of_ble_eq_true rfl)⟩) hS (fun u H locs hP hS => ?_)
  have hP := m_cv hP (w2_c hJ).symm
  have hP : mP G al (w2 G al k c g t) H := hP
  refine f_topi (v := mAll g) rfl ?_
  refine W.widen (k := 0) (n := 0) (Nat.le_of_ble_eq_true rfl) (Nat.le_of_ble_eq_true rfl) ?_
  exact W.iret (v := mAll g) hx hb hr (fun tz htz hW => ⟨⟨mAll g, (), rfl, (by unfold mMany; rfl), g_end htz hP⟩, hS.F htz⟩) hS.2.2 dX7_many_147
set_option maxHeartbeats 4000000 in
set_option maxRecDepth 100000 in
theorem kX7_many_7 (l : Launch) (G : gT) (al : Nat → Nat) (k : gC) (h : gK) (c : mC) (g : St) (t : St) (hX : gX G al k h c) : Met l yX7_many (fW yX7_many cX7_many 2 (some .int)) { frames := 8, cells := 0, slots := 0, locals := 320 } (gPre G al (w2 G al k c g t) [.ref (al 0), .int 7]) (gQi (S := Unit) G (fun _ => mMany k h g 7) (fun _ => al) (fun _ => w2 G al k c g t)) 0 0 (gA G) := by
  refine Met.ofW (cc := cX7_many) (maxL := 2) (ret := (some .int)) (by decide) rfl ?_
  intro pz ez s m args below meth c₀ s₁ Bo hml hv
  obtain ⟨rfl, hb0, hP, hE⟩ := hv
  have hx := Bo.exec
  have hb := Bo.bytes
  have hr := Bo.returns
  have hts0 := atoms_spec (ws := (fW yX7_many cX7_many 2 (some .int))) Bo.pre
  have hts : ∀ w ∈ fA, w.before _ s = true := fun w h => hts0 w (List.mem_cons_of_mem _ h)
  have hown : s.vm.findClass RX7 = some m.cls := findClass_of_methodNamed Bo.named
  have hlocks := Bo.notSynchronized
  have hl := lv_entry ([.ref (al 0), .int 7]) (n := 2) (Nat.le_of_ble_eq_true rfl)
  rw [lg_entry_eq]
  generalize (lg_sl ([.ref (al 0), .int 7]) ++ List.replicate (2 - (lg_sl ([.ref (al 0), .int 7])).length) Slot.unset).toArray = ls at hl ⊢
  have hl : lv_has ls 2 [(0, .ref (al 0)), (1, .int 7)] := hl
  have hJ := gX_J hX
  refine g_start hP (fun H hP hS => ?_)
  refine lv_iload_n hx hb dX7_many_0 rfl (lv_at hl 1 rfl) ?_
  refine lv_tableIn (off := 147) (tgt := 148) hx hb dX7_many_1 (by decide) (by decide) (by decide) (by decide) ?_
  refine lv_aload_n hx hb dX7_many_148 rfl (lv_at hl 0 rfl) ?_
  refine m_get (C := RX7) (T := TX7) (N := 3) (ci := 8) (v := .ref (al 100)) hx hb hts uX7 hown hE hP 0 rfl (gX_0 hX) rfl 1 (by decide) (hts _ q368) (fun _ h9 => h9) rfl dX7_many_149 ?_
  refine m_get (C := RX5) (T := TX5) (N := 15) (ci := 6) (v := .int (g 0 7)) hx hb hts uX5 hown hE hP 100 rfl ((congrFun (w2_c hJ) _).trans ov_s) rfl 7 (by decide) (hts _ q486) (fun _ h9 => h9) rfl dX7_many_152 ?_
  refine W.widen (k := 0) (n := 0) (Nat.le_of_ble_eq_true rfl) (Nat.le_of_ble_eq_true rfl) ?_
  exact W.iret (v := g 0 7) hx hb hr (fun tz htz hW => ⟨⟨g 0 7, (), rfl, (by unfold mMany; rfl), g_end htz hP⟩, hS.F htz⟩) hS.2.2 dX7_many_155
set_option maxHeartbeats 4000000 in
set_option maxRecDepth 100000 in
theorem kX7_many_8 (l : Launch) (G : gT) (al : Nat → Nat) (k : gC) (h : gK) (c : mC) (g : St) (t : St) (hX : gX G al k h c) : Met l yX7_many (fW yX7_many cX7_many 2 (some .int)) { frames := 8, cells := 0, slots := 0, locals := 320 } (gPre G al (w2 G al k c g t) [.ref (al 0), .int 8]) (gQi (S := Unit) G (fun _ => mMany k h g 8) (fun _ => al) (fun _ => w2 G al k c g t)) 0 0 (gA G) := by
  refine Met.ofW (cc := cX7_many) (maxL := 2) (ret := (some .int)) (by decide) rfl ?_
  intro pz ez s m args below meth c₀ s₁ Bo hml hv
  obtain ⟨rfl, hb0, hP, hE⟩ := hv
  have hx := Bo.exec
  have hb := Bo.bytes
  have hr := Bo.returns
  have hts0 := atoms_spec (ws := (fW yX7_many cX7_many 2 (some .int))) Bo.pre
  have hts : ∀ w ∈ fA, w.before _ s = true := fun w h => hts0 w (List.mem_cons_of_mem _ h)
  have hown : s.vm.findClass RX7 = some m.cls := findClass_of_methodNamed Bo.named
  have hlocks := Bo.notSynchronized
  have hl := lv_entry ([.ref (al 0), .int 8]) (n := 2) (Nat.le_of_ble_eq_true rfl)
  rw [lg_entry_eq]
  generalize (lg_sl ([.ref (al 0), .int 8]) ++ List.replicate (2 - (lg_sl ([.ref (al 0), .int 8])).length) Slot.unset).toArray = ls at hl ⊢
  have hl : lv_has ls 2 [(0, .ref (al 0)), (1, .int 8)] := hl
  have hJ := gX_J hX
  refine g_start hP (fun H hP hS => ?_)
  refine lv_iload_n hx hb dX7_many_0 rfl (lv_at hl 1 rfl) ?_
  refine lv_tableIn (off := 155) (tgt := 156) hx hb dX7_many_1 (by decide) (by decide) (by decide) (by decide) ?_
  refine lv_aload_n hx hb dX7_many_156 rfl (lv_at hl 0 rfl) ?_
  refine m_get (C := RX7) (T := TX7) (N := 3) (ci := 8) (v := .ref (al 100)) hx hb hts uX7 hown hE hP 0 rfl (gX_0 hX) rfl 1 (by decide) (hts _ q368) (fun _ h9 => h9) rfl dX7_many_157 ?_
  refine m_get (C := RX5) (T := TX5) (N := 15) (ci := 6) (v := .int (g 0 6)) hx hb hts uX5 hown hE hP 100 rfl ((congrFun (w2_c hJ) _).trans ov_s) rfl 6 (by decide) (hts _ q487) (fun _ h9 => h9) rfl dX7_many_160 ?_
  refine W.widen (k := 0) (n := 0) (Nat.le_of_ble_eq_true rfl) (Nat.le_of_ble_eq_true rfl) ?_
  exact W.iret (v := g 0 6) hx hb hr (fun tz htz hW => ⟨⟨g 0 6, (), rfl, (by unfold mMany; rfl), g_end htz hP⟩, hS.F htz⟩) hS.2.2 dX7_many_163
set_option maxHeartbeats 4000000 in
set_option maxRecDepth 100000 in
theorem kX7_many_9 (l : Launch) (G : gT) (al : Nat → Nat) (k : gC) (h : gK) (c : mC) (g : St) (t : St) (hX : gX G al k h c) : Met l yX7_many (fW yX7_many cX7_many 2 (some .int)) { frames := 8, cells := 0, slots := 0, locals := 320 } (gPre G al (w2 G al k c g t) [.ref (al 0), .int 9]) (gQi (S := Unit) G (fun _ => mMany k h g 9) (fun _ => al) (fun _ => w2 G al k c g t)) 0 0 (gA G) := by
  refine Met.ofW (cc := cX7_many) (maxL := 2) (ret := (some .int)) (by decide) rfl ?_
  intro pz ez s m args below meth c₀ s₁ Bo hml hv
  obtain ⟨rfl, hb0, hP, hE⟩ := hv
  have hx := Bo.exec
  have hb := Bo.bytes
  have hr := Bo.returns
  have hts0 := atoms_spec (ws := (fW yX7_many cX7_many 2 (some .int))) Bo.pre
  have hts : ∀ w ∈ fA, w.before _ s = true := fun w h => hts0 w (List.mem_cons_of_mem _ h)
  have hown : s.vm.findClass RX7 = some m.cls := findClass_of_methodNamed Bo.named
  have hlocks := Bo.notSynchronized
  have hl := lv_entry ([.ref (al 0), .int 9]) (n := 2) (Nat.le_of_ble_eq_true rfl)
  rw [lg_entry_eq]
  generalize (lg_sl ([.ref (al 0), .int 9]) ++ List.replicate (2 - (lg_sl ([.ref (al 0), .int 9])).length) Slot.unset).toArray = ls at hl ⊢
  have hl : lv_has ls 2 [(0, .ref (al 0)), (1, .int 9)] := hl
  have hJ := gX_J hX
  refine g_start hP (fun H hP hS => ?_)
  refine lv_iload_n hx hb dX7_many_0 rfl (lv_at hl 1 rfl) ?_
  refine lv_tableIn (off := 163) (tgt := 164) hx hb dX7_many_1 (by decide) (by decide) (by decide) (by decide) ?_
  refine lv_aload_n hx hb dX7_many_164 rfl (lv_at hl 0 rfl) ?_
  refine m_get (C := RX7) (T := TX7) (N := 3) (ci := 8) (v := .ref (al 100)) hx hb hts uX7 hown hE hP 0 rfl (gX_0 hX) rfl 1 (by decide) (hts _ q368) (fun _ h9 => h9) rfl dX7_many_165 ?_
  refine m_get (C := RX5) (T := TX5) (N := 15) (ci := 6) (v := .int (g 0 8)) hx hb hts uX5 hown hE hP 100 rfl ((congrFun (w2_c hJ) _).trans ov_s) rfl 8 (by decide) (hts _ q488) (fun _ h9 => h9) rfl dX7_many_168 ?_
  refine W.widen (k := 0) (n := 0) (Nat.le_of_ble_eq_true rfl) (Nat.le_of_ble_eq_true rfl) ?_
  exact W.iret (v := g 0 8) hx hb hr (fun tz htz hW => ⟨⟨g 0 8, (), rfl, (by unfold mMany; rfl), g_end htz hP⟩, hS.F htz⟩) hS.2.2 dX7_many_171
set_option maxHeartbeats 4000000 in
set_option maxRecDepth 100000 in
theorem kX7_many_10 (l : Launch) (G : gT) (al : Nat → Nat) (k : gC) (h : gK) (c : mC) (g : St) (t : St) (hX : gX G al k h c) : Met l yX7_many (fW yX7_many cX7_many 2 (some .int)) { frames := 8, cells := 0, slots := 0, locals := 320 } (gPre G al (w2 G al k c g t) [.ref (al 0), .int 10]) (gQi (S := Unit) G (fun _ => mMany k h g 10) (fun _ => al) (fun _ => w2 G al k c g t)) 0 0 (gA G) := by
  refine Met.ofW (cc := cX7_many) (maxL := 2) (ret := (some .int)) (by decide) rfl ?_
  intro pz ez s m args below meth c₀ s₁ Bo hml hv
  obtain ⟨rfl, hb0, hP, hE⟩ := hv
  have hx := Bo.exec
  have hb := Bo.bytes
  have hr := Bo.returns
  have hts0 := atoms_spec (ws := (fW yX7_many cX7_many 2 (some .int))) Bo.pre
  have hts : ∀ w ∈ fA, w.before _ s = true := fun w h => hts0 w (List.mem_cons_of_mem _ h)
  have hown : s.vm.findClass RX7 = some m.cls := findClass_of_methodNamed Bo.named
  have hlocks := Bo.notSynchronized
  have hl := lv_entry ([.ref (al 0), .int 10]) (n := 2) (Nat.le_of_ble_eq_true rfl)
  rw [lg_entry_eq]
  generalize (lg_sl ([.ref (al 0), .int 10]) ++ List.replicate (2 - (lg_sl ([.ref (al 0), .int 10])).length) Slot.unset).toArray = ls at hl ⊢
  have hl : lv_has ls 2 [(0, .ref (al 0)), (1, .int 10)] := hl
  have hJ := gX_J hX
  refine g_start hP (fun H hP hS => ?_)
  refine lv_iload_n hx hb dX7_many_0 rfl (lv_at hl 1 rfl) ?_
  refine lv_tableIn (off := 171) (tgt := 172) hx hb dX7_many_1 (by decide) (by decide) (by decide) (by decide) ?_
  refine lv_aload_n hx hb dX7_many_172 rfl (lv_at hl 0 rfl) ?_
  refine m_get (C := RX7) (T := TX7) (N := 3) (ci := 8) (v := .ref (al 100)) hx hb hts uX7 hown hE hP 0 rfl (gX_0 hX) rfl 1 (by decide) (hts _ q368) (fun _ h9 => h9) rfl dX7_many_173 ?_
  refine m_get (C := RX5) (T := TX5) (N := 15) (ci := 6) (v := .int (g 0 9)) hx hb hts uX5 hown hE hP 100 rfl ((congrFun (w2_c hJ) _).trans ov_s) rfl 9 (by decide) (hts _ q489) (fun _ h9 => h9) rfl dX7_many_176 ?_
  refine W.widen (k := 0) (n := 0) (Nat.le_of_ble_eq_true rfl) (Nat.le_of_ble_eq_true rfl) ?_
  exact W.iret (v := g 0 9) hx hb hr (fun tz htz hW => ⟨⟨g 0 9, (), rfl, (by unfold mMany; rfl), g_end htz hP⟩, hS.F htz⟩) hS.2.2 dX7_many_179
set_option maxHeartbeats 4000000 in
set_option maxRecDepth 100000 in
theorem kX7_many_11 (l : Launch) (G : gT) (al : Nat → Nat) (k : gC) (h : gK) (c : mC) (g : St) (t : St) (hX : gX G al k h c) : Met l yX7_many (fW yX7_many cX7_many 2 (some .int)) { frames := 8, cells := 0, slots := 0, locals := 320 } (gPre G al (w2 G al k c g t) [.ref (al 0), .int 11]) (gQi (S := Unit) G (fun _ => mMany k h g 11) (fun _ => al) (fun _ => w2 G al k c g t)) 0 0 (gA G) := by
  refine Met.ofW (cc := cX7_many) (maxL := 2) (ret := (some .int)) (by decide) rfl ?_
  intro pz ez s m args below meth c₀ s₁ Bo hml hv
  obtain ⟨rfl, hb0, hP, hE⟩ := hv
  have hx := Bo.exec
  have hb := Bo.bytes
  have hr := Bo.returns
  have hts0 := atoms_spec (ws := (fW yX7_many cX7_many 2 (some .int))) Bo.pre
  have hts : ∀ w ∈ fA, w.before _ s = true := fun w h => hts0 w (List.mem_cons_of_mem _ h)
  have hown : s.vm.findClass RX7 = some m.cls := findClass_of_methodNamed Bo.named
  have hlocks := Bo.notSynchronized
  have hl := lv_entry ([.ref (al 0), .int 11]) (n := 2) (Nat.le_of_ble_eq_true rfl)
  rw [lg_entry_eq]
  generalize (lg_sl ([.ref (al 0), .int 11]) ++ List.replicate (2 - (lg_sl ([.ref (al 0), .int 11])).length) Slot.unset).toArray = ls at hl ⊢
  have hl : lv_has ls 2 [(0, .ref (al 0)), (1, .int 11)] := hl
  have hJ := gX_J hX
  refine g_start hP (fun H hP hS => ?_)
  refine lv_iload_n hx hb dX7_many_0 rfl (lv_at hl 1 rfl) ?_
  refine lv_tableIn (off := 179) (tgt := 180) hx hb dX7_many_1 (by decide) (by decide) (by decide) (by decide) ?_
  refine lv_aload_n hx hb dX7_many_180 rfl (lv_at hl 0 rfl) ?_
  refine m_get (C := RX7) (T := TX7) (N := 3) (ci := 8) (v := .ref (al 100)) hx hb hts uX7 hown hE hP 0 rfl (gX_0 hX) rfl 1 (by decide) (hts _ q368) (fun _ h9 => h9) rfl dX7_many_181 ?_
  refine m_get (C := RX5) (T := TX5) (N := 15) (ci := 6) (v := .int (g 0 10)) hx hb hts uX5 hown hE hP 100 rfl ((congrFun (w2_c hJ) _).trans ov_s) rfl 10 (by decide) (hts _ q490) (fun _ h9 => h9) rfl dX7_many_184 ?_
  refine W.widen (k := 0) (n := 0) (Nat.le_of_ble_eq_true rfl) (Nat.le_of_ble_eq_true rfl) ?_
  exact W.iret (v := g 0 10) hx hb hr (fun tz htz hW => ⟨⟨g 0 10, (), rfl, (by unfold mMany; rfl), g_end htz hP⟩, hS.F htz⟩) hS.2.2 dX7_many_187
set_option maxHeartbeats 4000000 in
set_option maxRecDepth 100000 in
theorem kX7_many_12 (l : Launch) (G : gT) (al : Nat → Nat) (k : gC) (h : gK) (c : mC) (g : St) (t : St) (hX : gX G al k h c) : Met l yX7_many (fW yX7_many cX7_many 2 (some .int)) { frames := 8, cells := 0, slots := 0, locals := 320 } (gPre G al (w2 G al k c g t) [.ref (al 0), .int 12]) (gQi (S := Unit) G (fun _ => mMany k h g 12) (fun _ => al) (fun _ => w2 G al k c g t)) 0 0 (gA G) := by
  refine Met.ofW (cc := cX7_many) (maxL := 2) (ret := (some .int)) (by decide) rfl ?_
  intro pz ez s m args below meth c₀ s₁ Bo hml hv
  obtain ⟨rfl, hb0, hP, hE⟩ := hv
  have hx := Bo.exec
  have hb := Bo.bytes
  have hr := Bo.returns
  have hts0 := atoms_spec (ws := (fW yX7_many cX7_many 2 (some .int))) Bo.pre
  have hts : ∀ w ∈ fA, w.before _ s = true := fun w h => hts0 w (List.mem_cons_of_mem _ h)
  have hown : s.vm.findClass RX7 = some m.cls := findClass_of_methodNamed Bo.named
  have hlocks := Bo.notSynchronized
  have hl := lv_entry ([.ref (al 0), .int 12]) (n := 2) (Nat.le_of_ble_eq_true rfl)
  rw [lg_entry_eq]
  generalize (lg_sl ([.ref (al 0), .int 12]) ++ List.replicate (2 - (lg_sl ([.ref (al 0), .int 12])).length) Slot.unset).toArray = ls at hl ⊢
  have hl : lv_has ls 2 [(0, .ref (al 0)), (1, .int 12)] := hl
  have hJ := gX_J hX
  refine g_start hP (fun H hP hS => ?_)
  refine lv_iload_n hx hb dX7_many_0 rfl (lv_at hl 1 rfl) ?_
  refine lv_tableIn (off := 187) (tgt := 188) hx hb dX7_many_1 (by decide) (by decide) (by decide) (by decide) ?_
  refine lv_aload_n hx hb dX7_many_188 rfl (lv_at hl 0 rfl) ?_
  refine m_get (C := RX7) (T := TX7) (N := 3) (ci := 8) (v := .ref (al 100)) hx hb hts uX7 hown hE hP 0 rfl (gX_0 hX) rfl 1 (by decide) (hts _ q368) (fun _ h9 => h9) rfl dX7_many_189 ?_
  refine m_get (C := RX5) (T := TX5) (N := 15) (ci := 6) (v := .int (g 0 11)) hx hb hts uX5 hown hE hP 100 rfl ((congrFun (w2_c hJ) _).trans ov_s) rfl 11 (by decide) (hts _ q491) (fun _ h9 => h9) rfl dX7_many_192 ?_
  refine W.widen (k := 0) (n := 0) (Nat.le_of_ble_eq_true rfl) (Nat.le_of_ble_eq_true rfl) ?_
  exact W.iret (v := g 0 11) hx hb hr (fun tz htz hW => ⟨⟨g 0 11, (), rfl, (by unfold mMany; rfl), g_end htz hP⟩, hS.F htz⟩) hS.2.2 dX7_many_195
set_option maxHeartbeats 4000000 in
set_option maxRecDepth 100000 in
theorem kX7_many_13 (l : Launch) (G : gT) (al : Nat → Nat) (k : gC) (h : gK) (c : mC) (g : St) (t : St) (hX : gX G al k h c) : Met l yX7_many (fW yX7_many cX7_many 2 (some .int)) { frames := 8, cells := 0, slots := 0, locals := 320 } (gPre G al (w2 G al k c g t) [.ref (al 0), .int 13]) (gQi (S := Unit) G (fun _ => mMany k h g 13) (fun _ => al) (fun _ => w2 G al k c g t)) 0 0 (gA G) := by
  refine Met.ofW (cc := cX7_many) (maxL := 2) (ret := (some .int)) (by decide) rfl ?_
  intro pz ez s m args below meth c₀ s₁ Bo hml hv
  obtain ⟨rfl, hb0, hP, hE⟩ := hv
  have hx := Bo.exec
  have hb := Bo.bytes
  have hr := Bo.returns
  have hts0 := atoms_spec (ws := (fW yX7_many cX7_many 2 (some .int))) Bo.pre
  have hts : ∀ w ∈ fA, w.before _ s = true := fun w h => hts0 w (List.mem_cons_of_mem _ h)
  have hown : s.vm.findClass RX7 = some m.cls := findClass_of_methodNamed Bo.named
  have hlocks := Bo.notSynchronized
  have hl := lv_entry ([.ref (al 0), .int 13]) (n := 2) (Nat.le_of_ble_eq_true rfl)
  rw [lg_entry_eq]
  generalize (lg_sl ([.ref (al 0), .int 13]) ++ List.replicate (2 - (lg_sl ([.ref (al 0), .int 13])).length) Slot.unset).toArray = ls at hl ⊢
  have hl : lv_has ls 2 [(0, .ref (al 0)), (1, .int 13)] := hl
  have hJ := gX_J hX
  refine g_start hP (fun H hP hS => ?_)
  refine lv_iload_n hx hb dX7_many_0 rfl (lv_at hl 1 rfl) ?_
  refine lv_tableIn (off := 195) (tgt := 196) hx hb dX7_many_1 (by decide) (by decide) (by decide) (by decide) ?_
  refine lv_aload_n hx hb dX7_many_196 rfl (lv_at hl 0 rfl) ?_
  refine m_get (C := RX7) (T := TX7) (N := 3) (ci := 8) (v := .ref (al 100)) hx hb hts uX7 hown hE hP 0 rfl (gX_0 hX) rfl 1 (by decide) (hts _ q368) (fun _ h9 => h9) rfl dX7_many_197 ?_
  have hP := m_cv hP (w2_c hJ)
  refine g_aft_i (g_runV (As := []) (rest := []) hx hb hml hown hts (kX5_greatestHeight l G al k h 100 (ov G al k 200 c t) g (gF_o2 (gX_1 hX))) (fcwV 0 hts q495 q496 q497 q211 q347 rfl rfl (by decide +kernel) ⟨(Nat.le_of_ble_eq_true rfl), (Nat.le_of_ble_eq_true rfl)⟩) hE hb0 hP hS (m_recvA hE hP 100 rfl ov_s rfl) rfl hl.1 rfl (Nat.le_of_ble_eq_true rfl) dX7_many_200 ⟨(Nat.le_of_ble_eq_true rfl), (Nat.le_of_ble_eq_true rfl)⟩) hS (fun u H locs hP hS => ?_)
  have hP := m_cv hP (w2_c hJ).symm
  have hP : mP G al (w2 G al k c g t) H := hP
  refine f_topi (v := mMaxH k g) rfl ?_
  refine W.widen (k := 0) (n := 0) (Nat.le_of_ble_eq_true rfl) (Nat.le_of_ble_eq_true rfl) ?_
  exact W.iret (v := mMaxH k g) hx hb hr (fun tz htz hW => ⟨⟨mMaxH k g, (), rfl, (by unfold mMany; rfl), g_end htz hP⟩, hS.F htz⟩) hS.2.2 dX7_many_203
set_option maxHeartbeats 4000000 in
set_option maxRecDepth 100000 in
theorem kX7_many_14 (l : Launch) (G : gT) (al : Nat → Nat) (k : gC) (h : gK) (c : mC) (g : St) (t : St) (hX : gX G al k h c) : Met l yX7_many (fW yX7_many cX7_many 2 (some .int)) { frames := 8, cells := 0, slots := 0, locals := 320 } (gPre G al (w2 G al k c g t) [.ref (al 0), .int 14]) (gQi (S := Unit) G (fun _ => mMany k h g 14) (fun _ => al) (fun _ => w2 G al k c g t)) 0 0 (gA G) := by
  refine Met.ofW (cc := cX7_many) (maxL := 2) (ret := (some .int)) (by decide) rfl ?_
  intro pz ez s m args below meth c₀ s₁ Bo hml hv
  obtain ⟨rfl, hb0, hP, hE⟩ := hv
  have hx := Bo.exec
  have hb := Bo.bytes
  have hr := Bo.returns
  have hts0 := atoms_spec (ws := (fW yX7_many cX7_many 2 (some .int))) Bo.pre
  have hts : ∀ w ∈ fA, w.before _ s = true := fun w h => hts0 w (List.mem_cons_of_mem _ h)
  have hown : s.vm.findClass RX7 = some m.cls := findClass_of_methodNamed Bo.named
  have hlocks := Bo.notSynchronized
  have hl := lv_entry ([.ref (al 0), .int 14]) (n := 2) (Nat.le_of_ble_eq_true rfl)
  rw [lg_entry_eq]
  generalize (lg_sl ([.ref (al 0), .int 14]) ++ List.replicate (2 - (lg_sl ([.ref (al 0), .int 14])).length) Slot.unset).toArray = ls at hl ⊢
  have hl : lv_has ls 2 [(0, .ref (al 0)), (1, .int 14)] := hl
  have hJ := gX_J hX
  refine g_start hP (fun H hP hS => ?_)
  refine lv_iload_n hx hb dX7_many_0 rfl (lv_at hl 1 rfl) ?_
  refine lv_tableIn (off := 203) (tgt := 204) hx hb dX7_many_1 (by decide) (by decide) (by decide) (by decide) ?_
  refine lv_aload_n hx hb dX7_many_204 rfl (lv_at hl 0 rfl) ?_
  refine m_get (C := RX7) (T := TX7) (N := 3) (ci := 8) (v := .ref (al 100)) hx hb hts uX7 hown hE hP 0 rfl (gX_0 hX) rfl 1 (by decide) (hts _ q368) (fun _ h9 => h9) rfl dX7_many_205 ?_
  have hP := m_cv hP (w2_c hJ)
  refine g_aft_i (g_runV (As := []) (rest := []) hx hb hml hown hts (kX5_lampsOn l G al k h 100 (ov G al k 200 c t) g (gF_o2 (gX_1 hX))) (fcwV 0 hts q498 q298 q299 q211 q291 rfl rfl (by decide +kernel) ⟨(Nat.le_of_ble_eq_true rfl), (Nat.le_of_ble_eq_true rfl)⟩) hE hb0 hP hS (m_recvA hE hP 100 rfl ov_s rfl) rfl hl.1 rfl (Nat.le_of_ble_eq_true rfl) dX7_many_208 ⟨(Nat.le_of_ble_eq_true rfl), (Nat.le_of_ble_eq_true rfl)⟩) hS (fun u H locs hP hS => ?_)
  have hP := m_cv hP (w2_c hJ).symm
  have hP : mP G al (w2 G al k c g t) H := hP
  refine f_topi (v := mLamps k g) rfl ?_
  refine W.widen (k := 0) (n := 0) (Nat.le_of_ble_eq_true rfl) (Nat.le_of_ble_eq_true rfl) ?_
  exact W.iret (v := mLamps k g) hx hb hr (fun tz htz hW => ⟨⟨mLamps k g, (), rfl, (by unfold mMany; rfl), g_end htz hP⟩, hS.F htz⟩) hS.2.2 dX7_many_211
set_option maxHeartbeats 4000000 in
set_option maxRecDepth 100000 in
theorem kX7_many_15 (l : Launch) (G : gT) (al : Nat → Nat) (k : gC) (h : gK) (c : mC) (g : St) (t : St) (hX : gX G al k h c) : Met l yX7_many (fW yX7_many cX7_many 2 (some .int)) { frames := 8, cells := 0, slots := 0, locals := 320 } (gPre G al (w2 G al k c g t) [.ref (al 0), .int 15]) (gQi (S := Unit) G (fun _ => mMany k h g 15) (fun _ => al) (fun _ => w2 G al k c g t)) 0 0 (gA G) := by
  refine Met.ofW (cc := cX7_many) (maxL := 2) (ret := (some .int)) (by decide) rfl ?_
  intro pz ez s m args below meth c₀ s₁ Bo hml hv
  obtain ⟨rfl, hb0, hP, hE⟩ := hv
  have hx := Bo.exec
  have hb := Bo.bytes
  have hr := Bo.returns
  have hts0 := atoms_spec (ws := (fW yX7_many cX7_many 2 (some .int))) Bo.pre
  have hts : ∀ w ∈ fA, w.before _ s = true := fun w h => hts0 w (List.mem_cons_of_mem _ h)
  have hown : s.vm.findClass RX7 = some m.cls := findClass_of_methodNamed Bo.named
  have hlocks := Bo.notSynchronized
  have hl := lv_entry ([.ref (al 0), .int 15]) (n := 2) (Nat.le_of_ble_eq_true rfl)
  rw [lg_entry_eq]
  generalize (lg_sl ([.ref (al 0), .int 15]) ++ List.replicate (2 - (lg_sl ([.ref (al 0), .int 15])).length) Slot.unset).toArray = ls at hl ⊢
  have hl : lv_has ls 2 [(0, .ref (al 0)), (1, .int 15)] := hl
  have hJ := gX_J hX
  refine g_start hP (fun H hP hS => ?_)
  refine lv_iload_n hx hb dX7_many_0 rfl (lv_at hl 1 rfl) ?_
  refine lv_tableIn (off := 211) (tgt := 212) hx hb dX7_many_1 (by decide) (by decide) (by decide) (by decide) ?_
  refine lv_aload_n hx hb dX7_many_212 rfl (lv_at hl 0 rfl) ?_
  refine m_get (C := RX7) (T := TX7) (N := 3) (ci := 8) (v := .ref (al 100)) hx hb hts uX7 hown hE hP 0 rfl (gX_0 hX) rfl 1 (by decide) (hts _ q368) (fun _ h9 => h9) rfl dX7_many_213 ?_
  refine m_get (C := RX5) (T := TX5) (N := 15) (ci := 6) (v := .int (bz (g 0 14))) hx hb hts uX5 hown hE hP 100 rfl ((congrFun (w2_c hJ) _).trans ov_s) rfl 14 (by decide) (hts _ q422) (fun _ h9 => h9) rfl dX7_many_216 ?_
  refine lv_if_eq (tgt := 226) hx hb dX7_many_219 (by decide) (fun hc_1 => ?_) (fun hc_1 => ?_)
  · skip
    refine lv_iconst (v := 0) hx hb dX7_many_226 (by decide) ?_
    refine W.widen (k := 0) (n := 0) (Nat.le_of_ble_eq_true rfl) (Nat.le_of_ble_eq_true rfl) ?_
    exact W.iret (v := 0) hx hb hr (fun tz htz hW => ⟨⟨0, (), rfl, (by unfold mMany; rw [if_pos hc_1]; try rfl), g_end htz hP⟩, hS.F htz⟩) hS.2.2 dX7_many_227
  · skip
    refine lv_iconst (v := 1) hx hb dX7_many_222 (by decide) ?_
    refine lv_goto (tgt := 227) hx hb dX7_many_223 (by decide) ?_
    refine W.widen (k := 0) (n := 0) (Nat.le_of_ble_eq_true rfl) (Nat.le_of_ble_eq_true rfl) ?_
    exact W.iret (v := 1) hx hb hr (fun tz htz hW => ⟨⟨1, (), rfl, (by unfold mMany; rw [if_neg hc_1]; try rfl), g_end htz hP⟩, hS.F htz⟩) hS.2.2 dX7_many_227
set_option maxHeartbeats 4000000 in
set_option maxRecDepth 100000 in
theorem kX7_falls (l : Launch) (G : gT) (al : Nat → Nat) (k : gC) (h : gK) (c : mC) (g : St) (t : St) (i : Nat) (hX : gX G al k h c) (h1 : 0 < i) (h2 : i < 9) : Met l yX7_falls (fW yX7_falls cX7_falls 2 (some .int)) { frames := 3, cells := 0, slots := 0, locals := 64 } (gPre G al (w2 G al k c g t) [.ref (al 0), .int (nI i)]) (gQi (S := Unit) G (fun _ => mFallIn g (g 0 4 + nI i)) (fun _ => al) (fun _ => w2 G al k c g t)) 0 0 (gA G) := by
  refine Met.ofW (cc := cX7_falls) (maxL := 2) (ret := (some .int)) (by decide) rfl ?_
  intro pz ez s m args below meth c₀ s₁ Bo hml hv
  obtain ⟨rfl, hb0, hP, hE⟩ := hv
  have hx := Bo.exec
  have hb := Bo.bytes
  have hr := Bo.returns
  have hts0 := atoms_spec (ws := (fW yX7_falls cX7_falls 2 (some .int))) Bo.pre
  have hts : ∀ w ∈ fA, w.before _ s = true := fun w h => hts0 w (List.mem_cons_of_mem _ h)
  have hown : s.vm.findClass RX7 = some m.cls := findClass_of_methodNamed Bo.named
  have hlocks := Bo.notSynchronized
  have hl := lv_entry ([.ref (al 0), .int (nI i)]) (n := 2) (Nat.le_of_ble_eq_true rfl)
  rw [lg_entry_eq]
  generalize (lg_sl ([.ref (al 0), .int (nI i)]) ++ List.replicate (2 - (lg_sl ([.ref (al 0), .int (nI i)])).length) Slot.unset).toArray = ls at hl ⊢
  have hl : lv_has ls 2 [(0, .ref (al 0)), (1, .int (nI i))] := hl
  have hJ := gX_J hX
  refine g_start hP (fun H hP hS => ?_)
  refine lv_iload_n hx hb dX7_falls_0 rfl (lv_at hl 1 rfl) ?_
  refine lv_iconst (v := 1) hx hb dX7_falls_1 (by decide) ?_
  refine lv_icmp_lt (tgt := 11) hx hb dX7_falls_2 (by decide) (fun h => absurd h (nI_nlt (b := 1) h1 (by omega))) (fun _ => ?_)
  refine lv_iload_n hx hb dX7_falls_5 rfl (lv_at hl 1 rfl) ?_
  refine lv_bipush (v := 8) hx hb dX7_falls_6 (by decide) ?_
  refine lv_icmp_le (tgt := 21) hx hb dX7_falls_8 (by decide) (fun _ => ?_) (fun h => absurd (nI_le (b := 8) (by omega) (by omega)) h)
  refine lv_aload_n hx hb dX7_falls_21 rfl (lv_at hl 0 rfl) ?_
  refine m_get (C := RX7) (T := TX7) (N := 3) (ci := 8) (v := .ref (al 100)) hx hb hts uX7 hown hE hP 0 rfl (gX_0 hX) rfl 1 (by decide) (hts _ q368) (fun _ h9 => h9) rfl dX7_falls_22 ?_
  refine m_get (C := RX5) (T := TX5) (N := 15) (ci := 6) (v := .ref (al (100 + 7))) hx hb hts uX5 hown hE hP 100 rfl ((congrFun (w2_c hJ) _).trans ov_s) rfl 3 (by decide) (hts _ q479) (fun _ h9 => h9) rfl dX7_falls_25 ?_
  refine lv_aload_n hx hb dX7_falls_28 rfl (lv_at hl 0 rfl) ?_
  refine m_get (C := RX7) (T := TX7) (N := 3) (ci := 8) (v := .ref (al 100)) hx hb hts uX7 hown hE hP 0 rfl (gX_0 hX) rfl 1 (by decide) (hts _ q368) (fun _ h9 => h9) rfl dX7_falls_29 ?_
  refine m_get (C := RX5) (T := TX5) (N := 15) (ci := 6) (v := .int (g 0 4)) hx hb hts uX5 hown hE hP 100 rfl ((congrFun (w2_c hJ) _).trans ov_s) rfl 4 (by decide) (hts _ q449) (fun _ h9 => h9) rfl dX7_falls_32 ?_
  refine lv_iload_n hx hb dX7_falls_35 rfl (lv_at hl 1 rfl) ?_
  refine lv_iadd hx hb dX7_falls_36 ?_
  have hP := m_cv hP (w2_c hJ)
  refine g_aft_i (g_runV (As := [.int ((g 0 4) + (nI i))]) (rest := []) hx hb hml hown hts (kX0_fallingIn l G al k h 100 (ov G al k 200 c t) g ((g 0 4) + (nI i)) (gF_o2 (gX_1 hX))) (fcwV 1 hts q480 q252 q253 q16 q17 rfl rfl (by decide +kernel) ⟨(Nat.le_of_ble_eq_true rfl), (Nat.le_of_ble_eq_true rfl)⟩) hE hb0 hP hS (m_recvA hE hP (100 + 7) rfl (gF_a (gF_o2 (gX_1 hX))) rfl) rfl hl.1 rfl (Nat.le_of_ble_eq_true rfl) dX7_falls_37 ⟨(Nat.le_of_ble_eq_true rfl), (Nat.le_of_ble_eq_true rfl)⟩) hS (fun u H locs hP hS => ?_)
  have hP := m_cv hP (w2_c hJ).symm
  have hP : mP G al (w2 G al k c g t) H := hP
  refine f_topi (v := mFallIn g ((g 0 4) + (nI i))) rfl ?_
  refine W.widen (k := 0) (n := 0) (Nat.le_of_ble_eq_true rfl) (Nat.le_of_ble_eq_true rfl) ?_
  exact W.iret (v := mFallIn g ((g 0 4) + (nI i))) hx hb hr (fun tz htz hW => ⟨⟨mFallIn g ((g 0 4) + (nI i)), (), rfl, (by rfl), g_end htz hP⟩, hS.F htz⟩) hS.2.2 dX7_falls_40
set_option maxHeartbeats 4000000 in
set_option maxRecDepth 100000 in
theorem kX7_open (l : Launch) (G : gT) (al : Nat → Nat) (k : gC) (h : gK) (c : mC) (g : St) (t : St) (i : Nat) (hX : gX G al k h c) (hi : i < h.1) : Met l yX7_open (fW yX7_open cX7_open 2 (some .int)) { frames := 4, cells := 0, slots := 0, locals := 87 } (gPre G al (w2 G al k c g t) [.ref (al 0), .int (nI i)]) (gQi (S := Unit) G (fun _ => mOpen h i (g 0 4)) (fun _ => al) (fun _ => w2 G al k c g t)) 0 0 (gA G) := by
  refine Met.ofW (cc := cX7_open) (maxL := 2) (ret := (some .int)) (by decide) rfl ?_
  intro pz ez s m args below meth c₀ s₁ Bo hml hv
  obtain ⟨rfl, hb0, hP, hE⟩ := hv
  have hx := Bo.exec
  have hb := Bo.bytes
  have hr := Bo.returns
  have hts0 := atoms_spec (ws := (fW yX7_open cX7_open 2 (some .int))) Bo.pre
  have hts : ∀ w ∈ fA, w.before _ s = true := fun w h => hts0 w (List.mem_cons_of_mem _ h)
  have hown : s.vm.findClass RX7 = some m.cls := findClass_of_methodNamed Bo.named
  have hlocks := Bo.notSynchronized
  have hl := lv_entry ([.ref (al 0), .int (nI i)]) (n := 2) (Nat.le_of_ble_eq_true rfl)
  rw [lg_entry_eq]
  generalize (lg_sl ([.ref (al 0), .int (nI i)]) ++ List.replicate (2 - (lg_sl ([.ref (al 0), .int (nI i)])).length) Slot.unset).toArray = ls at hl ⊢
  have hl : lv_has ls 2 [(0, .ref (al 0)), (1, .int (nI i))] := hl
  have hJ := gX_J hX
  have hN : h.1 ≤ 20 := (gX_3 hX).2.1
  refine g_start hP (fun H hP hS => ?_)
  refine lv_iload_n hx hb dX7_open_0 rfl (lv_at hl 1 rfl) ?_
  refine lv_if_lt (tgt := 18) hx hb dX7_open_1 (by decide) (fun h => absurd h (nI_pos (by omega))) (fun _ => ?_)
  refine lv_iload_n hx hb dX7_open_4 rfl (lv_at hl 1 rfl) ?_
  refine lv_aload_n hx hb dX7_open_5 rfl (lv_at hl 0 rfl) ?_
  refine m_get (C := RX7) (T := TX7) (N := 3) (ci := 8) (v := .ref (al 100)) hx hb hts uX7 hown hE hP 0 rfl (gX_0 hX) rfl 1 (by decide) (hts _ q368) (fun _ h9 => h9) rfl dX7_open_6 ?_
  refine m_get (C := RX5) (T := TX5) (N := 15) (ci := 6) (v := .ref (al (100 + 5))) hx hb hts uX5 hown hE hP 100 rfl ((congrFun (w2_c hJ) _).trans ov_s) rfl 2 (by decide) (hts _ q446) (fun _ h9 => h9) rfl dX7_open_9 ?_
  refine g_aft_i (g_runV (As := []) (rest := [.int (nI i)]) hx hb hml hown hts (kJx4a65c_size_8abf5 l G al (w2 G al k c g t) (100 + 5) (100 + 6) h.1 (fun i => 300 + 3 * i) ((w2_c (G := G) (al := al) (c := c) (g := g) (t := t) hJ) ▸ (gH_ov (gH_o2 (gX_3 hX) hJ) (Or.inl rfl) hJ).1 : gLs G al (w2 G al k c g t) (100 + 5) (100 + 6) h.1 (fun i => 300 + 3 * i))) (fcwV 0 hts q380 q53 q54 q50 q34 rfl rfl (by decide +kernel) ⟨(Nat.le_of_ble_eq_true rfl), (Nat.le_of_ble_eq_true rfl)⟩) hE hb0 hP hS (m_recvL hE hP ((w2_c (G := G) (al := al) (c := c) (g := g) (t := t) hJ) ▸ (gH_ov (gH_o2 (gX_3 hX) hJ) (Or.inl rfl) hJ).1 : gLs G al (w2 G al k c g t) (100 + 5) (100 + 6) h.1 (fun i => 300 + 3 * i)) rfl) rfl hl.1 rfl (Nat.le_of_ble_eq_true rfl) dX7_open_12 ⟨(Nat.le_of_ble_eq_true rfl), (Nat.le_of_ble_eq_true rfl)⟩) hS (fun u H locs hP hS => ?_)
  refine f_topi (v := nI h.1) rfl ?_
  refine lv_icmp_lt (tgt := 28) hx hb dX7_open_15 (by decide) (fun _ => ?_) (fun h => absurd (nI_lt hi (by omega)) h)
  refine lv_aload_n hx hb dX7_open_28 rfl (lv_at hl 0 rfl) ?_
  refine m_get (C := RX7) (T := TX7) (N := 3) (ci := 8) (v := .ref (al 100)) hx hb hts uX7 hown hE hP 0 rfl (gX_0 hX) rfl 1 (by decide) (hts _ q368) (fun _ h9 => h9) rfl dX7_open_29 ?_
  refine m_get (C := RX5) (T := TX5) (N := 15) (ci := 6) (v := .ref (al (100 + 5))) hx hb hts uX5 hown hE hP 100 rfl ((congrFun (w2_c hJ) _).trans ov_s) rfl 2 (by decide) (hts _ q446) (fun _ h9 => h9) rfl dX7_open_32 ?_
  refine lv_iload_n hx hb dX7_open_35 rfl (lv_at hl 1 rfl) ?_
  refine g_aft_r (g_runV (As := [.int (nI i)]) (rest := []) hx hb hml hown hts (kJx4a65c_get_915e3 l G al (w2 G al k c g t) (100 + 5) (100 + 6) h.1 (fun i => 300 + 3 * i) i ((w2_c (G := G) (al := al) (c := c) (g := g) (t := t) hJ) ▸ (gH_ov (gH_o2 (gX_3 hX) hJ) (Or.inl rfl) hJ).1 : gLs G al (w2 G al k c g t) (100 + 5) (100 + 6) h.1 (fun i => 300 + 3 * i)) hi) (fcwV 1 hts q388 q56 q57 q50 q43 rfl rfl (by decide +kernel) ⟨(Nat.le_of_ble_eq_true rfl), (Nat.le_of_ble_eq_true rfl)⟩) hE hb0 hP hS (m_recvL hE hP ((w2_c (G := G) (al := al) (c := c) (g := g) (t := t) hJ) ▸ (gH_ov (gH_o2 (gX_3 hX) hJ) (Or.inl rfl) hJ).1 : gLs G al (w2 G al k c g t) (100 + 5) (100 + 6) h.1 (fun i => 300 + 3 * i)) rfl) rfl hl.1 rfl (Nat.le_of_ble_eq_true rfl) dX7_open_36 ⟨(Nat.le_of_ble_eq_true rfl), (Nat.le_of_ble_eq_true rfl)⟩) hS (fun u H locs hP hS => ?_)
  refine g_topr (v := al (300 + 3 * i)) rfl ?_
  refine m_cast hx hb hown (hts _ q481) hE hP (300 + 3 * i) rfl ((gH_ov (gH_o1 (gX_4 hX) hJ) (Or.inr rfl) hJ).2.2.1 i hi).2.2.1 rfl dX7_open_39 ?_
  refine lv_aload_n hx hb dX7_open_42 rfl (lv_at hl 0 rfl) ?_
  refine m_get (C := RX7) (T := TX7) (N := 3) (ci := 8) (v := .ref (al 100)) hx hb hts uX7 hown hE hP 0 rfl (gX_0 hX) rfl 1 (by decide) (hts _ q368) (fun _ h9 => h9) rfl dX7_open_43 ?_
  refine m_get (C := RX5) (T := TX5) (N := 15) (ci := 6) (v := .int (g 0 4)) hx hb hts uX5 hown hE hP 100 rfl ((congrFun (w2_c hJ) _).trans ov_s) rfl 4 (by decide) (hts _ q449) (fun _ h9 => h9) rfl dX7_open_46 ?_
  refine g_aft_i (g_runV (As := [.int (g 0 4)]) (rest := []) hx hb hml hown hts (kX1_stepsDueAfter l G al k h 200 (ov G al k 100 c g) t i (g 0 4) (gF_o1 (gX_2 hX)) (gH_o1 (gX_4 hX) hJ) (Or.inr rfl) hi) (fcwV 1 hts q482 q483 q484 q61 q62 rfl rfl (by decide +kernel) ⟨(Nat.le_of_ble_eq_true rfl), (Nat.le_of_ble_eq_true rfl)⟩) hE hb0 hP hS (m_recvA hE hP (300 + 3 * i) rfl ((gH_ov (gH_o1 (gX_4 hX) hJ) (Or.inr rfl) hJ).2.2.1 i hi).2.2.1 rfl) rfl hl.1 rfl (Nat.le_of_ble_eq_true rfl) dX7_open_49 ⟨(Nat.le_of_ble_eq_true rfl), (Nat.le_of_ble_eq_true rfl)⟩) hS (fun u H locs hP hS => ?_)
  have hP : mP G al (w2 G al k c g t) H := hP
  refine f_topi (v := mOpen h i (g 0 4)) rfl ?_
  refine W.widen (k := 0) (n := 0) (Nat.le_of_ble_eq_true rfl) (Nat.le_of_ble_eq_true rfl) ?_
  exact W.iret (v := mOpen h i (g 0 4)) hx hb hr (fun tz htz hW => ⟨⟨mOpen h i (g 0 4), (), rfl, rfl, g_end htz hP⟩, hS.F htz⟩) hS.2.2 dX7_open_52
set_option maxHeartbeats 4000000 in
set_option maxRecDepth 100000 in
theorem kX7_heightIn (l : Launch) (G : gT) (al : Nat → Nat) (k : gC) (h : gK) (c : mC) (g : St) (t : St) (j : Nat) (n : Nat) (hX : gX G al k h c) (hj : j < k.1) (h1 : 0 < n) (h2 : n < 41) : Met l yX7_heightIn (fW yX7_heightIn cX7_heightIn 4 (some .int)) { frames := 7, cells := 0, slots := 0, locals := 154 } (gPre G al (w2 G al k c g t) [.ref (al 0), .int (nI j), .int (nI n)]) (gQi (S := Unit) G (fun _ => mHt k (mTicks k h n g) j) (fun _ => al) (fun _ => w2 G al k c g (mTicks k h n g))) 0 0 (gA G) := by
  refine Met.ofW (cc := cX7_heightIn) (maxL := 4) (ret := (some .int)) (by decide) rfl ?_
  intro pz ez s m args below meth c₀ s₁ Bo hml hv
  obtain ⟨rfl, hb0, hP, hE⟩ := hv
  have hx := Bo.exec
  have hb := Bo.bytes
  have hr := Bo.returns
  have hts0 := atoms_spec (ws := (fW yX7_heightIn cX7_heightIn 4 (some .int))) Bo.pre
  have hts : ∀ w ∈ fA, w.before _ s = true := fun w h => hts0 w (List.mem_cons_of_mem _ h)
  have hown : s.vm.findClass RX7 = some m.cls := findClass_of_methodNamed Bo.named
  have hlocks := Bo.notSynchronized
  have hl := lv_entry ([.ref (al 0), .int (nI j), .int (nI n)]) (n := 4) (Nat.le_of_ble_eq_true rfl)
  rw [lg_entry_eq]
  generalize (lg_sl ([.ref (al 0), .int (nI j), .int (nI n)]) ++ List.replicate (4 - (lg_sl ([.ref (al 0), .int (nI j), .int (nI n)])).length) Slot.unset).toArray = ls at hl ⊢
  have hl : lv_has ls 4 [(0, .ref (al 0)), (1, .int (nI j)), (2, .int (nI n))] := hl
  have hJ := gX_J hX
  refine g_start hP (fun H hP hS => ?_)
  refine lv_aload_n hx hb dX7_heightIn_0 rfl (lv_at hl 0 rfl) ?_
  refine lv_iload_n hx hb dX7_heightIn_1 rfl (lv_at hl 1 rfl) ?_
  refine g_aft_r (g_runV (As := [.int (nI j)]) (rest := []) hx hb hml hown hts (kX7_jetNumbered l G al k h c g t j hX hj) (fcwV 1 hts q424 q425 q426 q148 q421 rfl rfl (by decide +kernel) ⟨(Nat.le_of_ble_eq_true rfl), (Nat.le_of_ble_eq_true rfl)⟩) hE hb0 hP hS (m_recvA hE hP 0 rfl (gX_0 hX) rfl) rfl hl.1 rfl (Nat.le_of_ble_eq_true rfl) dX7_heightIn_2 ⟨(Nat.le_of_ble_eq_true rfl), (Nat.le_of_ble_eq_true rfl)⟩) hS (fun u H locs hP hS => ?_)
  have hP : mP G al (w2 G al k c g t) H := hP
  refine g_topr (v := al (100 + 20 + j)) rfl ?_
  refine lv_pop hx hb dX7_heightIn_5 rfl ?_
  refine lv_iload_n hx hb dX7_heightIn_6 rfl (lv_at hl 2 rfl) ?_
  refine lv_iconst (v := 1) hx hb dX7_heightIn_7 (by decide) ?_
  refine lv_icmp_lt (tgt := 17) hx hb dX7_heightIn_8 (by decide) (fun h => absurd h (nI_nlt (b := 1) h1 (by omega))) (fun _ => ?_)
  refine lv_iload_n hx hb dX7_heightIn_11 rfl (lv_at hl 2 rfl) ?_
  refine lv_bipush (v := 40) hx hb dX7_heightIn_12 (by decide) ?_
  refine lv_icmp_le (tgt := 28) hx hb dX7_heightIn_14 (by decide) (fun _ => ?_) (fun h => absurd (nI_le (b := 40) (by omega) (by omega)) h)
  refine lv_aload_n hx hb dX7_heightIn_28 rfl (lv_at hl 0 rfl) ?_
  refine m_get (C := RX7) (T := TX7) (N := 3) (ci := 8) (v := .ref (al 200)) hx hb hts uX7 hown hE hP 0 rfl (gX_0 hX) rfl 2 (by decide) (hts _ q369) (fun _ h9 => h9) rfl dX7_heightIn_29 ?_
  refine lv_aload_n hx hb dX7_heightIn_32 rfl (lv_at hl 0 rfl) ?_
  refine m_get (C := RX7) (T := TX7) (N := 3) (ci := 8) (v := .ref (al 100)) hx hb hts uX7 hown hE hP 0 rfl (gX_0 hX) rfl 1 (by decide) (hts _ q368) (fun _ h9 => h9) rfl dX7_heightIn_33 ?_
  refine g_aft_v (g_runV (As := [.ref (al 100)]) (rest := []) hx hb hml hown hts (kX5_becomeLike l G al k h c g t hX) (fcwV 1 hts q504 q505 q506 q211 q358 rfl rfl (by decide +kernel) ⟨(Nat.le_of_ble_eq_true rfl), (Nat.le_of_ble_eq_true rfl)⟩) hE hb0 hP hS (m_recvA hE hP 200 rfl ov_s rfl) rfl hl.1 rfl (Nat.le_of_ble_eq_true rfl) dX7_heightIn_36 ⟨(Nat.le_of_ble_eq_true rfl), (Nat.le_of_ble_eq_true rfl)⟩) hS (fun u H locs hP hS => ?_)
  have hP : mP G al (w2 G al k c g g) H := hP
  refine lv_iconst (v := 0) hx hb dX7_heightIn_39 (by decide) ?_
  refine lv_istore_n (lv' := [(3, .int 0), (0, .ref (al 0)), (1, .int (nI j)), (2, .int (nI n))]) hx hb dX7_heightIn_40 rfl hl (by decide) rfl (fun ls hl => ?_)
  refine g_loop (al := al) (N := n) (nL := 4) (Wi := fun i1 => w2 G al k c g (mTicks k h i1 g)) (Li := fun i1 => [(3, .int (nI i1)), (2, .int (nI n)), (1, .int (nI j)), (0, .ref (al 0))]) hP hS (lv_sub hl [0, 3, 2, 1] rfl) (fun i1 hii1 ihi1 H locs ls hP hS hl => ?_)
  have hP : mP G al (w2 G al k c g (mTicks k h i1 g)) H := hP
  have hl : lv_has ls 4 [(3, .int (nI i1)), (2, .int (nI n)), (1, .int (nI j)), (0, .ref (al 0))] := hl
  refine lv_iload_n hx hb dX7_heightIn_41 rfl (lv_at hl 0 rfl) ?_
  refine lv_iload_n hx hb dX7_heightIn_42 rfl (lv_at hl 1 rfl) ?_
  refine lv_icmp_ge (tgt := 60) hx hb dX7_heightIn_43 (by decide) (fun hc_1 => ?_) (fun hc_1 => ?_)
  · skip
    have hgei1 : n ≤ i1 := (nI_leI (by omega) (by omega)).mp hc_1
    obtain rfl : n = i1 := Nat.le_antisymm hgei1 hii1
    have hP : mP G al (w2 G al k c g (mTicks k h n g)) H := hP
    have hl : lv_has ls 4 [(3, .int (nI n)), (2, .int (nI n)), (1, .int (nI j)), (0, .ref (al 0))] := hl
    refine lv_aload_n hx hb dX7_heightIn_60 rfl (lv_at hl 3 rfl) ?_
    refine m_get (C := RX7) (T := TX7) (N := 3) (ci := 8) (v := .ref (al 200)) hx hb hts uX7 hown hE hP 0 rfl (gX_0 hX) rfl 2 (by decide) (hts _ q369) (fun _ h9 => h9) rfl dX7_heightIn_61 ?_
    refine lv_iload_n hx hb dX7_heightIn_64 rfl (lv_at hl 2 rfl) ?_
    refine g_aft_i (g_runV (As := [.int (nI j)]) (rest := []) hx hb hml hown hts (kX5_heightOfNumber l G al k h 200 (ov G al k 100 c g) (mTicks k h n g) j (gF_o1 (gX_2 hX)) hj) (fcwV 1 hts q507 q508 q509 q211 q217 rfl rfl (by decide +kernel) ⟨(Nat.le_of_ble_eq_true rfl), (Nat.le_of_ble_eq_true rfl)⟩) hE hb0 hP hS (m_recvA hE hP 200 rfl ov_s rfl) rfl hl.1 rfl (Nat.le_of_ble_eq_true rfl) dX7_heightIn_65 ⟨(Nat.le_of_ble_eq_true rfl), (Nat.le_of_ble_eq_true rfl)⟩) hS (fun u H locs hP hS => ?_)
    have hP : mP G al (w2 G al k c g (mTicks k h n g)) H := hP
    refine f_topi (v := mHt k (mTicks k h n g) j) rfl ?_
    refine W.widen (k := 0) (n := 0) (Nat.le_of_ble_eq_true rfl) (Nat.le_of_ble_eq_true rfl) ?_
    exact W.iret (v := mHt k (mTicks k h n g) j) hx hb hr (fun tz htz hW => ⟨⟨mHt k (mTicks k h n g) j, (), rfl, rfl, g_end htz hP⟩, hS.F htz⟩) hS.2.2 dX7_heightIn_68
  · skip
    have hlti1 : i1 < n := Nat.lt_of_not_le (fun q => hc_1 (nI_le q (by omega)))
    refine lv_aload_n hx hb dX7_heightIn_46 rfl (lv_at hl 3 rfl) ?_
    refine m_get (C := RX7) (T := TX7) (N := 3) (ci := 8) (v := .ref (al 200)) hx hb hts uX7 hown hE hP 0 rfl (gX_0 hX) rfl 2 (by decide) (hts _ q369) (fun _ h9 => h9) rfl dX7_heightIn_47 ?_
    refine g_aft_i (g_runV (As := []) (rest := []) hx hb hml hown hts (kX5_tick l G al k h 200 (ov G al k 100 c g) (mTicks k h i1 g) (gF_o1 (gX_2 hX)) (gH_o1 (gX_4 hX) hJ) (Or.inr rfl)) (fcwV 0 hts q456 q457 q458 q211 q340 rfl rfl (by decide +kernel) ⟨(Nat.le_of_ble_eq_true rfl), (Nat.le_of_ble_eq_true rfl)⟩) hE hb0 hP hS (m_recvA hE hP 200 rfl ov_s rfl) rfl hl.1 rfl (Nat.le_of_ble_eq_true rfl) dX7_heightIn_50 ⟨(Nat.le_of_ble_eq_true rfl), (Nat.le_of_ble_eq_true rfl)⟩) hS (fun u H locs hP hS => ?_)
    have hP : mP G al (w2 G al k c g (mTick k h (mTicks k h i1 g))) H := hP
    refine f_topi (v := mDown k h (mTicks k h i1 g)) rfl ?_
    refine lv_pop hx hb dX7_heightIn_53 rfl ?_
    refine lv_iinc (v := nI (i1 + 1)) (lv' := [(3, .int (nI (i1 + 1))), (2, .int (nI n)), (1, .int (nI j)), (0, .ref (al 0))]) hx hb dX7_heightIn_54 hl (k := 0) rfl (f_inc _) (by decide) rfl (fun ls hl => ?_)
    refine lv_goto (tgt := 41) hx hb dX7_heightIn_57 (by decide) ?_
    exact ihi1 hlti1 _ _ _ (m_cv hP (show w2 G al k c g (mTick k h (mTicks k h i1 g)) = w2 G al k c g (mTicks k h (i1 + 1) g) from rfl)) hS (lv_sub hl [0, 1, 2, 3] rfl)
set_option maxHeartbeats 4000000 in
set_option maxRecDepth 100000 in
theorem kX7_settingFor (l : Launch) (G : gT) (al : Nat → Nat) (k : gC) (h : gK) (c : mC) (g : St) (t : St) (j : Nat) (ht : Int32) (hX : gX G al k h c) (hj : j < k.1) (h1 : ¬ ht < 1) (h2 : ht ≤ 60) : Met l yX7_settingFor (fW yX7_settingFor cX7_settingFor 7 (some .int)) { frames := 4, cells := 0, slots := 0, locals := 88 } (gPre G al (w2 G al k c g t) [.ref (al 0), .int (nI j), .int ht]) (gQi (S := Unit) G (fun _ => mSFor k g j ht) (fun _ => al) (fun _ => w2 G al k c g t)) 0 0 (gA G) := by
  refine Met.ofW (cc := cX7_settingFor) (maxL := 7) (ret := (some .int)) (by decide) rfl ?_
  intro pz ez s m args below meth c₀ s₁ Bo hml hv
  obtain ⟨rfl, hb0, hP, hE⟩ := hv
  have hx := Bo.exec
  have hb := Bo.bytes
  have hr := Bo.returns
  have hts0 := atoms_spec (ws := (fW yX7_settingFor cX7_settingFor 7 (some .int))) Bo.pre
  have hts : ∀ w ∈ fA, w.before _ s = true := fun w h => hts0 w (List.mem_cons_of_mem _ h)
  have hown : s.vm.findClass RX7 = some m.cls := findClass_of_methodNamed Bo.named
  have hlocks := Bo.notSynchronized
  have hl := lv_entry ([.ref (al 0), .int (nI j), .int ht]) (n := 7) (Nat.le_of_ble_eq_true rfl)
  rw [lg_entry_eq]
  generalize (lg_sl ([.ref (al 0), .int (nI j), .int ht]) ++ List.replicate (7 - (lg_sl ([.ref (al 0), .int (nI j), .int ht])).length) Slot.unset).toArray = ls at hl ⊢
  have hl : lv_has ls 7 [(0, .ref (al 0)), (1, .int (nI j)), (2, .int ht)] := hl
  have hJ := gX_J hX
  refine g_start hP (fun H hP hS => ?_)
  refine lv_aload_n hx hb dX7_settingFor_0 rfl (lv_at hl 0 rfl) ?_
  refine lv_iload_n hx hb dX7_settingFor_1 rfl (lv_at hl 1 rfl) ?_
  refine g_aft_r (g_runV (As := [.int (nI j)]) (rest := []) hx hb hml hown hts (kX7_jetNumbered l G al k h c g t j hX hj) (fcwV 1 hts q424 q425 q426 q148 q421 rfl rfl (by decide +kernel) ⟨(Nat.le_of_ble_eq_true rfl), (Nat.le_of_ble_eq_true rfl)⟩) hE hb0 hP hS (m_recvA hE hP 0 rfl (gX_0 hX) rfl) rfl hl.1 rfl (Nat.le_of_ble_eq_true rfl) dX7_settingFor_2 ⟨(Nat.le_of_ble_eq_true rfl), (Nat.le_of_ble_eq_true rfl)⟩) hS (fun u H locs hP hS => ?_)
  have hP : mP G al (w2 G al k c g t) H := hP
  refine g_topr (v := al (100 + 20 + j)) rfl ?_
  refine lv_astore_n (lv' := [(3, .ref (al (100 + 20 + j))), (0, .ref (al 0)), (1, .int (nI j)), (2, .int ht)]) hx hb dX7_settingFor_5 rfl hl (by decide) rfl (fun ls hl => ?_)
  refine lv_iload_n hx hb dX7_settingFor_6 rfl (lv_at hl 3 rfl) ?_
  refine lv_iconst (v := 1) hx hb dX7_settingFor_7 (by decide) ?_
  refine lv_icmp_lt (tgt := 17) hx hb dX7_settingFor_8 (by decide) (fun h => absurd h h1) (fun _ => ?_)
  refine lv_iload_n hx hb dX7_settingFor_11 rfl (lv_at hl 3 rfl) ?_
  refine lv_bipush (v := 60) hx hb dX7_settingFor_12 (by decide) ?_
  refine lv_icmp_le (tgt := 28) hx hb dX7_settingFor_14 (by decide) (fun _ => ?_) (fun h => absurd h2 h)
  refine lv_aload_n hx hb dX7_settingFor_28 rfl (lv_at hl 1 rfl) ?_
  refine m_get (C := RX7) (T := TX7) (N := 3) (ci := 8) (v := .ref (al 100)) hx hb hts uX7 hown hE hP 0 rfl (gX_0 hX) rfl 1 (by decide) (hts _ q368) (fun _ h9 => h9) rfl dX7_settingFor_29 ?_
  refine lv_aload_n hx hb dX7_settingFor_32 rfl (lv_at hl 0 rfl) ?_
  refine m_get (C := RX3) (T := TX3) (N := 10) (ci := 4) (v := .ref (al (100 + 11 + k.2.1 j))) hx hb hts uX3 hown hE hP (100 + 20 + j) rfl ((congrFun (w2_c hJ) _).trans (ov_j hj)) rfl 0 (by decide) (hts _ q467) (fun _ h9 => h9) rfl dX7_settingFor_33 ?_
  have hP := m_cv hP (w2_c hJ)
  refine g_aft_i (g_runV (As := [.ref (al (100 + 11 + k.2.1 j))]) (rest := []) hx hb hml hown hts (kX5_flowsAsSet l G al k h 100 (ov G al k 200 c t) g (k.2.1 j) (gF_o2 (gX_1 hX)) (gF_pp (gX_1 hX) hj)) (fcwV 1 hts q511 q512 q513 q211 q344 rfl rfl (by decide +kernel) ⟨(Nat.le_of_ble_eq_true rfl), (Nat.le_of_ble_eq_true rfl)⟩) hE hb0 hP hS (m_recvA hE hP 100 rfl ov_s rfl) rfl hl.1 rfl (Nat.le_of_ble_eq_true rfl) dX7_settingFor_36 ⟨(Nat.le_of_ble_eq_true rfl), (Nat.le_of_ble_eq_true rfl)⟩) hS (fun u H locs hP hS => ?_)
  have hP := m_cv hP (w2_c hJ).symm
  have hP : mP G al (w2 G al k c g t) H := hP
  refine f_topi (v := mFSet k g (k.2.1 j)) rfl ?_
  refine lv_istore (lv' := [(4, .int (mFSet k g (k.2.1 j))), (3, .ref (al (100 + 20 + j))), (0, .ref (al 0)), (1, .int (nI j)), (2, .int ht)]) hx hb dX7_settingFor_39 hl (by decide) rfl (fun ls hl => ?_)
  refine lv_iconst (v := 0) hx hb dX7_settingFor_41 (by decide) ?_
  refine lv_istore (lv' := [(5, .int 0), (4, .int (mFSet k g (k.2.1 j))), (3, .ref (al (100 + 20 + j))), (0, .ref (al 0)), (1, .int (nI j)), (2, .int ht)]) hx hb dX7_settingFor_42 hl (by decide) rfl (fun ls hl => ?_)
  refine g_loopI (al := al) (N := 11) (nL := 7) (Wi := fun i1 => w2 G al k c g t) (Li := fun i1 => [(5, .int (nI i1)), (4, .int (mFSet k g (k.2.1 j))), (3, .ref (al (100 + 20 + j))), (2, .int ht), (1, .int (nI j)), (0, .ref (al 0))]) (fun i1 => mSFor k g j ht = mFirst (fun i => mHby (mPby (nI i) (k.2.2 (1 + k.2.1 j) 1) (mFSet k g (k.2.1 j))) (g (3 + j) 4)) ht (11 - i1) i1) rfl hP hS (lv_sub hl [0, 1, 2, 5, 4, 3] rfl) (fun i1 hii1 hIi1 ihi1 H locs ls hP hS hl => ?_)
  have hP : mP G al (w2 G al k c g t) H := hP
  have hl : lv_has ls 7 [(5, .int (nI i1)), (4, .int (mFSet k g (k.2.1 j))), (3, .ref (al (100 + 20 + j))), (2, .int ht), (1, .int (nI j)), (0, .ref (al 0))] := hl
  refine lv_iload hx hb dX7_settingFor_44 (lv_at hl 0 rfl) ?_
  refine lv_bipush (v := 10) hx hb dX7_settingFor_46 (by decide) ?_
  refine lv_icmp_gt (tgt := 89) hx hb dX7_settingFor_48 (by decide) (fun hc_1 => ?_) (fun hc_1 => ?_)
  · skip
    have hgei1 : 11 ≤ i1 := (nI_ltI (a := 10) (by omega) (by omega)).mp hc_1
    obtain rfl : 11 = i1 := Nat.le_antisymm hgei1 hii1
    have hP : mP G al (w2 G al k c g t) H := hP
    have hl : lv_has ls 7 [(5, .int (nI 11)), (4, .int (mFSet k g (k.2.1 j))), (3, .ref (al (100 + 20 + j))), (2, .int ht), (1, .int (nI j)), (0, .ref (al 0))] := hl
    refine lv_iconst (v := (-1)) hx hb dX7_settingFor_89 (by decide) ?_
    refine W.widen (k := 0) (n := 0) (Nat.le_of_ble_eq_true rfl) (Nat.le_of_ble_eq_true rfl) ?_
    exact W.iret (v := (-1)) hx hb hr (fun tz htz hW => ⟨⟨(-1), (), rfl, (hIi1.trans (mF_e _ _ _)).symm, g_end htz hP⟩, hS.F htz⟩) hS.2.2 dX7_settingFor_90
  · skip
    have hlti1 : i1 < 11 := Nat.lt_of_not_le (fun q => hc_1 (nI_lt (a := 10) q (by omega)))
    refine lv_iload hx hb dX7_settingFor_51 (lv_at hl 0 rfl) ?_
    refine lv_aload_n hx hb dX7_settingFor_53 rfl (lv_at hl 2 rfl) ?_
    refine m_get (C := RX3) (T := TX3) (N := 10) (ci := 4) (v := .ref (al (100 + 11 + k.2.1 j))) hx hb hts uX3 hown hE hP (100 + 20 + j) rfl ((congrFun (w2_c hJ) _).trans (ov_j hj)) rfl 0 (by decide) (hts _ q467) (fun _ h9 => h9) rfl dX7_settingFor_54 ?_
    refine m_get (C := RX4) (T := TX4) (N := 6) (ci := 5) (v := .int (k.2.2 (1 + k.2.1 j) 1)) hx hb hts uX4 hown hE hP (100 + 11 + k.2.1 j) rfl ((congrFun (w2_c hJ) _).trans (ov_p (gF_pp (gX_1 hX) hj))) rfl 1 (by decide) (hts _ q460) (fun _ h9 => h9) rfl dX7_settingFor_57 ?_
    refine lv_iload hx hb dX7_settingFor_60 (lv_at hl 1 rfl) ?_
    refine g_aft_i (g_runS (As := [.int (nI i1), .int (k.2.2 (1 + k.2.1 j) 1), .int (mFSet k g (k.2.1 j))]) (rest := []) hx hb hml hown hts (kX7_pressureBy l G al (w2 G al k c g t) (nI i1) (k.2.2 (1 + k.2.1 j) 1) (mFSet k g (k.2.1 j))) (fcwS 3 hts q514 q203 q148 q195 rfl rfl (by decide +kernel) ⟨(Nat.le_of_ble_eq_true rfl), (Nat.le_of_ble_eq_true rfl)⟩) hE hb0 hP hS rfl hl.1 rfl (Nat.le_of_ble_eq_true rfl) dX7_settingFor_62 ⟨(Nat.le_of_ble_eq_true rfl), (Nat.le_of_ble_eq_true rfl)⟩) hS (fun u H locs hP hS => ?_)
    refine f_topi (v := mPby (nI i1) (k.2.2 (1 + k.2.1 j) 1) (mFSet k g (k.2.1 j))) rfl ?_
    refine lv_istore (lv' := [(6, .int (mPby (nI i1) (k.2.2 (1 + k.2.1 j) 1) (mFSet k g (k.2.1 j)))), (5, .int (nI i1)), (4, .int (mFSet k g (k.2.1 j))), (3, .ref (al (100 + 20 + j))), (2, .int ht), (1, .int (nI j)), (0, .ref (al 0))]) hx hb dX7_settingFor_65 hl (by decide) rfl (fun ls hl => ?_)
    refine lv_iload hx hb dX7_settingFor_67 (lv_at hl 0 rfl) ?_
    refine lv_aload_n hx hb dX7_settingFor_69 rfl (lv_at hl 3 rfl) ?_
    refine m_get (C := RX3) (T := TX3) (N := 10) (ci := 4) (v := .int (g (3 + j) 4)) hx hb hts uX3 hown hE hP (100 + 20 + j) rfl ((congrFun (w2_c hJ) _).trans (ov_j hj)) rfl 4 (by decide) (hts _ q423) (fun _ h9 => h9) rfl dX7_settingFor_70 ?_
    refine g_aft_i (g_runS (As := [.int (mPby (nI i1) (k.2.2 (1 + k.2.1 j) 1) (mFSet k g (k.2.1 j))), .int (g (3 + j) 4)]) (rest := []) hx hb hml hown hts (kX7_heightBy l G al (w2 G al k c g t) (mPby (nI i1) (k.2.2 (1 + k.2.1 j) 1) (mFSet k g (k.2.1 j))) (g (3 + j) 4)) (fcwS 2 hts q515 q212 q148 q205 rfl rfl (by decide +kernel) ⟨(Nat.le_of_ble_eq_true rfl), (Nat.le_of_ble_eq_true rfl)⟩) hE hb0 hP hS rfl hl.1 rfl (Nat.le_of_ble_eq_true rfl) dX7_settingFor_73 ⟨(Nat.le_of_ble_eq_true rfl), (Nat.le_of_ble_eq_true rfl)⟩) hS (fun u H locs hP hS => ?_)
    refine f_topi (v := mHby (mPby (nI i1) (k.2.2 (1 + k.2.1 j) 1) (mFSet k g (k.2.1 j))) (g (3 + j) 4)) rfl ?_
    refine lv_iload_n hx hb dX7_settingFor_76 rfl (lv_at hl 4 rfl) ?_
    refine lv_icmp_lt (tgt := 83) hx hb dX7_settingFor_77 (by decide) (fun hc_2 => ?_) (fun hc_2 => ?_)
    · skip
      refine lv_iinc (v := nI (i1 + 1)) (lv' := [(5, .int (nI (i1 + 1))), (6, .int (mPby (nI i1) (k.2.2 (1 + k.2.1 j) 1) (mFSet k g (k.2.1 j)))), (4, .int (mFSet k g (k.2.1 j))), (3, .ref (al (100 + 20 + j))), (2, .int ht), (1, .int (nI j)), (0, .ref (al 0))]) hx hb dX7_settingFor_83 hl (k := 1) rfl (f_inc _) (by decide) rfl (fun ls hl => ?_)
      refine lv_goto (tgt := 44) hx hb dX7_settingFor_86 (by decide) ?_
      exact ihi1 hlti1 ((hIi1.trans (mF_s _ _ hlti1)).trans (if_pos hc_2)) _ _ _ hP hS (lv_sub hl [0, 2, 3, 4, 5, 6] rfl)
    · skip
      refine lv_iload hx hb dX7_settingFor_80 (lv_at hl 1 rfl) ?_
      refine W.widen (k := 0) (n := 0) (Nat.le_of_ble_eq_true rfl) (Nat.le_of_ble_eq_true rfl) ?_
      exact W.iret (v := nI i1) hx hb hr (fun tz htz hW => ⟨⟨nI i1, (), rfl, ((hIi1.trans (mF_s _ _ hlti1)).trans (if_neg hc_2)).symm, g_end htz hP⟩, hS.F htz⟩) hS.2.2 dX7_settingFor_82
set_option maxHeartbeats 4000000 in
set_option maxRecDepth 100000 in
theorem kX7_leadFor (l : Launch) (G : gT) (al : Nat → Nat) (k : gC) (h : gK) (c : mC) (g : St) (t : St) (j : Nat) (ht : Int32) (hX : gX G al k h c) (hj : j < k.1) (h1 : ¬ ht < 1) (h2 : ht ≤ 60) : Met l yX7_leadFor (fW yX7_leadFor cX7_leadFor 6 (some .int)) { frames := 7, cells := 0, slots := 0, locals := 154 } (gPre G al (w2 G al k c g t) [.ref (al 0), .int (nI j), .int ht]) (gQi (S := St) G (fun u => mLFor k h g j ht) (fun u => al) (fun u => w2 G al k c g u)) 0 0 (gA G) := by
  refine Met.ofW (cc := cX7_leadFor) (maxL := 6) (ret := (some .int)) (by decide) rfl ?_
  intro pz ez s m args below meth c₀ s₁ Bo hml hv
  obtain ⟨rfl, hb0, hP, hE⟩ := hv
  have hx := Bo.exec
  have hb := Bo.bytes
  have hr := Bo.returns
  have hts0 := atoms_spec (ws := (fW yX7_leadFor cX7_leadFor 6 (some .int))) Bo.pre
  have hts : ∀ w ∈ fA, w.before _ s = true := fun w h => hts0 w (List.mem_cons_of_mem _ h)
  have hown : s.vm.findClass RX7 = some m.cls := findClass_of_methodNamed Bo.named
  have hlocks := Bo.notSynchronized
  have hl := lv_entry ([.ref (al 0), .int (nI j), .int ht]) (n := 6) (Nat.le_of_ble_eq_true rfl)
  rw [lg_entry_eq]
  generalize (lg_sl ([.ref (al 0), .int (nI j), .int ht]) ++ List.replicate (6 - (lg_sl ([.ref (al 0), .int (nI j), .int ht])).length) Slot.unset).toArray = ls at hl ⊢
  have hl : lv_has ls 6 [(0, .ref (al 0)), (1, .int (nI j)), (2, .int ht)] := hl
  have hJ := gX_J hX
  refine g_start hP (fun H hP hS => ?_)
  refine lv_aload_n hx hb dX7_leadFor_0 rfl (lv_at hl 0 rfl) ?_
  refine lv_iload_n hx hb dX7_leadFor_1 rfl (lv_at hl 1 rfl) ?_
  refine g_aft_r (g_runV (As := [.int (nI j)]) (rest := []) hx hb hml hown hts (kX7_jetNumbered l G al k h c g t j hX hj) (fcwV 1 hts q424 q425 q426 q148 q421 rfl rfl (by decide +kernel) ⟨(Nat.le_of_ble_eq_true rfl), (Nat.le_of_ble_eq_true rfl)⟩) hE hb0 hP hS (m_recvA hE hP 0 rfl (gX_0 hX) rfl) rfl hl.1 rfl (Nat.le_of_ble_eq_true rfl) dX7_leadFor_2 ⟨(Nat.le_of_ble_eq_true rfl), (Nat.le_of_ble_eq_true rfl)⟩) hS (fun u H locs hP hS => ?_)
  have hP : mP G al (w2 G al k c g t) H := hP
  refine g_topr (v := al (100 + 20 + j)) rfl ?_
  refine m_get (C := RX3) (T := TX3) (N := 10) (ci := 4) (v := .ref (al (100 + 11 + k.2.1 j))) hx hb hts uX3 hown hE hP (100 + 20 + j) rfl ((congrFun (w2_c hJ) _).trans (ov_j hj)) rfl 0 (by decide) (hts _ q467) (fun _ h9 => h9) rfl dX7_leadFor_5 ?_
  refine lv_astore_n (lv' := [(3, .ref (al (100 + 11 + k.2.1 j))), (0, .ref (al 0)), (1, .int (nI j)), (2, .int ht)]) hx hb dX7_leadFor_8 rfl hl (by decide) rfl (fun ls hl => ?_)
  refine lv_aload_n hx hb dX7_leadFor_9 rfl (lv_at hl 1 rfl) ?_
  refine lv_iload_n hx hb dX7_leadFor_10 rfl (lv_at hl 2 rfl) ?_
  refine lv_iload_n hx hb dX7_leadFor_11 rfl (lv_at hl 3 rfl) ?_
  refine g_aft_i (g_runV (As := [.int (nI j), .int ht]) (rest := []) hx hb hml hown hts (kX7_settingFor l G al k h c g t j ht hX hj h1 h2) (fcwV 2 hts q517 q518 q519 q148 q516 rfl rfl (by decide +kernel) ⟨(Nat.le_of_ble_eq_true rfl), (Nat.le_of_ble_eq_true rfl)⟩) hE hb0 hP hS (m_recvA hE hP 0 rfl (gX_0 hX) rfl) rfl hl.1 rfl (Nat.le_of_ble_eq_true rfl) dX7_leadFor_12 ⟨(Nat.le_of_ble_eq_true rfl), (Nat.le_of_ble_eq_true rfl)⟩) hS (fun u H locs hP hS => ?_)
  have hP : mP G al (w2 G al k c g t) H := hP
  refine f_topi (v := mSFor k g j ht) rfl ?_
  refine lv_istore (lv' := [(4, .int (mSFor k g j ht)), (3, .ref (al (100 + 11 + k.2.1 j))), (0, .ref (al 0)), (1, .int (nI j)), (2, .int ht)]) hx hb dX7_leadFor_15 hl (by decide) rfl (fun ls hl => ?_)
  refine lv_iload hx hb dX7_leadFor_17 (lv_at hl 0 rfl) ?_
  refine lv_iconst (v := (-1)) hx hb dX7_leadFor_19 (by decide) ?_
  refine lv_icmp_eq (tgt := 30) hx hb dX7_leadFor_20 (by decide) (fun hc_1 => ?_) (fun hc_1 => ?_)
  · skip
    refine lv_iconst (v := (-1)) hx hb dX7_leadFor_30 (by decide) ?_
    refine W.widen (k := 0) (n := 0) (Nat.le_of_ble_eq_true rfl) (Nat.le_of_ble_eq_true rfl) ?_
    exact W.iret (v := (-1)) hx hb hr (fun tz htz hW => ⟨⟨(-1), t, rfl, (by unfold mLFor; rw [if_pos hc_1]; try rfl), g_end htz hP⟩, hS.F htz⟩) hS.2.2 dX7_leadFor_31
  · skip
    refine lv_aload_n hx hb dX7_leadFor_23 rfl (lv_at hl 1 rfl) ?_
    refine m_get (C := RX4) (T := TX4) (N := 6) (ci := 5) (v := .int (bz (g (1 + k.2.1 j) 4))) hx hb hts uX4 hown hE hP (100 + 11 + k.2.1 j) rfl ((congrFun (w2_c hJ) _).trans (ov_p (gF_pp (gX_1 hX) hj))) rfl 4 (by decide) (hts _ q428) (fun _ h9 => h9) rfl dX7_leadFor_24 ?_
    refine lv_if_eq (tgt := 32) hx hb dX7_leadFor_27 (by decide) (fun hc_2 => ?_) (fun hc_2 => ?_)
    · skip
      refine lv_aload_n hx hb dX7_leadFor_32 rfl (lv_at hl 2 rfl) ?_
      refine m_get (C := RX7) (T := TX7) (N := 3) (ci := 8) (v := .ref (al 200)) hx hb hts uX7 hown hE hP 0 rfl (gX_0 hX) rfl 2 (by decide) (hts _ q369) (fun _ h9 => h9) rfl dX7_leadFor_33 ?_
      refine lv_aload_n hx hb dX7_leadFor_36 rfl (lv_at hl 2 rfl) ?_
      refine m_get (C := RX7) (T := TX7) (N := 3) (ci := 8) (v := .ref (al 100)) hx hb hts uX7 hown hE hP 0 rfl (gX_0 hX) rfl 1 (by decide) (hts _ q368) (fun _ h9 => h9) rfl dX7_leadFor_37 ?_
      refine g_aft_v (g_runV (As := [.ref (al 100)]) (rest := []) hx hb hml hown hts (kX5_becomeLike l G al k h c g t hX) (fcwV 1 hts q504 q505 q506 q211 q358 rfl rfl (by decide +kernel) ⟨(Nat.le_of_ble_eq_true rfl), (Nat.le_of_ble_eq_true rfl)⟩) hE hb0 hP hS (m_recvA hE hP 200 rfl ov_s rfl) rfl hl.1 rfl (Nat.le_of_ble_eq_true rfl) dX7_leadFor_40 ⟨(Nat.le_of_ble_eq_true rfl), (Nat.le_of_ble_eq_true rfl)⟩) hS (fun u H locs hP hS => ?_)
      have hP : mP G al (w2 G al k c g g) H := hP
      refine lv_aload_n hx hb dX7_leadFor_43 rfl (lv_at hl 2 rfl) ?_
      refine m_get (C := RX7) (T := TX7) (N := 3) (ci := 8) (v := .ref (al 200)) hx hb hts uX7 hown hE hP 0 rfl (gX_0 hX) rfl 2 (by decide) (hts _ q369) (fun _ h9 => h9) rfl dX7_leadFor_44 ?_
      refine lv_aload_n hx hb dX7_leadFor_47 rfl (lv_at hl 1 rfl) ?_
      refine m_get (C := RX4) (T := TX4) (N := 6) (ci := 5) (v := .int (nI (k.2.1 j))) hx hb hts uX4 hown hE hP (100 + 11 + k.2.1 j) rfl ((congrFun (w2_c hJ) _).trans (ov_p (gF_pp (gX_1 hX) hj))) rfl 0 (by decide) (hts _ q468) (fun _ h9 => h9) rfl dX7_leadFor_48 ?_
      refine lv_iload hx hb dX7_leadFor_51 (lv_at hl 0 rfl) ?_
      refine g_aft_v (g_runV (As := [.int (nI (k.2.1 j)), .int (mSFor k g j ht)]) (rest := []) hx hb hml hown hts (kX5_setPumpOfNumber l G al k h 200 (ov G al k 100 c g) g (k.2.1 j) (mSFor k g j ht) (gF_o1 (gX_2 hX)) (gF_pp (gX_1 hX) hj)) (fcwV 2 hts q520 q521 q522 q211 q194 rfl rfl (by decide +kernel) ⟨(Nat.le_of_ble_eq_true rfl), (Nat.le_of_ble_eq_true rfl)⟩) hE hb0 hP hS (m_recvA hE hP 200 rfl ov_s rfl) rfl hl.1 rfl (Nat.le_of_ble_eq_true rfl) dX7_leadFor_53 ⟨(Nat.le_of_ble_eq_true rfl), (Nat.le_of_ble_eq_true rfl)⟩) hS (fun u H locs hP hS => ?_)
      have hP : mP G al (w2 G al k c g (mSetTo g (k.2.1 j) (mSFor k g j ht))) H := hP
      refine lv_iconst (v := 0) hx hb dX7_leadFor_56 (by decide) ?_
      refine lv_istore (lv' := [(5, .int 0), (4, .int (mSFor k g j ht)), (3, .ref (al (100 + 11 + k.2.1 j))), (0, .ref (al 0)), (1, .int (nI j)), (2, .int ht)]) hx hb dX7_leadFor_57 hl (by decide) rfl (fun ls hl => ?_)
      
      refine g_loopI (al := al) (N := 31) (nL := 6) (Wi := fun i1 => w2 G al k c g (mTicks k h i1 (mSetTo g (k.2.1 j) (mSFor k g j ht)))) (Li := fun i1 => [(5, .int (nI i1)), (4, .int (mSFor k g j ht)), (3, .ref (al (100 + 11 + k.2.1 j))), (2, .int ht), (1, .int (nI j)), (0, .ref (al 0))]) (fun i1 => mFirst (fun i => mHt k (mTicks k h i (mSetTo g (k.2.1 j) (mSFor k g j ht))) j) ht 31 0 = mFirst (fun i => mHt k (mTicks k h i (mSetTo g (k.2.1 j) (mSFor k g j ht))) j) ht (31 - i1) i1) rfl hP hS (lv_sub hl [0, 1, 2, 5, 4, 3] rfl) (fun i1 hii1 hIi1 ihi1 H locs ls hP hS hl => ?_)
      have hP : mP G al (w2 G al k c g (mTicks k h i1 (mSetTo g (k.2.1 j) (mSFor k g j ht)))) H := hP
      have hl : lv_has ls 6 [(5, .int (nI i1)), (4, .int (mSFor k g j ht)), (3, .ref (al (100 + 11 + k.2.1 j))), (2, .int ht), (1, .int (nI j)), (0, .ref (al 0))] := hl
      refine lv_iload hx hb dX7_leadFor_59 (lv_at hl 0 rfl) ?_
      refine lv_bipush (v := 30) hx hb dX7_leadFor_61 (by decide) ?_
      refine lv_icmp_gt (tgt := 95) hx hb dX7_leadFor_63 (by decide) (fun hc_3 => ?_) (fun hc_3 => ?_)
      · skip
        have hgei1 : 31 ≤ i1 := (nI_ltI (a := 30) (by omega) (by omega)).mp hc_3
        obtain rfl : 31 = i1 := Nat.le_antisymm hgei1 hii1
        have hP : mP G al (w2 G al k c g (mTicks k h 31 (mSetTo g (k.2.1 j) (mSFor k g j ht)))) H := hP
        have hl : lv_has ls 6 [(5, .int (nI 31)), (4, .int (mSFor k g j ht)), (3, .ref (al (100 + 11 + k.2.1 j))), (2, .int ht), (1, .int (nI j)), (0, .ref (al 0))] := hl
        refine lv_iconst (v := (-1)) hx hb dX7_leadFor_95 (by decide) ?_
        refine W.widen (k := 0) (n := 0) (Nat.le_of_ble_eq_true rfl) (Nat.le_of_ble_eq_true rfl) ?_
        exact W.iret (v := (-1)) hx hb hr (fun tz htz hW => ⟨⟨(-1), mTicks k h 31 (mSetTo g (k.2.1 j) (mSFor k g j ht)), rfl, (by unfold mLFor; rw [if_neg hc_1, if_pos hc_2]; exact (hIi1.trans (mF_e _ _ _)).symm), g_end htz hP⟩, hS.F htz⟩) hS.2.2 dX7_leadFor_96
      · skip
        have hlti1 : i1 < 31 := Nat.lt_of_not_le (fun q => hc_3 (nI_lt (a := 30) q (by omega)))
        refine lv_aload_n hx hb dX7_leadFor_66 rfl (lv_at hl 5 rfl) ?_
        refine m_get (C := RX7) (T := TX7) (N := 3) (ci := 8) (v := .ref (al 200)) hx hb hts uX7 hown hE hP 0 rfl (gX_0 hX) rfl 2 (by decide) (hts _ q369) (fun _ h9 => h9) rfl dX7_leadFor_67 ?_
        refine lv_iload_n hx hb dX7_leadFor_70 rfl (lv_at hl 4 rfl) ?_
        refine g_aft_i (g_runV (As := [.int (nI j)]) (rest := []) hx hb hml hown hts (kX5_heightOfNumber l G al k h 200 (ov G al k 100 c g) (mTicks k h i1 (mSetTo g (k.2.1 j) (mSFor k g j ht))) j (gF_o1 (gX_2 hX)) hj) (fcwV 1 hts q507 q508 q509 q211 q217 rfl rfl (by decide +kernel) ⟨(Nat.le_of_ble_eq_true rfl), (Nat.le_of_ble_eq_true rfl)⟩) hE hb0 hP hS (m_recvA hE hP 200 rfl ov_s rfl) rfl hl.1 rfl (Nat.le_of_ble_eq_true rfl) dX7_leadFor_71 ⟨(Nat.le_of_ble_eq_true rfl), (Nat.le_of_ble_eq_true rfl)⟩) hS (fun u H locs hP hS => ?_)
        have hP : mP G al (w2 G al k c g (mTicks k h i1 (mSetTo g (k.2.1 j) (mSFor k g j ht)))) H := hP
        refine f_topi (v := mHt k (mTicks k h i1 (mSetTo g (k.2.1 j) (mSFor k g j ht))) j) rfl ?_
        refine lv_iload_n hx hb dX7_leadFor_74 rfl (lv_at hl 3 rfl) ?_
        refine lv_icmp_lt (tgt := 81) hx hb dX7_leadFor_75 (by decide) (fun hc_4 => ?_) (fun hc_4 => ?_)
        · skip
          refine lv_aload_n hx hb dX7_leadFor_81 rfl (lv_at hl 5 rfl) ?_
          refine m_get (C := RX7) (T := TX7) (N := 3) (ci := 8) (v := .ref (al 200)) hx hb hts uX7 hown hE hP 0 rfl (gX_0 hX) rfl 2 (by decide) (hts _ q369) (fun _ h9 => h9) rfl dX7_leadFor_82 ?_
          refine g_aft_i (g_runV (As := []) (rest := []) hx hb hml hown hts (kX5_tick l G al k h 200 (ov G al k 100 c g) (mTicks k h i1 (mSetTo g (k.2.1 j) (mSFor k g j ht))) (gF_o1 (gX_2 hX)) (gH_o1 (gX_4 hX) hJ) (Or.inr rfl)) (fcwV 0 hts q456 q457 q458 q211 q340 rfl rfl (by decide +kernel) ⟨(Nat.le_of_ble_eq_true rfl), (Nat.le_of_ble_eq_true rfl)⟩) hE hb0 hP hS (m_recvA hE hP 200 rfl ov_s rfl) rfl hl.1 rfl (Nat.le_of_ble_eq_true rfl) dX7_leadFor_85 ⟨(Nat.le_of_ble_eq_true rfl), (Nat.le_of_ble_eq_true rfl)⟩) hS (fun u H locs hP hS => ?_)
          have hP : mP G al (w2 G al k c g (mTick k h (mTicks k h i1 (mSetTo g (k.2.1 j) (mSFor k g j ht))))) H := hP
          refine f_topi (v := mDown k h (mTicks k h i1 (mSetTo g (k.2.1 j) (mSFor k g j ht)))) rfl ?_
          refine lv_pop hx hb dX7_leadFor_88 rfl ?_
          refine lv_iinc (v := nI (i1 + 1)) (lv' := [(5, .int (nI (i1 + 1))), (4, .int (mSFor k g j ht)), (3, .ref (al (100 + 11 + k.2.1 j))), (2, .int ht), (1, .int (nI j)), (0, .ref (al 0))]) hx hb dX7_leadFor_89 hl (k := 0) rfl (f_inc _) (by decide) rfl (fun ls hl => ?_)
          refine lv_goto (tgt := 59) hx hb dX7_leadFor_92 (by decide) ?_
          exact ihi1 hlti1 ((hIi1.trans (mF_s _ _ hlti1)).trans (if_pos hc_4)) _ _ _ (m_cv hP (show w2 G al k c g (mTick k h (mTicks k h i1 (mSetTo g (k.2.1 j) (mSFor k g j ht)))) = w2 G al k c g (mTicks k h (i1 + 1) (mSetTo g (k.2.1 j) (mSFor k g j ht))) from rfl)) hS (lv_sub hl [0, 1, 2, 3, 4, 5] rfl)
        · skip
          refine lv_iload hx hb dX7_leadFor_78 (lv_at hl 0 rfl) ?_
          refine W.widen (k := 0) (n := 0) (Nat.le_of_ble_eq_true rfl) (Nat.le_of_ble_eq_true rfl) ?_
          exact W.iret (v := nI i1) hx hb hr (fun tz htz hW => ⟨⟨nI i1, mTicks k h i1 (mSetTo g (k.2.1 j) (mSFor k g j ht)), rfl, (by unfold mLFor; rw [if_neg hc_1, if_pos hc_2]; exact ((hIi1.trans (mF_s _ _ hlti1)).trans (if_neg hc_4)).symm), g_end htz hP⟩, hS.F htz⟩) hS.2.2 dX7_leadFor_80
    · skip
      refine lv_iconst (v := (-1)) hx hb dX7_leadFor_30 (by decide) ?_
      refine W.widen (k := 0) (n := 0) (Nat.le_of_ble_eq_true rfl) (Nat.le_of_ble_eq_true rfl) ?_
      exact W.iret (v := (-1)) hx hb hr (fun tz htz hW => ⟨⟨(-1), t, rfl, (by unfold mLFor; rw [if_neg hc_1, if_neg hc_2]; try rfl), g_end htz hP⟩, hS.F htz⟩) hS.2.2 dX7_leadFor_31
set_option maxHeartbeats 4000000 in
set_option maxRecDepth 100000 in
theorem kX7_would_0 (l : Launch) (G : gT) (al : Nat → Nat) (k : gC) (h : gK) (c : mC) (g : St) (t : St) (n : Nat) (hX : gX G al k h c) (h1 : 0 < n) (h2 : n < 61) : Met l yX7_would (fW yX7_would cX7_would 5 (some .int)) { frames := 7, cells := 0, slots := 0, locals := 154 } (gPre G al (w2 G al k c g t) [.ref (al 0), .int (nI n), .int 0]) (gQi (S := Unit) G (fun _ => mWould k h g n 0) (fun _ => al) (fun _ => w2 G al k c g (mTicks k h n g))) 0 0 (gA G) := by
  refine Met.ofW (cc := cX7_would) (maxL := 5) (ret := (some .int)) (by decide) rfl ?_
  intro pz ez s m args below meth c₀ s₁ Bo hml hv
  obtain ⟨rfl, hb0, hP, hE⟩ := hv
  have hx := Bo.exec
  have hb := Bo.bytes
  have hr := Bo.returns
  have hts0 := atoms_spec (ws := (fW yX7_would cX7_would 5 (some .int))) Bo.pre
  have hts : ∀ w ∈ fA, w.before _ s = true := fun w h => hts0 w (List.mem_cons_of_mem _ h)
  have hown : s.vm.findClass RX7 = some m.cls := findClass_of_methodNamed Bo.named
  have hlocks := Bo.notSynchronized
  have hl := lv_entry ([.ref (al 0), .int (nI n), .int 0]) (n := 5) (Nat.le_of_ble_eq_true rfl)
  rw [lg_entry_eq]
  generalize (lg_sl ([.ref (al 0), .int (nI n), .int 0]) ++ List.replicate (5 - (lg_sl ([.ref (al 0), .int (nI n), .int 0])).length) Slot.unset).toArray = ls at hl ⊢
  have hl : lv_has ls 5 [(0, .ref (al 0)), (1, .int (nI n)), (2, .int 0)] := hl
  have hJ := gX_J hX
  refine g_start hP (fun H hP hS => ?_)
  refine lv_iload_n hx hb dX7_would_0 rfl (lv_at hl 1 rfl) ?_
  refine lv_iconst (v := 1) hx hb dX7_would_1 (by decide) ?_
  refine lv_icmp_lt (tgt := 20) hx hb dX7_would_2 (by decide) (fun h => absurd h (nI_nlt (b := 1) h1 (by omega))) (fun _ => ?_)
  refine lv_iload_n hx hb dX7_would_5 rfl (lv_at hl 1 rfl) ?_
  refine lv_bipush (v := 60) hx hb dX7_would_6 (by decide) ?_
  refine lv_icmp_gt (tgt := 20) hx hb dX7_would_8 (by decide) (fun h => absurd h (nI_nlt (a := 60) (by omega) (by omega))) (fun _ => ?_)
  refine lv_iload_n hx hb dX7_would_11 rfl (lv_at hl 2 rfl) ?_
  refine lv_if_lt (tgt := 20) hx hb dX7_would_12 (by decide) (fun h => absurd h (by decide)) (fun _ => ?_)
  refine lv_iload_n hx hb dX7_would_15 rfl (lv_at hl 2 rfl) ?_
  refine lv_iconst (v := 1) hx hb dX7_would_16 (by decide) ?_
  refine lv_icmp_le (tgt := 31) hx hb dX7_would_17 (by decide) (fun _ => ?_) (fun h => absurd (by decide) h)
  refine lv_aload_n hx hb dX7_would_31 rfl (lv_at hl 0 rfl) ?_
  refine m_get (C := RX7) (T := TX7) (N := 3) (ci := 8) (v := .ref (al 200)) hx hb hts uX7 hown hE hP 0 rfl (gX_0 hX) rfl 2 (by decide) (hts _ q369) (fun _ h9 => h9) rfl dX7_would_32 ?_
  refine lv_aload_n hx hb dX7_would_35 rfl (lv_at hl 0 rfl) ?_
  refine m_get (C := RX7) (T := TX7) (N := 3) (ci := 8) (v := .ref (al 100)) hx hb hts uX7 hown hE hP 0 rfl (gX_0 hX) rfl 1 (by decide) (hts _ q368) (fun _ h9 => h9) rfl dX7_would_36 ?_
  refine g_aft_v (g_runV (As := [.ref (al 100)]) (rest := []) hx hb hml hown hts (kX5_becomeLike l G al k h c g t hX) (fcwV 1 hts q504 q505 q506 q211 q358 rfl rfl (by decide +kernel) ⟨(Nat.le_of_ble_eq_true rfl), (Nat.le_of_ble_eq_true rfl)⟩) hE hb0 hP hS (m_recvA hE hP 200 rfl ov_s rfl) rfl hl.1 rfl (Nat.le_of_ble_eq_true rfl) dX7_would_39 ⟨(Nat.le_of_ble_eq_true rfl), (Nat.le_of_ble_eq_true rfl)⟩) hS (fun u H locs hP hS => ?_)
  have hP : mP G al (w2 G al k c g g) H := hP
  refine lv_sipush (v := 9000) hx hb dX7_would_42 (by decide) ?_
  refine lv_istore_n (lv' := [(3, .int 9000), (0, .ref (al 0)), (1, .int (nI n)), (2, .int 0)]) hx hb dX7_would_45 rfl hl (by decide) rfl (fun ls hl => ?_)
  refine lv_iconst (v := 0) hx hb dX7_would_46 (by decide) ?_
  refine lv_istore (lv' := [(4, .int 0), (3, .int 9000), (0, .ref (al 0)), (1, .int (nI n)), (2, .int 0)]) hx hb dX7_would_47 hl (by decide) rfl (fun ls hl => ?_)
  refine g_loop (al := al) (N := n) (nL := 5) (Wi := fun i1 => w2 G al k c g (mTicks k h i1 g)) (Li := fun i1 => [(4, .int (nI i1)), (3, .int (it (fun i a => if mTicks k h (i + 1) g 0 5 < a then mTicks k h (i + 1) g 0 5 else a) i1 9000)), (2, .int 0), (1, .int (nI n)), (0, .ref (al 0))]) hP hS (lv_sub hl [0, 1, 4, 3, 2] rfl) (fun i1 hii1 ihi1 H locs ls hP hS hl => ?_)
  have hP : mP G al (w2 G al k c g (mTicks k h i1 g)) H := hP
  have hl : lv_has ls 5 [(4, .int (nI i1)), (3, .int (it (fun i a => if mTicks k h (i + 1) g 0 5 < a then mTicks k h (i + 1) g 0 5 else a) i1 9000)), (2, .int 0), (1, .int (nI n)), (0, .ref (al 0))] := hl
  refine lv_iload hx hb dX7_would_49 (lv_at hl 0 rfl) ?_
  refine lv_iload_n hx hb dX7_would_51 rfl (lv_at hl 3 rfl) ?_
  refine lv_icmp_ge (tgt := 81) hx hb dX7_would_52 (by decide) (fun hc_1 => ?_) (fun hc_1 => ?_)
  · skip
    have hgei1 : n ≤ i1 := (nI_leI (by omega) (by omega)).mp hc_1
    obtain rfl : n = i1 := Nat.le_antisymm hgei1 hii1
    have hP : mP G al (w2 G al k c g (mTicks k h n g)) H := hP
    have hl : lv_has ls 5 [(4, .int (nI n)), (3, .int (it (fun i a => if mTicks k h (i + 1) g 0 5 < a then mTicks k h (i + 1) g 0 5 else a) n 9000)), (2, .int 0), (1, .int (nI n)), (0, .ref (al 0))] := hl
    refine lv_iload_n hx hb dX7_would_81 rfl (lv_at hl 2 rfl) ?_
    refine lv_if_ne (tgt := 103) hx hb dX7_would_82 (by decide) (fun h => absurd (by decide) h) (fun _ => ?_)
    refine lv_aload_n hx hb dX7_would_85 rfl (lv_at hl 4 rfl) ?_
    refine m_get (C := RX7) (T := TX7) (N := 3) (ci := 8) (v := .ref (al 200)) hx hb hts uX7 hown hE hP 0 rfl (gX_0 hX) rfl 2 (by decide) (hts _ q369) (fun _ h9 => h9) rfl dX7_would_86 ?_
    refine m_get (C := RX5) (T := TX5) (N := 15) (ci := 6) (v := .int ((mTicks k h n g) 0 8)) hx hb hts uX5 hown hE hP 200 rfl ov_s rfl 8 (by decide) (hts _ q488) (fun _ h9 => h9) rfl dX7_would_89 ?_
    refine lv_aload_n hx hb dX7_would_92 rfl (lv_at hl 4 rfl) ?_
    refine m_get (C := RX7) (T := TX7) (N := 3) (ci := 8) (v := .ref (al 100)) hx hb hts uX7 hown hE hP 0 rfl (gX_0 hX) rfl 1 (by decide) (hts _ q368) (fun _ h9 => h9) rfl dX7_would_93 ?_
    refine m_get (C := RX5) (T := TX5) (N := 15) (ci := 6) (v := .int (g 0 8)) hx hb hts uX5 hown hE hP 100 rfl ((congrFun (w2_c hJ) _).trans ov_s) rfl 8 (by decide) (hts _ q488) (fun _ h9 => h9) rfl dX7_would_96 ?_
    refine lv_isub hx hb dX7_would_99 ?_
    refine lv_goto (tgt := 104) hx hb dX7_would_100 (by decide) ?_
    refine W.widen (k := 0) (n := 0) (Nat.le_of_ble_eq_true rfl) (Nat.le_of_ble_eq_true rfl) ?_
    exact W.iret (v := ((mTicks k h n g) 0 8) - (g 0 8)) hx hb hr (fun tz htz hW => ⟨⟨((mTicks k h n g) 0 8) - (g 0 8), (), rfl, (if_pos rfl).symm, g_end htz hP⟩, hS.F htz⟩) hS.2.2 dX7_would_104
  · skip
    have hlti1 : i1 < n := Nat.lt_of_not_le (fun q => hc_1 (nI_le q (by omega)))
    refine lv_aload_n hx hb dX7_would_55 rfl (lv_at hl 4 rfl) ?_
    refine m_get (C := RX7) (T := TX7) (N := 3) (ci := 8) (v := .ref (al 200)) hx hb hts uX7 hown hE hP 0 rfl (gX_0 hX) rfl 2 (by decide) (hts _ q369) (fun _ h9 => h9) rfl dX7_would_56 ?_
    refine g_aft_i (g_runV (As := []) (rest := []) hx hb hml hown hts (kX5_tick l G al k h 200 (ov G al k 100 c g) (mTicks k h i1 g) (gF_o1 (gX_2 hX)) (gH_o1 (gX_4 hX) hJ) (Or.inr rfl)) (fcwV 0 hts q456 q457 q458 q211 q340 rfl rfl (by decide +kernel) ⟨(Nat.le_of_ble_eq_true rfl), (Nat.le_of_ble_eq_true rfl)⟩) hE hb0 hP hS (m_recvA hE hP 200 rfl ov_s rfl) rfl hl.1 rfl (Nat.le_of_ble_eq_true rfl) dX7_would_59 ⟨(Nat.le_of_ble_eq_true rfl), (Nat.le_of_ble_eq_true rfl)⟩) hS (fun u H locs hP hS => ?_)
    have hP : mP G al (w2 G al k c g (mTick k h (mTicks k h i1 g))) H := hP
    refine f_topi (v := mDown k h (mTicks k h i1 g)) rfl ?_
    refine lv_pop hx hb dX7_would_62 rfl ?_
    refine lv_iload_n hx hb dX7_would_63 rfl (lv_at hl 1 rfl) ?_
    refine lv_aload_n hx hb dX7_would_64 rfl (lv_at hl 4 rfl) ?_
    refine m_get (C := RX7) (T := TX7) (N := 3) (ci := 8) (v := .ref (al 200)) hx hb hts uX7 hown hE hP 0 rfl (gX_0 hX) rfl 2 (by decide) (hts _ q369) (fun _ h9 => h9) rfl dX7_would_65 ?_
    refine m_get (C := RX5) (T := TX5) (N := 15) (ci := 6) (v := .int ((mTick k h (mTicks k h i1 g)) 0 5)) hx hb hts uX5 hown hE hP 200 rfl ov_s rfl 5 (by decide) (hts _ q432) (fun _ h9 => h9) rfl dX7_would_68 ?_
    refine va_mmin hx hb (hml.trans hl.1.symm) hown (hts _ q206) (hts _ q95) (hts _ q87) (hts _ q96) (Nat.le_of_ble_eq_true rfl) (Nat.le_of_ble_eq_true rfl) (Nat.le_of_ble_eq_true rfl) (Nat.le_of_ble_eq_true rfl) dX7_would_71 ?_
    refine lv_istore_n (lv' := [(3, .int (if ((mTick k h (mTicks k h i1 g)) 0 5) < (it (fun i a => if mTicks k h (i + 1) g 0 5 < a then mTicks k h (i + 1) g 0 5 else a) i1 9000) then ((mTick k h (mTicks k h i1 g)) 0 5) else (it (fun i a => if mTicks k h (i + 1) g 0 5 < a then mTicks k h (i + 1) g 0 5 else a) i1 9000))), (4, .int (nI i1)), (2, .int 0), (1, .int (nI n)), (0, .ref (al 0))]) hx hb dX7_would_74 rfl hl (by decide) rfl (fun ls hl => ?_)
    refine lv_iinc (v := nI (i1 + 1)) (lv' := [(4, .int (nI (i1 + 1))), (3, .int (if ((mTick k h (mTicks k h i1 g)) 0 5) < (it (fun i a => if mTicks k h (i + 1) g 0 5 < a then mTicks k h (i + 1) g 0 5 else a) i1 9000) then ((mTick k h (mTicks k h i1 g)) 0 5) else (it (fun i a => if mTicks k h (i + 1) g 0 5 < a then mTicks k h (i + 1) g 0 5 else a) i1 9000))), (2, .int 0), (1, .int (nI n)), (0, .ref (al 0))]) hx hb dX7_would_75 hl (k := 1) rfl (f_inc _) (by decide) rfl (fun ls hl => ?_)
    refine lv_goto (tgt := 49) hx hb dX7_would_78 (by decide) ?_
    have hl9 := lv_sub (l' := [(4, .int (nI (i1 + 1))), (3, .int (if ((mTick k h (mTicks k h i1 g)) 0 5) < (it (fun i a => if mTicks k h (i + 1) g 0 5 < a then mTicks k h (i + 1) g 0 5 else a) i1 9000) then ((mTick k h (mTicks k h i1 g)) 0 5) else (it (fun i a => if mTicks k h (i + 1) g 0 5 < a then mTicks k h (i + 1) g 0 5 else a) i1 9000))), (2, .int 0), (1, .int (nI n)), (0, .ref (al 0))]) hl [0, 1, 2, 3, 4] rfl
    rw [show ([(4, .int (nI (i1 + 1))), (3, .int (if ((mTick k h (mTicks k h i1 g)) 0 5) < (it (fun i a => if mTicks k h (i + 1) g 0 5 < a then mTicks k h (i + 1) g 0 5 else a) i1 9000) then ((mTick k h (mTicks k h i1 g)) 0 5) else (it (fun i a => if mTicks k h (i + 1) g 0 5 < a then mTicks k h (i + 1) g 0 5 else a) i1 9000))), (2, .int 0), (1, .int (nI n)), (0, .ref (al 0))] : List (Nat × Value)) = [(4, .int (nI (i1 + 1))), (3, .int (it (fun i a => if mTicks k h (i + 1) g 0 5 < a then mTicks k h (i + 1) g 0 5 else a) (i1 + 1) 9000)), (2, .int 0), (1, .int (nI n)), (0, .ref (al 0))] from (by first | rfl | (simp only [it_s]; done) | (simp only [it_s]; rfl))] at hl9
    exact ihi1 hlti1 _ _ _ (m_cv hP (show w2 G al k c g (mTick k h (mTicks k h i1 g)) = w2 G al k c g (mTicks k h (i1 + 1) g) from rfl)) hS hl9
set_option maxHeartbeats 4000000 in
set_option maxRecDepth 100000 in
theorem kX7_would_1 (l : Launch) (G : gT) (al : Nat → Nat) (k : gC) (h : gK) (c : mC) (g : St) (t : St) (n : Nat) (hX : gX G al k h c) (h1 : 0 < n) (h2 : n < 61) : Met l yX7_would (fW yX7_would cX7_would 5 (some .int)) { frames := 7, cells := 0, slots := 0, locals := 154 } (gPre G al (w2 G al k c g t) [.ref (al 0), .int (nI n), .int 1]) (gQi (S := Unit) G (fun _ => mWould k h g n 1) (fun _ => al) (fun _ => w2 G al k c g (mTicks k h n g))) 0 0 (gA G) := by
  refine Met.ofW (cc := cX7_would) (maxL := 5) (ret := (some .int)) (by decide) rfl ?_
  intro pz ez s m args below meth c₀ s₁ Bo hml hv
  obtain ⟨rfl, hb0, hP, hE⟩ := hv
  have hx := Bo.exec
  have hb := Bo.bytes
  have hr := Bo.returns
  have hts0 := atoms_spec (ws := (fW yX7_would cX7_would 5 (some .int))) Bo.pre
  have hts : ∀ w ∈ fA, w.before _ s = true := fun w h => hts0 w (List.mem_cons_of_mem _ h)
  have hown : s.vm.findClass RX7 = some m.cls := findClass_of_methodNamed Bo.named
  have hlocks := Bo.notSynchronized
  have hl := lv_entry ([.ref (al 0), .int (nI n), .int 1]) (n := 5) (Nat.le_of_ble_eq_true rfl)
  rw [lg_entry_eq]
  generalize (lg_sl ([.ref (al 0), .int (nI n), .int 1]) ++ List.replicate (5 - (lg_sl ([.ref (al 0), .int (nI n), .int 1])).length) Slot.unset).toArray = ls at hl ⊢
  have hl : lv_has ls 5 [(0, .ref (al 0)), (1, .int (nI n)), (2, .int 1)] := hl
  have hJ := gX_J hX
  refine g_start hP (fun H hP hS => ?_)
  refine lv_iload_n hx hb dX7_would_0 rfl (lv_at hl 1 rfl) ?_
  refine lv_iconst (v := 1) hx hb dX7_would_1 (by decide) ?_
  refine lv_icmp_lt (tgt := 20) hx hb dX7_would_2 (by decide) (fun h => absurd h (nI_nlt (b := 1) h1 (by omega))) (fun _ => ?_)
  refine lv_iload_n hx hb dX7_would_5 rfl (lv_at hl 1 rfl) ?_
  refine lv_bipush (v := 60) hx hb dX7_would_6 (by decide) ?_
  refine lv_icmp_gt (tgt := 20) hx hb dX7_would_8 (by decide) (fun h => absurd h (nI_nlt (a := 60) (by omega) (by omega))) (fun _ => ?_)
  refine lv_iload_n hx hb dX7_would_11 rfl (lv_at hl 2 rfl) ?_
  refine lv_if_lt (tgt := 20) hx hb dX7_would_12 (by decide) (fun h => absurd h (by decide)) (fun _ => ?_)
  refine lv_iload_n hx hb dX7_would_15 rfl (lv_at hl 2 rfl) ?_
  refine lv_iconst (v := 1) hx hb dX7_would_16 (by decide) ?_
  refine lv_icmp_le (tgt := 31) hx hb dX7_would_17 (by decide) (fun _ => ?_) (fun h => absurd (by decide) h)
  refine lv_aload_n hx hb dX7_would_31 rfl (lv_at hl 0 rfl) ?_
  refine m_get (C := RX7) (T := TX7) (N := 3) (ci := 8) (v := .ref (al 200)) hx hb hts uX7 hown hE hP 0 rfl (gX_0 hX) rfl 2 (by decide) (hts _ q369) (fun _ h9 => h9) rfl dX7_would_32 ?_
  refine lv_aload_n hx hb dX7_would_35 rfl (lv_at hl 0 rfl) ?_
  refine m_get (C := RX7) (T := TX7) (N := 3) (ci := 8) (v := .ref (al 100)) hx hb hts uX7 hown hE hP 0 rfl (gX_0 hX) rfl 1 (by decide) (hts _ q368) (fun _ h9 => h9) rfl dX7_would_36 ?_
  refine g_aft_v (g_runV (As := [.ref (al 100)]) (rest := []) hx hb hml hown hts (kX5_becomeLike l G al k h c g t hX) (fcwV 1 hts q504 q505 q506 q211 q358 rfl rfl (by decide +kernel) ⟨(Nat.le_of_ble_eq_true rfl), (Nat.le_of_ble_eq_true rfl)⟩) hE hb0 hP hS (m_recvA hE hP 200 rfl ov_s rfl) rfl hl.1 rfl (Nat.le_of_ble_eq_true rfl) dX7_would_39 ⟨(Nat.le_of_ble_eq_true rfl), (Nat.le_of_ble_eq_true rfl)⟩) hS (fun u H locs hP hS => ?_)
  have hP : mP G al (w2 G al k c g g) H := hP
  refine lv_sipush (v := 9000) hx hb dX7_would_42 (by decide) ?_
  refine lv_istore_n (lv' := [(3, .int 9000), (0, .ref (al 0)), (1, .int (nI n)), (2, .int 1)]) hx hb dX7_would_45 rfl hl (by decide) rfl (fun ls hl => ?_)
  refine lv_iconst (v := 0) hx hb dX7_would_46 (by decide) ?_
  refine lv_istore (lv' := [(4, .int 0), (3, .int 9000), (0, .ref (al 0)), (1, .int (nI n)), (2, .int 1)]) hx hb dX7_would_47 hl (by decide) rfl (fun ls hl => ?_)
  refine g_loop (al := al) (N := n) (nL := 5) (Wi := fun i1 => w2 G al k c g (mTicks k h i1 g)) (Li := fun i1 => [(4, .int (nI i1)), (3, .int (it (fun i a => if mTicks k h (i + 1) g 0 5 < a then mTicks k h (i + 1) g 0 5 else a) i1 9000)), (2, .int 1), (1, .int (nI n)), (0, .ref (al 0))]) hP hS (lv_sub hl [0, 1, 4, 3, 2] rfl) (fun i1 hii1 ihi1 H locs ls hP hS hl => ?_)
  have hP : mP G al (w2 G al k c g (mTicks k h i1 g)) H := hP
  have hl : lv_has ls 5 [(4, .int (nI i1)), (3, .int (it (fun i a => if mTicks k h (i + 1) g 0 5 < a then mTicks k h (i + 1) g 0 5 else a) i1 9000)), (2, .int 1), (1, .int (nI n)), (0, .ref (al 0))] := hl
  refine lv_iload hx hb dX7_would_49 (lv_at hl 0 rfl) ?_
  refine lv_iload_n hx hb dX7_would_51 rfl (lv_at hl 3 rfl) ?_
  refine lv_icmp_ge (tgt := 81) hx hb dX7_would_52 (by decide) (fun hc_1 => ?_) (fun hc_1 => ?_)
  · skip
    have hgei1 : n ≤ i1 := (nI_leI (by omega) (by omega)).mp hc_1
    obtain rfl : n = i1 := Nat.le_antisymm hgei1 hii1
    have hP : mP G al (w2 G al k c g (mTicks k h n g)) H := hP
    have hl : lv_has ls 5 [(4, .int (nI n)), (3, .int (it (fun i a => if mTicks k h (i + 1) g 0 5 < a then mTicks k h (i + 1) g 0 5 else a) n 9000)), (2, .int 1), (1, .int (nI n)), (0, .ref (al 0))] := hl
    refine lv_iload_n hx hb dX7_would_81 rfl (lv_at hl 2 rfl) ?_
    refine lv_if_ne (tgt := 103) hx hb dX7_would_82 (by decide) (fun _ => ?_) (fun h => absurd h (by decide))
    refine lv_iload_n hx hb dX7_would_103 rfl (lv_at hl 1 rfl) ?_
    refine W.widen (k := 0) (n := 0) (Nat.le_of_ble_eq_true rfl) (Nat.le_of_ble_eq_true rfl) ?_
    exact W.iret (v := it (fun i a => if mTicks k h (i + 1) g 0 5 < a then mTicks k h (i + 1) g 0 5 else a) n 9000) hx hb hr (fun tz htz hW => ⟨⟨it (fun i a => if mTicks k h (i + 1) g 0 5 < a then mTicks k h (i + 1) g 0 5 else a) n 9000, (), rfl, (if_neg (by decide)).symm, g_end htz hP⟩, hS.F htz⟩) hS.2.2 dX7_would_104
  · skip
    have hlti1 : i1 < n := Nat.lt_of_not_le (fun q => hc_1 (nI_le q (by omega)))
    refine lv_aload_n hx hb dX7_would_55 rfl (lv_at hl 4 rfl) ?_
    refine m_get (C := RX7) (T := TX7) (N := 3) (ci := 8) (v := .ref (al 200)) hx hb hts uX7 hown hE hP 0 rfl (gX_0 hX) rfl 2 (by decide) (hts _ q369) (fun _ h9 => h9) rfl dX7_would_56 ?_
    refine g_aft_i (g_runV (As := []) (rest := []) hx hb hml hown hts (kX5_tick l G al k h 200 (ov G al k 100 c g) (mTicks k h i1 g) (gF_o1 (gX_2 hX)) (gH_o1 (gX_4 hX) hJ) (Or.inr rfl)) (fcwV 0 hts q456 q457 q458 q211 q340 rfl rfl (by decide +kernel) ⟨(Nat.le_of_ble_eq_true rfl), (Nat.le_of_ble_eq_true rfl)⟩) hE hb0 hP hS (m_recvA hE hP 200 rfl ov_s rfl) rfl hl.1 rfl (Nat.le_of_ble_eq_true rfl) dX7_would_59 ⟨(Nat.le_of_ble_eq_true rfl), (Nat.le_of_ble_eq_true rfl)⟩) hS (fun u H locs hP hS => ?_)
    have hP : mP G al (w2 G al k c g (mTick k h (mTicks k h i1 g))) H := hP
    refine f_topi (v := mDown k h (mTicks k h i1 g)) rfl ?_
    refine lv_pop hx hb dX7_would_62 rfl ?_
    refine lv_iload_n hx hb dX7_would_63 rfl (lv_at hl 1 rfl) ?_
    refine lv_aload_n hx hb dX7_would_64 rfl (lv_at hl 4 rfl) ?_
    refine m_get (C := RX7) (T := TX7) (N := 3) (ci := 8) (v := .ref (al 200)) hx hb hts uX7 hown hE hP 0 rfl (gX_0 hX) rfl 2 (by decide) (hts _ q369) (fun _ h9 => h9) rfl dX7_would_65 ?_
    refine m_get (C := RX5) (T := TX5) (N := 15) (ci := 6) (v := .int ((mTick k h (mTicks k h i1 g)) 0 5)) hx hb hts uX5 hown hE hP 200 rfl ov_s rfl 5 (by decide) (hts _ q432) (fun _ h9 => h9) rfl dX7_would_68 ?_
    refine va_mmin hx hb (hml.trans hl.1.symm) hown (hts _ q206) (hts _ q95) (hts _ q87) (hts _ q96) (Nat.le_of_ble_eq_true rfl) (Nat.le_of_ble_eq_true rfl) (Nat.le_of_ble_eq_true rfl) (Nat.le_of_ble_eq_true rfl) dX7_would_71 ?_
    refine lv_istore_n (lv' := [(3, .int (if ((mTick k h (mTicks k h i1 g)) 0 5) < (it (fun i a => if mTicks k h (i + 1) g 0 5 < a then mTicks k h (i + 1) g 0 5 else a) i1 9000) then ((mTick k h (mTicks k h i1 g)) 0 5) else (it (fun i a => if mTicks k h (i + 1) g 0 5 < a then mTicks k h (i + 1) g 0 5 else a) i1 9000))), (4, .int (nI i1)), (2, .int 1), (1, .int (nI n)), (0, .ref (al 0))]) hx hb dX7_would_74 rfl hl (by decide) rfl (fun ls hl => ?_)
    refine lv_iinc (v := nI (i1 + 1)) (lv' := [(4, .int (nI (i1 + 1))), (3, .int (if ((mTick k h (mTicks k h i1 g)) 0 5) < (it (fun i a => if mTicks k h (i + 1) g 0 5 < a then mTicks k h (i + 1) g 0 5 else a) i1 9000) then ((mTick k h (mTicks k h i1 g)) 0 5) else (it (fun i a => if mTicks k h (i + 1) g 0 5 < a then mTicks k h (i + 1) g 0 5 else a) i1 9000))), (2, .int 1), (1, .int (nI n)), (0, .ref (al 0))]) hx hb dX7_would_75 hl (k := 1) rfl (f_inc _) (by decide) rfl (fun ls hl => ?_)
    refine lv_goto (tgt := 49) hx hb dX7_would_78 (by decide) ?_
    have hl9 := lv_sub (l' := [(4, .int (nI (i1 + 1))), (3, .int (if ((mTick k h (mTicks k h i1 g)) 0 5) < (it (fun i a => if mTicks k h (i + 1) g 0 5 < a then mTicks k h (i + 1) g 0 5 else a) i1 9000) then ((mTick k h (mTicks k h i1 g)) 0 5) else (it (fun i a => if mTicks k h (i + 1) g 0 5 < a then mTicks k h (i + 1) g 0 5 else a) i1 9000))), (2, .int 1), (1, .int (nI n)), (0, .ref (al 0))]) hl [0, 1, 2, 3, 4] rfl
    rw [show ([(4, .int (nI (i1 + 1))), (3, .int (if ((mTick k h (mTicks k h i1 g)) 0 5) < (it (fun i a => if mTicks k h (i + 1) g 0 5 < a then mTicks k h (i + 1) g 0 5 else a) i1 9000) then ((mTick k h (mTicks k h i1 g)) 0 5) else (it (fun i a => if mTicks k h (i + 1) g 0 5 < a then mTicks k h (i + 1) g 0 5 else a) i1 9000))), (2, .int 1), (1, .int (nI n)), (0, .ref (al 0))] : List (Nat × Value)) = [(4, .int (nI (i1 + 1))), (3, .int (it (fun i a => if mTicks k h (i + 1) g 0 5 < a then mTicks k h (i + 1) g 0 5 else a) (i1 + 1) 9000)), (2, .int 1), (1, .int (nI n)), (0, .ref (al 0))] from (by first | rfl | (simp only [it_s]; done) | (simp only [it_s]; rfl))] at hl9
    exact ihi1 hlti1 _ _ _ (m_cv hP (show w2 G al k c g (mTick k h (mTicks k h i1 g)) = w2 G al k c g (mTicks k h (i1 + 1) g) from rfl)) hS hl9
set_option maxHeartbeats 4000000 in
set_option maxRecDepth 100000 in
theorem kX7_meanHeight (l : Launch) (G : gT) (al : Nat → Nat) (k : gC) (h : gK) (c : mC) (g : St) (t : St) (hX : gX G al k h c) (hne : ¬ nI k.1 = 0) (hnn : vf_n64 (FP.ddiv (FP.i2d (mSumH k g)) (FP.i2d (nI k.1)))) : Met l yX7_meanHeight (fW yX7_meanHeight cX7_meanHeight 2 (some .double)) { frames := 6, cells := 0, slots := 0, locals := 131 } (gPre G al (w2 G al k c g t) [.ref (al 0)]) (gQd (S := Unit) G (fun _ => FP.ddiv (FP.i2d (mSumH k g)) (FP.i2d (nI k.1))) (fun _ => al) (fun _ => w2 G al k c g t)) 0 0 (gA G) := by
  refine Met.ofW (cc := cX7_meanHeight) (maxL := 2) (ret := (some .double)) (by decide) rfl ?_
  intro pz ez s m args below meth c₀ s₁ Bo hml hv
  obtain ⟨rfl, hb0, hP, hE⟩ := hv
  have hx := Bo.exec
  have hb := Bo.bytes
  have hr := Bo.returns
  have hts0 := atoms_spec (ws := (fW yX7_meanHeight cX7_meanHeight 2 (some .double))) Bo.pre
  have hts : ∀ w ∈ fA, w.before _ s = true := fun w h => hts0 w (List.mem_cons_of_mem _ h)
  have hown : s.vm.findClass RX7 = some m.cls := findClass_of_methodNamed Bo.named
  have hlocks := Bo.notSynchronized
  have hl := lv_entry ([.ref (al 0)]) (n := 2) (Nat.le_of_ble_eq_true rfl)
  rw [lg_entry_eq]
  generalize (lg_sl ([.ref (al 0)]) ++ List.replicate (2 - (lg_sl ([.ref (al 0)])).length) Slot.unset).toArray = ls at hl ⊢
  have hl : lv_has ls 2 [(0, .ref (al 0))] := hl
  have hJ := gX_J hX
  refine g_start hP (fun H hP hS => ?_)
  refine lv_aload_n hx hb dX7_meanHeight_0 rfl (lv_at hl 0 rfl) ?_
  refine m_get (C := RX7) (T := TX7) (N := 3) (ci := 8) (v := .ref (al 100)) hx hb hts uX7 hown hE hP 0 rfl (gX_0 hX) rfl 1 (by decide) (hts _ q368) (fun _ h9 => h9) rfl dX7_meanHeight_1 ?_
  refine m_get (C := RX5) (T := TX5) (N := 15) (ci := 6) (v := .ref (al (100 + 3))) hx hb hts uX5 hown hE hP 100 rfl ((congrFun (w2_c hJ) _).trans ov_s) rfl 1 (by decide) (hts _ q390) (fun _ h9 => h9) rfl dX7_meanHeight_4 ?_
  refine g_aft_i (g_runV (As := []) (rest := []) hx hb hml hown hts (kJx4a65c_size_8abf5 l G al (w2 G al k c g t) (100 + 3) (100 + 4) k.1 (fun j => 100 + 20 + j) ((w2_c (G := G) (al := al) (c := c) (g := g) (t := t) hJ) ▸ (gF_j (gF_o2 (gX_1 hX))) : gLs G al (w2 G al k c g t) (100 + 3) (100 + 4) k.1 (fun j => 100 + 20 + j))) (fcwV 0 hts q380 q53 q54 q50 q34 rfl rfl (by decide +kernel) ⟨(Nat.le_of_ble_eq_true rfl), (Nat.le_of_ble_eq_true rfl)⟩) hE hb0 hP hS (m_recvL hE hP ((w2_c (G := G) (al := al) (c := c) (g := g) (t := t) hJ) ▸ (gF_j (gF_o2 (gX_1 hX))) : gLs G al (w2 G al k c g t) (100 + 3) (100 + 4) k.1 (fun j => 100 + 20 + j)) rfl) rfl hl.1 rfl (Nat.le_of_ble_eq_true rfl) dX7_meanHeight_7 ⟨(Nat.le_of_ble_eq_true rfl), (Nat.le_of_ble_eq_true rfl)⟩) hS (fun u H locs hP hS => ?_)
  refine f_topi (v := nI k.1) rfl ?_
  refine lv_istore_n (lv' := [(1, .int (nI k.1)), (0, .ref (al 0))]) hx hb dX7_meanHeight_10 rfl hl (by decide) rfl (fun ls hl => ?_)
  refine lv_iload_n hx hb dX7_meanHeight_11 rfl (lv_at hl 0 rfl) ?_
  refine lv_if_ne (tgt := 17) hx hb dX7_meanHeight_12 (by decide) (fun _ => ?_) (fun h => absurd h hne)
  refine lv_aload_n hx hb dX7_meanHeight_17 rfl (lv_at hl 1 rfl) ?_
  refine m_get (C := RX7) (T := TX7) (N := 3) (ci := 8) (v := .ref (al 100)) hx hb hts uX7 hown hE hP 0 rfl (gX_0 hX) rfl 1 (by decide) (hts _ q368) (fun _ h9 => h9) rfl dX7_meanHeight_18 ?_
  have hP := m_cv hP (w2_c hJ)
  refine g_aft_i (g_runV (As := []) (rest := []) hx hb hml hown hts (kX5_sumOfHeights l G al k h 100 (ov G al k 200 c t) g (gF_o2 (gX_1 hX))) (fcwV 0 hts q500 q501 q502 q211 q348 rfl rfl (by decide +kernel) ⟨(Nat.le_of_ble_eq_true rfl), (Nat.le_of_ble_eq_true rfl)⟩) hE hb0 hP hS (m_recvA hE hP 100 rfl ov_s rfl) rfl hl.1 rfl (Nat.le_of_ble_eq_true rfl) dX7_meanHeight_21 ⟨(Nat.le_of_ble_eq_true rfl), (Nat.le_of_ble_eq_true rfl)⟩) hS (fun u H locs hP hS => ?_)
  have hP := m_cv hP (w2_c hJ).symm
  have hP : mP G al (w2 G al k c g t) H := hP
  refine f_topi (v := mSumH k g) rfl ?_
  refine lv_i2d hx hb dX7_meanHeight_24 ?_
  refine lv_iload_n hx hb dX7_meanHeight_25 rfl (lv_at hl 0 rfl) ?_
  refine lv_i2d hx hb dX7_meanHeight_26 ?_
  refine lv_ddiv hx hb dX7_meanHeight_27 hnn ?_
  refine W.widen (k := 0) (n := 0) (Nat.le_of_ble_eq_true rfl) (Nat.le_of_ble_eq_true rfl) ?_
  exact W.dret (v := FP.ddiv (FP.i2d (mSumH k g)) (FP.i2d (nI k.1))) hx hb hr (fun tz htz hW => ⟨⟨FP.ddiv (FP.i2d (mSumH k g)) (FP.i2d (nI k.1)), (), rfl, rfl, g_end htz hP⟩, hS.F htz⟩) hS.2.2 dX7_meanHeight_28
