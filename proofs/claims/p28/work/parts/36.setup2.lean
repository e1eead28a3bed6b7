set_option maxHeartbeats 4000000 in
set_option maxRecDepth 100000 in
theorem kX7_pump (l : Launch) (G : gT) (al : Nat → Nat) (c : mC) (k : gC) (w : Nat → Nat → Int32) (ns : Nat → Nat) (p : Nat) (nf : Nat) (hU : gU G al k w p nf 0 ns c) (hnf : nf ≤ 2) (hns : ∀ f, f < 2 → ns f ≤ 3) (hp : p < 2) (h1 : ¬ k.2.2 (1 + p) 1 < 10) (h2 : k.2.2 (1 + p) 1 ≤ 60) : Met l yX7_pump (fW yX7_pump cX7_pump 3 (some .int)) { frames := 7, cells := 4, slots := 56, locals := 149 } (gPre G al (c) [.ref (al 0), .int (k.2.2 (1 + p) 1)]) (gQip (S := (Nat → Nat) × mC) G (fun u => gU G u.1 k w (p + 1) nf 0 ns u.2 ∧ u.1 0 = al 0) (fun u => nI p) (fun u => u.1) (fun u => u.2)) 4 56 (gA G) := by
  refine Met.ofW (cc := cX7_pump) (maxL := 3) (ret := (some .int)) (by decide) rfl ?_
  intro pz ez s m args below meth c₀ s₁ Bo hml hv
  obtain ⟨rfl, hb0, hP, hE⟩ := hv
  have hx := Bo.exec
  have hb := Bo.bytes
  have hr := Bo.returns
  have hts0 := atoms_spec (ws := (fW yX7_pump cX7_pump 3 (some .int))) Bo.pre
  have hts : ∀ w ∈ fA, w.before _ s = true := fun w h => hts0 w (List.mem_cons_of_mem _ h)
  have hown : s.vm.findClass RX7 = some m.cls := findClass_of_methodNamed Bo.named
  have hlocks := Bo.notSynchronized
  have hl := lv_entry ([.ref (al 0), .int (k.2.2 (1 + p) 1)]) (n := 3) (Nat.le_of_ble_eq_true rfl)
  rw [lg_entry_eq]
  generalize (lg_sl ([.ref (al 0), .int (k.2.2 (1 + p) 1)]) ++ List.replicate (3 - (lg_sl ([.ref (al 0), .int (k.2.2 (1 + p) 1)])).length) Slot.unset).toArray = ls at hl ⊢
  have hl : lv_has ls 3 [(0, .ref (al 0)), (1, .int (k.2.2 (1 + p) 1))] := hl
  have hU9 := hU
  obtain ⟨u0, hB1, hB2, hUF, u9⟩ := hU9
  have hB19 := hB1
  have hB29 := hB2
  obtain ⟨b1, b2, b3, -, -, -, b7, -⟩ := hB19
  obtain ⟨d1, d2, d3, -, -, -, d7, -⟩ := hB29
  obtain ⟨al0, hal0⟩ : ∃ z, z = al := ⟨_, rfl⟩
  obtain ⟨c0, hc0⟩ : ∃ z, z = c := ⟨_, rfl⟩
  have hfc : ∀ i, (i ≠ 100 + 1 ∧ i ≠ 100 + 2 ∧ i ≠ 100 + 11 + p ∧ i ≠ 200 + 1 ∧ i ≠ 200 + 2 ∧ i ≠ 200 + 11 + p) → c i = c0 i := fun i _ => by rw [hc0]
  have hfa : ∀ i, (i ≠ 100 + 2 ∧ i ≠ 100 + 11 + p ∧ i ≠ 200 + 2 ∧ i ≠ 200 + 11 + p) → al i = al0 i := fun i _ => by rw [hal0]
  generalize (#[.ref (al 0), .int (k.2.2 (1 + p) 1)] : Array Value) = ar9 at hts ⊢
  refine g_start hP (fun H hP hS => ?_)
  refine lv_iload_n hx hb dX7_pump_0 rfl (lv_at hl 1 rfl) ?_
  refine lv_bipush (v := 10) hx hb dX7_pump_1 (by decide) ?_
  refine lv_icmp_lt (tgt := 12) hx hb dX7_pump_3 (by decide) (fun h => absurd h h1) (fun _ => ?_)
  refine lv_iload_n hx hb dX7_pump_6 rfl (lv_at hl 1 rfl) ?_
  refine lv_bipush (v := 60) hx hb dX7_pump_7 (by decide) ?_
  refine lv_icmp_le (tgt := 22) hx hb dX7_pump_9 (by decide) (fun _ => ?_) (fun h => absurd h2 h)
  refine lv_aload_n hx hb dX7_pump_22 rfl (lv_at hl 0 rfl) ?_
  refine m_get (C := RX7) (T := TX7) (N := 3) (ci := 8) (v := .ref (al 100)) hx hb hts uX7 hown hE hP 0 rfl u0 rfl 1 (by decide) (hts _ q368) (fun _ h9 => h9) rfl dX7_pump_23 ?_
  refine m_get (C := RX5) (T := TX5) (N := 15) (ci := 6) (v := .ref (al (100 + 1))) hx hb hts uX5 hown hE hP 100 rfl b1 rfl 0 (by decide) (hts _ q377) (fun _ h9 => h9) rfl dX7_pump_26 ?_
  refine g_aft_i (g_runV (As := []) (rest := []) hx hb hml hown hts (kJx4a65c_size_8abf5 l G al c (100 + 1) (100 + 2) p (fun z => 100 + 11 + z) b2) (fcwV 0 hts q380 q53 q54 q50 q34 rfl rfl (by decide +kernel) ⟨(Nat.le_of_ble_eq_true rfl), (Nat.le_of_ble_eq_true rfl)⟩) hE hb0 hP hS (m_recvL hE hP b2 rfl) rfl hl.1 rfl (Nat.le_of_ble_eq_true rfl) dX7_pump_29 ⟨(Nat.le_of_ble_eq_true rfl), (Nat.le_of_ble_eq_true rfl)⟩) hS (fun u H locs hP hS => ?_)
  refine f_topi (v := nI p) rfl ?_
  refine lv_istore_n (lv' := [(2, .int (nI p)), (0, .ref (al 0)), (1, .int (k.2.2 (1 + p) 1))]) hx hb dX7_pump_32 rfl hl (by decide) rfl (fun ls hl => ?_)
  refine lv_iload_n hx hb dX7_pump_33 rfl (lv_at hl 0 rfl) ?_
  refine lv_iconst (v := 3) hx hb dX7_pump_34 (by decide) ?_
  refine lv_icmp_lt (tgt := 48) hx hb dX7_pump_35 (by decide) (fun _ => ?_) (fun h => absurd (nI_lt (b := 3) (by omega) (by omega)) h)
  refine lv_aload_n hx hb dX7_pump_48 rfl (lv_at hl 1 rfl) ?_
  refine m_get (C := RX7) (T := TX7) (N := 3) (ci := 8) (v := .ref (al 100)) hx hb hts uX7 hown hE hP 0 rfl u0 rfl 1 (by decide) (hts _ q368) (fun _ h9 => h9) rfl dX7_pump_49 ?_
  refine m_get (C := RX5) (T := TX5) (N := 15) (ci := 6) (v := .ref (al (100 + 1))) hx hb hts uX5 hown hE hP 100 rfl b1 rfl 0 (by decide) (hts _ q377) (fun _ h9 => h9) rfl dX7_pump_52 ?_
  refine m_new (100 + 11 + p) (ci := 5) (fs := [.int 0, .int 0, .int 0, .int 0, .int 0, .int 0]) (C := RX4) (T := TX4) (N := 6) hx hb hts uX4 tyX4 tyX4_ok hown (hts _ q387) (hts _ q379) (hts _ q159) hE hb0 hP hS rfl (fun j hj => by rcases f_lt6 hj with rfl | rfl | rfl | rfl | rfl | rfl <;> rfl) (Nat.le_of_ble_eq_true rfl) (Nat.le_of_ble_eq_true rfl) dX7_pump_55 (fun n_1 H hP hS => ?_)
  have hP : mP G (va_up al (100 + 11 + p) n_1) (up c (100 + 11 + p) (.inr (5, [.int 0, .int 0, .int 0, .int 0, .int 0, .int 0]))) H := hP
  have hax0 : ∀ x, x ≠ 100 + 11 + p → va_up al (100 + 11 + p) n_1 x = al x := fun x hx => au_n _ _ hx
  have has0 : va_up al (100 + 11 + p) n_1 (100 + 11 + p) = n_1 := au_s _ _ _
  obtain ⟨al, hau⟩ : ∃ z, z = va_up al (100 + 11 + p) n_1 := ⟨_, rfl⟩
  rw [← hau] at hax0 has0 hP
  have hcx0 : ∀ x, x ≠ 100 + 11 + p → (up c (100 + 11 + p) (.inr (5, [.int 0, .int 0, .int 0, .int 0, .int 0, .int 0]))) x = c x := fun x hx => up_n _ _ hx
  have hcs0 : (up c (100 + 11 + p) (.inr (5, [.int 0, .int 0, .int 0, .int 0, .int 0, .int 0]))) (100 + 11 + p) = some (.inr (5, [.int 0, .int 0, .int 0, .int 0, .int 0, .int 0])) := up_s _ _ _
  obtain ⟨c, hcu⟩ : ∃ z, z = up c (100 + 11 + p) (.inr (5, [.int 0, .int 0, .int 0, .int 0, .int 0, .int 0])) := ⟨_, rfl⟩
  rw [← hcu] at hcx0 hcs0 hP
  have u0 : c 0 = some (.inr (8, [.ref (al 1), .ref (al 100), .ref (al 200)])) := by rw [hcx0 0 (by omega), hax0 1 (by omega), hax0 100 (by omega), hax0 200 (by omega)]; exact u0
  have b1 : c 100 = some (.inr (6, [.ref (al (100 + 1)), .ref (al (100 + 3)), .ref (al (100 + 5)), .ref (al (100 + 7)), .int 0, .int 3000, .int 0, .int 0, .int 0, .int 0, .int 0, .int 0, .int 0, .int 0, .int 0])) := by rw [hcx0 100 (by omega), hax0 (100 + 1) (by omega), hax0 (100 + 3) (by omega), hax0 (100 + 5) (by omega), hax0 (100 + 7) (by omega)]; exact b1
  have d1 : c 200 = some (.inr (6, [.ref (al (200 + 1)), .ref (al (200 + 3)), .ref (al (200 + 5)), .ref (al (200 + 7)), .int 0, .int 3000, .int 0, .int 0, .int 0, .int 0, .int 0, .int 0, .int 0, .int 0, .int 0])) := by rw [hcx0 200 (by omega), hax0 (200 + 1) (by omega), hax0 (200 + 3) (by omega), hax0 (200 + 5) (by omega), hax0 (200 + 7) (by omega)]; exact d1
  have b2 : gLs G al c (100 + 1) (100 + 2) p (fun z => 100 + 11 + z) := (gLs_al (gLs_cv b2 (hcx0 _ (by omega)) (hcx0 _ (by omega))) (hax0 _ (by omega)) (fun z hz => hax0 _ (by show 100 + 11 + z ≠ 100 + 11 + p; omega)))
  have d2 : gLs G al c (200 + 1) (200 + 2) p (fun z => 200 + 11 + z) := (gLs_al (gLs_cv d2 (hcx0 _ (by omega)) (hcx0 _ (by omega))) (hax0 _ (by omega)) (fun z hz => hax0 _ (by show 200 + 11 + z ≠ 100 + 11 + p; omega)))
  have hfc : ∀ i, (i ≠ 100 + 1 ∧ i ≠ 100 + 2 ∧ i ≠ 100 + 11 + p ∧ i ≠ 200 + 1 ∧ i ≠ 200 + 2 ∧ i ≠ 200 + 11 + p) → c i = c0 i := fun i hi => (hcx0 i (by omega)).trans (hfc i hi)
  have hfa : ∀ i, (i ≠ 100 + 2 ∧ i ≠ 100 + 11 + p ∧ i ≠ 200 + 2 ∧ i ≠ 200 + 11 + p) → al i = al0 i := fun i hi => (hax0 i (by omega)).trans (hfa i hi)
  have e_2 : c (100 + 11 + p) = some (.inr (5, [.int 0, .int 0, .int 0, .int 0, .int 0, .int 0])) := hcs0
  rw [← has0]
  have hl : lv_has ls 3 [(2, .int (nI p)), (0, .ref (al 0)), (1, .int (k.2.2 (1 + p) 1))] := by rw [hax0 0 (by omega)]; exact hl
  rw [← hax0 (100 + 1) (by omega)]
  refine lv_dup hx hb dX7_pump_58 rfl ?_
  refine lv_iload_n hx hb dX7_pump_59 rfl (lv_at hl 0 rfl) ?_
  refine lv_iload_n hx hb dX7_pump_60 rfl (lv_at hl 2 rfl) ?_
  refine g_aft_v (g_runI (As := [.int (nI p), .int (k.2.2 (1 + p) 1)]) (rest := [.ref (al (100 + 11 + p)), .ref (al (100 + 1))]) hx hb hml hown hts (kX4_init l G al c (100 + 11 + p) (nI p) (k.2.2 (1 + p) 1) e_2) (fcwI 2 hts q381 q382 q159 q162 rfl rfl rfl (by decide +kernel) ⟨(Nat.le_of_ble_eq_true rfl), (Nat.le_of_ble_eq_true rfl)⟩) hE hb0 hP hS rfl hl.1 rfl (Nat.le_of_ble_eq_true rfl) dX7_pump_61 ⟨(Nat.le_of_ble_eq_true rfl), (Nat.le_of_ble_eq_true rfl)⟩) hS (fun u H locs hP hS => ?_)
  have hP : mP G al (up c (100 + 11 + p) (.inr (5, [.int (nI p), .int (k.2.2 (1 + p) 1), .int 0, .int 0, .int 0, .int 0]))) H := hP
  have hcx0 : ∀ x, x ≠ 100 + 11 + p → (up c (100 + 11 + p) (.inr (5, [.int (nI p), .int (k.2.2 (1 + p) 1), .int 0, .int 0, .int 0, .int 0]))) x = c x := fun x hx => up_n _ _ hx
  have hcs0 : (up c (100 + 11 + p) (.inr (5, [.int (nI p), .int (k.2.2 (1 + p) 1), .int 0, .int 0, .int 0, .int 0]))) (100 + 11 + p) = some (.inr (5, [.int (nI p), .int (k.2.2 (1 + p) 1), .int 0, .int 0, .int 0, .int 0])) := up_s _ _ _
  obtain ⟨c, hcu⟩ : ∃ z, z = up c (100 + 11 + p) (.inr (5, [.int (nI p), .int (k.2.2 (1 + p) 1), .int 0, .int 0, .int 0, .int 0])) := ⟨_, rfl⟩
  rw [← hcu] at hcx0 hcs0 hP
  have u0 : c 0 = some (.inr (8, [.ref (al 1), .ref (al 100), .ref (al 200)])) := by rw [hcx0 0 (by omega)]; exact u0
  have b1 : c 100 = some (.inr (6, [.ref (al (100 + 1)), .ref (al (100 + 3)), .ref (al (100 + 5)), .ref (al (100 + 7)), .int 0, .int 3000, .int 0, .int 0, .int 0, .int 0, .int 0, .int 0, .int 0, .int 0, .int 0])) := by rw [hcx0 100 (by omega)]; exact b1
  have d1 : c 200 = some (.inr (6, [.ref (al (200 + 1)), .ref (al (200 + 3)), .ref (al (200 + 5)), .ref (al (200 + 7)), .int 0, .int 3000, .int 0, .int 0, .int 0, .int 0, .int 0, .int 0, .int 0, .int 0, .int 0])) := by rw [hcx0 200 (by omega)]; exact d1
  have b2 : gLs G al c (100 + 1) (100 + 2) p (fun z => 100 + 11 + z) := (gLs_cv b2 (hcx0 _ (by omega)) (hcx0 _ (by omega)))
  have d2 : gLs G al c (200 + 1) (200 + 2) p (fun z => 200 + 11 + z) := (gLs_cv d2 (hcx0 _ (by omega)) (hcx0 _ (by omega)))
  have hfc : ∀ i, (i ≠ 100 + 1 ∧ i ≠ 100 + 2 ∧ i ≠ 100 + 11 + p ∧ i ≠ 200 + 1 ∧ i ≠ 200 + 2 ∧ i ≠ 200 + 11 + p) → c i = c0 i := fun i hi => (hcx0 i (by omega)).trans (hfc i hi)
  have e_2 : c (100 + 11 + p) = some (.inr (5, [.int (nI p), .int (k.2.2 (1 + p) 1), .int 0, .int 0, .int 0, .int 0])) := hcs0
  refine g_aft_ip (g_runV (As := [.ref (al (100 + 11 + p))]) (rest := []) hx hb hml hown hts (kJx4a65c_add_9ea2d l G al c (100 + 1) (100 + 2) p (fun z => 100 + 11 + z) (100 + 11 + p) 5 ([.int (nI p), .int (k.2.2 (1 + p) 1), .int 0, .int 0, .int 0, .int 0]) _ b2 e_2 rfl (by decide +kernel) (by omega) (by omega) (by decide) (by omega) (fun i hi => by show 100 + 11 + i ≠ 100 + 2; omega) (fun i hi => by show 100 + 11 + i ≠ 100 + 1; omega) (Or.inl (by omega))) (fcwV 1 hts q383 q132 q133 q50 q127 rfl rfl (by decide +kernel) ⟨(Nat.le_of_ble_eq_true rfl), (Nat.le_of_ble_eq_true rfl)⟩) hE hb0 hP hS (m_recvL hE hP b2 rfl) rfl hl.1 rfl (Nat.le_of_ble_eq_true rfl) dX7_pump_64 ⟨(Nat.le_of_ble_eq_true rfl), (Nat.le_of_ble_eq_true rfl)⟩) hS (fun u_3 H locs hu_3 hP hS => ?_)
  obtain ⟨al, c⟩ := u_3
  have hP : mP G al c H := hP
  obtain ⟨hL9, hcx0, hax0⟩ := hu_3
  dsimp only at hL9 hcx0 hax0
  have u0 : c 0 = some (.inr (8, [.ref (al 1), .ref (al 100), .ref (al 200)])) := by rw [hcx0 0 (by omega) (by omega), hax0 1 (by omega), hax0 100 (by omega), hax0 200 (by omega)]; exact u0
  have b1 : c 100 = some (.inr (6, [.ref (al (100 + 1)), .ref (al (100 + 3)), .ref (al (100 + 5)), .ref (al (100 + 7)), .int 0, .int 3000, .int 0, .int 0, .int 0, .int 0, .int 0, .int 0, .int 0, .int 0, .int 0])) := by rw [hcx0 100 (by omega) (by omega), hax0 (100 + 1) (by omega), hax0 (100 + 3) (by omega), hax0 (100 + 5) (by omega), hax0 (100 + 7) (by omega)]; exact b1
  have d1 : c 200 = some (.inr (6, [.ref (al (200 + 1)), .ref (al (200 + 3)), .ref (al (200 + 5)), .ref (al (200 + 7)), .int 0, .int 3000, .int 0, .int 0, .int 0, .int 0, .int 0, .int 0, .int 0, .int 0, .int 0])) := by rw [hcx0 200 (by omega) (by omega), hax0 (200 + 1) (by omega), hax0 (200 + 3) (by omega), hax0 (200 + 5) (by omega), hax0 (200 + 7) (by omega)]; exact d1
  have e_2 : c (100 + 11 + p) = some (.inr (5, [.int (nI p), .int (k.2.2 (1 + p) 1), .int 0, .int 0, .int 0, .int 0])) := by rw [hcx0 (100 + 11 + p) (by omega) (by omega)]; exact e_2
  have d2 : gLs G al c (200 + 1) (200 + 2) p (fun z => 200 + 11 + z) := (gLs_al (gLs_cv d2 (hcx0 _ (by omega) (by omega)) (hcx0 _ (by omega) (by omega))) (hax0 _ (by omega)) (fun z hz => hax0 _ (by show 200 + 11 + z ≠ 100 + 2; omega)))
  have hfc : ∀ i, (i ≠ 100 + 1 ∧ i ≠ 100 + 2 ∧ i ≠ 100 + 11 + p ∧ i ≠ 200 + 1 ∧ i ≠ 200 + 2 ∧ i ≠ 200 + 11 + p) → c i = c0 i := fun i hi => (hcx0 i (by omega) (by omega)).trans (hfc i hi)
  have hfa : ∀ i, (i ≠ 100 + 2 ∧ i ≠ 100 + 11 + p ∧ i ≠ 200 + 2 ∧ i ≠ 200 + 11 + p) → al i = al0 i := fun i hi => (hax0 i (by omega)).trans (hfa i hi)
  have b2 : gLs G al c (100 + 1) (100 + 2) (p + 1) (fun z => 100 + 11 + z) := gLs_al hL9 rfl (fun i hi => congrArg al (congrFun (va_up_id (fun z => 100 + 11 + z) p) i).symm)
  have hl : lv_has ls 3 [(2, .int (nI p)), (0, .ref (al 0)), (1, .int (k.2.2 (1 + p) 1))] := by rw [hax0 0 (by omega)]; exact hl
  refine f_topi (v := 1) rfl ?_
  refine lv_pop hx hb dX7_pump_67 rfl ?_
  refine lv_aload_n hx hb dX7_pump_68 rfl (lv_at hl 1 rfl) ?_
  refine m_get (C := RX7) (T := TX7) (N := 3) (ci := 8) (v := .ref (al 200)) hx hb hts uX7 hown hE hP 0 rfl u0 rfl 2 (by decide) (hts _ q369) (fun _ h9 => h9) rfl dX7_pump_69 ?_
  refine m_get (C := RX5) (T := TX5) (N := 15) (ci := 6) (v := .ref (al (200 + 1))) hx hb hts uX5 hown hE hP 200 rfl d1 rfl 0 (by decide) (hts _ q377) (fun _ h9 => h9) rfl dX7_pump_72 ?_
  refine m_new (200 + 11 + p) (ci := 5) (fs := [.int 0, .int 0, .int 0, .int 0, .int 0, .int 0]) (C := RX4) (T := TX4) (N := 6) hx hb hts uX4 tyX4 tyX4_ok hown (hts _ q387) (hts _ q379) (hts _ q159) hE hb0 hP hS rfl (fun j hj => by rcases f_lt6 hj with rfl | rfl | rfl | rfl | rfl | rfl <;> rfl) (Nat.le_of_ble_eq_true rfl) (Nat.le_of_ble_eq_true rfl) dX7_pump_75 (fun n_4 H hP hS => ?_)
  have hP : mP G (va_up al (200 + 11 + p) n_4) (up c (200 + 11 + p) (.inr (5, [.int 0, .int 0, .int 0, .int 0, .int 0, .int 0]))) H := hP
  have hax0 : ∀ x, x ≠ 200 + 11 + p → va_up al (200 + 11 + p) n_4 x = al x := fun x hx => au_n _ _ hx
  have has0 : va_up al (200 + 11 + p) n_4 (200 + 11 + p) = n_4 := au_s _ _ _
  obtain ⟨al, hau⟩ : ∃ z, z = va_up al (200 + 11 + p) n_4 := ⟨_, rfl⟩
  rw [← hau] at hax0 has0 hP
  have hcx0 : ∀ x, x ≠ 200 + 11 + p → (up c (200 + 11 + p) (.inr (5, [.int 0, .int 0, .int 0, .int 0, .int 0, .int 0]))) x = c x := fun x hx => up_n _ _ hx
  have hcs0 : (up c (200 + 11 + p) (.inr (5, [.int 0, .int 0, .int 0, .int 0, .int 0, .int 0]))) (200 + 11 + p) = some (.inr (5, [.int 0, .int 0, .int 0, .int 0, .int 0, .int 0])) := up_s _ _ _
  obtain ⟨c, hcu⟩ : ∃ z, z = up c (200 + 11 + p) (.inr (5, [.int 0, .int 0, .int 0, .int 0, .int 0, .int 0])) := ⟨_, rfl⟩
  rw [← hcu] at hcx0 hcs0 hP
  have u0 : c 0 = some (.inr (8, [.ref (al 1), .ref (al 100), .ref (al 200)])) := by rw [hcx0 0 (by omega), hax0 1 (by omega), hax0 100 (by omega), hax0 200 (by omega)]; exact u0
  have b1 : c 100 = some (.inr (6, [.ref (al (100 + 1)), .ref (al (100 + 3)), .ref (al (100 + 5)), .ref (al (100 + 7)), .int 0, .int 3000, .int 0, .int 0, .int 0, .int 0, .int 0, .int 0, .int 0, .int 0, .int 0])) := by rw [hcx0 100 (by omega), hax0 (100 + 1) (by omega), hax0 (100 + 3) (by omega), hax0 (100 + 5) (by omega), hax0 (100 + 7) (by omega)]; exact b1
  have d1 : c 200 = some (.inr (6, [.ref (al (200 + 1)), .ref (al (200 + 3)), .ref (al (200 + 5)), .ref (al (200 + 7)), .int 0, .int 3000, .int 0, .int 0, .int 0, .int 0, .int 0, .int 0, .int 0, .int 0, .int 0])) := by rw [hcx0 200 (by omega), hax0 (200 + 1) (by omega), hax0 (200 + 3) (by omega), hax0 (200 + 5) (by omega), hax0 (200 + 7) (by omega)]; exact d1
  have e_2 : c (100 + 11 + p) = some (.inr (5, [.int (nI p), .int (k.2.2 (1 + p) 1), .int 0, .int 0, .int 0, .int 0])) := by rw [hcx0 (100 + 11 + p) (by omega)]; exact e_2
  have d2 : gLs G al c (200 + 1) (200 + 2) p (fun z => 200 + 11 + z) := (gLs_al (gLs_cv d2 (hcx0 _ (by omega)) (hcx0 _ (by omega))) (hax0 _ (by omega)) (fun z hz => hax0 _ (by show 200 + 11 + z ≠ 200 + 11 + p; omega)))
  have b2 : gLs G al c (100 + 1) (100 + 2) (p + 1) (fun z => 100 + 11 + z) := (gLs_al (gLs_cv b2 (hcx0 _ (by omega)) (hcx0 _ (by omega))) (hax0 _ (by omega)) (fun z hz => hax0 _ (by show 100 + 11 + z ≠ 200 + 11 + p; omega)))
  have hfc : ∀ i, (i ≠ 100 + 1 ∧ i ≠ 100 + 2 ∧ i ≠ 100 + 11 + p ∧ i ≠ 200 + 1 ∧ i ≠ 200 + 2 ∧ i ≠ 200 + 11 + p) → c i = c0 i := fun i hi => (hcx0 i (by omega)).trans (hfc i hi)
  have hfa : ∀ i, (i ≠ 100 + 2 ∧ i ≠ 100 + 11 + p ∧ i ≠ 200 + 2 ∧ i ≠ 200 + 11 + p) → al i = al0 i := fun i hi => (hax0 i (by omega)).trans (hfa i hi)
  have e_5 : c (200 + 11 + p) = some (.inr (5, [.int 0, .int 0, .int 0, .int 0, .int 0, .int 0])) := hcs0
  rw [← has0]
  have hl : lv_has ls 3 [(2, .int (nI p)), (0, .ref (al 0)), (1, .int (k.2.2 (1 + p) 1))] := by rw [hax0 0 (by omega)]; exact hl
  rw [← hax0 (200 + 1) (by omega)]
  refine lv_dup hx hb dX7_pump_78 rfl ?_
  refine lv_iload_n hx hb dX7_pump_79 rfl (lv_at hl 0 rfl) ?_
  refine lv_iload_n hx hb dX7_pump_80 rfl (lv_at hl 2 rfl) ?_
  refine g_aft_v (g_runI (As := [.int (nI p), .int (k.2.2 (1 + p) 1)]) (rest := [.ref (al (200 + 11 + p)), .ref (al (200 + 1))]) hx hb hml hown hts (kX4_init l G al c (200 + 11 + p) (nI p) (k.2.2 (1 + p) 1) e_5) (fcwI 2 hts q381 q382 q159 q162 rfl rfl rfl (by decide +kernel) ⟨(Nat.le_of_ble_eq_true rfl), (Nat.le_of_ble_eq_true rfl)⟩) hE hb0 hP hS rfl hl.1 rfl (Nat.le_of_ble_eq_true rfl) dX7_pump_81 ⟨(Nat.le_of_ble_eq_true rfl), (Nat.le_of_ble_eq_true rfl)⟩) hS (fun u H locs hP hS => ?_)
  have hP : mP G al (up c (200 + 11 + p) (.inr (5, [.int (nI p), .int (k.2.2 (1 + p) 1), .int 0, .int 0, .int 0, .int 0]))) H := hP
  have hcx0 : ∀ x, x ≠ 200 + 11 + p → (up c (200 + 11 + p) (.inr (5, [.int (nI p), .int (k.2.2 (1 + p) 1), .int 0, .int 0, .int 0, .int 0]))) x = c x := fun x hx => up_n _ _ hx
  have hcs0 : (up c (200 + 11 + p) (.inr (5, [.int (nI p), .int (k.2.2 (1 + p) 1), .int 0, .int 0, .int 0, .int 0]))) (200 + 11 + p) = some (.inr (5, [.int (nI p), .int (k.2.2 (1 + p) 1), .int 0, .int 0, .int 0, .int 0])) := up_s _ _ _
  obtain ⟨c, hcu⟩ : ∃ z, z = up c (200 + 11 + p) (.inr (5, [.int (nI p), .int (k.2.2 (1 + p) 1), .int 0, .int 0, .int 0, .int 0])) := ⟨_, rfl⟩
  rw [← hcu] at hcx0 hcs0 hP
  have u0 : c 0 = some (.inr (8, [.ref (al 1), .ref (al 100), .ref (al 200)])) := by rw [hcx0 0 (by omega)]; exact u0
  have b1 : c 100 = some (.inr (6, [.ref (al (100 + 1)), .ref (al (100 + 3)), .ref (al (100 + 5)), .ref (al (100 + 7)), .int 0, .int 3000, .int 0, .int 0, .int 0, .int 0, .int 0, .int 0, .int 0, .int 0, .int 0])) := by rw [hcx0 100 (by omega)]; exact b1
  have d1 : c 200 = some (.inr (6, [.ref (al (200 + 1)), .ref (al (200 + 3)), .ref (al (200 + 5)), .ref (al (200 + 7)), .int 0, .int 3000, .int 0, .int 0, .int 0, .int 0, .int 0, .int 0, .int 0, .int 0, .int 0])) := by rw [hcx0 200 (by omega)]; exact d1
  have e_2 : c (100 + 11 + p) = some (.inr (5, [.int (nI p), .int (k.2.2 (1 + p) 1), .int 0, .int 0, .int 0, .int 0])) := by rw [hcx0 (100 + 11 + p) (by omega)]; exact e_2
  have d2 : gLs G al c (200 + 1) (200 + 2) p (fun z => 200 + 11 + z) := (gLs_cv d2 (hcx0 _ (by omega)) (hcx0 _ (by omega)))
  have b2 : gLs G al c (100 + 1) (100 + 2) (p + 1) (fun z => 100 + 11 + z) := (gLs_cv b2 (hcx0 _ (by omega)) (hcx0 _ (by omega)))
  have hfc : ∀ i, (i ≠ 100 + 1 ∧ i ≠ 100 + 2 ∧ i ≠ 100 + 11 + p ∧ i ≠ 200 + 1 ∧ i ≠ 200 + 2 ∧ i ≠ 200 + 11 + p) → c i = c0 i := fun i hi => (hcx0 i (by omega)).trans (hfc i hi)
  have e_5 : c (200 + 11 + p) = some (.inr (5, [.int (nI p), .int (k.2.2 (1 + p) 1), .int 0, .int 0, .int 0, .int 0])) := hcs0
  refine g_aft_ip (g_runV (As := [.ref (al (200 + 11 + p))]) (rest := []) hx hb hml hown hts (kJx4a65c_add_9ea2d l G al c (200 + 1) (200 + 2) p (fun z => 200 + 11 + z) (200 + 11 + p) 5 ([.int (nI p), .int (k.2.2 (1 + p) 1), .int 0, .int 0, .int 0, .int 0]) _ d2 e_5 rfl (by decide +kernel) (by omega) (by omega) (by decide) (by omega) (fun i hi => by show 200 + 11 + i ≠ 200 + 2; omega) (fun i hi => by show 200 + 11 + i ≠ 200 + 1; omega) (Or.inl (by omega))) (fcwV 1 hts q383 q132 q133 q50 q127 rfl rfl (by decide +kernel) ⟨(Nat.le_of_ble_eq_true rfl), (Nat.le_of_ble_eq_true rfl)⟩) hE hb0 hP hS (m_recvL hE hP d2 rfl) rfl hl.1 rfl (Nat.le_of_ble_eq_true rfl) dX7_pump_84 ⟨(Nat.le_of_ble_eq_true rfl), (Nat.le_of_ble_eq_true rfl)⟩) hS (fun u_6 H locs hu_6 hP hS => ?_)
  obtain ⟨al, c⟩ := u_6
  have hP : mP G al c H := hP
  obtain ⟨hL9, hcx0, hax0⟩ := hu_6
  dsimp only at hL9 hcx0 hax0
  have u0 : c 0 = some (.inr (8, [.ref (al 1), .ref (al 100), .ref (al 200)])) := by rw [hcx0 0 (by omega) (by omega), hax0 1 (by omega), hax0 100 (by omega), hax0 200 (by omega)]; exact u0
  have b1 : c 100 = some (.inr (6, [.ref (al (100 + 1)), .ref (al (100 + 3)), .ref (al (100 + 5)), .ref (al (100 + 7)), .int 0, .int 3000, .int 0, .int 0, .int 0, .int 0, .int 0, .int 0, .int 0, .int 0, .int 0])) := by rw [hcx0 100 (by omega) (by omega), hax0 (100 + 1) (by omega), hax0 (100 + 3) (by omega), hax0 (100 + 5) (by omega), hax0 (100 + 7) (by omega)]; exact b1
  have d1 : c 200 = some (.inr (6, [.ref (al (200 + 1)), .ref (al (200 + 3)), .ref (al (200 + 5)), .ref (al (200 + 7)), .int 0, .int 3000, .int 0, .int 0, .int 0, .int 0, .int 0, .int 0, .int 0, .int 0, .int 0])) := by rw [hcx0 200 (by omega) (by omega), hax0 (200 + 1) (by omega), hax0 (200 + 3) (by omega), hax0 (200 + 5) (by omega), hax0 (200 + 7) (by omega)]; exact d1
  have e_2 : c (100 + 11 + p) = some (.inr (5, [.int (nI p), .int (k.2.2 (1 + p) 1), .int 0, .int 0, .int 0, .int 0])) := by rw [hcx0 (100 + 11 + p) (by omega) (by omega)]; exact e_2
  have e_5 : c (200 + 11 + p) = some (.inr (5, [.int (nI p), .int (k.2.2 (1 + p) 1), .int 0, .int 0, .int 0, .int 0])) := by rw [hcx0 (200 + 11 + p) (by omega) (by omega)]; exact e_5
  have b2 : gLs G al c (100 + 1) (100 + 2) (p + 1) (fun z => 100 + 11 + z) := (gLs_al (gLs_cv b2 (hcx0 _ (by omega) (by omega)) (hcx0 _ (by omega) (by omega))) (hax0 _ (by omega)) (fun z hz => hax0 _ (by show 100 + 11 + z ≠ 200 + 2; omega)))
  have hfc : ∀ i, (i ≠ 100 + 1 ∧ i ≠ 100 + 2 ∧ i ≠ 100 + 11 + p ∧ i ≠ 200 + 1 ∧ i ≠ 200 + 2 ∧ i ≠ 200 + 11 + p) → c i = c0 i := fun i hi => (hcx0 i (by omega) (by omega)).trans (hfc i hi)
  have hfa : ∀ i, (i ≠ 100 + 2 ∧ i ≠ 100 + 11 + p ∧ i ≠ 200 + 2 ∧ i ≠ 200 + 11 + p) → al i = al0 i := fun i hi => (hax0 i (by omega)).trans (hfa i hi)
  have d2 : gLs G al c (200 + 1) (200 + 2) (p + 1) (fun z => 200 + 11 + z) := gLs_al hL9 rfl (fun i hi => congrArg al (congrFun (va_up_id (fun z => 200 + 11 + z) p) i).symm)
  have hl : lv_has ls 3 [(2, .int (nI p)), (0, .ref (al 0)), (1, .int (k.2.2 (1 + p) 1))] := by rw [hax0 0 (by omega)]; exact hl
  refine f_topi (v := 1) rfl ?_
  refine lv_pop hx hb dX7_pump_87 rfl ?_
  refine lv_iload_n hx hb dX7_pump_88 rfl (lv_at hl 0 rfl) ?_
  refine W.widen (k := 4) (n := 56) (Nat.le_of_ble_eq_true rfl) (Nat.le_of_ble_eq_true rfl) ?_
  exact W.iret (v := nI p) hx hb hr (fun tz htz hW => ⟨⟨nI p, (al, c), rfl, ⟨rfl, ⟨⟨u0, (gUB_p hB1 hp (fun i h1 h2 h3 h4 h5 => (hfc i (by omega)).trans (congrFun hc0 i)) (fun i h1 h2 h3 h4 => (hfa i (by omega)).trans (congrFun hal0 i)) b2 e_2), (gUB_p hB2 hp (fun i h1 h2 h3 h4 h5 => (hfc i (by omega)).trans (congrFun hc0 i)) (fun i h1 h2 h3 h4 => (hfa i (by omega)).trans (congrFun hal0 i)) d2 e_5), gUF_o hUF (by omega) (fun f hf => hns f (by omega)) (fun i h1 => (hfc i (by omega)).trans (congrFun hc0 i)) (fun i h1 => (hfa i (by omega)).trans (congrFun hal0 i)), ((hfc 999 (by omega)).trans ((congrFun hc0 999).trans u9))⟩, ((hfa 0 (by omega)).trans (congrFun hal0 0))⟩⟩, g_end htz hP⟩, hS.F htz⟩) hS.2.2 dX7_pump_89
set_option maxHeartbeats 4000000 in
set_option maxRecDepth 100000 in
theorem kX2_init (l : Launch) (G : gT) (al : Nat → Nat) (c : mC) (f : Nat) (hf : f < 2) (e1 : c (10 + f) = some (.inr (3, [.null]))) : Met l yX2_init (fW yX2_init cX2_init 1 none) { frames := 4, cells := 1, slots := 3, locals := 72 } (gPre G al (c) [.ref (al (10 + f))]) (gQvp (S := (Nat → Nat) × mC) G (fun u => u.2 (10 + f) = some (.inr (3, [.ref (u.1 (12 + f))])) ∧ gLs G u.1 u.2 (12 + f) (14 + f) 0 (fun s => 20 + (3 * f + s)) ∧ (∀ i, (i ≠ 10 + f ∧ i ≠ 12 + f) → u.2 i = c i) ∧ ∀ i, (i ≠ 12 + f) → u.1 i = al i) (fun u => u.1) (fun u => u.2)) 1 3 (gA G) := by
  refine Met.ofW (cc := cX2_init) (maxL := 1) (ret := none) (by decide) rfl ?_
  intro pz ez s m args below meth c₀ s₁ Bo hml hv
  obtain ⟨rfl, hb0, hP, hE⟩ := hv
  have hx := Bo.exec
  have hb := Bo.bytes
  have hr := Bo.returns
  have hts0 := atoms_spec (ws := (fW yX2_init cX2_init 1 none)) Bo.pre
  have hts : ∀ w ∈ fA, w.before _ s = true := fun w h => hts0 w (List.mem_cons_of_mem _ h)
  have hown : s.vm.findClass RX2 = some m.cls := findClass_of_methodNamed Bo.named
  have hlocks := Bo.notSynchronized
  have hin : meth.name = "<init>" := (name_of_methodNamed Bo.named Bo.method).1
  have hl := lv_entry ([.ref (al (10 + f))]) (n := 1) (Nat.le_of_ble_eq_true rfl)
  rw [lg_entry_eq]
  generalize (lg_sl ([.ref (al (10 + f))]) ++ List.replicate (1 - (lg_sl ([.ref (al (10 + f))])).length) Slot.unset).toArray = ls at hl ⊢
  have hl : lv_has ls 1 [(0, .ref (al (10 + f)))] := hl
  obtain ⟨al0, hal0⟩ : ∃ z, z = al := ⟨_, rfl⟩
  obtain ⟨c0, hc0⟩ : ∃ z, z = c := ⟨_, rfl⟩
  have hfc : ∀ i, (i ≠ 10 + f ∧ i ≠ 12 + f) → c i = c0 i := fun i _ => by rw [hc0]
  have hfa : ∀ i, (i ≠ 12 + f) → al i = al0 i := fun i _ => by rw [hal0]
  generalize (#[.ref (al (10 + f))] : Array Value) = ar9 at hts ⊢
  refine g_start hP (fun H hP hS => ?_)
  refine lv_aload_n hx hb dX2_init_0 rfl (lv_at hl 0 rfl) ?_
  refine W.objInit hx hb hown (hts _ q76) (hts _ q2) (hts _ q3) rfl (by rw [hml]; exact hl.1) rfl dX2_init_1 (Nat.le_of_ble_eq_true rfl) (Nat.le_of_ble_eq_true rfl) ?_
  refine W.eq (g2 := F0 m 4 ls []) rfl ?_
  refine lv_aload_n hx hb dX2_init_4 rfl (lv_at hl 0 rfl) ?_
  refine m_new (12 + f) (ci := 0) (fs := [.int 0, .null, .int 0]) (C := RJx4a65c) (T := TJx4a65c) (N := 3) hx hb hts uJx4a65c tyJx4a65c tyJx4a65c_ok hown (hts _ q77) (hts _ q78) (hts _ q50) hE hb0 hP hS rfl (fun j hj => by rcases f_lt3 hj with rfl | rfl | rfl <;> rfl) (Nat.le_of_ble_eq_true rfl) (Nat.le_of_ble_eq_true rfl) dX2_init_5 (fun n_1 H hP hS => ?_)
  have hP : mP G (va_up al (12 + f) n_1) (up c (12 + f) (.inr (0, [.int 0, .null, .int 0]))) H := hP
  have hax0 : ∀ x, x ≠ 12 + f → va_up al (12 + f) n_1 x = al x := fun x hx => au_n _ _ hx
  have has0 : va_up al (12 + f) n_1 (12 + f) = n_1 := au_s _ _ _
  obtain ⟨al, hau⟩ : ∃ z, z = va_up al (12 + f) n_1 := ⟨_, rfl⟩
  rw [← hau] at hax0 has0 hP
  have hcx0 : ∀ x, x ≠ 12 + f → (up c (12 + f) (.inr (0, [.int 0, .null, .int 0]))) x = c x := fun x hx => up_n _ _ hx
  have hcs0 : (up c (12 + f) (.inr (0, [.int 0, .null, .int 0]))) (12 + f) = some (.inr (0, [.int 0, .null, .int 0])) := up_s _ _ _
  obtain ⟨c, hcu⟩ : ∃ z, z = up c (12 + f) (.inr (0, [.int 0, .null, .int 0])) := ⟨_, rfl⟩
  rw [← hcu] at hcx0 hcs0 hP
  have e1 : c (10 + f) = some (.inr (3, [.null])) := by rw [hcx0 (10 + f) (by omega)]; exact e1
  have hfc : ∀ i, (i ≠ 10 + f ∧ i ≠ 12 + f) → c i = c0 i := fun i hi => (hcx0 i (by omega)).trans (hfc i hi)
  have hfa : ∀ i, (i ≠ 12 + f) → al i = al0 i := fun i hi => (hax0 i (by omega)).trans (hfa i hi)
  have e_2 : c (12 + f) = some (.inr (0, [.int 0, .null, .int 0])) := hcs0
  rw [← has0]
  have hl : lv_has ls 1 [(0, .ref (al (10 + f)))] := by rw [hax0 (10 + f) (by omega)]; exact hl
  rw [← hax0 (10 + f) (by omega)]
  refine lv_dup hx hb dX2_init_8 rfl ?_
  refine g_aft_v (g_runI (As := []) (rest := [.ref (al (12 + f)), .ref (al (10 + f))]) hx hb hml hown hts (kJx4a65c_init_da8c8 l G al c (12 + f) e_2) (fcwI 0 hts q80 q81 q50 q70 rfl rfl rfl (by decide +kernel) ⟨(Nat.le_of_ble_eq_true rfl), (Nat.le_of_ble_eq_true rfl)⟩) hE hb0 hP hS rfl hl.1 rfl (Nat.le_of_ble_eq_true rfl) dX2_init_9 ⟨(Nat.le_of_ble_eq_true rfl), (Nat.le_of_ble_eq_true rfl)⟩) hS (fun u H locs hP hS => ?_)
  have hP : mP G al (up c (12 + f) (.inr (0, [.int 0, .ref (gEm G), .int 0]))) H := hP
  have hcx0 : ∀ x, x ≠ 12 + f → (up c (12 + f) (.inr (0, [.int 0, .ref (gEm G), .int 0]))) x = c x := fun x hx => up_n _ _ hx
  have hcs0 : (up c (12 + f) (.inr (0, [.int 0, .ref (gEm G), .int 0]))) (12 + f) = some (.inr (0, [.int 0, .ref (gEm G), .int 0])) := up_s _ _ _
  obtain ⟨c, hcu⟩ : ∃ z, z = up c (12 + f) (.inr (0, [.int 0, .ref (gEm G), .int 0])) := ⟨_, rfl⟩
  rw [← hcu] at hcx0 hcs0 hP
  have e1 : c (10 + f) = some (.inr (3, [.null])) := by rw [hcx0 (10 + f) (by omega)]; exact e1
  have hfc : ∀ i, (i ≠ 10 + f ∧ i ≠ 12 + f) → c i = c0 i := fun i hi => (hcx0 i (by omega)).trans (hfc i hi)
  have e_2 : c (12 + f) = some (.inr (0, [.int 0, .ref (gEm G), .int 0])) := hcs0
  have l_3 : gLs G al c (12 + f) (14 + f) 0 (fun i => i) := Or.inl ⟨rfl, _, e_2⟩
  refine m_putF (v := .ref (al (12 + f))) (ty := .object "java/util/ArrayList") (C := RX2) (T := TX2) (N := 1) (ci := 3) hx hb hts uX2 tyX2 tyX2_ok nmX2 hown hE hP hS (10 + f) rfl e1 rfl 0 (by decide) (hts _ q79) (fun _ h9 => h9) rfl hin rfl (by decide +kernel) rfl rfl (Nat.le_of_ble_eq_true rfl) dX2_init_12 (fun H locs hP hS => ?_)
  have hP : mP G al (up c (10 + f) (.inr (3, [.ref (al (12 + f))]))) H := hP
  have hcx0 : ∀ x, x ≠ 10 + f → (up c (10 + f) (.inr (3, [.ref (al (12 + f))]))) x = c x := fun x hx => up_n _ _ hx
  have hcs0 : (up c (10 + f) (.inr (3, [.ref (al (12 + f))]))) (10 + f) = some (.inr (3, [.ref (al (12 + f))])) := up_s _ _ _
  obtain ⟨c, hcu⟩ : ∃ z, z = up c (10 + f) (.inr (3, [.ref (al (12 + f))])) := ⟨_, rfl⟩
  rw [← hcu] at hcx0 hcs0 hP
  have l_3 : gLs G al c (12 + f) (14 + f) 0 (fun i => i) := (gLs_cv l_3 (hcx0 _ (by omega)) (hcx0 _ (by omega)))
  have hfc : ∀ i, (i ≠ 10 + f ∧ i ≠ 12 + f) → c i = c0 i := fun i hi => (hcx0 i (by omega)).trans (hfc i hi)
  have e1 : c (10 + f) = some (.inr (3, [.ref (al (12 + f))])) := hcs0
  refine W.widen (k := 1) (n := 3) (Nat.le_of_ble_eq_true rfl) (Nat.le_of_ble_eq_true rfl) ?_
  exact W.vret hx hb hr (fun tz htz hW => ⟨⟨(al, c), rfl, ⟨e1, gLs_al l_3 rfl (fun i hi => absurd hi (by omega)), fun i hi => (hfc i hi).trans (congrFun hc0 i), fun i hi => (hfa i hi).trans (congrFun hal0 i)⟩, g_end htz hP⟩, hS.F htz⟩) hS.2.2 dX2_init_15
set_option maxHeartbeats 4000000 in
set_option maxRecDepth 100000 in
theorem kX7_figure (l : Launch) (G : gT) (al : Nat → Nat) (c : mC) (k : gC) (w : Nat → Nat → Int32) (ns : Nat → Nat) (np : Nat) (nf : Nat) (hU : gU G al k w np nf 0 ns c) (hnp : np ≤ 2) (hf : nf < 2) (hz : ∀ f, ns f = 0) : Met l yX7_figure (fW yX7_figure cX7_figure 2 (some .int)) { frames := 7, cells := 3, slots := 26, locals := 149 } (gPre G al (c) [.ref (al 0)]) (gQip (S := (Nat → Nat) × mC) G (fun u => gU G u.1 k w np (nf + 1) 0 ns u.2 ∧ u.1 0 = al 0) (fun u => nI nf) (fun u => u.1) (fun u => u.2)) 3 26 (gA G) := by
  refine Met.ofW (cc := cX7_figure) (maxL := 2) (ret := (some .int)) (by decide) rfl ?_
  intro pz ez s m args below meth c₀ s₁ Bo hml hv
  obtain ⟨rfl, hb0, hP, hE⟩ := hv
  have hx := Bo.exec
  have hb := Bo.bytes
  have hr := Bo.returns
  have hts0 := atoms_spec (ws := (fW yX7_figure cX7_figure 2 (some .int))) Bo.pre
  have hts : ∀ w ∈ fA, w.before _ s = true := fun w h => hts0 w (List.mem_cons_of_mem _ h)
  have hown : s.vm.findClass RX7 = some m.cls := findClass_of_methodNamed Bo.named
  have hlocks := Bo.notSynchronized
  have hl := lv_entry ([.ref (al 0)]) (n := 2) (Nat.le_of_ble_eq_true rfl)
  rw [lg_entry_eq]
  generalize (lg_sl ([.ref (al 0)]) ++ List.replicate (2 - (lg_sl ([.ref (al 0)])).length) Slot.unset).toArray = ls at hl ⊢
  have hl : lv_has ls 2 [(0, .ref (al 0))] := hl
  have hU9 := hU
  obtain ⟨u0, hB1, hB2, hUF, u9⟩ := hU9
  have hB19 := hB1
  have hB29 := hB2
  obtain ⟨b1, b2, b3, -, -, -, b7, -⟩ := hB19
  obtain ⟨d1, d2, d3, -, -, -, d7, -⟩ := hB29
  have f1 := hUF.1
  obtain ⟨al0, hal0⟩ : ∃ z, z = al := ⟨_, rfl⟩
  obtain ⟨c0, hc0⟩ : ∃ z, z = c := ⟨_, rfl⟩
  have hfc : ∀ i, (i ≠ 1 ∧ i ≠ 2 ∧ i ≠ 10 + nf ∧ i ≠ 12 + nf ∧ i ≠ 14 + nf) → c i = c0 i := fun i _ => by rw [hc0]
  have hfa : ∀ i, (i ≠ 2 ∧ i ≠ 10 + nf ∧ i ≠ 12 + nf ∧ i ≠ 14 + nf) → al i = al0 i := fun i _ => by rw [hal0]
  generalize (#[.ref (al 0)] : Array Value) = ar9 at hts ⊢
  refine g_start hP (fun H hP hS => ?_)
  refine lv_aload_n hx hb dX7_figure_0 rfl (lv_at hl 0 rfl) ?_
  refine m_get (C := RX7) (T := TX7) (N := 3) (ci := 8) (v := .ref (al 1)) hx hb hts uX7 hown hE hP 0 rfl u0 rfl 0 (by decide) (hts _ q365) (fun _ h9 => h9) rfl dX7_figure_1 ?_
  refine g_aft_i (g_runV (As := []) (rest := []) hx hb hml hown hts (kJx4a65c_size_8abf5 l G al c 1 2 nf (fun z => 10 + z) f1) (fcwV 0 hts q380 q53 q54 q50 q34 rfl rfl (by decide +kernel) ⟨(Nat.le_of_ble_eq_true rfl), (Nat.le_of_ble_eq_true rfl)⟩) hE hb0 hP hS (m_recvL hE hP f1 rfl) rfl hl.1 rfl (Nat.le_of_ble_eq_true rfl) dX7_figure_4 ⟨(Nat.le_of_ble_eq_true rfl), (Nat.le_of_ble_eq_true rfl)⟩) hS (fun u H locs hP hS => ?_)
  refine f_topi (v := nI nf) rfl ?_
  refine lv_istore_n (lv' := [(1, .int (nI nf)), (0, .ref (al 0))]) hx hb dX7_figure_7 rfl hl (by decide) rfl (fun ls hl => ?_)
  refine lv_iload_n hx hb dX7_figure_8 rfl (lv_at hl 0 rfl) ?_
  refine lv_iconst (v := 5) hx hb dX7_figure_9 (by decide) ?_
  refine lv_icmp_lt (tgt := 23) hx hb dX7_figure_10 (by decide) (fun _ => ?_) (fun h => absurd (nI_lt (b := 5) (by omega) (by omega)) h)
  refine lv_aload_n hx hb dX7_figure_23 rfl (lv_at hl 1 rfl) ?_
  refine m_get (C := RX7) (T := TX7) (N := 3) (ci := 8) (v := .ref (al 1)) hx hb hts uX7 hown hE hP 0 rfl u0 rfl 0 (by decide) (hts _ q365) (fun _ h9 => h9) rfl dX7_figure_24 ?_
  refine m_new (10 + nf) (ci := 3) (fs := [.null]) (C := RX2) (T := TX2) (N := 1) hx hb hts uX2 tyX2 tyX2_ok hown (hts _ q403) (hts _ q399) (hts _ q400) hE hb0 hP hS rfl (fun j hj => by rcases f_lt1 hj with rfl <;> rfl) (Nat.le_of_ble_eq_true rfl) (Nat.le_of_ble_eq_true rfl) dX7_figure_27 (fun n_1 H hP hS => ?_)
  have hP : mP G (va_up al (10 + nf) n_1) (up c (10 + nf) (.inr (3, [.null]))) H := hP
  have hax0 : ∀ x, x ≠ 10 + nf → va_up al (10 + nf) n_1 x = al x := fun x hx => au_n _ _ hx
  have has0 : va_up al (10 + nf) n_1 (10 + nf) = n_1 := au_s _ _ _
  obtain ⟨al, hau⟩ : ∃ z, z = va_up al (10 + nf) n_1 := ⟨_, rfl⟩
  rw [← hau] at hax0 has0 hP
  have hcx0 : ∀ x, x ≠ 10 + nf → (up c (10 + nf) (.inr (3, [.null]))) x = c x := fun x hx => up_n _ _ hx
  have hcs0 : (up c (10 + nf) (.inr (3, [.null]))) (10 + nf) = some (.inr (3, [.null])) := up_s _ _ _
  obtain ⟨c, hcu⟩ : ∃ z, z = up c (10 + nf) (.inr (3, [.null])) := ⟨_, rfl⟩
  rw [← hcu] at hcx0 hcs0 hP
  have u0 : c 0 = some (.inr (8, [.ref (al 1), .ref (al 100), .ref (al 200)])) := by rw [hcx0 0 (by omega), hax0 1 (by omega), hax0 100 (by omega), hax0 200 (by omega)]; exact u0
  have b1 : c 100 = some (.inr (6, [.ref (al (100 + 1)), .ref (al (100 + 3)), .ref (al (100 + 5)), .ref (al (100 + 7)), .int 0, .int 3000, .int 0, .int 0, .int 0, .int 0, .int 0, .int 0, .int 0, .int 0, .int 0])) := by rw [hcx0 100 (by omega), hax0 (100 + 1) (by omega), hax0 (100 + 3) (by omega), hax0 (100 + 5) (by omega), hax0 (100 + 7) (by omega)]; exact b1
  have d1 : c 200 = some (.inr (6, [.ref (al (200 + 1)), .ref (al (200 + 3)), .ref (al (200 + 5)), .ref (al (200 + 7)), .int 0, .int 3000, .int 0, .int 0, .int 0, .int 0, .int 0, .int 0, .int 0, .int 0, .int 0])) := by rw [hcx0 200 (by omega), hax0 (200 + 1) (by omega), hax0 (200 + 3) (by omega), hax0 (200 + 5) (by omega), hax0 (200 + 7) (by omega)]; exact d1
  have f1 : gLs G al c 1 2 nf (fun z => 10 + z) := (gLs_al (gLs_cv f1 (hcx0 _ (by omega)) (hcx0 _ (by omega))) (hax0 _ (by omega)) (fun z hz => hax0 _ (by show 10 + z ≠ 10 + nf; omega)))
  have hfc : ∀ i, (i ≠ 1 ∧ i ≠ 2 ∧ i ≠ 10 + nf ∧ i ≠ 12 + nf ∧ i ≠ 14 + nf) → c i = c0 i := fun i hi => (hcx0 i (by omega)).trans (hfc i hi)
  have hfa : ∀ i, (i ≠ 2 ∧ i ≠ 10 + nf ∧ i ≠ 12 + nf ∧ i ≠ 14 + nf) → al i = al0 i := fun i hi => (hax0 i (by omega)).trans (hfa i hi)
  have e_2 : c (10 + nf) = some (.inr (3, [.null])) := hcs0
  rw [← has0]
  have hl : lv_has ls 2 [(1, .int (nI nf)), (0, .ref (al 0))] := by rw [hax0 0 (by omega)]; exact hl
  rw [← hax0 1 (by omega)]
  refine lv_dup hx hb dX7_figure_30 rfl ?_
  refine g_aft_vp (g_runIN (As := []) (rest := [.ref (al (10 + nf)), .ref (al 1)]) hx hb hml hown hts (kX2_init l G al c nf hf e_2) (fcwIN 0 hts (hE.1.1.2.2.2.2.1 (RX7, 73, yX2_init, RX7) (by decide +kernel)) q401 q400 q75 rfl rfl rfl (by decide +kernel) ⟨(Nat.le_of_ble_eq_true rfl), (Nat.le_of_ble_eq_true rfl)⟩) hE hb0 hP hS rfl hl.1 rfl (Nat.le_of_ble_eq_true rfl) dX7_figure_31 ⟨(Nat.le_of_ble_eq_true rfl), (Nat.le_of_ble_eq_true rfl)⟩) hS (fun u_3 H locs hu_3 hP hS => ?_)
  obtain ⟨al, c⟩ := u_3
  have hP : mP G al c H := hP
  obtain ⟨e_4, l_5, hcx9, hax9⟩ := hu_3
  dsimp only at e_4 l_5 hcx9 hax9
  have hcx0 := fun x (h0 : x ≠ 10 + nf) (h1 : x ≠ 12 + nf) => hcx9 x ⟨h0, h1⟩
  have hax0 := fun x (h0 : x ≠ 12 + nf) => hax9 x h0
  have u0 : c 0 = some (.inr (8, [.ref (al 1), .ref (al 100), .ref (al 200)])) := by rw [hcx0 0 (by omega) (by omega), hax0 1 (by omega), hax0 100 (by omega), hax0 200 (by omega)]; exact u0
  have b1 : c 100 = some (.inr (6, [.ref (al (100 + 1)), .ref (al (100 + 3)), .ref (al (100 + 5)), .ref (al (100 + 7)), .int 0, .int 3000, .int 0, .int 0, .int 0, .int 0, .int 0, .int 0, .int 0, .int 0, .int 0])) := by rw [hcx0 100 (by omega) (by omega), hax0 (100 + 1) (by omega), hax0 (100 + 3) (by omega), hax0 (100 + 5) (by omega), hax0 (100 + 7) (by omega)]; exact b1
  have d1 : c 200 = some (.inr (6, [.ref (al (200 + 1)), .ref (al (200 + 3)), .ref (al (200 + 5)), .ref (al (200 + 7)), .int 0, .int 3000, .int 0, .int 0, .int 0, .int 0, .int 0, .int 0, .int 0, .int 0, .int 0])) := by rw [hcx0 200 (by omega) (by omega), hax0 (200 + 1) (by omega), hax0 (200 + 3) (by omega), hax0 (200 + 5) (by omega), hax0 (200 + 7) (by omega)]; exact d1
  have f1 : gLs G al c 1 2 nf (fun z => 10 + z) := (gLs_al (gLs_cv f1 (hcx0 _ (by omega) (by omega)) (hcx0 _ (by omega) (by omega))) (hax0 _ (by omega)) (fun z hz => hax0 _ (by show 10 + z ≠ 12 + nf; omega)))
  have hfc : ∀ i, (i ≠ 1 ∧ i ≠ 2 ∧ i ≠ 10 + nf ∧ i ≠ 12 + nf ∧ i ≠ 14 + nf) → c i = c0 i := fun i hi => (hcx0 i (by omega) (by omega)).trans (hfc i hi)
  have hfa : ∀ i, (i ≠ 2 ∧ i ≠ 10 + nf ∧ i ≠ 12 + nf ∧ i ≠ 14 + nf) → al i = al0 i := fun i hi => (hax0 i (by omega)).trans (hfa i hi)
  have hl : lv_has ls 2 [(1, .int (nI nf)), (0, .ref (al 0))] := by rw [hax0 0 (by omega)]; exact hl
  rw [← hax0 1 (by omega)]
  rw [← hax0 (10 + nf) (by omega)]
  refine g_aft_ip (g_runV (As := [.ref (al (10 + nf))]) (rest := []) hx hb hml hown hts (kJx4a65c_add_9ea2d l G al c 1 2 nf (fun z => 10 + z) (10 + nf) 3 ([.ref (al (12 + nf))]) _ f1 e_4 rfl (by decide +kernel) (by omega) (by omega) (by decide) (by omega) (fun i hi => by show 10 + i ≠ 2; omega) (fun i hi => by show 10 + i ≠ 1; omega) (Or.inl (by omega))) (fcwV 1 hts q383 q132 q133 q50 q127 rfl rfl (by decide +kernel) ⟨(Nat.le_of_ble_eq_true rfl), (Nat.le_of_ble_eq_true rfl)⟩) hE hb0 hP hS (m_recvL hE hP f1 rfl) rfl hl.1 rfl (Nat.le_of_ble_eq_true rfl) dX7_figure_34 ⟨(Nat.le_of_ble_eq_true rfl), (Nat.le_of_ble_eq_true rfl)⟩) hS (fun u_6 H locs hu_6 hP hS => ?_)
  obtain ⟨al, c⟩ := u_6
  have hP : mP G al c H := hP
  obtain ⟨hL9, hcx0, hax0⟩ := hu_6
  dsimp only at hL9 hcx0 hax0
  have u0 : c 0 = some (.inr (8, [.ref (al 1), .ref (al 100), .ref (al 200)])) := by rw [hcx0 0 (by decide) (by decide), hax0 1 (by decide), hax0 100 (by decide), hax0 200 (by decide)]; exact u0
  have b1 : c 100 = some (.inr (6, [.ref (al (100 + 1)), .ref (al (100 + 3)), .ref (al (100 + 5)), .ref (al (100 + 7)), .int 0, .int 3000, .int 0, .int 0, .int 0, .int 0, .int 0, .int 0, .int 0, .int 0, .int 0])) := by rw [hcx0 100 (by decide) (by decide), hax0 (100 + 1) (by omega), hax0 (100 + 3) (by omega), hax0 (100 + 5) (by omega), hax0 (100 + 7) (by omega)]; exact b1
  have d1 : c 200 = some (.inr (6, [.ref (al (200 + 1)), .ref (al (200 + 3)), .ref (al (200 + 5)), .ref (al (200 + 7)), .int 0, .int 3000, .int 0, .int 0, .int 0, .int 0, .int 0, .int 0, .int 0, .int 0, .int 0])) := by rw [hcx0 200 (by decide) (by decide), hax0 (200 + 1) (by omega), hax0 (200 + 3) (by omega), hax0 (200 + 5) (by omega), hax0 (200 + 7) (by omega)]; exact d1
  have e_4 : c (10 + nf) = some (.inr (3, [.ref (al (12 + nf))])) := by rw [hcx0 (10 + nf) (by omega) (by omega), hax0 (12 + nf) (by omega)]; exact e_4
  have l_5 : gLs G al c (12 + nf) (14 + nf) 0 (fun s => 20 + (3 * nf + s)) := (gLs_al (gLs_cv l_5 (hcx0 _ (by omega) (by omega)) (hcx0 _ (by omega) (by omega))) (hax0 _ (by omega)) (fun s hs => hax0 _ (by show 20 + (3 * nf + s) ≠ 2; omega)))
  have hfc : ∀ i, (i ≠ 1 ∧ i ≠ 2 ∧ i ≠ 10 + nf ∧ i ≠ 12 + nf ∧ i ≠ 14 + nf) → c i = c0 i := fun i hi => (hcx0 i (by omega) (by omega)).trans (hfc i hi)
  have hfa : ∀ i, (i ≠ 2 ∧ i ≠ 10 + nf ∧ i ≠ 12 + nf ∧ i ≠ 14 + nf) → al i = al0 i := fun i hi => (hax0 i (by omega)).trans (hfa i hi)
  have f1 : gLs G al c 1 2 (nf + 1) (fun z => 10 + z) := gLs_al hL9 rfl (fun i hi => congrArg al (congrFun (va_up_id (fun z => 10 + z) nf) i).symm)
  have hl : lv_has ls 2 [(1, .int (nI nf)), (0, .ref (al 0))] := by rw [hax0 0 (by decide)]; exact hl
  refine f_topi (v := 1) rfl ?_
  refine lv_pop hx hb dX7_figure_37 rfl ?_
  refine lv_iload_n hx hb dX7_figure_38 rfl (lv_at hl 0 rfl) ?_
  refine W.widen (k := 3) (n := 26) (Nat.le_of_ble_eq_true rfl) (Nat.le_of_ble_eq_true rfl) ?_
  exact W.iret (v := nI nf) hx hb hr (fun tz htz hW => ⟨⟨nI nf, (al, c), rfl, ⟨rfl, ⟨⟨u0, gUB_o hB1 hnp (by decide) (fun j hj => absurd hj (by omega)) (fun i h1 h2 => (hfc i (by omega)).trans (congrFun hc0 i)) (fun i h1 h2 => (hfa i (by omega)).trans (congrFun hal0 i)), gUB_o hB2 hnp (by decide) (fun j hj => absurd hj (by omega)) (fun i h1 h2 => (hfc i (by omega)).trans (congrFun hc0 i)) (fun i h1 h2 => (hfa i (by omega)).trans (congrFun hal0 i)), gUF_f hUF hf hz (fun i h1 h2 h3 h4 h5 h6 => (hfc i (by omega)).trans (congrFun hc0 i)) (fun i h1 h2 h3 h4 h5 => (hfa i (by omega)).trans (congrFun hal0 i)) f1 e_4 l_5, ((hfc 999 (by omega)).trans ((congrFun hc0 999).trans u9))⟩, ((hfa 0 (by omega)).trans (congrFun hal0 0))⟩⟩, g_end htz hP⟩, hS.F htz⟩) hS.2.2 dX7_figure_39
