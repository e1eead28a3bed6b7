set_option maxHeartbeats 4000000 in
set_option maxRecDepth 100000 in
theorem kX7_call (l : Launch) (G : gT) (al : Nat → Nat) (k : gC) (h : gK) (c : mC) (g : St) (t : St) (f : Nat) (sh : Nat) (hX : gX G al k h c) (hf : f < 2) (hs : sh < 10) (hh20 : h.1 < 20) : Met l yX7_call (fW yX7_call cX7_call 6 (some .int)) { frames := 8, cells := 7, slots := 116, locals := 171 } (gPre G al (w2 G al k c g t) [.ref (al 0), .int (nI f), .int (nI sh)]) (gQip (S := (Nat → Nat) × mC) G (fun u => gX G u.1 k (mCall h f sh (g 0 4)) u.2 ∧ (∀ i, 400 ≤ i → u.2 i = c i) ∧ ∀ i, i < 100 ∨ 400 ≤ i → u.1 i = al i) (fun u => nI h.1) (fun u => u.1) (fun u => w2 G u.1 k u.2 g t)) 7 116 (gA G) := by
  refine Met.ofW (cc := cX7_call) (maxL := 6) (ret := (some .int)) (by decide) rfl ?_
  intro pz ez s m args below meth c₀ s₁ Bo hml hv
  obtain ⟨rfl, hb0, hP, hE⟩ := hv
  have hx := Bo.exec
  have hb := Bo.bytes
  have hr := Bo.returns
  have hts0 := atoms_spec (ws := (fW yX7_call cX7_call 6 (some .int))) Bo.pre
  have hts : ∀ w ∈ fA, w.before _ s = true := fun w h => hts0 w (List.mem_cons_of_mem _ h)
  have hown : s.vm.findClass RX7 = some m.cls := findClass_of_methodNamed Bo.named
  have hlocks := Bo.notSynchronized
  have hl := lv_entry ([.ref (al 0), .int (nI f), .int (nI sh)]) (n := 6) (Nat.le_of_ble_eq_true rfl)
  rw [lg_entry_eq]
  generalize (lg_sl ([.ref (al 0), .int (nI f), .int (nI sh)]) ++ List.replicate (6 - (lg_sl ([.ref (al 0), .int (nI f), .int (nI sh)])).length) Slot.unset).toArray = ls at hl ⊢
  have hl : lv_has ls 6 [(0, .ref (al 0)), (1, .int (nI f)), (2, .int (nI sh))] := hl
  have hJ := gX_J hX
  refine g_start hP (fun H hP hS => ?_)
  refine lv_aload_n hx hb dX7_call_0 rfl (lv_at hl 0 rfl) ?_
  refine lv_iload_n hx hb dX7_call_1 rfl (lv_at hl 1 rfl) ?_
  refine g_aft_r (g_runV (As := [.int (nI f)]) (rest := []) hx hb hml hown hts (kX7_figureNumbered l G al k h c g t f hX hf) (fcwV 1 hts q409 q410 q411 q148 q404 rfl rfl (by decide +kernel) ⟨(Nat.le_of_ble_eq_true rfl), (Nat.le_of_ble_eq_true rfl)⟩) hE hb0 hP hS (m_recvA hE hP 0 rfl (gX_0 hX) rfl) rfl hl.1 rfl (Nat.le_of_ble_eq_true rfl) dX7_call_2 ⟨(Nat.le_of_ble_eq_true rfl), (Nat.le_of_ble_eq_true rfl)⟩) hS (fun u H locs hP hS => ?_)
  have hP : mP G al (w2 G al k c g t) H := hP
  refine g_topr (v := al (10 + f)) rfl ?_
  refine lv_astore_n (lv' := [(3, .ref (al (10 + f))), (0, .ref (al 0)), (1, .int (nI f)), (2, .int (nI sh))]) hx hb dX7_call_5 rfl hl (by decide) rfl (fun ls hl => ?_)
  refine lv_iload_n hx hb dX7_call_6 rfl (lv_at hl 3 rfl) ?_
  refine lv_if_lt (tgt := 16) hx hb dX7_call_7 (by decide) (fun h => absurd h (nI_pos (by omega))) (fun _ => ?_)
  refine lv_iload_n hx hb dX7_call_10 rfl (lv_at hl 3 rfl) ?_
  refine lv_bipush (v := 9) hx hb dX7_call_11 (by decide) ?_
  refine lv_icmp_le (tgt := 26) hx hb dX7_call_13 (by decide) (fun _ => ?_) (fun h => absurd (nI_le (b := 9) (by omega) (by omega)) h)
  obtain ⟨cO, hcO⟩ : ∃ z, z = c := ⟨_, rfl⟩
  have hst : ∀ q, q < 6 → (w2 G al k c g t) (20 + q) = some (.inr (7, [.int (h.2.2.2.2 q 0), .int (h.2.2.2.2 q 1), .int (h.2.2.2.2 q 2)])) := (gH_ov (g := t) (gH_o1 (g := g) (gX_4 hX) hJ) (Or.inr rfl) hJ).2.2.2
  have e19 : (w2 G al k c g t) 0 = some (.inr (8, [.ref (al 1), .ref (al 100), .ref (al 200)])) := (gX_0 hX)
  have e29 : (w2 G al k c g t) 100 = some (.inr (6, [.ref (al (100 + 1)), .ref (al (100 + 3)), .ref (al (100 + 5)), .ref (al (100 + 7)), .int (g 0 4), .int (g 0 5), .int (g 0 6), .int (g 0 7), .int (g 0 8), .int (g 0 9), .int (g 0 10), .int (g 0 11), .int (g 0 12), .int (g 0 13), .int (bz (g 0 14))])) := ((congrFun (w2_c hJ) _).trans ov_s)
  have e39 : (w2 G al k c g t) 200 = some (.inr (6, [.ref (al (200 + 1)), .ref (al (200 + 3)), .ref (al (200 + 5)), .ref (al (200 + 7)), .int (t 0 4), .int (t 0 5), .int (t 0 6), .int (t 0 7), .int (t 0 8), .int (t 0 9), .int (t 0 10), .int (t 0 11), .int (t 0 12), .int (t 0 13), .int (bz (t 0 14))])) := ov_s
  have e49 : (w2 G al k c g t) (10 + f) = some (.inr (3, [.ref (al (12 + f))])) := (gX_f hX hf)
  have l09 : gLs G al (w2 G al k c g t) (12 + f) (14 + f) 3 (fun s => 20 + (3 * f + s)) := (gX_s hX hf)
  have l19 : gLs G al (w2 G al k c g t) (100 + 5) (100 + 6) h.1 (fun i => 300 + 3 * i) := ((w2_c (G := G) (al := al) (c := c) (g := g) (t := t) hJ) ▸ (gH_ov (gH_o2 (gX_3 hX) hJ) (Or.inl rfl) hJ).1 : gLs G al (w2 G al k c g t) (100 + 5) (100 + 6) h.1 (fun i => 300 + 3 * i))
  have l29 : gLs G al (w2 G al k c g t) (200 + 5) (200 + 6) h.1 (fun i => 300 + 3 * i) := (gH_ov (gH_o1 (gX_4 hX) hJ) (Or.inr rfl) hJ).1
  have hca : ∀ i, i < h.1 → ∃ vs, (w2 G al k c g t) (300 + 3 * i) = some (.inr (2, vs)) := fun i hi => ⟨_, ((gH_ov (g := t) (gH_o1 (g := g) (gX_4 hX) hJ) (Or.inr rfl) hJ).2.2.1 i hi).2.2.1⟩
  have hn9 : (w2 G al k c g t) 999 = none := (w2_hi hJ (by decide)).trans hX.2.2.2.2.2.2.2
  obtain ⟨c, hcw⟩ : ∃ z, z = w2 G al k c g t := ⟨_, rfl⟩
  rw [← hcw] at hst hca hn9 hP e19 e29 e39 e49 l09 l19 l29
  obtain ⟨al0, hal0⟩ : ∃ z, z = al := ⟨_, rfl⟩
  obtain ⟨c0, hc0⟩ : ∃ z, z = c := ⟨_, rfl⟩
  have hfc : ∀ i, (i ≠ 300 + 3 * h.1 ∧ i ≠ 300 + 3 * h.1 + 1 ∧ i ≠ 300 + 3 * h.1 + 2 ∧ i ≠ 100 + 5 ∧ i ≠ 100 + 6 ∧ i ≠ 200 + 5 ∧ i ≠ 200 + 6) → c i = c0 i := fun i _ => by rw [hc0]
  have hfa : ∀ i, (i ≠ 300 + 3 * h.1 ∧ i ≠ 300 + 3 * h.1 + 1 ∧ i ≠ 300 + 3 * h.1 + 2 ∧ i ≠ 100 + 6 ∧ i ≠ 200 + 6) → al i = al0 i := fun i _ => by rw [hal0]
  refine lv_aload_n hx hb dX7_call_26 rfl (lv_at hl 1 rfl) ?_
  refine m_get (C := RX7) (T := TX7) (N := 3) (ci := 8) (v := .ref (al 100)) hx hb hts uX7 hown hE hP 0 rfl e19 rfl 1 (by decide) (hts _ q368) (fun _ h9 => h9) rfl dX7_call_27 ?_
  refine m_get (C := RX5) (T := TX5) (N := 15) (ci := 6) (v := .ref (al (100 + 5))) hx hb hts uX5 hown hE hP 100 rfl e29 rfl 2 (by decide) (hts _ q446) (fun _ h9 => h9) rfl dX7_call_30 ?_
  refine g_aft_i (g_runV (As := []) (rest := []) hx hb hml hown hts (kJx4a65c_size_8abf5 l G al c (100 + 5) (100 + 6) h.1 (fun i => 300 + 3 * i) l19) (fcwV 0 hts q380 q53 q54 q50 q34 rfl rfl (by decide +kernel) ⟨(Nat.le_of_ble_eq_true rfl), (Nat.le_of_ble_eq_true rfl)⟩) hE hb0 hP hS (m_recvL hE hP l19 rfl) rfl hl.1 rfl (Nat.le_of_ble_eq_true rfl) dX7_call_33 ⟨(Nat.le_of_ble_eq_true rfl), (Nat.le_of_ble_eq_true rfl)⟩) hS (fun u H locs hP hS => ?_)
  refine f_topi (v := nI h.1) rfl ?_
  refine lv_istore (lv' := [(4, .int (nI h.1)), (3, .ref (al (10 + f))), (0, .ref (al 0)), (1, .int (nI f)), (2, .int (nI sh))]) hx hb dX7_call_36 hl (by decide) rfl (fun ls hl => ?_)
  refine lv_iload hx hb dX7_call_38 (lv_at hl 0 rfl) ?_
  refine lv_bipush (v := 20) hx hb dX7_call_40 (by decide) ?_
  refine lv_icmp_lt (tgt := 55) hx hb dX7_call_42 (by decide) (fun _ => ?_) (fun h => absurd (nI_lt (b := 20) hh20 (by omega)) h)
  refine m_new (300 + 3 * h.1) (ci := 2) (fs := [.null, .int 0, .int 0]) (C := RX1) (T := TX1) (N := 3) hx hb hts uX1 tyX1 tyX1_ok hown (hts _ q481) (hts _ q448) (hts _ q61) hE hb0 hP hS rfl (fun j hj => by rcases f_lt3 hj with rfl | rfl | rfl <;> rfl) (Nat.le_of_ble_eq_true rfl) (Nat.le_of_ble_eq_true rfl) dX7_call_55 (fun n_1 H hP hS => ?_)
  have hP : mP G (va_up al (300 + 3 * h.1) n_1) (up c (300 + 3 * h.1) (.inr (2, [.null, .int 0, .int 0]))) H := hP
  have hax0 : ∀ x, x ≠ 300 + 3 * h.1 → va_up al (300 + 3 * h.1) n_1 x = al x := fun x hx => au_n _ _ hx
  have has0 : va_up al (300 + 3 * h.1) n_1 (300 + 3 * h.1) = n_1 := au_s _ _ _
  obtain ⟨al, hau⟩ : ∃ z, z = va_up al (300 + 3 * h.1) n_1 := ⟨_, rfl⟩
  rw [← hau] at hax0 has0 hP
  have hcx0 : ∀ x, x ≠ 300 + 3 * h.1 → (up c (300 + 3 * h.1) (.inr (2, [.null, .int 0, .int 0]))) x = c x := fun x hx => up_n _ _ hx
  have hcs0 : (up c (300 + 3 * h.1) (.inr (2, [.null, .int 0, .int 0]))) (300 + 3 * h.1) = some (.inr (2, [.null, .int 0, .int 0])) := up_s _ _ _
  obtain ⟨c, hcu⟩ : ∃ z, z = up c (300 + 3 * h.1) (.inr (2, [.null, .int 0, .int 0])) := ⟨_, rfl⟩
  rw [← hcu] at hcx0 hcs0 hP
  have e19 : c 0 = some (.inr (8, [.ref (al 1), .ref (al 100), .ref (al 200)])) := by rw [hcx0 0 (by omega), hax0 1 (by omega), hax0 100 (by omega), hax0 200 (by omega)]; exact e19
  have e29 : c 100 = some (.inr (6, [.ref (al (100 + 1)), .ref (al (100 + 3)), .ref (al (100 + 5)), .ref (al (100 + 7)), .int (g 0 4), .int (g 0 5), .int (g 0 6), .int (g 0 7), .int (g 0 8), .int (g 0 9), .int (g 0 10), .int (g 0 11), .int (g 0 12), .int (g 0 13), .int (bz (g 0 14))])) := by rw [hcx0 100 (by omega), hax0 (100 + 1) (by omega), hax0 (100 + 3) (by omega), hax0 (100 + 5) (by omega), hax0 (100 + 7) (by omega)]; exact e29
  have e39 : c 200 = some (.inr (6, [.ref (al (200 + 1)), .ref (al (200 + 3)), .ref (al (200 + 5)), .ref (al (200 + 7)), .int (t 0 4), .int (t 0 5), .int (t 0 6), .int (t 0 7), .int (t 0 8), .int (t 0 9), .int (t 0 10), .int (t 0 11), .int (t 0 12), .int (t 0 13), .int (bz (t 0 14))])) := by rw [hcx0 200 (by omega), hax0 (200 + 1) (by omega), hax0 (200 + 3) (by omega), hax0 (200 + 5) (by omega), hax0 (200 + 7) (by omega)]; exact e39
  have e49 : c (10 + f) = some (.inr (3, [.ref (al (12 + f))])) := by rw [hcx0 (10 + f) (by omega), hax0 (12 + f) (by omega)]; exact e49
  have l09 : gLs G al c (12 + f) (14 + f) 3 (fun s => 20 + (3 * f + s)) := (gLs_al (gLs_cv l09 (hcx0 _ (by omega)) (hcx0 _ (by omega))) (hax0 _ (by omega)) (fun s hs => hax0 _ (by show 20 + (3 * f + s) ≠ 300 + 3 * h.1; omega)))
  have l19 : gLs G al c (100 + 5) (100 + 6) h.1 (fun i => 300 + 3 * i) := (gLs_al (gLs_cv l19 (hcx0 _ (by omega)) (hcx0 _ (by omega))) (hax0 _ (by omega)) (fun i hi => hax0 _ (by show 300 + 3 * i ≠ 300 + 3 * h.1; omega)))
  have l29 : gLs G al c (200 + 5) (200 + 6) h.1 (fun i => 300 + 3 * i) := (gLs_al (gLs_cv l29 (hcx0 _ (by omega)) (hcx0 _ (by omega))) (hax0 _ (by omega)) (fun i hi => hax0 _ (by show 300 + 3 * i ≠ 300 + 3 * h.1; omega)))
  have hst : ∀ q, q < 6 → c (20 + q) = some (.inr (7, [.int (h.2.2.2.2 q 0), .int (h.2.2.2.2 q 1), .int (h.2.2.2.2 q 2)])) := fun q hq => (hcx0 (20 + q) (by omega)).trans (hst q hq)
  have hca : ∀ i, i < h.1 → ∃ vs, c (300 + 3 * i) = some (.inr (2, vs)) := fun i hi => by obtain ⟨vs, h8⟩ := hca i hi; exact ⟨vs, (hcx0 (300 + 3 * i) (by omega)).trans h8⟩
  have hn9 : c 999 = none := (hcx0 999 (by omega)).trans hn9
  have hfc : ∀ i, (i ≠ 300 + 3 * h.1 ∧ i ≠ 300 + 3 * h.1 + 1 ∧ i ≠ 300 + 3 * h.1 + 2 ∧ i ≠ 100 + 5 ∧ i ≠ 100 + 6 ∧ i ≠ 200 + 5 ∧ i ≠ 200 + 6) → c i = c0 i := fun i hi => (hcx0 i (by omega)).trans (hfc i hi)
  have hfa : ∀ i, (i ≠ 300 + 3 * h.1 ∧ i ≠ 300 + 3 * h.1 + 1 ∧ i ≠ 300 + 3 * h.1 + 2 ∧ i ≠ 100 + 6 ∧ i ≠ 200 + 6) → al i = al0 i := fun i hi => (hax0 i (by omega)).trans (hfa i hi)
  have e_2 : c (300 + 3 * h.1) = some (.inr (2, [.null, .int 0, .int 0])) := hcs0
  rw [← has0]
  have hl : lv_has ls 6 [(4, .int (nI h.1)), (3, .ref (al (10 + f))), (0, .ref (al 0)), (1, .int (nI f)), (2, .int (nI sh))] := by rw [hax0 0 (by omega), hax0 (10 + f) (by omega)]; exact hl
  refine lv_dup hx hb dX7_call_58 rfl ?_
  refine lv_aload_n hx hb dX7_call_59 rfl (lv_at hl 1 rfl) ?_
  refine g_aft_rp (g_runV (As := []) (rest := [.ref (al (300 + 3 * h.1)), .ref (al (300 + 3 * h.1))]) hx hb hml hown hts (kX2_stepsNow l G al c f h.1 h.2.2.2.2 hf (by omega) e49 l09 hst) (fcwV 0 hts q450 q451 q452 q400 q134 rfl rfl (by decide +kernel) ⟨(Nat.le_of_ble_eq_true rfl), (Nat.le_of_ble_eq_true rfl)⟩) hE hb0 hP hS (m_recvA hE hP (10 + f) rfl e49 rfl) rfl hl.1 rfl (Nat.le_of_ble_eq_true rfl) dX7_call_60 ⟨(Nat.le_of_ble_eq_true rfl), (Nat.le_of_ble_eq_true rfl)⟩) hS (fun u_3 H locs hu_3 hP hS => ?_)
  obtain ⟨al, c⟩ := u_3
  have hP : mP G al c H := hP
  obtain ⟨hL9, hcx9, hax9⟩ := hu_3
  dsimp only at hL9 hcx9 hax9
  have hcx0 := fun x (h1 : x ≠ 300 + 3 * h.1 + 1) (h2 : x ≠ 300 + 3 * h.1 + 2) => hcx9 x ⟨h1, h2⟩
  have hax0 := fun x (h1 : x ≠ 300 + 3 * h.1 + 1) (h2 : x ≠ 300 + 3 * h.1 + 2) => hax9 x ⟨h1, h2⟩
  have e19 : c 0 = some (.inr (8, [.ref (al 1), .ref (al 100), .ref (al 200)])) := by rw [hcx0 0 (by omega) (by omega), hax0 1 (by omega) (by omega), hax0 100 (by omega) (by omega), hax0 200 (by omega) (by omega)]; exact e19
  have e29 : c 100 = some (.inr (6, [.ref (al (100 + 1)), .ref (al (100 + 3)), .ref (al (100 + 5)), .ref (al (100 + 7)), .int (g 0 4), .int (g 0 5), .int (g 0 6), .int (g 0 7), .int (g 0 8), .int (g 0 9), .int (g 0 10), .int (g 0 11), .int (g 0 12), .int (g 0 13), .int (bz (g 0 14))])) := by rw [hcx0 100 (by omega) (by omega), hax0 (100 + 1) (by omega) (by omega), hax0 (100 + 3) (by omega) (by omega), hax0 (100 + 5) (by omega) (by omega), hax0 (100 + 7) (by omega) (by omega)]; exact e29
  have e39 : c 200 = some (.inr (6, [.ref (al (200 + 1)), .ref (al (200 + 3)), .ref (al (200 + 5)), .ref (al (200 + 7)), .int (t 0 4), .int (t 0 5), .int (t 0 6), .int (t 0 7), .int (t 0 8), .int (t 0 9), .int (t 0 10), .int (t 0 11), .int (t 0 12), .int (t 0 13), .int (bz (t 0 14))])) := by rw [hcx0 200 (by omega) (by omega), hax0 (200 + 1) (by omega) (by omega), hax0 (200 + 3) (by omega) (by omega), hax0 (200 + 5) (by omega) (by omega), hax0 (200 + 7) (by omega) (by omega)]; exact e39
  have e49 : c (10 + f) = some (.inr (3, [.ref (al (12 + f))])) := by rw [hcx0 (10 + f) (by omega) (by omega), hax0 (12 + f) (by omega) (by omega)]; exact e49
  have e_2 : c (300 + 3 * h.1) = some (.inr (2, [.null, .int 0, .int 0])) := by rw [hcx0 (300 + 3 * h.1) (by omega) (by omega)]; exact e_2
  have l09 : gLs G al c (12 + f) (14 + f) 3 (fun s => 20 + (3 * f + s)) := (gLs_al (gLs_cv l09 (hcx0 _ (by omega) (by omega)) (hcx0 _ (by omega) (by omega))) (hax0 _ (by omega) (by omega)) (fun s hs => hax0 _ (by show 20 + (3 * f + s) ≠ 300 + 3 * h.1 + 1; omega) (by show 20 + (3 * f + s) ≠ 300 + 3 * h.1 + 2; omega)))
  have l19 : gLs G al c (100 + 5) (100 + 6) h.1 (fun i => 300 + 3 * i) := (gLs_al (gLs_cv l19 (hcx0 _ (by omega) (by omega)) (hcx0 _ (by omega) (by omega))) (hax0 _ (by omega) (by omega)) (fun i hi => hax0 _ (by show 300 + 3 * i ≠ 300 + 3 * h.1 + 1; omega) (by show 300 + 3 * i ≠ 300 + 3 * h.1 + 2; omega)))
  have l29 : gLs G al c (200 + 5) (200 + 6) h.1 (fun i => 300 + 3 * i) := (gLs_al (gLs_cv l29 (hcx0 _ (by omega) (by omega)) (hcx0 _ (by omega) (by omega))) (hax0 _ (by omega) (by omega)) (fun i hi => hax0 _ (by show 300 + 3 * i ≠ 300 + 3 * h.1 + 1; omega) (by show 300 + 3 * i ≠ 300 + 3 * h.1 + 2; omega)))
  have hst : ∀ q, q < 6 → c (20 + q) = some (.inr (7, [.int (h.2.2.2.2 q 0), .int (h.2.2.2.2 q 1), .int (h.2.2.2.2 q 2)])) := fun q hq => (hcx0 (20 + q) (by omega) (by omega)).trans (hst q hq)
  have hca : ∀ i, i < h.1 → ∃ vs, c (300 + 3 * i) = some (.inr (2, vs)) := fun i hi => by obtain ⟨vs, h8⟩ := hca i hi; exact ⟨vs, (hcx0 (300 + 3 * i) (by omega) (by omega)).trans h8⟩
  have hn9 : c 999 = none := (hcx0 999 (by omega) (by omega)).trans hn9
  have hfc : ∀ i, (i ≠ 300 + 3 * h.1 ∧ i ≠ 300 + 3 * h.1 + 1 ∧ i ≠ 300 + 3 * h.1 + 2 ∧ i ≠ 100 + 5 ∧ i ≠ 100 + 6 ∧ i ≠ 200 + 5 ∧ i ≠ 200 + 6) → c i = c0 i := fun i hi => (hcx0 i (by omega) (by omega)).trans (hfc i hi)
  have hfa : ∀ i, (i ≠ 300 + 3 * h.1 ∧ i ≠ 300 + 3 * h.1 + 1 ∧ i ≠ 300 + 3 * h.1 + 2 ∧ i ≠ 100 + 6 ∧ i ≠ 200 + 6) → al i = al0 i := fun i hi => (hax0 i (by omega) (by omega)).trans (hfa i hi)
  have l_4 : gLs G al c (300 + 3 * h.1 + 1) (300 + 3 * h.1 + 2) 3 (fun s => 20 + (3 * f + s)) := hL9
  have hl : lv_has ls 6 [(4, .int (nI h.1)), (3, .ref (al (10 + f))), (0, .ref (al 0)), (1, .int (nI f)), (2, .int (nI sh))] := by rw [hax0 0 (by omega) (by omega), hax0 (10 + f) (by omega) (by omega)]; exact hl
  rw [← hax0 (300 + 3 * h.1) (by omega) (by omega)]
  refine g_topr (v := al (300 + 3 * h.1 + 1)) rfl ?_
  refine lv_iload_n hx hb dX7_call_63 rfl (lv_at hl 4 rfl) ?_
  refine lv_aload_n hx hb dX7_call_64 rfl (lv_at hl 2 rfl) ?_
  refine m_get (C := RX7) (T := TX7) (N := 3) (ci := 8) (v := .ref (al 100)) hx hb hts uX7 hown hE hP 0 rfl e19 rfl 1 (by decide) (hts _ q368) (fun _ h9 => h9) rfl dX7_call_65 ?_
  refine m_get (C := RX5) (T := TX5) (N := 15) (ci := 6) (v := .int (g 0 4)) hx hb hts uX5 hown hE hP 100 rfl e29 rfl 4 (by decide) (hts _ q449) (fun _ h9 => h9) rfl dX7_call_68 ?_
  refine g_aft_v (g_runI (As := [.ref (al (300 + 3 * h.1 + 1)), .int (nI sh), .int (g 0 4)]) (rest := [.ref (al (300 + 3 * h.1))]) hx hb hml hown hts (kX1_init l G al c (300 + 3 * h.1) (300 + 3 * h.1 + 1) (nI sh) (g 0 4) e_2) (fcwI 3 hts q453 q454 q61 q27 rfl rfl rfl (by decide +kernel) ⟨(Nat.le_of_ble_eq_true rfl), (Nat.le_of_ble_eq_true rfl)⟩) hE hb0 hP hS rfl hl.1 rfl (Nat.le_of_ble_eq_true rfl) dX7_call_71 ⟨(Nat.le_of_ble_eq_true rfl), (Nat.le_of_ble_eq_true rfl)⟩) hS (fun u H locs hP hS => ?_)
  have hP : mP G al (up c (300 + 3 * h.1) (.inr (2, [.ref (al (300 + 3 * h.1 + 1)), .int (nI sh), .int (g 0 4)]))) H := hP
  have hcx0 : ∀ x, x ≠ 300 + 3 * h.1 → (up c (300 + 3 * h.1) (.inr (2, [.ref (al (300 + 3 * h.1 + 1)), .int (nI sh), .int (g 0 4)]))) x = c x := fun x hx => up_n _ _ hx
  have hcs0 : (up c (300 + 3 * h.1) (.inr (2, [.ref (al (300 + 3 * h.1 + 1)), .int (nI sh), .int (g 0 4)]))) (300 + 3 * h.1) = some (.inr (2, [.ref (al (300 + 3 * h.1 + 1)), .int (nI sh), .int (g 0 4)])) := up_s _ _ _
  obtain ⟨c, hcu⟩ : ∃ z, z = up c (300 + 3 * h.1) (.inr (2, [.ref (al (300 + 3 * h.1 + 1)), .int (nI sh), .int (g 0 4)])) := ⟨_, rfl⟩
  rw [← hcu] at hcx0 hcs0 hP
  have e19 : c 0 = some (.inr (8, [.ref (al 1), .ref (al 100), .ref (al 200)])) := by rw [hcx0 0 (by omega)]; exact e19
  have e29 : c 100 = some (.inr (6, [.ref (al (100 + 1)), .ref (al (100 + 3)), .ref (al (100 + 5)), .ref (al (100 + 7)), .int (g 0 4), .int (g 0 5), .int (g 0 6), .int (g 0 7), .int (g 0 8), .int (g 0 9), .int (g 0 10), .int (g 0 11), .int (g 0 12), .int (g 0 13), .int (bz (g 0 14))])) := by rw [hcx0 100 (by omega)]; exact e29
  have e39 : c 200 = some (.inr (6, [.ref (al (200 + 1)), .ref (al (200 + 3)), .ref (al (200 + 5)), .ref (al (200 + 7)), .int (t 0 4), .int (t 0 5), .int (t 0 6), .int (t 0 7), .int (t 0 8), .int (t 0 9), .int (t 0 10), .int (t 0 11), .int (t 0 12), .int (t 0 13), .int (bz (t 0 14))])) := by rw [hcx0 200 (by omega)]; exact e39
  have e49 : c (10 + f) = some (.inr (3, [.ref (al (12 + f))])) := by rw [hcx0 (10 + f) (by omega)]; exact e49
  have l09 : gLs G al c (12 + f) (14 + f) 3 (fun s => 20 + (3 * f + s)) := (gLs_cv l09 (hcx0 _ (by omega)) (hcx0 _ (by omega)))
  have l19 : gLs G al c (100 + 5) (100 + 6) h.1 (fun i => 300 + 3 * i) := (gLs_cv l19 (hcx0 _ (by omega)) (hcx0 _ (by omega)))
  have l29 : gLs G al c (200 + 5) (200 + 6) h.1 (fun i => 300 + 3 * i) := (gLs_cv l29 (hcx0 _ (by omega)) (hcx0 _ (by omega)))
  have l_4 : gLs G al c (300 + 3 * h.1 + 1) (300 + 3 * h.1 + 2) 3 (fun s => 20 + (3 * f + s)) := (gLs_cv l_4 (hcx0 _ (by omega)) (hcx0 _ (by omega)))
  have hst : ∀ q, q < 6 → c (20 + q) = some (.inr (7, [.int (h.2.2.2.2 q 0), .int (h.2.2.2.2 q 1), .int (h.2.2.2.2 q 2)])) := fun q hq => (hcx0 (20 + q) (by omega)).trans (hst q hq)
  have hca : ∀ i, i < h.1 → ∃ vs, c (300 + 3 * i) = some (.inr (2, vs)) := fun i hi => by obtain ⟨vs, h8⟩ := hca i hi; exact ⟨vs, (hcx0 (300 + 3 * i) (by omega)).trans h8⟩
  have hn9 : c 999 = none := (hcx0 999 (by omega)).trans hn9
  have hfc : ∀ i, (i ≠ 300 + 3 * h.1 ∧ i ≠ 300 + 3 * h.1 + 1 ∧ i ≠ 300 + 3 * h.1 + 2 ∧ i ≠ 100 + 5 ∧ i ≠ 100 + 6 ∧ i ≠ 200 + 5 ∧ i ≠ 200 + 6) → c i = c0 i := fun i hi => (hcx0 i (by omega)).trans (hfc i hi)
  have e_2 : c (300 + 3 * h.1) = some (.inr (2, [.ref (al (300 + 3 * h.1 + 1)), .int (nI sh), .int (g 0 4)])) := hcs0
  refine lv_astore (lv' := [(5, .ref (al (300 + 3 * h.1))), (4, .int (nI h.1)), (3, .ref (al (10 + f))), (0, .ref (al 0)), (1, .int (nI f)), (2, .int (nI sh))]) hx hb dX7_call_74 hl (by decide) rfl (fun ls hl => ?_)
  refine lv_aload_n hx hb dX7_call_76 rfl (lv_at hl 3 rfl) ?_
  refine m_get (C := RX7) (T := TX7) (N := 3) (ci := 8) (v := .ref (al 100)) hx hb hts uX7 hown hE hP 0 rfl e19 rfl 1 (by decide) (hts _ q368) (fun _ h9 => h9) rfl dX7_call_77 ?_
  refine m_get (C := RX5) (T := TX5) (N := 15) (ci := 6) (v := .ref (al (100 + 5))) hx hb hts uX5 hown hE hP 100 rfl e29 rfl 2 (by decide) (hts _ q446) (fun _ h9 => h9) rfl dX7_call_80 ?_
  refine lv_aload hx hb dX7_call_83 (lv_at hl 0 rfl) ?_
  refine g_aft_ip (g_runV (As := [.ref (al (300 + 3 * h.1))]) (rest := []) hx hb hml hown hts (kJx4a65c_add_9ea2d l G al c (100 + 5) (100 + 6) h.1 (fun i => 300 + 3 * i) (300 + 3 * h.1) 2 ([.ref (al (300 + 3 * h.1 + 1)), .int (nI sh), .int (g 0 4)]) _ l19 e_2 rfl (by decide +kernel) (by omega) (by omega) (by decide) (by omega) (fun i hi => by show 300 + 3 * i ≠ 100 + 6; omega) (fun i hi => by show 300 + 3 * i ≠ 100 + 5; omega) (Or.inr ⟨hn9, (by omega), (by omega), (by omega), fun i hi => ⟨(by show 300 + 3 * i ≠ 999; omega), hca i hi⟩⟩)) (fcwV 1 hts q383 q132 q133 q50 q127 rfl rfl (by decide +kernel) ⟨(Nat.le_of_ble_eq_true rfl), (Nat.le_of_ble_eq_true rfl)⟩) hE hb0 hP hS (m_recvL hE hP l19 rfl) rfl hl.1 rfl (Nat.le_of_ble_eq_true rfl) dX7_call_85 ⟨(Nat.le_of_ble_eq_true rfl), (Nat.le_of_ble_eq_true rfl)⟩) hS (fun u_5 H locs hu_5 hP hS => ?_)
  obtain ⟨al, c⟩ := u_5
  have hP : mP G al c H := hP
  obtain ⟨hL9, hcx0, hax0⟩ := hu_5
  dsimp only at hL9 hcx0 hax0
  have e19 : c 0 = some (.inr (8, [.ref (al 1), .ref (al 100), .ref (al 200)])) := by rw [hcx0 0 (by omega) (by omega), hax0 1 (by omega), hax0 100 (by omega), hax0 200 (by omega)]; exact e19
  have e29 : c 100 = some (.inr (6, [.ref (al (100 + 1)), .ref (al (100 + 3)), .ref (al (100 + 5)), .ref (al (100 + 7)), .int (g 0 4), .int (g 0 5), .int (g 0 6), .int (g 0 7), .int (g 0 8), .int (g 0 9), .int (g 0 10), .int (g 0 11), .int (g 0 12), .int (g 0 13), .int (bz (g 0 14))])) := by rw [hcx0 100 (by omega) (by omega), hax0 (100 + 1) (by omega), hax0 (100 + 3) (by omega), hax0 (100 + 5) (by omega), hax0 (100 + 7) (by omega)]; exact e29
  have e39 : c 200 = some (.inr (6, [.ref (al (200 + 1)), .ref (al (200 + 3)), .ref (al (200 + 5)), .ref (al (200 + 7)), .int (t 0 4), .int (t 0 5), .int (t 0 6), .int (t 0 7), .int (t 0 8), .int (t 0 9), .int (t 0 10), .int (t 0 11), .int (t 0 12), .int (t 0 13), .int (bz (t 0 14))])) := by rw [hcx0 200 (by omega) (by omega), hax0 (200 + 1) (by omega), hax0 (200 + 3) (by omega), hax0 (200 + 5) (by omega), hax0 (200 + 7) (by omega)]; exact e39
  have e49 : c (10 + f) = some (.inr (3, [.ref (al (12 + f))])) := by rw [hcx0 (10 + f) (by omega) (by omega), hax0 (12 + f) (by omega)]; exact e49
  have e_2 : c (300 + 3 * h.1) = some (.inr (2, [.ref (al (300 + 3 * h.1 + 1)), .int (nI sh), .int (g 0 4)])) := by rw [hcx0 (300 + 3 * h.1) (by omega) (by omega), hax0 (300 + 3 * h.1 + 1) (by omega)]; exact e_2
  have l09 : gLs G al c (12 + f) (14 + f) 3 (fun s => 20 + (3 * f + s)) := (gLs_al (gLs_cv l09 (hcx0 _ (by omega) (by omega)) (hcx0 _ (by omega) (by omega))) (hax0 _ (by omega)) (fun s hs => hax0 _ (by show 20 + (3 * f + s) ≠ 100 + 6; omega)))
  have l29 : gLs G al c (200 + 5) (200 + 6) h.1 (fun i => 300 + 3 * i) := (gLs_al (gLs_cv l29 (hcx0 _ (by omega) (by omega)) (hcx0 _ (by omega) (by omega))) (hax0 _ (by omega)) (fun i hi => hax0 _ (by show 300 + 3 * i ≠ 100 + 6; omega)))
  have l_4 : gLs G al c (300 + 3 * h.1 + 1) (300 + 3 * h.1 + 2) 3 (fun s => 20 + (3 * f + s)) := (gLs_al (gLs_cv l_4 (hcx0 _ (by omega) (by omega)) (hcx0 _ (by omega) (by omega))) (hax0 _ (by omega)) (fun s hs => hax0 _ (by show 20 + (3 * f + s) ≠ 100 + 6; omega)))
  have hst : ∀ q, q < 6 → c (20 + q) = some (.inr (7, [.int (h.2.2.2.2 q 0), .int (h.2.2.2.2 q 1), .int (h.2.2.2.2 q 2)])) := fun q hq => (hcx0 (20 + q) (by omega) (by omega)).trans (hst q hq)
  have hca : ∀ i, i < h.1 → ∃ vs, c (300 + 3 * i) = some (.inr (2, vs)) := fun i hi => by obtain ⟨vs, h8⟩ := hca i hi; exact ⟨vs, (hcx0 (300 + 3 * i) (by omega) (by omega)).trans h8⟩
  have hn9 : c 999 = none := (hcx0 999 (by omega) (by omega)).trans hn9
  have hfc : ∀ i, (i ≠ 300 + 3 * h.1 ∧ i ≠ 300 + 3 * h.1 + 1 ∧ i ≠ 300 + 3 * h.1 + 2 ∧ i ≠ 100 + 5 ∧ i ≠ 100 + 6 ∧ i ≠ 200 + 5 ∧ i ≠ 200 + 6) → c i = c0 i := fun i hi => (hcx0 i (by omega) (by omega)).trans (hfc i hi)
  have hfa : ∀ i, (i ≠ 300 + 3 * h.1 ∧ i ≠ 300 + 3 * h.1 + 1 ∧ i ≠ 300 + 3 * h.1 + 2 ∧ i ≠ 100 + 6 ∧ i ≠ 200 + 6) → al i = al0 i := fun i hi => (hax0 i (by omega)).trans (hfa i hi)
  have l19 : gLs G al c (100 + 5) (100 + 6) (h.1 + 1) (fun i => 300 + 3 * i) := gLs_al hL9 rfl (fun i hi => congrArg al (congrFun (va_up_id (fun i => 300 + 3 * i) h.1) i).symm)
  have hl : lv_has ls 6 [(5, .ref (al (300 + 3 * h.1))), (4, .int (nI h.1)), (3, .ref (al (10 + f))), (0, .ref (al 0)), (1, .int (nI f)), (2, .int (nI sh))] := by rw [hax0 0 (by omega), hax0 (10 + f) (by omega), hax0 (300 + 3 * h.1) (by omega)]; exact hl
  refine f_topi (v := 1) rfl ?_
  refine lv_pop hx hb dX7_call_88 rfl ?_
  refine lv_aload_n hx hb dX7_call_89 rfl (lv_at hl 3 rfl) ?_
  refine m_get (C := RX7) (T := TX7) (N := 3) (ci := 8) (v := .ref (al 200)) hx hb hts uX7 hown hE hP 0 rfl e19 rfl 2 (by decide) (hts _ q369) (fun _ h9 => h9) rfl dX7_call_90 ?_
  refine m_get (C := RX5) (T := TX5) (N := 15) (ci := 6) (v := .ref (al (200 + 5))) hx hb hts uX5 hown hE hP 200 rfl e39 rfl 2 (by decide) (hts _ q446) (fun _ h9 => h9) rfl dX7_call_93 ?_
  refine lv_aload hx hb dX7_call_96 (lv_at hl 0 rfl) ?_
  refine g_aft_ip (g_runV (As := [.ref (al (300 + 3 * h.1))]) (rest := []) hx hb hml hown hts (kJx4a65c_add_9ea2d l G al c (200 + 5) (200 + 6) h.1 (fun i => 300 + 3 * i) (300 + 3 * h.1) 2 ([.ref (al (300 + 3 * h.1 + 1)), .int (nI sh), .int (g 0 4)]) _ l29 e_2 rfl (by decide +kernel) (by omega) (by omega) (by decide) (by omega) (fun i hi => by show 300 + 3 * i ≠ 200 + 6; omega) (fun i hi => by show 300 + 3 * i ≠ 200 + 5; omega) (Or.inr ⟨hn9, (by omega), (by omega), (by omega), fun i hi => ⟨(by show 300 + 3 * i ≠ 999; omega), hca i hi⟩⟩)) (fcwV 1 hts q383 q132 q133 q50 q127 rfl rfl (by decide +kernel) ⟨(Nat.le_of_ble_eq_true rfl), (Nat.le_of_ble_eq_true rfl)⟩) hE hb0 hP hS (m_recvL hE hP l29 rfl) rfl hl.1 rfl (Nat.le_of_ble_eq_true rfl) dX7_call_98 ⟨(Nat.le_of_ble_eq_true rfl), (Nat.le_of_ble_eq_true rfl)⟩) hS (fun u_6 H locs hu_6 hP hS => ?_)
  obtain ⟨al, c⟩ := u_6
  have hP : mP G al c H := hP
  obtain ⟨hL9, hcx0, hax0⟩ := hu_6
  dsimp only at hL9 hcx0 hax0
  have e19 : c 0 = some (.inr (8, [.ref (al 1), .ref (al 100), .ref (al 200)])) := by rw [hcx0 0 (by omega) (by omega), hax0 1 (by omega), hax0 100 (by omega), hax0 200 (by omega)]; exact e19
  have e29 : c 100 = some (.inr (6, [.ref (al (100 + 1)), .ref (al (100 + 3)), .ref (al (100 + 5)), .ref (al (100 + 7)), .int (g 0 4), .int (g 0 5), .int (g 0 6), .int (g 0 7), .int (g 0 8), .int (g 0 9), .int (g 0 10), .int (g 0 11), .int (g 0 12), .int (g 0 13), .int (bz (g 0 14))])) := by rw [hcx0 100 (by omega) (by omega), hax0 (100 + 1) (by omega), hax0 (100 + 3) (by omega), hax0 (100 + 5) (by omega), hax0 (100 + 7) (by omega)]; exact e29
  have e39 : c 200 = some (.inr (6, [.ref (al (200 + 1)), .ref (al (200 + 3)), .ref (al (200 + 5)), .ref (al (200 + 7)), .int (t 0 4), .int (t 0 5), .int (t 0 6), .int (t 0 7), .int (t 0 8), .int (t 0 9), .int (t 0 10), .int (t 0 11), .int (t 0 12), .int (t 0 13), .int (bz (t 0 14))])) := by rw [hcx0 200 (by omega) (by omega), hax0 (200 + 1) (by omega), hax0 (200 + 3) (by omega), hax0 (200 + 5) (by omega), hax0 (200 + 7) (by omega)]; exact e39
  have e49 : c (10 + f) = some (.inr (3, [.ref (al (12 + f))])) := by rw [hcx0 (10 + f) (by omega) (by omega), hax0 (12 + f) (by omega)]; exact e49
  have e_2 : c (300 + 3 * h.1) = some (.inr (2, [.ref (al (300 + 3 * h.1 + 1)), .int (nI sh), .int (g 0 4)])) := by rw [hcx0 (300 + 3 * h.1) (by omega) (by omega), hax0 (300 + 3 * h.1 + 1) (by omega)]; exact e_2
  have l09 : gLs G al c (12 + f) (14 + f) 3 (fun s => 20 + (3 * f + s)) := (gLs_al (gLs_cv l09 (hcx0 _ (by omega) (by omega)) (hcx0 _ (by omega) (by omega))) (hax0 _ (by omega)) (fun s hs => hax0 _ (by show 20 + (3 * f + s) ≠ 200 + 6; omega)))
  have l_4 : gLs G al c (300 + 3 * h.1 + 1) (300 + 3 * h.1 + 2) 3 (fun s => 20 + (3 * f + s)) := (gLs_al (gLs_cv l_4 (hcx0 _ (by omega) (by omega)) (hcx0 _ (by omega) (by omega))) (hax0 _ (by omega)) (fun s hs => hax0 _ (by show 20 + (3 * f + s) ≠ 200 + 6; omega)))
  have l19 : gLs G al c (100 + 5) (100 + 6) (h.1 + 1) (fun i => 300 + 3 * i) := (gLs_al (gLs_cv l19 (hcx0 _ (by omega) (by omega)) (hcx0 _ (by omega) (by omega))) (hax0 _ (by omega)) (fun i hi => hax0 _ (by show 300 + 3 * i ≠ 200 + 6; omega)))
  have hst : ∀ q, q < 6 → c (20 + q) = some (.inr (7, [.int (h.2.2.2.2 q 0), .int (h.2.2.2.2 q 1), .int (h.2.2.2.2 q 2)])) := fun q hq => (hcx0 (20 + q) (by omega) (by omega)).trans (hst q hq)
  have hca : ∀ i, i < h.1 → ∃ vs, c (300 + 3 * i) = some (.inr (2, vs)) := fun i hi => by obtain ⟨vs, h8⟩ := hca i hi; exact ⟨vs, (hcx0 (300 + 3 * i) (by omega) (by omega)).trans h8⟩
  have hn9 : c 999 = none := (hcx0 999 (by omega) (by omega)).trans hn9
  have hfc : ∀ i, (i ≠ 300 + 3 * h.1 ∧ i ≠ 300 + 3 * h.1 + 1 ∧ i ≠ 300 + 3 * h.1 + 2 ∧ i ≠ 100 + 5 ∧ i ≠ 100 + 6 ∧ i ≠ 200 + 5 ∧ i ≠ 200 + 6) → c i = c0 i := fun i hi => (hcx0 i (by omega) (by omega)).trans (hfc i hi)
  have hfa : ∀ i, (i ≠ 300 + 3 * h.1 ∧ i ≠ 300 + 3 * h.1 + 1 ∧ i ≠ 300 + 3 * h.1 + 2 ∧ i ≠ 100 + 6 ∧ i ≠ 200 + 6) → al i = al0 i := fun i hi => (hax0 i (by omega)).trans (hfa i hi)
  have l29 : gLs G al c (200 + 5) (200 + 6) (h.1 + 1) (fun i => 300 + 3 * i) := gLs_al hL9 rfl (fun i hi => congrArg al (congrFun (va_up_id (fun i => 300 + 3 * i) h.1) i).symm)
  have hl : lv_has ls 6 [(5, .ref (al (300 + 3 * h.1))), (4, .int (nI h.1)), (3, .ref (al (10 + f))), (0, .ref (al 0)), (1, .int (nI f)), (2, .int (nI sh))] := by rw [hax0 0 (by omega), hax0 (10 + f) (by omega), hax0 (300 + 3 * h.1) (by omega)]; exact hl
  refine f_topi (v := 1) rfl ?_
  refine lv_pop hx hb dX7_call_101 rfl ?_
  refine lv_iload hx hb dX7_call_102 (lv_at hl 1 rfl) ?_
  obtain ⟨cN, hw9, hX9, hk9⟩ := call_X (al' := al) (c' := c) hX hh20 hf hs (fun i hi => (hfc i hi).trans (congrFun (hc0.trans hcw) i)) (fun i hi => (hfa i hi).trans (congrFun hal0 i)) e_2 l_4 l19 l29
  have hP : mP G al (w2 G al k cN g t) H := by rw [← hw9]; exact hP
  refine W.widen (k := 7) (n := 116) (Nat.le_of_ble_eq_true rfl) (Nat.le_of_ble_eq_true rfl) ?_
  exact W.iret (v := nI h.1) hx hb hr (fun tz htz hW => ⟨⟨nI h.1, (al, cN), rfl, ⟨rfl, ⟨hX9, hk9, fun i hi => (hfa i (by omega)).trans (congrFun hal0 i)⟩⟩, g_end htz hP⟩, hS.F htz⟩) hS.2.2 dX7_call_104
