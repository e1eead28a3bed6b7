section LAWP
variable {p : Program} {l : Launch} {e : Env} {s : State} {m : MethodId} {below : List Frame} {meth : Method} {cd : Code} {Q : State → Prop} {G : gT}
set_option maxHeartbeats 4000000 in
set_option maxRecDepth 100000 in
/-- the pumps and figures -/
theorem law_0 {k : gC} {w : Nat → Nat → Int32} {ls : Array Slot} (hk : k = kG G) (hw : w = wG G) (C : lwC p s m cd G) (hl : lv_has ls 13 [(0, .ref (gSb G))]) (kk : ∀ (al : Nat → Nat) (c : mC) (H : Heap) (locs : List Loc) (ls : Array Slot), gU G al k w 2 2 0 (nsF 0 0) c → mP G al c H → va_S (gA G) s.heap H locs → lv_has ls 13 [(1, .ref (al 0)), (0, .ref (gSb G))] → W p l e room_1 s m #[Value.ref (gSb G)] below meth cd H locs 34 278 Q (F0 m 52 ls [])) : W p l e room_1 s m #[Value.ref (gSb G)] below meth cd s.heap [] 0 0 Q (F0 m 0 ls []) := by
  obtain ⟨hx, hb, hml, hown, hts, hb0, hE, hL⟩ := C
  have hR1 : 2000 ≤ room_1.cells := (Nat.le_of_ble_eq_true rfl)
  have hR2 : 20000 ≤ room_1.slots := (Nat.le_of_ble_eq_true rfl)
  have hcf : cfg k := hk ▸ kG_cfg G
  have hJ : k.1 ≤ 8 := hcf.2.1
  have hk2 : 2 ≤ k.1 := hcf.1
  obtain ⟨al, hal9⟩ : ∃ z : Nat → Nat, z = fun _ => 0 := ⟨_, rfl⟩
  obtain ⟨c, hcN⟩ : ∃ z : mC, ∀ i, z i = none := ⟨fun _ => none, fun _ => rfl⟩
  have hP : mP G al c s.heap := ⟨⟨[], fun k q h => by simp at h, ⟨fun i j p q h => by simp at h, fun k q h => by simp at h⟩, fun i e h => by rw [hcN] at h; cases h⟩, fun i j e f h => by rw [hcN] at h; cases h⟩
  refine g_start hP (fun H hP hS => ?_)
  obtain ⟨al0, hal0⟩ : ∃ z, z = al := ⟨_, rfl⟩
  obtain ⟨c0, hc0⟩ : ∃ z, z = c := ⟨_, rfl⟩
  have hfc : ∀ i, (300 ≤ i) → c i = c0 i := fun i _ => by rw [hc0]
  have hfa : ∀ i, (300 ≤ i) → al i = al0 i := fun i _ => by rw [hal0]
  refine m_new 0 (ci := 8) (fs := [.null, .null, .null]) (C := RX7) (T := TX7) (N := 3) hx hb hts uX7 tyX7 tyX7_ok hown (hts _ q576) (hts _ q577) (hts _ q148) hE hb0 hP hS rfl (fun j hj => by rcases f_lt3 hj with rfl | rfl | rfl <;> rfl) (Nat.le_of_ble_eq_true rfl) (Nat.le_of_ble_eq_true rfl) dL_law_0 (fun n_1 H hP hS => ?_)
  have hP : mP G (va_up al 0 n_1) (up c 0 (.inr (8, [.null, .null, .null]))) H := hP
  have hax0 : ∀ x, x ≠ 0 → va_up al 0 n_1 x = al x := fun x hx => au_n _ _ hx
  have has0 : va_up al 0 n_1 0 = n_1 := au_s _ _ _
  obtain ⟨al, hau⟩ : ∃ z, z = va_up al 0 n_1 := ⟨_, rfl⟩
  rw [← hau] at hax0 has0 hP
  have hcx0 : ∀ x, x ≠ 0 → (up c 0 (.inr (8, [.null, .null, .null]))) x = c x := fun x hx => up_n _ _ hx
  have hcs0 : (up c 0 (.inr (8, [.null, .null, .null]))) 0 = some (.inr (8, [.null, .null, .null])) := up_s _ _ _
  obtain ⟨c, hcu⟩ : ∃ z, z = up c 0 (.inr (8, [.null, .null, .null])) := ⟨_, rfl⟩
  rw [← hcu] at hcx0 hcs0 hP
  have hfc : ∀ i, (300 ≤ i) → c i = c0 i := fun i hi => (hcx0 i (by omega)).trans (hfc i hi)
  have hfa : ∀ i, (300 ≤ i) → al i = al0 i := fun i hi => (hax0 i (by omega)).trans (hfa i hi)
  have e_2 : c 0 = some (.inr (8, [.null, .null, .null])) := hcs0
  rw [← has0]
  refine lv_dup hx hb dL_law_3 rfl ?_
  refine g_aft_vp (g_runI (As := []) (rest := [.ref (al 0)]) hx hb hml hown hts (kX7_init l G al c k w (nsF 0 0) e_2 ((hfc 999 (by decide)).trans ((congrFun hc0 999).trans (hcN 999)))) (fcwI 0 hts q580 q581 q148 q372 rfl rfl rfl (by decide +kernel) ⟨(Nat.le_of_ble_eq_true rfl), (Nat.le_of_ble_eq_true rfl)⟩) hE hb0 hP hS rfl hl.1 rfl (Nat.le_of_ble_eq_true rfl) dL_law_4 ⟨Nat.le_trans (show 0 + 1 + 17 ≤ 2000 by omega) hR1, Nat.le_trans (show 0 + 3 + 111 ≤ 20000 by omega) hR2⟩) hS (fun u_3 H locs hu_3 hP hS => ?_)
  obtain ⟨al, c⟩ := u_3
  obtain ⟨hU, ha9⟩ := hu_3
  try dsimp only at hU ha9
  have hP : mP G al c H := hP
  have ha0 := ha9 0 rfl
  rw [← ha0]
  refine lv_astore_n (lv' := [(1, .ref (al 0)), (0, .ref (gSb G))]) hx hb dL_law_7 rfl hl (by decide) rfl (fun ls hl => ?_)
  refine lv_iconst (v := 0) hx hb dL_law_8 (by decide) ?_
  refine lv_istore_n (lv' := [(2, .int 0), (1, .ref (al 0)), (0, .ref (gSb G))]) hx hb dL_law_9 rfl hl (by decide) rfl (fun ls hl => ?_)
  refine lv_iload_n hx hb dL_law_10 rfl (lv_at hl 0 rfl) ?_
  refine lv_iconst (v := 2) hx hb dL_law_11 (by decide) ?_
  refine lv_icmp_ge (tgt := 52) hx hb dL_law_12 (by decide) (fun h => absurd h (by decide)) (fun _ => ?_)
  refine lv_aload_n hx hb dL_law_15 rfl (lv_at hl 1 rfl) ?_
  refine lv_bipush (v := 10) hx hb dL_law_16 (by decide) ?_
  refine lv_aload_n hx hb dL_law_18 rfl (lv_at hl 2 rfl) ?_
  refine lv_iload_n hx hb dL_law_19 rfl (lv_at hl 0 rfl) ?_
  refine g_aft_i (g_runS (As := [.ref (gSb G), .int 0]) (rest := [.int 10, .ref (al 0)]) hx hb hml hown hts (kL_cell l G al c 0 (by decide) hL) (fcwS 2 hts q582 q583 q584 q557 rfl rfl (by decide +kernel) ⟨(Nat.le_of_ble_eq_true rfl), (Nat.le_of_ble_eq_true rfl)⟩) hE hb0 hP hS rfl hl.1 rfl (Nat.le_of_ble_eq_true rfl) dL_law_20 ⟨Nat.le_trans (show 0 + 1 + 17 + 0 ≤ 2000 by omega) hR1, Nat.le_trans (show 0 + 3 + 111 + 0 ≤ 20000 by omega) hR2⟩) hS (fun u H locs hP hS => ?_)
  refine f_topi (v := sCell G 0) rfl ?_
  refine lv_bipush (v := 51) hx hb dL_law_23 (by decide) ?_
  refine g_aft_i (g_runS (As := [.int (sCell G 0), .int 51]) (rest := [.int 10, .ref (al 0)]) hx hb hml hown hts (kL_below l G al c (sCell G 0) 51 (by decide) (by decide)) (fcwS 2 hts q585 q586 q584 q555 rfl rfl (by decide +kernel) ⟨(Nat.le_of_ble_eq_true rfl), (Nat.le_of_ble_eq_true rfl)⟩) hE hb0 hP hS rfl hl.1 rfl (Nat.le_of_ble_eq_true rfl) dL_law_25 ⟨Nat.le_trans (show 0 + 1 + 17 + 0 ≤ 2000 by omega) hR1, Nat.le_trans (show 0 + 3 + 111 + 0 ≤ 20000 by omega) hR2⟩) hS (fun u H locs hP hS => ?_)
  refine f_topi (v := nI (bel (sCell G 0) 51)) rfl ?_
  refine lv_iadd hx hb dL_law_28 ?_
  refine f_topi (v := k.2.2 (1 + 0) 1) (by rw [hk]; exact (kG_p G (p := 0) (by decide)).symm) ?_
  refine g_aft_ip (g_runV (As := [.int (k.2.2 (1 + 0) 1)]) (rest := []) hx hb hml hown hts (kX7_pump l G al c k w (nsF 0 0) 0 0 hU (by decide) (fun f9 _ => nsF_3 (by decide) f9) (by decide) (by rw [hk]; exact (kG_pb G (p := 0) (by decide)).1) (by rw [hk]; exact (kG_pb G (p := 0) (by decide)).2)) (fcwV 1 hts q587 q588 q589 q148 q384 rfl rfl (by decide +kernel) ⟨(Nat.le_of_ble_eq_true rfl), (Nat.le_of_ble_eq_true rfl)⟩) hE hb0 hP hS (m_recvA hE hP 0 rfl hU.1 rfl) rfl hl.1 rfl (Nat.le_of_ble_eq_true rfl) dL_law_29 ⟨Nat.le_trans (show 0 + 1 + 17 + 4 ≤ 2000 by omega) hR1, Nat.le_trans (show 0 + 3 + 111 + 56 ≤ 20000 by omega) hR2⟩) hS (fun u_4 H locs hu_4 hP hS => ?_)
  obtain ⟨al, c⟩ := u_4
  obtain ⟨hU, ha0⟩ := hu_4
  try dsimp only at hU ha0
  have hP : mP G al c H := hP
  have hl : lv_has ls 13 [(2, .int 0), (1, .ref (al 0)), (0, .ref (gSb G))] := by rw [ha0]; exact hl
  refine f_topi (v := 0) (by decide) ?_
  refine f_topi (v := 0) rfl ?_
  refine lv_iload_n hx hb dL_law_32 rfl (lv_at hl 0 rfl) ?_
  refine lv_icmp_ne (tgt := 44) hx hb dL_law_33 (by decide) (fun h => absurd (by decide) h) (fun _ => ?_)
  refine lv_aload_n hx hb dL_law_36 rfl (lv_at hl 1 rfl) ?_
  refine g_aft_ip (g_runV (As := []) (rest := []) hx hb hml hown hts (kX7_figure l G al c k w (nsF 0 0) 1 0 hU (by decide) (by decide) (fun f9 => congrFun nsF_0 f9)) (fcwV 0 hts q590 q591 q592 q148 q402 rfl rfl (by decide +kernel) ⟨(Nat.le_of_ble_eq_true rfl), (Nat.le_of_ble_eq_true rfl)⟩) hE hb0 hP hS (m_recvA hE hP 0 rfl hU.1 rfl) rfl hl.1 rfl (Nat.le_of_ble_eq_true rfl) dL_law_37 ⟨Nat.le_trans (show 0 + 1 + 17 + 4 + 3 ≤ 2000 by omega) hR1, Nat.le_trans (show 0 + 3 + 111 + 56 + 26 ≤ 20000 by omega) hR2⟩) hS (fun u_5 H locs hu_5 hP hS => ?_)
  obtain ⟨al, c⟩ := u_5
  obtain ⟨hU, ha0⟩ := hu_5
  try dsimp only at hU ha0
  have hP : mP G al c H := hP
  have hl : lv_has ls 13 [(2, .int 0), (1, .ref (al 0)), (0, .ref (gSb G))] := by rw [ha0]; exact hl
  refine f_topi (v := 0) (by decide) ?_
  refine f_topi (v := 0) rfl ?_
  refine lv_iload_n hx hb dL_law_40 rfl (lv_at hl 0 rfl) ?_
  refine lv_icmp_eq (tgt := 46) hx hb dL_law_41 (by decide) (fun _ => ?_) (fun h => absurd (by decide) h)
  refine lv_iinc (v := 1) (lv' := [(2, .int 1), (1, .ref (al 0)), (0, .ref (gSb G))]) hx hb dL_law_46 hl (k := 0) rfl (by decide) (by decide) rfl (fun ls hl => ?_)
  refine lv_goto (tgt := 10) hx hb dL_law_49 (by decide) ?_
  refine lv_iload_n hx hb dL_law_10 rfl (lv_at hl 0 rfl) ?_
  refine lv_iconst (v := 2) hx hb dL_law_11 (by decide) ?_
  refine lv_icmp_ge (tgt := 52) hx hb dL_law_12 (by decide) (fun h => absurd h (by decide)) (fun _ => ?_)
  refine lv_aload_n hx hb dL_law_15 rfl (lv_at hl 1 rfl) ?_
  refine lv_bipush (v := 10) hx hb dL_law_16 (by decide) ?_
  refine lv_aload_n hx hb dL_law_18 rfl (lv_at hl 2 rfl) ?_
  refine lv_iload_n hx hb dL_law_19 rfl (lv_at hl 0 rfl) ?_
  refine g_aft_i (g_runS (As := [.ref (gSb G), .int 1]) (rest := [.int 10, .ref (al 0)]) hx hb hml hown hts (kL_cell l G al c 1 (by decide) hL) (fcwS 2 hts q582 q583 q584 q557 rfl rfl (by decide +kernel) ⟨(Nat.le_of_ble_eq_true rfl), (Nat.le_of_ble_eq_true rfl)⟩) hE hb0 hP hS rfl hl.1 rfl (Nat.le_of_ble_eq_true rfl) dL_law_20 ⟨Nat.le_trans (show 0 + 1 + 17 + 4 + 3 + 0 ≤ 2000 by omega) hR1, Nat.le_trans (show 0 + 3 + 111 + 56 + 26 + 0 ≤ 20000 by omega) hR2⟩) hS (fun u H locs hP hS => ?_)
  refine f_topi (v := sCell G 1) rfl ?_
  refine lv_bipush (v := 51) hx hb dL_law_23 (by decide) ?_
  refine g_aft_i (g_runS (As := [.int (sCell G 1), .int 51]) (rest := [.int 10, .ref (al 0)]) hx hb hml hown hts (kL_below l G al c (sCell G 1) 51 (by decide) (by decide)) (fcwS 2 hts q585 q586 q584 q555 rfl rfl (by decide +kernel) ⟨(Nat.le_of_ble_eq_true rfl), (Nat.le_of_ble_eq_true rfl)⟩) hE hb0 hP hS rfl hl.1 rfl (Nat.le_of_ble_eq_true rfl) dL_law_25 ⟨Nat.le_trans (show 0 + 1 + 17 + 4 + 3 + 0 ≤ 2000 by omega) hR1, Nat.le_trans (show 0 + 3 + 111 + 56 + 26 + 0 ≤ 20000 by omega) hR2⟩) hS (fun u H locs hP hS => ?_)
  refine f_topi (v := nI (bel (sCell G 1) 51)) rfl ?_
  refine lv_iadd hx hb dL_law_28 ?_
  refine f_topi (v := k.2.2 (1 + 1) 1) (by rw [hk]; exact (kG_p G (p := 1) (by decide)).symm) ?_
  refine g_aft_ip (g_runV (As := [.int (k.2.2 (1 + 1) 1)]) (rest := []) hx hb hml hown hts (kX7_pump l G al c k w (nsF 0 0) 1 1 hU (by decide) (fun f9 _ => nsF_3 (by decide) f9) (by decide) (by rw [hk]; exact (kG_pb G (p := 1) (by decide)).1) (by rw [hk]; exact (kG_pb G (p := 1) (by decide)).2)) (fcwV 1 hts q587 q588 q589 q148 q384 rfl rfl (by decide +kernel) ⟨(Nat.le_of_ble_eq_true rfl), (Nat.le_of_ble_eq_true rfl)⟩) hE hb0 hP hS (m_recvA hE hP 0 rfl hU.1 rfl) rfl hl.1 rfl (Nat.le_of_ble_eq_true rfl) dL_law_29 ⟨Nat.le_trans (show 0 + 1 + 17 + 4 + 3 + 4 ≤ 2000 by omega) hR1, Nat.le_trans (show 0 + 3 + 111 + 56 + 26 + 56 ≤ 20000 by omega) hR2⟩) hS (fun u_6 H locs hu_6 hP hS => ?_)
  obtain ⟨al, c⟩ := u_6
  obtain ⟨hU, ha0⟩ := hu_6
  try dsimp only at hU ha0
  have hP : mP G al c H := hP
  have hl : lv_has ls 13 [(2, .int 1), (1, .ref (al 0)), (0, .ref (gSb G))] := by rw [ha0]; exact hl
  refine f_topi (v := 1) (by decide) ?_
  refine f_topi (v := 1) rfl ?_
  refine lv_iload_n hx hb dL_law_32 rfl (lv_at hl 0 rfl) ?_
  refine lv_icmp_ne (tgt := 44) hx hb dL_law_33 (by decide) (fun h => absurd (by decide) h) (fun _ => ?_)
  refine lv_aload_n hx hb dL_law_36 rfl (lv_at hl 1 rfl) ?_
  refine g_aft_ip (g_runV (As := []) (rest := []) hx hb hml hown hts (kX7_figure l G al c k w (nsF 0 0) 2 1 hU (by decide) (by decide) (fun f9 => congrFun nsF_0 f9)) (fcwV 0 hts q590 q591 q592 q148 q402 rfl rfl (by decide +kernel) ⟨(Nat.le_of_ble_eq_true rfl), (Nat.le_of_ble_eq_true rfl)⟩) hE hb0 hP hS (m_recvA hE hP 0 rfl hU.1 rfl) rfl hl.1 rfl (Nat.le_of_ble_eq_true rfl) dL_law_37 ⟨Nat.le_trans (show 0 + 1 + 17 + 4 + 3 + 4 + 3 ≤ 2000 by omega) hR1, Nat.le_trans (show 0 + 3 + 111 + 56 + 26 + 56 + 26 ≤ 20000 by omega) hR2⟩) hS (fun u_7 H locs hu_7 hP hS => ?_)
  obtain ⟨al, c⟩ := u_7
  obtain ⟨hU, ha0⟩ := hu_7
  try dsimp only at hU ha0
  have hP : mP G al c H := hP
  have hl : lv_has ls 13 [(2, .int 1), (1, .ref (al 0)), (0, .ref (gSb G))] := by rw [ha0]; exact hl
  refine f_topi (v := 1) (by decide) ?_
  refine f_topi (v := 1) rfl ?_
  refine lv_iload_n hx hb dL_law_40 rfl (lv_at hl 0 rfl) ?_
  refine lv_icmp_eq (tgt := 46) hx hb dL_law_41 (by decide) (fun _ => ?_) (fun h => absurd (by decide) h)
  refine lv_iinc (v := 2) (lv' := [(2, .int 2), (1, .ref (al 0)), (0, .ref (gSb G))]) hx hb dL_law_46 hl (k := 0) rfl (by decide) (by decide) rfl (fun ls hl => ?_)
  refine lv_goto (tgt := 10) hx hb dL_law_49 (by decide) ?_
  refine lv_iload_n hx hb dL_law_10 rfl (lv_at hl 0 rfl) ?_
  refine lv_iconst (v := 2) hx hb dL_law_11 (by decide) ?_
  refine lv_icmp_ge (tgt := 52) hx hb dL_law_12 (by decide) (fun _ => ?_) (fun h => absurd (by decide) h)
  refine W.widen (k := 34) (n := 278) (by omega) (by omega) ?_
  exact kk _ _ _ _ _ hU hP hS (lv_sub hl [1, 2] rfl)
set_option maxHeartbeats 4000000 in
set_option maxRecDepth 100000 in
/-- the jets -/
theorem law_52 {k : gC} {w : Nat → Nat → Int32} {al : Nat → Nat} {c : mC} {H : Heap} {locs : List Loc} {ls : Array Slot} (hk : k = kG G) (hw : w = wG G) (C : lwC p s m cd G) (hU : gU G al k w 2 2 0 (nsF 0 0) c) (hP : mP G al c H) (hS : va_S (gA G) s.heap H locs) (hl : lv_has ls 13 [(1, .ref (al 0)), (0, .ref (gSb G))]) (kk : ∀ (al : Nat → Nat) (c : mC) (H : Heap) (locs : List Loc) (ls : Array Slot), gU G al k w 2 2 k.1 (nsF 0 0) c → mP G al c H → va_S (gA G) s.heap H locs → lv_has ls 13 [(2, .int (nI k.1)), (1, .ref (al 0)), (0, .ref (gSb G))] → W p l e room_1 s m #[Value.ref (gSb G)] below meth cd H locs (34 + 4 * 8) (278 + 64 * 8) Q (F0 m 133 ls [])) : W p l e room_1 s m #[Value.ref (gSb G)] below meth cd H locs 34 278 Q (F0 m 52 ls []) := by
  obtain ⟨hx, hb, hml, hown, hts, hb0, hE, hL⟩ := C
  have hR1 : 2000 ≤ room_1.cells := (Nat.le_of_ble_eq_true rfl)
  have hR2 : 20000 ≤ room_1.slots := (Nat.le_of_ble_eq_true rfl)
  have hcf : cfg k := hk ▸ kG_cfg G
  have hJ : k.1 ≤ 8 := hcf.2.1
  have hk2 : 2 ≤ k.1 := hcf.1
  refine lv_iconst (v := 2) hx hb dL_law_52 (by decide) ?_
  refine lv_aload_n hx hb dL_law_53 rfl (lv_at hl 1 rfl) ?_
  refine lv_iconst (v := 2) hx hb dL_law_54 (by decide) ?_
  refine g_aft_i (g_runS (As := [.ref (gSb G), .int 2]) (rest := [.int 2]) hx hb hml hown hts (kL_cell l G al c 2 (by decide) hL) (fcwS 2 hts q582 q583 q584 q557 rfl rfl (by decide +kernel) ⟨(Nat.le_of_ble_eq_true rfl), (Nat.le_of_ble_eq_true rfl)⟩) hE hb0 hP hS rfl hl.1 rfl (Nat.le_of_ble_eq_true rfl) dL_law_55 ⟨Nat.le_trans (show 34 + 0 ≤ 2000 by omega) hR1, Nat.le_trans (show 278 + 0 ≤ 20000 by omega) hR2⟩) hS (fun u H locs hP hS => ?_)
  refine f_topi (v := sCell G 2) rfl ?_
  refine lv_bipush (v := 7) hx hb dL_law_58 (by decide) ?_
  refine g_aft_i (g_runS (As := [.int (sCell G 2), .int 7]) (rest := [.int 2]) hx hb hml hown hts (kL_below l G al c (sCell G 2) 7 (by decide) (by decide)) (fcwS 2 hts q585 q586 q584 q555 rfl rfl (by decide +kernel) ⟨(Nat.le_of_ble_eq_true rfl), (Nat.le_of_ble_eq_true rfl)⟩) hE hb0 hP hS rfl hl.1 rfl (Nat.le_of_ble_eq_true rfl) dL_law_60 ⟨Nat.le_trans (show 34 + 0 ≤ 2000 by omega) hR1, Nat.le_trans (show 278 + 0 ≤ 20000 by omega) hR2⟩) hS (fun u H locs hP hS => ?_)
  refine f_topi (v := nI (bel (sCell G 2) 7)) rfl ?_
  refine lv_iadd hx hb dL_law_63 ?_
  refine f_topi (v := nI k.1) (by rw [hk]; exact lj_J G) ?_
  refine lv_istore_n (lv' := [(2, .int (nI k.1)), (1, .ref (al 0)), (0, .ref (gSb G))]) hx hb dL_law_64 rfl hl (by decide) rfl (fun ls hl => ?_)
  refine lv_iconst (v := 0) hx hb dL_law_65 (by decide) ?_
  refine lv_istore_n (lv' := [(3, .int 0), (2, .int (nI k.1)), (1, .ref (al 0)), (0, .ref (gSb G))]) hx hb dL_law_66 rfl hl (by decide) rfl (fun ls hl => ?_)
  refine g_loopE (U := (Nat → Nat) × mC) (Ai := fun _ u => u.1) (N := k.1) (nL := 13) (Wi := fun _ u => u.2) (Li := fun i1 u => [(3, .int (nI i1)), (2, .int (nI k.1)), (1, .ref (u.1 0)), (0, .ref (gSb G))]) (ce := fun i1 => 34 + 4 * i1) (sl := fun i1 => 278 + 64 * i1) (fun i1 u => gU G u.1 k w 2 2 i1 (nsF 0 0) u.2) (al, c) hU hP hS (lv_sub (l' := [(3, .int (nI 0)), (2, .int (nI k.1)), (1, .ref (al 0)), (0, .ref (gSb G))]) hl [0, 1, 2, 3] rfl) rfl rfl (fun i1 u hii1 hJi1 ihi1 H locs ls hP hS hl => ?_)
  obtain ⟨al, c⟩ := u
  have hU : gU G al k w 2 2 i1 (nsF 0 0) c := hJi1
  have hP : mP G al c H := hP
  have hl : lv_has ls 13 [(3, .int (nI i1)), (2, .int (nI k.1)), (1, .ref (al 0)), (0, .ref (gSb G))] := hl
  refine lv_iload_n hx hb dL_law_67 rfl (lv_at hl 0 rfl) ?_
  refine lv_iload_n hx hb dL_law_68 rfl (lv_at hl 1 rfl) ?_
  refine lv_icmp_ge (tgt := 133) hx hb dL_law_69 (by decide) (fun hc_1 => ?_) (fun hc_1 => ?_)
  · skip
    have hgei1 : k.1 ≤ i1 := (nI_leI (by omega) (by omega)).mp hc_1
    have he1 : i1 = k.1 := Nat.le_antisymm hii1 hgei1
    subst he1
    refine W.widen (k := 34 + 4 * 8) (n := 278 + 64 * 8) (by omega) (by omega) ?_
    exact kk _ _ _ _ _ hU hP hS (lv_sub hl [1, 2, 3] rfl)
  · skip
    have hlti1 : i1 < k.1 := Nat.lt_of_not_le (fun q => hc_1 (nI_le q (by omega)))
    refine lv_aload_n hx hb dL_law_72 rfl (lv_at hl 3 rfl) ?_
    refine lv_iload_n hx hb dL_law_73 rfl (lv_at hl 0 rfl) ?_
    refine lv_iconst (v := 3) hx hb dL_law_74 (by decide) ?_
    refine lv_iadd hx hb dL_law_75 ?_
    refine f_topi (v := nI (i1 + 3)) (lj_p3 _) ?_
    refine g_aft_i (g_runS (As := [.ref (gSb G), .int (nI (i1 + 3))]) (rest := []) hx hb hml hown hts (kL_cell l G al c (i1 + 3) (by omega) hL) (fcwS 2 hts q582 q583 q584 q557 rfl rfl (by decide +kernel) ⟨(Nat.le_of_ble_eq_true rfl), (Nat.le_of_ble_eq_true rfl)⟩) hE hb0 hP hS rfl hl.1 rfl (Nat.le_of_ble_eq_true rfl) dL_law_76 ⟨Nat.le_trans (show 34 + 4 * i1 + 0 ≤ 2000 by omega) hR1, Nat.le_trans (show 278 + 64 * i1 + 0 ≤ 20000 by omega) hR2⟩) hS (fun u H locs hP hS => ?_)
    refine f_topi (v := sCell G (i1 + 3)) rfl ?_
    refine lv_istore (lv' := [(4, .int (sCell G (i1 + 3))), (3, .int (nI i1)), (2, .int (nI k.1)), (1, .ref (al 0)), (0, .ref (gSb G))]) hx hb dL_law_79 hl (by decide) rfl (fun ls hl => ?_)
    refine lv_aload_n hx hb dL_law_81 rfl (lv_at hl 3 rfl) ?_
    refine lv_iload hx hb dL_law_82 (lv_at hl 0 rfl) ?_
    refine lv_iconst (v := 2) hx hb dL_law_84 (by decide) ?_
    refine g_aft_i (g_runS (As := [.int (sCell G (i1 + 3)), .int 2]) (rest := [.ref (al 0)]) hx hb hml hown hts (kL_below l G al c (sCell G (i1 + 3)) 2 (by decide) (by decide)) (fcwS 2 hts q585 q586 q584 q555 rfl rfl (by decide +kernel) ⟨(Nat.le_of_ble_eq_true rfl), (Nat.le_of_ble_eq_true rfl)⟩) hE hb0 hP hS rfl hl.1 rfl (Nat.le_of_ble_eq_true rfl) dL_law_85 ⟨Nat.le_trans (show 34 + 4 * i1 + 0 ≤ 2000 by omega) hR1, Nat.le_trans (show 278 + 64 * i1 + 0 ≤ 20000 by omega) hR2⟩) hS (fun u H locs hP hS => ?_)
    refine f_topi (v := nI (k.2.1 i1)) (by rw [hk]; rfl) ?_
    refine f_topi (v := nI (k.2.1 i1)) rfl ?_
    refine lv_iload hx hb dL_law_88 (lv_at hl 0 rfl) ?_
    refine lv_iconst (v := 2) hx hb dL_law_90 (by decide) ?_
    refine lv_ishr hx hb dL_law_91 ?_
    refine lv_bipush (v := 20) hx hb dL_law_92 (by decide) ?_
    refine g_aft_i (g_runS (As := [.int ((sCell G (i1 + 3)) >>> (2 &&& 31)), .int 20]) (rest := [.int (nI (k.2.1 i1)), .ref (al 0)]) hx hb hml hown hts (kL_below l G al c ((sCell G (i1 + 3)) >>> (2 &&& 31)) 20 (by decide) (by decide)) (fcwS 2 hts q585 q586 q584 q555 rfl rfl (by decide +kernel) ⟨(Nat.le_of_ble_eq_true rfl), (Nat.le_of_ble_eq_true rfl)⟩) hE hb0 hP hS rfl hl.1 rfl (Nat.le_of_ble_eq_true rfl) dL_law_94 ⟨Nat.le_trans (show 34 + 4 * i1 + 0 ≤ 2000 by omega) hR1, Nat.le_trans (show 278 + 64 * i1 + 0 ≤ 20000 by omega) hR2⟩) hS (fun u H locs hP hS => ?_)
    refine f_topi (v := k.2.2 (3 + i1) 1) (by rw [hk]; exact (kG_1 G i1).symm) ?_
    refine f_topi (v := k.2.2 (3 + i1) 1) rfl ?_
    refine lv_iconst (v := 1) hx hb dL_law_97 (by decide) ?_
    refine lv_iload hx hb dL_law_98 (lv_at hl 0 rfl) ?_
    refine lv_iconst (v := 4) hx hb dL_law_100 (by decide) ?_
    refine lv_ishr hx hb dL_law_101 ?_
    refine lv_iconst (v := 5) hx hb dL_law_102 (by decide) ?_
    refine g_aft_i (g_runS (As := [.int ((sCell G (i1 + 3)) >>> (4 &&& 31)), .int 5]) (rest := [.int 1, .int (k.2.2 (3 + i1) 1), .int (nI (k.2.1 i1)), .ref (al 0)]) hx hb hml hown hts (kL_below l G al c ((sCell G (i1 + 3)) >>> (4 &&& 31)) 5 (by decide) (by decide)) (fcwS 2 hts q585 q586 q584 q555 rfl rfl (by decide +kernel) ⟨(Nat.le_of_ble_eq_true rfl), (Nat.le_of_ble_eq_true rfl)⟩) hE hb0 hP hS rfl hl.1 rfl (Nat.le_of_ble_eq_true rfl) dL_law_103 ⟨Nat.le_trans (show 34 + 4 * i1 + 0 ≤ 2000 by omega) hR1, Nat.le_trans (show 278 + 64 * i1 + 0 ≤ 20000 by omega) hR2⟩) hS (fun u H locs hP hS => ?_)
    refine f_topi (v := nI (bel ((sCell G (i1 + 3)) >>> (4 &&& 31)) 5)) rfl ?_
    refine lv_iadd hx hb dL_law_106 ?_
    refine f_topi (v := k.2.2 (3 + i1) 2) (by rw [hk]; exact (kG_2 G i1).symm) ?_
    refine lv_iload hx hb dL_law_107 (lv_at hl 0 rfl) ?_
    refine lv_iconst (v := 5) hx hb dL_law_109 (by decide) ?_
    refine lv_ishr hx hb dL_law_110 ?_
    refine lv_bipush (v := 7) hx hb dL_law_111 (by decide) ?_
    refine g_aft_i (g_runS (As := [.int ((sCell G (i1 + 3)) >>> (5 &&& 31)), .int 7]) (rest := [.int (k.2.2 (3 + i1) 2), .int (k.2.2 (3 + i1) 1), .int (nI (k.2.1 i1)), .ref (al 0)]) hx hb hml hown hts (kL_below l G al c ((sCell G (i1 + 3)) >>> (5 &&& 31)) 7 (by decide) (by decide)) (fcwS 2 hts q585 q586 q584 q555 rfl rfl (by decide +kernel) ⟨(Nat.le_of_ble_eq_true rfl), (Nat.le_of_ble_eq_true rfl)⟩) hE hb0 hP hS rfl hl.1 rfl (Nat.le_of_ble_eq_true rfl) dL_law_113 ⟨Nat.le_trans (show 34 + 4 * i1 + 0 ≤ 2000 by omega) hR1, Nat.le_trans (show 278 + 64 * i1 + 0 ≤ 20000 by omega) hR2⟩) hS (fun u H locs hP hS => ?_)
    refine f_topi (v := nI (bel ((sCell G (i1 + 3)) >>> (5 &&& 31)) 7)) rfl ?_
    refine lv_iconst (v := 3) hx hb dL_law_116 (by decide) ?_
    refine lv_isub hx hb dL_law_117 ?_
    refine f_topi (v := k.2.2 (3 + i1) 3) (by rw [hk]; exact (kG_3 G i1).symm) ?_
    refine g_aft_ip (g_runV (As := [.int (nI (k.2.1 i1)), .int (k.2.2 (3 + i1) 1), .int (k.2.2 (3 + i1) 2), .int (k.2.2 (3 + i1) 3)]) (rest := []) hx hb hml hown hts (kX7_jet l G al c k w (nsF 0 0) i1 hU (fun f9 _ => nsF_3 (by decide) f9) (by omega) (fun j9 h9 => hcf.2.2.1 j9 (by omega)) (by rw [hk]; exact (kG_jb G i1).1) (by rw [hk]; exact (kG_jb G i1).2.1) (by rw [hk]; exact (kG_jb G i1).2.2.1) (by rw [hk]; exact (kG_jb G i1).2.2.2.1) (by rw [hk]; exact (kG_jb G i1).2.2.2.2.1) (by rw [hk]; exact (kG_jb G i1).2.2.2.2.2)) (fcwV 4 hts q593 q594 q595 q148 q397 rfl rfl (by decide +kernel) ⟨(Nat.le_of_ble_eq_true rfl), (Nat.le_of_ble_eq_true rfl)⟩) hE hb0 hP hS (m_recvA hE hP 0 rfl hU.1 rfl) rfl hl.1 rfl (Nat.le_of_ble_eq_true rfl) dL_law_118 ⟨Nat.le_trans (show 34 + 4 * i1 + 4 ≤ 2000 by omega) hR1, Nat.le_trans (show 278 + 64 * i1 + 64 ≤ 20000 by omega) hR2⟩) hS (fun u_2 H locs hu_2 hP hS => ?_)
    obtain ⟨al, c⟩ := u_2
    obtain ⟨hU, ha0⟩ := hu_2
    try dsimp only at hU ha0
    have hP : mP G al c H := hP
    have hl : lv_has ls 13 [(4, .int (sCell G (i1 + 3))), (3, .int (nI i1)), (2, .int (nI k.1)), (1, .ref (al 0)), (0, .ref (gSb G))] := by rw [ha0]; exact hl
    refine f_topi (v := nI i1) rfl ?_
    refine lv_iload_n hx hb dL_law_121 rfl (lv_at hl 1 rfl) ?_
    refine lv_icmp_eq (tgt := 127) hx hb dL_law_122 (by decide) (fun _ => ?_) (fun h => absurd rfl h)
    refine lv_iinc (v := nI (i1 + 1)) (lv' := [(3, .int (nI (i1 + 1))), (4, .int (sCell G (i1 + 3))), (2, .int (nI k.1)), (1, .ref (al 0)), (0, .ref (gSb G))]) hx hb dL_law_127 hl (k := 1) rfl (f_inc _) (by decide) rfl (fun ls hl => ?_)
    refine lv_goto (tgt := 67) hx hb dL_law_130 (by decide) ?_
    refine W.widen (k := 34 + 4 * (i1 + 1)) (n := 278 + 64 * (i1 + 1)) (by omega) (by omega) ?_
    exact ihi1 hlti1 (al, c) hU _ _ _ hP hS (lv_sub hl [0, 2, 3, 4] rfl)
set_option maxHeartbeats 4000000 in
set_option maxRecDepth 100000 in
/-- the steps -/
theorem law_133 {k : gC} {w : Nat → Nat → Int32} {al : Nat → Nat} {c : mC} {H : Heap} {locs : List Loc} {ls : Array Slot} (hk : k = kG G) (hw : w = wG G) (C : lwC p s m cd G) (hU : gU G al k w 2 2 k.1 (nsF 0 0) c) (hP : mP G al c H) (hS : va_S (gA G) s.heap H locs) (hl : lv_has ls 13 [(2, .int (nI k.1)), (1, .ref (al 0)), (0, .ref (gSb G))]) (kk : ∀ (al : Nat → Nat) (c : mC) (H : Heap) (locs : List Loc) (ls : Array Slot), gU G al k w 2 2 k.1 (nsF 2 0) c → mP G al c H → va_S (gA G) s.heap H locs → lv_has ls 13 [(2, .int (nI k.1)), (1, .ref (al 0)), (0, .ref (gSb G))] → W p l e room_1 s m #[Value.ref (gSb G)] below meth cd H locs 80 950 Q (F0 m 234 ls [])) : W p l e room_1 s m #[Value.ref (gSb G)] below meth cd H locs (34 + 4 * 8) (278 + 64 * 8) Q (F0 m 133 ls []) := by
  obtain ⟨hx, hb, hml, hown, hts, hb0, hE, hL⟩ := C
  have hR1 : 2000 ≤ room_1.cells := (Nat.le_of_ble_eq_true rfl)
  have hR2 : 20000 ≤ room_1.slots := (Nat.le_of_ble_eq_true rfl)
  have hcf : cfg k := hk ▸ kG_cfg G
  have hJ : k.1 ≤ 8 := hcf.2.1
  have hk2 : 2 ≤ k.1 := hcf.1
  refine lv_iconst (v := 0) hx hb dL_law_133 (by decide) ?_
  refine lv_istore_n (lv' := [(3, .int 0), (2, .int (nI k.1)), (1, .ref (al 0)), (0, .ref (gSb G))]) hx hb dL_law_134 rfl hl (by decide) rfl (fun ls hl => ?_)
  refine lv_iload_n hx hb dL_law_135 rfl (lv_at hl 0 rfl) ?_
  refine lv_iconst (v := 2) hx hb dL_law_136 (by decide) ?_
  refine lv_icmp_ge (tgt := 234) hx hb dL_law_137 (by decide) (fun h => absurd h (by decide)) (fun _ => ?_)
  refine lv_iconst (v := 0) hx hb dL_law_140 (by decide) ?_
  refine lv_istore (lv' := [(4, .int 0), (3, .int 0), (2, .int (nI k.1)), (1, .ref (al 0)), (0, .ref (gSb G))]) hx hb dL_law_141 hl (by decide) rfl (fun ls hl => ?_)
  refine lv_iload hx hb dL_law_143 (lv_at hl 0 rfl) ?_
  refine lv_iconst (v := 3) hx hb dL_law_145 (by decide) ?_
  refine lv_icmp_ge (tgt := 228) hx hb dL_law_146 (by decide) (fun h => absurd h (by decide)) (fun _ => ?_)
  refine lv_aload_n hx hb dL_law_149 rfl (lv_at hl 4 rfl) ?_
  refine lv_iconst (v := 3) hx hb dL_law_150 (by decide) ?_
  refine lv_iload_n hx hb dL_law_151 rfl (lv_at hl 1 rfl) ?_
  refine lv_imul hx hb dL_law_152 ?_
  refine f_topi (v := 0) (by decide) ?_
  refine lv_iload hx hb dL_law_153 (lv_at hl 0 rfl) ?_
  refine lv_iadd hx hb dL_law_155 ?_
  refine f_topi (v := 0) (by decide) ?_
  refine g_aft_i (g_runS (As := [.ref (gSb G), .int 0]) (rest := []) hx hb hml hown hts (kL_cell l G al c 0 (by decide) hL) (fcwS 2 hts q582 q583 q584 q557 rfl rfl (by decide +kernel) ⟨(Nat.le_of_ble_eq_true rfl), (Nat.le_of_ble_eq_true rfl)⟩) hE hb0 hP hS rfl hl.1 rfl (Nat.le_of_ble_eq_true rfl) dL_law_156 ⟨Nat.le_trans (show 34 + 4 * 8 + 0 ≤ 2000 by omega) hR1, Nat.le_trans (show 278 + 64 * 8 + 0 ≤ 20000 by omega) hR2⟩) hS (fun u H locs hP hS => ?_)
  refine f_topi (v := sCell G 0) rfl ?_
  refine lv_istore (lv' := [(5, .int (sCell G 0)), (4, .int 0), (3, .int 0), (2, .int (nI k.1)), (1, .ref (al 0)), (0, .ref (gSb G))]) hx hb dL_law_159 hl (by decide) rfl (fun ls hl => ?_)
  refine lv_aload_n hx hb dL_law_161 rfl (lv_at hl 4 rfl) ?_
  refine lv_iload_n hx hb dL_law_162 rfl (lv_at hl 2 rfl) ?_
  refine lv_iload hx hb dL_law_163 (lv_at hl 0 rfl) ?_
  refine lv_bipush (v := 8) hx hb dL_law_165 (by decide) ?_
  refine g_aft_i (g_runS (As := [.int (sCell G 0), .int 8]) (rest := [.int 0, .ref (al 0)]) hx hb hml hown hts (kL_below l G al c (sCell G 0) 8 (by decide) (by decide)) (fcwS 2 hts q585 q586 q584 q555 rfl rfl (by decide +kernel) ⟨(Nat.le_of_ble_eq_true rfl), (Nat.le_of_ble_eq_true rfl)⟩) hE hb0 hP hS rfl hl.1 rfl (Nat.le_of_ble_eq_true rfl) dL_law_167 ⟨Nat.le_trans (show 34 + 4 * 8 + 0 ≤ 2000 by omega) hR1, Nat.le_trans (show 278 + 64 * 8 + 0 ≤ 20000 by omega) hR2⟩) hS (fun u H locs hP hS => ?_)
  refine f_topi (v := w (3 * 0 + 0) 0) (by rw [hw]; rfl) ?_
  refine f_topi (v := w (3 * 0 + 0) 0) rfl ?_
  refine lv_iconst (v := 1) hx hb dL_law_170 (by decide) ?_
  refine lv_iload hx hb dL_law_171 (lv_at hl 0 rfl) ?_
  refine lv_iconst (v := 3) hx hb dL_law_173 (by decide) ?_
  refine lv_ishr hx hb dL_law_174 ?_
  refine lv_sipush (v := 1023) hx hb dL_law_175 (by decide) ?_
  refine g_aft_i (g_runS (As := [.int ((sCell G 0) >>> (3 &&& 31)), .int 1023]) (rest := [.int 1, .int (w (3 * 0 + 0) 0), .int 0, .ref (al 0)]) hx hb hml hown hts (kL_below l G al c ((sCell G 0) >>> (3 &&& 31)) 1023 (by decide) (by decide)) (fcwS 2 hts q585 q586 q584 q555 rfl rfl (by decide +kernel) ⟨(Nat.le_of_ble_eq_true rfl), (Nat.le_of_ble_eq_true rfl)⟩) hE hb0 hP hS rfl hl.1 rfl (Nat.le_of_ble_eq_true rfl) dL_law_178 ⟨Nat.le_trans (show 34 + 4 * 8 + 0 ≤ 2000 by omega) hR1, Nat.le_trans (show 278 + 64 * 8 + 0 ≤ 20000 by omega) hR2⟩) hS (fun u H locs hP hS => ?_)
  refine f_topi (v := nI (bel ((sCell G 0) >>> (3 &&& 31)) 1023)) rfl ?_
  refine lv_iadd hx hb dL_law_181 ?_
  refine f_topi (v := w (3 * 0 + 0) 1) (by rw [hw]; rfl) ?_
  refine lv_iload hx hb dL_law_182 (lv_at hl 1 rfl) ?_
  refine lv_if_ne (tgt := 201) hx hb dL_law_184 (by decide) (fun h => absurd (by decide) h) (fun _ => ?_)
  refine lv_bipush (v := 16) hx hb dL_law_187 (by decide) ?_
  refine lv_iload hx hb dL_law_189 (lv_at hl 0 rfl) ?_
  refine lv_iconst (v := 4) hx hb dL_law_191 (by decide) ?_
  refine lv_ishr hx hb dL_law_192 ?_
  refine lv_iconst (v := 5) hx hb dL_law_193 (by decide) ?_
  refine g_aft_i (g_runS (As := [.int ((sCell G 0) >>> (4 &&& 31)), .int 5]) (rest := [.int 16, .int (w (3 * 0 + 0) 1), .int (w (3 * 0 + 0) 0), .int 0, .ref (al 0)]) hx hb hml hown hts (kL_below l G al c ((sCell G 0) >>> (4 &&& 31)) 5 (by decide) (by decide)) (fcwS 2 hts q585 q586 q584 q555 rfl rfl (by decide +kernel) ⟨(Nat.le_of_ble_eq_true rfl), (Nat.le_of_ble_eq_true rfl)⟩) hE hb0 hP hS rfl hl.1 rfl (Nat.le_of_ble_eq_true rfl) dL_law_194 ⟨Nat.le_trans (show 34 + 4 * 8 + 0 ≤ 2000 by omega) hR1, Nat.le_trans (show 278 + 64 * 8 + 0 ≤ 20000 by omega) hR2⟩) hS (fun u H locs hP hS => ?_)
  refine f_topi (v := nI (bel ((sCell G 0) >>> (4 &&& 31)) 5)) rfl ?_
  refine lv_iadd hx hb dL_law_197 ?_
  refine f_topi (v := w (3 * 0 + 0) 2) (by rw [hw]; exact wG_a G (by decide)) ?_
  refine lv_goto (tgt := 210) hx hb dL_law_198 (by decide) ?_
  refine g_aft_ip (g_runV (As := [.int 0, .int (w (3 * 0 + 0) 0), .int (w (3 * 0 + 0) 1), .int (w (3 * 0 + 0) 2)]) (rest := []) hx hb hml hown hts (kX7_step l G al c k w (nsF 0 0) k.1 0 0 (nsF 0 (0 + 1)) hU (fun f9 _ => nsF_3 (by decide) f9) hJ hcf.2.2.1 (by decide) (nsF_f _ _) (by decide) (nsF_f _ _) (fun f9 h9 => nsF_o h9) (by rw [hw]; exact (wG_b G (q := 3 * 0 + 0) (by decide)).1) (by rw [hw]; exact (wG_b G (q := 3 * 0 + 0) (by decide)).2.1) (by rw [hw]; exact (wG_b G (q := 3 * 0 + 0) (by decide)).2.2.1) (by rw [hw]; exact (wG_b G (q := 3 * 0 + 0) (by decide)).2.2.2.1) (by rw [hw]; exact (wG_b G (q := 3 * 0 + 0) (by decide)).2.2.2.2)) (fcwV 4 hts q596 q597 q598 q148 q416 rfl rfl (by decide +kernel) ⟨(Nat.le_of_ble_eq_true rfl), (Nat.le_of_ble_eq_true rfl)⟩) hE hb0 hP hS (m_recvA hE hP 0 rfl hU.1 rfl) rfl hl.1 rfl (Nat.le_of_ble_eq_true rfl) dL_law_210 ⟨Nat.le_trans (show 34 + 4 * 8 + 2 ≤ 2000 by omega) hR1, Nat.le_trans (show 278 + 64 * 8 + 25 ≤ 20000 by omega) hR2⟩) hS (fun u_1 H locs hu_1 hP hS => ?_)
  obtain ⟨al, c⟩ := u_1
  obtain ⟨hU, ha0⟩ := hu_1
  try dsimp only at hU ha0
  have hP : mP G al c H := hP
  have hl : lv_has ls 13 [(5, .int (sCell G 0)), (4, .int 0), (3, .int 0), (2, .int (nI k.1)), (1, .ref (al 0)), (0, .ref (gSb G))] := by rw [ha0]; exact hl
  refine f_topi (v := 1) (by decide) ?_
  refine f_topi (v := 1) rfl ?_
  refine lv_iload hx hb dL_law_213 (lv_at hl 1 rfl) ?_
  refine lv_iconst (v := 1) hx hb dL_law_215 (by decide) ?_
  refine lv_iadd hx hb dL_law_216 ?_
  refine f_topi (v := 1) (by decide) ?_
  refine lv_icmp_eq (tgt := 222) hx hb dL_law_217 (by decide) (fun _ => ?_) (fun h => absurd (by decide) h)
  refine lv_iinc (v := 1) (lv' := [(4, .int 1), (5, .int (sCell G 0)), (3, .int 0), (2, .int (nI k.1)), (1, .ref (al 0)), (0, .ref (gSb G))]) hx hb dL_law_222 hl (k := 1) rfl (by decide) (by decide) rfl (fun ls hl => ?_)
  refine lv_goto (tgt := 143) hx hb dL_law_225 (by decide) ?_
  refine lv_iload hx hb dL_law_143 (lv_at hl 0 rfl) ?_
  refine lv_iconst (v := 3) hx hb dL_law_145 (by decide) ?_
  refine lv_icmp_ge (tgt := 228) hx hb dL_law_146 (by decide) (fun h => absurd h (by decide)) (fun _ => ?_)
  refine lv_aload_n hx hb dL_law_149 rfl (lv_at hl 5 rfl) ?_
  refine lv_iconst (v := 3) hx hb dL_law_150 (by decide) ?_
  refine lv_iload_n hx hb dL_law_151 rfl (lv_at hl 2 rfl) ?_
  refine lv_imul hx hb dL_law_152 ?_
  refine f_topi (v := 0) (by decide) ?_
  refine lv_iload hx hb dL_law_153 (lv_at hl 0 rfl) ?_
  refine lv_iadd hx hb dL_law_155 ?_
  refine f_topi (v := 1) (by decide) ?_
  refine g_aft_i (g_runS (As := [.ref (gSb G), .int 1]) (rest := []) hx hb hml hown hts (kL_cell l G al c 1 (by decide) hL) (fcwS 2 hts q582 q583 q584 q557 rfl rfl (by decide +kernel) ⟨(Nat.le_of_ble_eq_true rfl), (Nat.le_of_ble_eq_true rfl)⟩) hE hb0 hP hS rfl hl.1 rfl (Nat.le_of_ble_eq_true rfl) dL_law_156 ⟨Nat.le_trans (show 34 + 4 * 8 + 2 + 0 ≤ 2000 by omega) hR1, Nat.le_trans (show 278 + 64 * 8 + 25 + 0 ≤ 20000 by omega) hR2⟩) hS (fun u H locs hP hS => ?_)
  refine f_topi (v := sCell G 1) rfl ?_
  refine lv_istore (lv' := [(5, .int (sCell G 1)), (4, .int 1), (3, .int 0), (2, .int (nI k.1)), (1, .ref (al 0)), (0, .ref (gSb G))]) hx hb dL_law_159 hl (by decide) rfl (fun ls hl => ?_)
  refine lv_aload_n hx hb dL_law_161 rfl (lv_at hl 4 rfl) ?_
  refine lv_iload_n hx hb dL_law_162 rfl (lv_at hl 2 rfl) ?_
  refine lv_iload hx hb dL_law_163 (lv_at hl 0 rfl) ?_
  refine lv_bipush (v := 8) hx hb dL_law_165 (by decide) ?_
  refine g_aft_i (g_runS (As := [.int (sCell G 1), .int 8]) (rest := [.int 0, .ref (al 0)]) hx hb hml hown hts (kL_below l G al c (sCell G 1) 8 (by decide) (by decide)) (fcwS 2 hts q585 q586 q584 q555 rfl rfl (by decide +kernel) ⟨(Nat.le_of_ble_eq_true rfl), (Nat.le_of_ble_eq_true rfl)⟩) hE hb0 hP hS rfl hl.1 rfl (Nat.le_of_ble_eq_true rfl) dL_law_167 ⟨Nat.le_trans (show 34 + 4 * 8 + 2 + 0 ≤ 2000 by omega) hR1, Nat.le_trans (show 278 + 64 * 8 + 25 + 0 ≤ 20000 by omega) hR2⟩) hS (fun u H locs hP hS => ?_)
  refine f_topi (v := w (3 * 0 + 1) 0) (by rw [hw]; rfl) ?_
  refine f_topi (v := w (3 * 0 + 1) 0) rfl ?_
  refine lv_iconst (v := 1) hx hb dL_law_170 (by decide) ?_
  refine lv_iload hx hb dL_law_171 (lv_at hl 0 rfl) ?_
  refine lv_iconst (v := 3) hx hb dL_law_173 (by decide) ?_
  refine lv_ishr hx hb dL_law_174 ?_
  refine lv_sipush (v := 1023) hx hb dL_law_175 (by decide) ?_
  refine g_aft_i (g_runS (As := [.int ((sCell G 1) >>> (3 &&& 31)), .int 1023]) (rest := [.int 1, .int (w (3 * 0 + 1) 0), .int 0, .ref (al 0)]) hx hb hml hown hts (kL_below l G al c ((sCell G 1) >>> (3 &&& 31)) 1023 (by decide) (by decide)) (fcwS 2 hts q585 q586 q584 q555 rfl rfl (by decide +kernel) ⟨(Nat.le_of_ble_eq_true rfl), (Nat.le_of_ble_eq_true rfl)⟩) hE hb0 hP hS rfl hl.1 rfl (Nat.le_of_ble_eq_true rfl) dL_law_178 ⟨Nat.le_trans (show 34 + 4 * 8 + 2 + 0 ≤ 2000 by omega) hR1, Nat.le_trans (show 278 + 64 * 8 + 25 + 0 ≤ 20000 by omega) hR2⟩) hS (fun u H locs hP hS => ?_)
  refine f_topi (v := nI (bel ((sCell G 1) >>> (3 &&& 31)) 1023)) rfl ?_
  refine lv_iadd hx hb dL_law_181 ?_
  refine f_topi (v := w (3 * 0 + 1) 1) (by rw [hw]; rfl) ?_
  refine lv_iload hx hb dL_law_182 (lv_at hl 1 rfl) ?_
  refine lv_if_ne (tgt := 201) hx hb dL_law_184 (by decide) (fun _ => ?_) (fun h => absurd h (by decide))
  refine lv_iload hx hb dL_law_201 (lv_at hl 0 rfl) ?_
  refine lv_iconst (v := 5) hx hb dL_law_203 (by decide) ?_
  refine lv_ishr hx hb dL_law_204 ?_
  refine lv_bipush (v := 7) hx hb dL_law_205 (by decide) ?_
  refine g_aft_i (g_runS (As := [.int ((sCell G 1) >>> (5 &&& 31)), .int 7]) (rest := [.int (w (3 * 0 + 1) 1), .int (w (3 * 0 + 1) 0), .int 0, .ref (al 0)]) hx hb hml hown hts (kL_below l G al c ((sCell G 1) >>> (5 &&& 31)) 7 (by decide) (by decide)) (fcwS 2 hts q585 q586 q584 q555 rfl rfl (by decide +kernel) ⟨(Nat.le_of_ble_eq_true rfl), (Nat.le_of_ble_eq_true rfl)⟩) hE hb0 hP hS rfl hl.1 rfl (Nat.le_of_ble_eq_true rfl) dL_law_207 ⟨Nat.le_trans (show 34 + 4 * 8 + 2 + 0 ≤ 2000 by omega) hR1, Nat.le_trans (show 278 + 64 * 8 + 25 + 0 ≤ 20000 by omega) hR2⟩) hS (fun u H locs hP hS => ?_)
  refine f_topi (v := w (3 * 0 + 1) 2) (by rw [hw]; exact wG_c G (by decide)) ?_
  refine f_topi (v := w (3 * 0 + 1) 2) rfl ?_
  refine g_aft_ip (g_runV (As := [.int 0, .int (w (3 * 0 + 1) 0), .int (w (3 * 0 + 1) 1), .int (w (3 * 0 + 1) 2)]) (rest := []) hx hb hml hown hts (kX7_step l G al c k w (nsF 0 1) k.1 0 1 (nsF 0 (1 + 1)) hU (fun f9 _ => nsF_3 (by decide) f9) hJ hcf.2.2.1 (by decide) (nsF_f _ _) (by decide) (nsF_f _ _) (fun f9 h9 => nsF_o h9) (by rw [hw]; exact (wG_b G (q := 3 * 0 + 1) (by decide)).1) (by rw [hw]; exact (wG_b G (q := 3 * 0 + 1) (by decide)).2.1) (by rw [hw]; exact (wG_b G (q := 3 * 0 + 1) (by decide)).2.2.1) (by rw [hw]; exact (wG_b G (q := 3 * 0 + 1) (by decide)).2.2.2.1) (by rw [hw]; exact (wG_b G (q := 3 * 0 + 1) (by decide)).2.2.2.2)) (fcwV 4 hts q596 q597 q598 q148 q416 rfl rfl (by decide +kernel) ⟨(Nat.le_of_ble_eq_true rfl), (Nat.le_of_ble_eq_true rfl)⟩) hE hb0 hP hS (m_recvA hE hP 0 rfl hU.1 rfl) rfl hl.1 rfl (Nat.le_of_ble_eq_true rfl) dL_law_210 ⟨Nat.le_trans (show 34 + 4 * 8 + 2 + 2 ≤ 2000 by omega) hR1, Nat.le_trans (show 278 + 64 * 8 + 25 + 25 ≤ 20000 by omega) hR2⟩) hS (fun u_2 H locs hu_2 hP hS => ?_)
  obtain ⟨al, c⟩ := u_2
  obtain ⟨hU, ha0⟩ := hu_2
  try dsimp only at hU ha0
  have hP : mP G al c H := hP
  have hl : lv_has ls 13 [(5, .int (sCell G 1)), (4, .int 1), (3, .int 0), (2, .int (nI k.1)), (1, .ref (al 0)), (0, .ref (gSb G))] := by rw [ha0]; exact hl
  refine f_topi (v := 2) (by decide) ?_
  refine f_topi (v := 2) rfl ?_
  refine lv_iload hx hb dL_law_213 (lv_at hl 1 rfl) ?_
  refine lv_iconst (v := 1) hx hb dL_law_215 (by decide) ?_
  refine lv_iadd hx hb dL_law_216 ?_
  refine f_topi (v := 2) (by decide) ?_
  refine lv_icmp_eq (tgt := 222) hx hb dL_law_217 (by decide) (fun _ => ?_) (fun h => absurd (by decide) h)
  refine lv_iinc (v := 2) (lv' := [(4, .int 2), (5, .int (sCell G 1)), (3, .int 0), (2, .int (nI k.1)), (1, .ref (al 0)), (0, .ref (gSb G))]) hx hb dL_law_222 hl (k := 1) rfl (by decide) (by decide) rfl (fun ls hl => ?_)
  refine lv_goto (tgt := 143) hx hb dL_law_225 (by decide) ?_
  refine lv_iload hx hb dL_law_143 (lv_at hl 0 rfl) ?_
  refine lv_iconst (v := 3) hx hb dL_law_145 (by decide) ?_
  refine lv_icmp_ge (tgt := 228) hx hb dL_law_146 (by decide) (fun h => absurd h (by decide)) (fun _ => ?_)
  refine lv_aload_n hx hb dL_law_149 rfl (lv_at hl 5 rfl) ?_
  refine lv_iconst (v := 3) hx hb dL_law_150 (by decide) ?_
  refine lv_iload_n hx hb dL_law_151 rfl (lv_at hl 2 rfl) ?_
  refine lv_imul hx hb dL_law_152 ?_
  refine f_topi (v := 0) (by decide) ?_
  refine lv_iload hx hb dL_law_153 (lv_at hl 0 rfl) ?_
  refine lv_iadd hx hb dL_law_155 ?_
  refine f_topi (v := 2) (by decide) ?_
  refine g_aft_i (g_runS (As := [.ref (gSb G), .int 2]) (rest := []) hx hb hml hown hts (kL_cell l G al c 2 (by decide) hL) (fcwS 2 hts q582 q583 q584 q557 rfl rfl (by decide +kernel) ⟨(Nat.le_of_ble_eq_true rfl), (Nat.le_of_ble_eq_true rfl)⟩) hE hb0 hP hS rfl hl.1 rfl (Nat.le_of_ble_eq_true rfl) dL_law_156 ⟨Nat.le_trans (show 34 + 4 * 8 + 2 + 2 + 0 ≤ 2000 by omega) hR1, Nat.le_trans (show 278 + 64 * 8 + 25 + 25 + 0 ≤ 20000 by omega) hR2⟩) hS (fun u H locs hP hS => ?_)
  refine f_topi (v := sCell G 2) rfl ?_
  refine lv_istore (lv' := [(5, .int (sCell G 2)), (4, .int 2), (3, .int 0), (2, .int (nI k.1)), (1, .ref (al 0)), (0, .ref (gSb G))]) hx hb dL_law_159 hl (by decide) rfl (fun ls hl => ?_)
  refine lv_aload_n hx hb dL_law_161 rfl (lv_at hl 4 rfl) ?_
  refine lv_iload_n hx hb dL_law_162 rfl (lv_at hl 2 rfl) ?_
  refine lv_iload hx hb dL_law_163 (lv_at hl 0 rfl) ?_
  refine lv_bipush (v := 8) hx hb dL_law_165 (by decide) ?_
  refine g_aft_i (g_runS (As := [.int (sCell G 2), .int 8]) (rest := [.int 0, .ref (al 0)]) hx hb hml hown hts (kL_below l G al c (sCell G 2) 8 (by decide) (by decide)) (fcwS 2 hts q585 q586 q584 q555 rfl rfl (by decide +kernel) ⟨(Nat.le_of_ble_eq_true rfl), (Nat.le_of_ble_eq_true rfl)⟩) hE hb0 hP hS rfl hl.1 rfl (Nat.le_of_ble_eq_true rfl) dL_law_167 ⟨Nat.le_trans (show 34 + 4 * 8 + 2 + 2 + 0 ≤ 2000 by omega) hR1, Nat.le_trans (show 278 + 64 * 8 + 25 + 25 + 0 ≤ 20000 by omega) hR2⟩) hS (fun u H locs hP hS => ?_)
  refine f_topi (v := w (3 * 0 + 2) 0) (by rw [hw]; rfl) ?_
  refine f_topi (v := w (3 * 0 + 2) 0) rfl ?_
  refine lv_iconst (v := 1) hx hb dL_law_170 (by decide) ?_
  refine lv_iload hx hb dL_law_171 (lv_at hl 0 rfl) ?_
  refine lv_iconst (v := 3) hx hb dL_law_173 (by decide) ?_
  refine lv_ishr hx hb dL_law_174 ?_
  refine lv_sipush (v := 1023) hx hb dL_law_175 (by decide) ?_
  refine g_aft_i (g_runS (As := [.int ((sCell G 2) >>> (3 &&& 31)), .int 1023]) (rest := [.int 1, .int (w (3 * 0 + 2) 0), .int 0, .ref (al 0)]) hx hb hml hown hts (kL_below l G al c ((sCell G 2) >>> (3 &&& 31)) 1023 (by decide) (by decide)) (fcwS 2 hts q585 q586 q584 q555 rfl rfl (by decide +kernel) ⟨(Nat.le_of_ble_eq_true rfl), (Nat.le_of_ble_eq_true rfl)⟩) hE hb0 hP hS rfl hl.1 rfl (Nat.le_of_ble_eq_true rfl) dL_law_178 ⟨Nat.le_trans (show 34 + 4 * 8 + 2 + 2 + 0 ≤ 2000 by omega) hR1, Nat.le_trans (show 278 + 64 * 8 + 25 + 25 + 0 ≤ 20000 by omega) hR2⟩) hS (fun u H locs hP hS => ?_)
  refine f_topi (v := nI (bel ((sCell G 2) >>> (3 &&& 31)) 1023)) rfl ?_
  refine lv_iadd hx hb dL_law_181 ?_
  refine f_topi (v := w (3 * 0 + 2) 1) (by rw [hw]; rfl) ?_
  refine lv_iload hx hb dL_law_182 (lv_at hl 1 rfl) ?_
  refine lv_if_ne (tgt := 201) hx hb dL_law_184 (by decide) (fun _ => ?_) (fun h => absurd h (by decide))
  refine lv_iload hx hb dL_law_201 (lv_at hl 0 rfl) ?_
  refine lv_iconst (v := 5) hx hb dL_law_203 (by decide) ?_
  refine lv_ishr hx hb dL_law_204 ?_
  refine lv_bipush (v := 7) hx hb dL_law_205 (by decide) ?_
  refine g_aft_i (g_runS (As := [.int ((sCell G 2) >>> (5 &&& 31)), .int 7]) (rest := [.int (w (3 * 0 + 2) 1), .int (w (3 * 0 + 2) 0), .int 0, .ref (al 0)]) hx hb hml hown hts (kL_below l G al c ((sCell G 2) >>> (5 &&& 31)) 7 (by decide) (by decide)) (fcwS 2 hts q585 q586 q584 q555 rfl rfl (by decide +kernel) ⟨(Nat.le_of_ble_eq_true rfl), (Nat.le_of_ble_eq_true rfl)⟩) hE hb0 hP hS rfl hl.1 rfl (Nat.le_of_ble_eq_true rfl) dL_law_207 ⟨Nat.le_trans (show 34 + 4 * 8 + 2 + 2 + 0 ≤ 2000 by omega) hR1, Nat.le_trans (show 278 + 64 * 8 + 25 + 25 + 0 ≤ 20000 by omega) hR2⟩) hS (fun u H locs hP hS => ?_)
  refine f_topi (v := w (3 * 0 + 2) 2) (by rw [hw]; exact wG_c G (by decide)) ?_
  refine f_topi (v := w (3 * 0 + 2) 2) rfl ?_
  refine g_aft_ip (g_runV (As := [.int 0, .int (w (3 * 0 + 2) 0), .int (w (3 * 0 + 2) 1), .int (w (3 * 0 + 2) 2)]) (rest := []) hx hb hml hown hts (kX7_step l G al c k w (nsF 0 2) k.1 0 2 (nsF 0 (2 + 1)) hU (fun f9 _ => nsF_3 (by decide) f9) hJ hcf.2.2.1 (by decide) (nsF_f _ _) (by decide) (nsF_f _ _) (fun f9 h9 => nsF_o h9) (by rw [hw]; exact (wG_b G (q := 3 * 0 + 2) (by decide)).1) (by rw [hw]; exact (wG_b G (q := 3 * 0 + 2) (by decide)).2.1) (by rw [hw]; exact (wG_b G (q := 3 * 0 + 2) (by decide)).2.2.1) (by rw [hw]; exact (wG_b G (q := 3 * 0 + 2) (by decide)).2.2.2.1) (by rw [hw]; exact (wG_b G (q := 3 * 0 + 2) (by decide)).2.2.2.2)) (fcwV 4 hts q596 q597 q598 q148 q416 rfl rfl (by decide +kernel) ⟨(Nat.le_of_ble_eq_true rfl), (Nat.le_of_ble_eq_true rfl)⟩) hE hb0 hP hS (m_recvA hE hP 0 rfl hU.1 rfl) rfl hl.1 rfl (Nat.le_of_ble_eq_true rfl) dL_law_210 ⟨Nat.le_trans (show 34 + 4 * 8 + 2 + 2 + 2 ≤ 2000 by omega) hR1, Nat.le_trans (show 278 + 64 * 8 + 25 + 25 + 25 ≤ 20000 by omega) hR2⟩) hS (fun u_3 H locs hu_3 hP hS => ?_)
  obtain ⟨al, c⟩ := u_3
  obtain ⟨hU, ha0⟩ := hu_3
  try dsimp only at hU ha0
  have hP : mP G al c H := hP
  have hl : lv_has ls 13 [(5, .int (sCell G 2)), (4, .int 2), (3, .int 0), (2, .int (nI k.1)), (1, .ref (al 0)), (0, .ref (gSb G))] := by rw [ha0]; exact hl
  rw [nsF_n 0] at hU
  refine f_topi (v := 3) (by decide) ?_
  refine f_topi (v := 3) rfl ?_
  refine lv_iload hx hb dL_law_213 (lv_at hl 1 rfl) ?_
  refine lv_iconst (v := 1) hx hb dL_law_215 (by decide) ?_
  refine lv_iadd hx hb dL_law_216 ?_
  refine f_topi (v := 3) (by decide) ?_
  refine lv_icmp_eq (tgt := 222) hx hb dL_law_217 (by decide) (fun _ => ?_) (fun h => absurd (by decide) h)
  refine lv_iinc (v := 3) (lv' := [(4, .int 3), (5, .int (sCell G 2)), (3, .int 0), (2, .int (nI k.1)), (1, .ref (al 0)), (0, .ref (gSb G))]) hx hb dL_law_222 hl (k := 1) rfl (by decide) (by decide) rfl (fun ls hl => ?_)
  refine lv_goto (tgt := 143) hx hb dL_law_225 (by decide) ?_
  refine lv_iload hx hb dL_law_143 (lv_at hl 0 rfl) ?_
  refine lv_iconst (v := 3) hx hb dL_law_145 (by decide) ?_
  refine lv_icmp_ge (tgt := 228) hx hb dL_law_146 (by decide) (fun _ => ?_) (fun h => absurd (by decide) h)
  refine lv_iinc (v := 1) (lv' := [(3, .int 1), (4, .int 3), (5, .int (sCell G 2)), (2, .int (nI k.1)), (1, .ref (al 0)), (0, .ref (gSb G))]) hx hb dL_law_228 hl (k := 2) rfl (by decide) (by decide) rfl (fun ls hl => ?_)
  refine lv_goto (tgt := 135) hx hb dL_law_231 (by decide) ?_
  refine lv_iload_n hx hb dL_law_135 rfl (lv_at hl 0 rfl) ?_
  refine lv_iconst (v := 2) hx hb dL_law_136 (by decide) ?_
  refine lv_icmp_ge (tgt := 234) hx hb dL_law_137 (by decide) (fun h => absurd h (by decide)) (fun _ => ?_)
  refine lv_iconst (v := 0) hx hb dL_law_140 (by decide) ?_
  refine lv_istore (lv' := [(4, .int 0), (3, .int 1), (5, .int (sCell G 2)), (2, .int (nI k.1)), (1, .ref (al 0)), (0, .ref (gSb G))]) hx hb dL_law_141 hl (by decide) rfl (fun ls hl => ?_)
  refine lv_iload hx hb dL_law_143 (lv_at hl 0 rfl) ?_
  refine lv_iconst (v := 3) hx hb dL_law_145 (by decide) ?_
  refine lv_icmp_ge (tgt := 228) hx hb dL_law_146 (by decide) (fun h => absurd h (by decide)) (fun _ => ?_)
  refine lv_aload_n hx hb dL_law_149 rfl (lv_at hl 5 rfl) ?_
  refine lv_iconst (v := 3) hx hb dL_law_150 (by decide) ?_
  refine lv_iload_n hx hb dL_law_151 rfl (lv_at hl 1 rfl) ?_
  refine lv_imul hx hb dL_law_152 ?_
  refine f_topi (v := 3) (by decide) ?_
  refine lv_iload hx hb dL_law_153 (lv_at hl 0 rfl) ?_
  refine lv_iadd hx hb dL_law_155 ?_
  refine f_topi (v := 3) (by decide) ?_
  refine g_aft_i (g_runS (As := [.ref (gSb G), .int 3]) (rest := []) hx hb hml hown hts (kL_cell l G al c 3 (by decide) hL) (fcwS 2 hts q582 q583 q584 q557 rfl rfl (by decide +kernel) ⟨(Nat.le_of_ble_eq_true rfl), (Nat.le_of_ble_eq_true rfl)⟩) hE hb0 hP hS rfl hl.1 rfl (Nat.le_of_ble_eq_true rfl) dL_law_156 ⟨Nat.le_trans (show 34 + 4 * 8 + 2 + 2 + 2 + 0 ≤ 2000 by omega) hR1, Nat.le_trans (show 278 + 64 * 8 + 25 + 25 + 25 + 0 ≤ 20000 by omega) hR2⟩) hS (fun u H locs hP hS => ?_)
  refine f_topi (v := sCell G 3) rfl ?_
  refine lv_istore (lv' := [(5, .int (sCell G 3)), (4, .int 0), (3, .int 1), (2, .int (nI k.1)), (1, .ref (al 0)), (0, .ref (gSb G))]) hx hb dL_law_159 hl (by decide) rfl (fun ls hl => ?_)
  refine lv_aload_n hx hb dL_law_161 rfl (lv_at hl 4 rfl) ?_
  refine lv_iload_n hx hb dL_law_162 rfl (lv_at hl 2 rfl) ?_
  refine lv_iload hx hb dL_law_163 (lv_at hl 0 rfl) ?_
  refine lv_bipush (v := 8) hx hb dL_law_165 (by decide) ?_
  refine g_aft_i (g_runS (As := [.int (sCell G 3), .int 8]) (rest := [.int 1, .ref (al 0)]) hx hb hml hown hts (kL_below l G al c (sCell G 3) 8 (by decide) (by decide)) (fcwS 2 hts q585 q586 q584 q555 rfl rfl (by decide +kernel) ⟨(Nat.le_of_ble_eq_true rfl), (Nat.le_of_ble_eq_true rfl)⟩) hE hb0 hP hS rfl hl.1 rfl (Nat.le_of_ble_eq_true rfl) dL_law_167 ⟨Nat.le_trans (show 34 + 4 * 8 + 2 + 2 + 2 + 0 ≤ 2000 by omega) hR1, Nat.le_trans (show 278 + 64 * 8 + 25 + 25 + 25 + 0 ≤ 20000 by omega) hR2⟩) hS (fun u H locs hP hS => ?_)
  refine f_topi (v := w (3 * 1 + 0) 0) (by rw [hw]; rfl) ?_
  refine f_topi (v := w (3 * 1 + 0) 0) rfl ?_
  refine lv_iconst (v := 1) hx hb dL_law_170 (by decide) ?_
  refine lv_iload hx hb dL_law_171 (lv_at hl 0 rfl) ?_
  refine lv_iconst (v := 3) hx hb dL_law_173 (by decide) ?_
  refine lv_ishr hx hb dL_law_174 ?_
  refine lv_sipush (v := 1023) hx hb dL_law_175 (by decide) ?_
  refine g_aft_i (g_runS (As := [.int ((sCell G 3) >>> (3 &&& 31)), .int 1023]) (rest := [.int 1, .int (w (3 * 1 + 0) 0), .int 1, .ref (al 0)]) hx hb hml hown hts (kL_below l G al c ((sCell G 3) >>> (3 &&& 31)) 1023 (by decide) (by decide)) (fcwS 2 hts q585 q586 q584 q555 rfl rfl (by decide +kernel) ⟨(Nat.le_of_ble_eq_true rfl), (Nat.le_of_ble_eq_true rfl)⟩) hE hb0 hP hS rfl hl.1 rfl (Nat.le_of_ble_eq_true rfl) dL_law_178 ⟨Nat.le_trans (show 34 + 4 * 8 + 2 + 2 + 2 + 0 ≤ 2000 by omega) hR1, Nat.le_trans (show 278 + 64 * 8 + 25 + 25 + 25 + 0 ≤ 20000 by omega) hR2⟩) hS (fun u H locs hP hS => ?_)
  refine f_topi (v := nI (bel ((sCell G 3) >>> (3 &&& 31)) 1023)) rfl ?_
  refine lv_iadd hx hb dL_law_181 ?_
  refine f_topi (v := w (3 * 1 + 0) 1) (by rw [hw]; rfl) ?_
  refine lv_iload hx hb dL_law_182 (lv_at hl 1 rfl) ?_
  refine lv_if_ne (tgt := 201) hx hb dL_law_184 (by decide) (fun h => absurd (by decide) h) (fun _ => ?_)
  refine lv_bipush (v := 16) hx hb dL_law_187 (by decide) ?_
  refine lv_iload hx hb dL_law_189 (lv_at hl 0 rfl) ?_
  refine lv_iconst (v := 4) hx hb dL_law_191 (by decide) ?_
  refine lv_ishr hx hb dL_law_192 ?_
  refine lv_iconst (v := 5) hx hb dL_law_193 (by decide) ?_
  refine g_aft_i (g_runS (As := [.int ((sCell G 3) >>> (4 &&& 31)), .int 5]) (rest := [.int 16, .int (w (3 * 1 + 0) 1), .int (w (3 * 1 + 0) 0), .int 1, .ref (al 0)]) hx hb hml hown hts (kL_below l G al c ((sCell G 3) >>> (4 &&& 31)) 5 (by decide) (by decide)) (fcwS 2 hts q585 q586 q584 q555 rfl rfl (by decide +kernel) ⟨(Nat.le_of_ble_eq_true rfl), (Nat.le_of_ble_eq_true rfl)⟩) hE hb0 hP hS rfl hl.1 rfl (Nat.le_of_ble_eq_true rfl) dL_law_194 ⟨Nat.le_trans (show 34 + 4 * 8 + 2 + 2 + 2 + 0 ≤ 2000 by omega) hR1, Nat.le_trans (show 278 + 64 * 8 + 25 + 25 + 25 + 0 ≤ 20000 by omega) hR2⟩) hS (fun u H locs hP hS => ?_)
  refine f_topi (v := nI (bel ((sCell G 3) >>> (4 &&& 31)) 5)) rfl ?_
  refine lv_iadd hx hb dL_law_197 ?_
  refine f_topi (v := w (3 * 1 + 0) 2) (by rw [hw]; exact wG_a G (by decide)) ?_
  refine lv_goto (tgt := 210) hx hb dL_law_198 (by decide) ?_
  refine g_aft_ip (g_runV (As := [.int 1, .int (w (3 * 1 + 0) 0), .int (w (3 * 1 + 0) 1), .int (w (3 * 1 + 0) 2)]) (rest := []) hx hb hml hown hts (kX7_step l G al c k w (nsF 1 0) k.1 1 0 (nsF 1 (0 + 1)) hU (fun f9 _ => nsF_3 (by decide) f9) hJ hcf.2.2.1 (by decide) (nsF_f _ _) (by decide) (nsF_f _ _) (fun f9 h9 => nsF_o h9) (by rw [hw]; exact (wG_b G (q := 3 * 1 + 0) (by decide)).1) (by rw [hw]; exact (wG_b G (q := 3 * 1 + 0) (by decide)).2.1) (by rw [hw]; exact (wG_b G (q := 3 * 1 + 0) (by decide)).2.2.1) (by rw [hw]; exact (wG_b G (q := 3 * 1 + 0) (by decide)).2.2.2.1) (by rw [hw]; exact (wG_b G (q := 3 * 1 + 0) (by decide)).2.2.2.2)) (fcwV 4 hts q596 q597 q598 q148 q416 rfl rfl (by decide +kernel) ⟨(Nat.le_of_ble_eq_true rfl), (Nat.le_of_ble_eq_true rfl)⟩) hE hb0 hP hS (m_recvA hE hP 0 rfl hU.1 rfl) rfl hl.1 rfl (Nat.le_of_ble_eq_true rfl) dL_law_210 ⟨Nat.le_trans (show 34 + 4 * 8 + 2 + 2 + 2 + 2 ≤ 2000 by omega) hR1, Nat.le_trans (show 278 + 64 * 8 + 25 + 25 + 25 + 25 ≤ 20000 by omega) hR2⟩) hS (fun u_4 H locs hu_4 hP hS => ?_)
  obtain ⟨al, c⟩ := u_4
  obtain ⟨hU, ha0⟩ := hu_4
  try dsimp only at hU ha0
  have hP : mP G al c H := hP
  have hl : lv_has ls 13 [(5, .int (sCell G 3)), (4, .int 0), (3, .int 1), (2, .int (nI k.1)), (1, .ref (al 0)), (0, .ref (gSb G))] := by rw [ha0]; exact hl
  refine f_topi (v := 1) (by decide) ?_
  refine f_topi (v := 1) rfl ?_
  refine lv_iload hx hb dL_law_213 (lv_at hl 1 rfl) ?_
  refine lv_iconst (v := 1) hx hb dL_law_215 (by decide) ?_
  refine lv_iadd hx hb dL_law_216 ?_
  refine f_topi (v := 1) (by decide) ?_
  refine lv_icmp_eq (tgt := 222) hx hb dL_law_217 (by decide) (fun _ => ?_) (fun h => absurd (by decide) h)
  refine lv_iinc (v := 1) (lv' := [(4, .int 1), (5, .int (sCell G 3)), (3, .int 1), (2, .int (nI k.1)), (1, .ref (al 0)), (0, .ref (gSb G))]) hx hb dL_law_222 hl (k := 1) rfl (by decide) (by decide) rfl (fun ls hl => ?_)
  refine lv_goto (tgt := 143) hx hb dL_law_225 (by decide) ?_
  refine lv_iload hx hb dL_law_143 (lv_at hl 0 rfl) ?_
  refine lv_iconst (v := 3) hx hb dL_law_145 (by decide) ?_
  refine lv_icmp_ge (tgt := 228) hx hb dL_law_146 (by decide) (fun h => absurd h (by decide)) (fun _ => ?_)
  refine lv_aload_n hx hb dL_law_149 rfl (lv_at hl 5 rfl) ?_
  refine lv_iconst (v := 3) hx hb dL_law_150 (by decide) ?_
  refine lv_iload_n hx hb dL_law_151 rfl (lv_at hl 2 rfl) ?_
  refine lv_imul hx hb dL_law_152 ?_
  refine f_topi (v := 3) (by decide) ?_
  refine lv_iload hx hb dL_law_153 (lv_at hl 0 rfl) ?_
  refine lv_iadd hx hb dL_law_155 ?_
  refine f_topi (v := 4) (by decide) ?_
  refine g_aft_i (g_runS (As := [.ref (gSb G), .int 4]) (rest := []) hx hb hml hown hts (kL_cell l G al c 4 (by decide) hL) (fcwS 2 hts q582 q583 q584 q557 rfl rfl (by decide +kernel) ⟨(Nat.le_of_ble_eq_true rfl), (Nat.le_of_ble_eq_true rfl)⟩) hE hb0 hP hS rfl hl.1 rfl (Nat.le_of_ble_eq_true rfl) dL_law_156 ⟨Nat.le_trans (show 34 + 4 * 8 + 2 + 2 + 2 + 2 + 0 ≤ 2000 by omega) hR1, Nat.le_trans (show 278 + 64 * 8 + 25 + 25 + 25 + 25 + 0 ≤ 20000 by omega) hR2⟩) hS (fun u H locs hP hS => ?_)
  refine f_topi (v := sCell G 4) rfl ?_
  refine lv_istore (lv' := [(5, .int (sCell G 4)), (4, .int 1), (3, .int 1), (2, .int (nI k.1)), (1, .ref (al 0)), (0, .ref (gSb G))]) hx hb dL_law_159 hl (by decide) rfl (fun ls hl => ?_)
  refine lv_aload_n hx hb dL_law_161 rfl (lv_at hl 4 rfl) ?_
  refine lv_iload_n hx hb dL_law_162 rfl (lv_at hl 2 rfl) ?_
  refine lv_iload hx hb dL_law_163 (lv_at hl 0 rfl) ?_
  refine lv_bipush (v := 8) hx hb dL_law_165 (by decide) ?_
  refine g_aft_i (g_runS (As := [.int (sCell G 4), .int 8]) (rest := [.int 1, .ref (al 0)]) hx hb hml hown hts (kL_below l G al c (sCell G 4) 8 (by decide) (by decide)) (fcwS 2 hts q585 q586 q584 q555 rfl rfl (by decide +kernel) ⟨(Nat.le_of_ble_eq_true rfl), (Nat.le_of_ble_eq_true rfl)⟩) hE hb0 hP hS rfl hl.1 rfl (Nat.le_of_ble_eq_true rfl) dL_law_167 ⟨Nat.le_trans (show 34 + 4 * 8 + 2 + 2 + 2 + 2 + 0 ≤ 2000 by omega) hR1, Nat.le_trans (show 278 + 64 * 8 + 25 + 25 + 25 + 25 + 0 ≤ 20000 by omega) hR2⟩) hS (fun u H locs hP hS => ?_)
  refine f_topi (v := w (3 * 1 + 1) 0) (by rw [hw]; rfl) ?_
  refine f_topi (v := w (3 * 1 + 1) 0) rfl ?_
  refine lv_iconst (v := 1) hx hb dL_law_170 (by decide) ?_
  refine lv_iload hx hb dL_law_171 (lv_at hl 0 rfl) ?_
  refine lv_iconst (v := 3) hx hb dL_law_173 (by decide) ?_
  refine lv_ishr hx hb dL_law_174 ?_
  refine lv_sipush (v := 1023) hx hb dL_law_175 (by decide) ?_
  refine g_aft_i (g_runS (As := [.int ((sCell G 4) >>> (3 &&& 31)), .int 1023]) (rest := [.int 1, .int (w (3 * 1 + 1) 0), .int 1, .ref (al 0)]) hx hb hml hown hts (kL_below l G al c ((sCell G 4) >>> (3 &&& 31)) 1023 (by decide) (by decide)) (fcwS 2 hts q585 q586 q584 q555 rfl rfl (by decide +kernel) ⟨(Nat.le_of_ble_eq_true rfl), (Nat.le_of_ble_eq_true rfl)⟩) hE hb0 hP hS rfl hl.1 rfl (Nat.le_of_ble_eq_true rfl) dL_law_178 ⟨Nat.le_trans (show 34 + 4 * 8 + 2 + 2 + 2 + 2 + 0 ≤ 2000 by omega) hR1, Nat.le_trans (show 278 + 64 * 8 + 25 + 25 + 25 + 25 + 0 ≤ 20000 by omega) hR2⟩) hS (fun u H locs hP hS => ?_)
  refine f_topi (v := nI (bel ((sCell G 4) >>> (3 &&& 31)) 1023)) rfl ?_
  refine lv_iadd hx hb dL_law_181 ?_
  refine f_topi (v := w (3 * 1 + 1) 1) (by rw [hw]; rfl) ?_
  refine lv_iload hx hb dL_law_182 (lv_at hl 1 rfl) ?_
  refine lv_if_ne (tgt := 201) hx hb dL_law_184 (by decide) (fun _ => ?_) (fun h => absurd h (by decide))
  refine lv_iload hx hb dL_law_201 (lv_at hl 0 rfl) ?_
  refine lv_iconst (v := 5) hx hb dL_law_203 (by decide) ?_
  refine lv_ishr hx hb dL_law_204 ?_
  refine lv_bipush (v := 7) hx hb dL_law_205 (by decide) ?_
  refine g_aft_i (g_runS (As := [.int ((sCell G 4) >>> (5 &&& 31)), .int 7]) (rest := [.int (w (3 * 1 + 1) 1), .int (w (3 * 1 + 1) 0), .int 1, .ref (al 0)]) hx hb hml hown hts (kL_below l G al c ((sCell G 4) >>> (5 &&& 31)) 7 (by decide) (by decide)) (fcwS 2 hts q585 q586 q584 q555 rfl rfl (by decide +kernel) ⟨(Nat.le_of_ble_eq_true rfl), (Nat.le_of_ble_eq_true rfl)⟩) hE hb0 hP hS rfl hl.1 rfl (Nat.le_of_ble_eq_true rfl) dL_law_207 ⟨Nat.le_trans (show 34 + 4 * 8 + 2 + 2 + 2 + 2 + 0 ≤ 2000 by omega) hR1, Nat.le_trans (show 278 + 64 * 8 + 25 + 25 + 25 + 25 + 0 ≤ 20000 by omega) hR2⟩) hS (fun u H locs hP hS => ?_)
  refine f_topi (v := w (3 * 1 + 1) 2) (by rw [hw]; exact wG_c G (by decide)) ?_
  refine f_topi (v := w (3 * 1 + 1) 2) rfl ?_
  refine g_aft_ip (g_runV (As := [.int 1, .int (w (3 * 1 + 1) 0), .int (w (3 * 1 + 1) 1), .int (w (3 * 1 + 1) 2)]) (rest := []) hx hb hml hown hts (kX7_step l G al c k w (nsF 1 1) k.1 1 1 (nsF 1 (1 + 1)) hU (fun f9 _ => nsF_3 (by decide) f9) hJ hcf.2.2.1 (by decide) (nsF_f _ _) (by decide) (nsF_f _ _) (fun f9 h9 => nsF_o h9) (by rw [hw]; exact (wG_b G (q := 3 * 1 + 1) (by decide)).1) (by rw [hw]; exact (wG_b G (q := 3 * 1 + 1) (by decide)).2.1) (by rw [hw]; exact (wG_b G (q := 3 * 1 + 1) (by decide)).2.2.1) (by rw [hw]; exact (wG_b G (q := 3 * 1 + 1) (by decide)).2.2.2.1) (by rw [hw]; exact (wG_b G (q := 3 * 1 + 1) (by decide)).2.2.2.2)) (fcwV 4 hts q596 q597 q598 q148 q416 rfl rfl (by decide +kernel) ⟨(Nat.le_of_ble_eq_true rfl), (Nat.le_of_ble_eq_true rfl)⟩) hE hb0 hP hS (m_recvA hE hP 0 rfl hU.1 rfl) rfl hl.1 rfl (Nat.le_of_ble_eq_true rfl) dL_law_210 ⟨Nat.le_trans (show 34 + 4 * 8 + 2 + 2 + 2 + 2 + 2 ≤ 2000 by omega) hR1, Nat.le_trans (show 278 + 64 * 8 + 25 + 25 + 25 + 25 + 25 ≤ 20000 by omega) hR2⟩) hS (fun u_5 H locs hu_5 hP hS => ?_)
  obtain ⟨al, c⟩ := u_5
  obtain ⟨hU, ha0⟩ := hu_5
  try dsimp only at hU ha0
  have hP : mP G al c H := hP
  have hl : lv_has ls 13 [(5, .int (sCell G 4)), (4, .int 1), (3, .int 1), (2, .int (nI k.1)), (1, .ref (al 0)), (0, .ref (gSb G))] := by rw [ha0]; exact hl
  refine f_topi (v := 2) (by decide) ?_
  refine f_topi (v := 2) rfl ?_
  refine lv_iload hx hb dL_law_213 (lv_at hl 1 rfl) ?_
  refine lv_iconst (v := 1) hx hb dL_law_215 (by decide) ?_
  refine lv_iadd hx hb dL_law_216 ?_
  refine f_topi (v := 2) (by decide) ?_
  refine lv_icmp_eq (tgt := 222) hx hb dL_law_217 (by decide) (fun _ => ?_) (fun h => absurd (by decide) h)
  refine lv_iinc (v := 2) (lv' := [(4, .int 2), (5, .int (sCell G 4)), (3, .int 1), (2, .int (nI k.1)), (1, .ref (al 0)), (0, .ref (gSb G))]) hx hb dL_law_222 hl (k := 1) rfl (by decide) (by decide) rfl (fun ls hl => ?_)
  refine lv_goto (tgt := 143) hx hb dL_law_225 (by decide) ?_
  refine lv_iload hx hb dL_law_143 (lv_at hl 0 rfl) ?_
  refine lv_iconst (v := 3) hx hb dL_law_145 (by decide) ?_
  refine lv_icmp_ge (tgt := 228) hx hb dL_law_146 (by decide) (fun h => absurd h (by decide)) (fun _ => ?_)
  refine lv_aload_n hx hb dL_law_149 rfl (lv_at hl 5 rfl) ?_
  refine lv_iconst (v := 3) hx hb dL_law_150 (by decide) ?_
  refine lv_iload_n hx hb dL_law_151 rfl (lv_at hl 2 rfl) ?_
  refine lv_imul hx hb dL_law_152 ?_
  refine f_topi (v := 3) (by decide) ?_
  refine lv_iload hx hb dL_law_153 (lv_at hl 0 rfl) ?_
  refine lv_iadd hx hb dL_law_155 ?_
  refine f_topi (v := 5) (by decide) ?_
  refine g_aft_i (g_runS (As := [.ref (gSb G), .int 5]) (rest := []) hx hb hml hown hts (kL_cell l G al c 5 (by decide) hL) (fcwS 2 hts q582 q583 q584 q557 rfl rfl (by decide +kernel) ⟨(Nat.le_of_ble_eq_true rfl), (Nat.le_of_ble_eq_true rfl)⟩) hE hb0 hP hS rfl hl.1 rfl (Nat.le_of_ble_eq_true rfl) dL_law_156 ⟨Nat.le_trans (show 34 + 4 * 8 + 2 + 2 + 2 + 2 + 2 + 0 ≤ 2000 by omega) hR1, Nat.le_trans (show 278 + 64 * 8 + 25 + 25 + 25 + 25 + 25 + 0 ≤ 20000 by omega) hR2⟩) hS (fun u H locs hP hS => ?_)
  refine f_topi (v := sCell G 5) rfl ?_
  refine lv_istore (lv' := [(5, .int (sCell G 5)), (4, .int 2), (3, .int 1), (2, .int (nI k.1)), (1, .ref (al 0)), (0, .ref (gSb G))]) hx hb dL_law_159 hl (by decide) rfl (fun ls hl => ?_)
  refine lv_aload_n hx hb dL_law_161 rfl (lv_at hl 4 rfl) ?_
  refine lv_iload_n hx hb dL_law_162 rfl (lv_at hl 2 rfl) ?_
  refine lv_iload hx hb dL_law_163 (lv_at hl 0 rfl) ?_
  refine lv_bipush (v := 8) hx hb dL_law_165 (by decide) ?_
  refine g_aft_i (g_runS (As := [.int (sCell G 5), .int 8]) (rest := [.int 1, .ref (al 0)]) hx hb hml hown hts (kL_below l G al c (sCell G 5) 8 (by decide) (by decide)) (fcwS 2 hts q585 q586 q584 q555 rfl rfl (by decide +kernel) ⟨(Nat.le_of_ble_eq_true rfl), (Nat.le_of_ble_eq_true rfl)⟩) hE hb0 hP hS rfl hl.1 rfl (Nat.le_of_ble_eq_true rfl) dL_law_167 ⟨Nat.le_trans (show 34 + 4 * 8 + 2 + 2 + 2 + 2 + 2 + 0 ≤ 2000 by omega) hR1, Nat.le_trans (show 278 + 64 * 8 + 25 + 25 + 25 + 25 + 25 + 0 ≤ 20000 by omega) hR2⟩) hS (fun u H locs hP hS => ?_)
  refine f_topi (v := w (3 * 1 + 2) 0) (by rw [hw]; rfl) ?_
  refine f_topi (v := w (3 * 1 + 2) 0) rfl ?_
  refine lv_iconst (v := 1) hx hb dL_law_170 (by decide) ?_
  refine lv_iload hx hb dL_law_171 (lv_at hl 0 rfl) ?_
  refine lv_iconst (v := 3) hx hb dL_law_173 (by decide) ?_
  refine lv_ishr hx hb dL_law_174 ?_
  refine lv_sipush (v := 1023) hx hb dL_law_175 (by decide) ?_
  refine g_aft_i (g_runS (As := [.int ((sCell G 5) >>> (3 &&& 31)), .int 1023]) (rest := [.int 1, .int (w (3 * 1 + 2) 0), .int 1, .ref (al 0)]) hx hb hml hown hts (kL_below l G al c ((sCell G 5) >>> (3 &&& 31)) 1023 (by decide) (by decide)) (fcwS 2 hts q585 q586 q584 q555 rfl rfl (by decide +kernel) ⟨(Nat.le_of_ble_eq_true rfl), (Nat.le_of_ble_eq_true rfl)⟩) hE hb0 hP hS rfl hl.1 rfl (Nat.le_of_ble_eq_true rfl) dL_law_178 ⟨Nat.le_trans (show 34 + 4 * 8 + 2 + 2 + 2 + 2 + 2 + 0 ≤ 2000 by omega) hR1, Nat.le_trans (show 278 + 64 * 8 + 25 + 25 + 25 + 25 + 25 + 0 ≤ 20000 by omega) hR2⟩) hS (fun u H locs hP hS => ?_)
  refine f_topi (v := nI (bel ((sCell G 5) >>> (3 &&& 31)) 1023)) rfl ?_
  refine lv_iadd hx hb dL_law_181 ?_
  refine f_topi (v := w (3 * 1 + 2) 1) (by rw [hw]; rfl) ?_
  refine lv_iload hx hb dL_law_182 (lv_at hl 1 rfl) ?_
  refine lv_if_ne (tgt := 201) hx hb dL_law_184 (by decide) (fun _ => ?_) (fun h => absurd h (by decide))
  refine lv_iload hx hb dL_law_201 (lv_at hl 0 rfl) ?_
  refine lv_iconst (v := 5) hx hb dL_law_203 (by decide) ?_
  refine lv_ishr hx hb dL_law_204 ?_
  refine lv_bipush (v := 7) hx hb dL_law_205 (by decide) ?_
  refine g_aft_i (g_runS (As := [.int ((sCell G 5) >>> (5 &&& 31)), .int 7]) (rest := [.int (w (3 * 1 + 2) 1), .int (w (3 * 1 + 2) 0), .int 1, .ref (al 0)]) hx hb hml hown hts (kL_below l G al c ((sCell G 5) >>> (5 &&& 31)) 7 (by decide) (by decide)) (fcwS 2 hts q585 q586 q584 q555 rfl rfl (by decide +kernel) ⟨(Nat.le_of_ble_eq_true rfl), (Nat.le_of_ble_eq_true rfl)⟩) hE hb0 hP hS rfl hl.1 rfl (Nat.le_of_ble_eq_true rfl) dL_law_207 ⟨Nat.le_trans (show 34 + 4 * 8 + 2 + 2 + 2 + 2 + 2 + 0 ≤ 2000 by omega) hR1, Nat.le_trans (show 278 + 64 * 8 + 25 + 25 + 25 + 25 + 25 + 0 ≤ 20000 by omega) hR2⟩) hS (fun u H locs hP hS => ?_)
  refine f_topi (v := w (3 * 1 + 2) 2) (by rw [hw]; exact wG_c G (by decide)) ?_
  refine f_topi (v := w (3 * 1 + 2) 2) rfl ?_
  refine g_aft_ip (g_runV (As := [.int 1, .int (w (3 * 1 + 2) 0), .int (w (3 * 1 + 2) 1), .int (w (3 * 1 + 2) 2)]) (rest := []) hx hb hml hown hts (kX7_step l G al c k w (nsF 1 2) k.1 1 2 (nsF 1 (2 + 1)) hU (fun f9 _ => nsF_3 (by decide) f9) hJ hcf.2.2.1 (by decide) (nsF_f _ _) (by decide) (nsF_f _ _) (fun f9 h9 => nsF_o h9) (by rw [hw]; exact (wG_b G (q := 3 * 1 + 2) (by decide)).1) (by rw [hw]; exact (wG_b G (q := 3 * 1 + 2) (by decide)).2.1) (by rw [hw]; exact (wG_b G (q := 3 * 1 + 2) (by decide)).2.2.1) (by rw [hw]; exact (wG_b G (q := 3 * 1 + 2) (by decide)).2.2.2.1) (by rw [hw]; exact (wG_b G (q := 3 * 1 + 2) (by decide)).2.2.2.2)) (fcwV 4 hts q596 q597 q598 q148 q416 rfl rfl (by decide +kernel) ⟨(Nat.le_of_ble_eq_true rfl), (Nat.le_of_ble_eq_true rfl)⟩) hE hb0 hP hS (m_recvA hE hP 0 rfl hU.1 rfl) rfl hl.1 rfl (Nat.le_of_ble_eq_true rfl) dL_law_210 ⟨Nat.le_trans (show 34 + 4 * 8 + 2 + 2 + 2 + 2 + 2 + 2 ≤ 2000 by omega) hR1, Nat.le_trans (show 278 + 64 * 8 + 25 + 25 + 25 + 25 + 25 + 25 ≤ 20000 by omega) hR2⟩) hS (fun u_6 H locs hu_6 hP hS => ?_)
  obtain ⟨al, c⟩ := u_6
  obtain ⟨hU, ha0⟩ := hu_6
  try dsimp only at hU ha0
  have hP : mP G al c H := hP
  have hl : lv_has ls 13 [(5, .int (sCell G 5)), (4, .int 2), (3, .int 1), (2, .int (nI k.1)), (1, .ref (al 0)), (0, .ref (gSb G))] := by rw [ha0]; exact hl
  rw [nsF_n 1] at hU
  refine f_topi (v := 3) (by decide) ?_
  refine f_topi (v := 3) rfl ?_
  refine lv_iload hx hb dL_law_213 (lv_at hl 1 rfl) ?_
  refine lv_iconst (v := 1) hx hb dL_law_215 (by decide) ?_
  refine lv_iadd hx hb dL_law_216 ?_
  refine f_topi (v := 3) (by decide) ?_
  refine lv_icmp_eq (tgt := 222) hx hb dL_law_217 (by decide) (fun _ => ?_) (fun h => absurd (by decide) h)
  refine lv_iinc (v := 3) (lv' := [(4, .int 3), (5, .int (sCell G 5)), (3, .int 1), (2, .int (nI k.1)), (1, .ref (al 0)), (0, .ref (gSb G))]) hx hb dL_law_222 hl (k := 1) rfl (by decide) (by decide) rfl (fun ls hl => ?_)
  refine lv_goto (tgt := 143) hx hb dL_law_225 (by decide) ?_
  refine lv_iload hx hb dL_law_143 (lv_at hl 0 rfl) ?_
  refine lv_iconst (v := 3) hx hb dL_law_145 (by decide) ?_
  refine lv_icmp_ge (tgt := 228) hx hb dL_law_146 (by decide) (fun _ => ?_) (fun h => absurd (by decide) h)
  refine lv_iinc (v := 2) (lv' := [(3, .int 2), (4, .int 3), (5, .int (sCell G 5)), (2, .int (nI k.1)), (1, .ref (al 0)), (0, .ref (gSb G))]) hx hb dL_law_228 hl (k := 2) rfl (by decide) (by decide) rfl (fun ls hl => ?_)
  refine lv_goto (tgt := 135) hx hb dL_law_231 (by decide) ?_
  refine lv_iload_n hx hb dL_law_135 rfl (lv_at hl 0 rfl) ?_
  refine lv_iconst (v := 2) hx hb dL_law_136 (by decide) ?_
  refine lv_icmp_ge (tgt := 234) hx hb dL_law_137 (by decide) (fun _ => ?_) (fun h => absurd (by decide) h)
  refine W.widen (k := 80) (n := 950) (by omega) (by omega) ?_
  exact kk _ _ _ _ _ hU hP hS (lv_sub hl [3, 4, 5] rfl)
set_option maxHeartbeats 4000000 in
set_option maxRecDepth 100000 in
/-- the row of leaks, all the rounds, the end -/
theorem law_234 {k : gC} {w : Nat → Nat → Int32} {al : Nat → Nat} {c : mC} {H : Heap} {locs : List Loc} {ls : Array Slot} (hk : k = kG G) (hw : w = wG G) (C : lwC p s m cd G) (hU : gU G al k w 2 2 k.1 (nsF 2 0) c) (hP : mP G al c H) (hS : va_S (gA G) s.heap H locs) (hl : lv_has ls 13 [(2, .int (nI k.1)), (1, .ref (al 0)), (0, .ref (gSb G))]) (kk : ∀ (ce sl : Nat) (H : Heap) (locs : List Loc) (ls : Array Slot), ce ≤ 2000 → sl ≤ 20000 → va_S (gA G) s.heap H locs → W p l e room_1 s m #[Value.ref (gSb G)] below meth cd H locs ce sl Q (F0 m 1008 ls [.int 1])) : W p l e room_1 s m #[Value.ref (gSb G)] below meth cd H locs 80 950 Q (F0 m 234 ls []) := by
  have C0 := C
  obtain ⟨hx, hb, hml, hown, hts, hb0, hE, hL⟩ := C
  have hR1 : 2000 ≤ room_1.cells := (Nat.le_of_ble_eq_true rfl)
  have hR2 : 20000 ≤ room_1.slots := (Nat.le_of_ble_eq_true rfl)
  have hcf : cfg k := hk ▸ kG_cfg G
  have hJ : k.1 ≤ 8 := hcf.2.1
  have hk2 : 2 ≤ k.1 := hcf.1
  obtain ⟨hw2, hX⟩ := gU_X hU (fun f9 h9 => nsF_2 h9) hJ hcf.2.2.1
  have hP := m_cv hP hw2
  obtain ⟨g, hg⟩ : ∃ z, z = g0S := ⟨_, rfl⟩
  obtain ⟨h, hh⟩ : ∃ z, z = h0S w := ⟨_, rfl⟩
  rw [← hg] at hP
  rw [← hh] at hX
  have hP : mP G al (w2 G al k c g g) H := hP
  have hI : Inv k g 3000 0 := hg ▸ g0S_I k
  have hhf : callsOK h := fun i hi => absurd hi (by rw [hh]; exact Nat.not_lt_zero _)
  have hsf : stepOK h := by rw [hh, hw]; exact wG_ok G
  refine lv_bipush (v := 10) hx hb dL_law_234 (by decide) ?_
  refine mX_newZ 400 (by decide) (by decide) hX (N := 10) hx hb (hts _ q578) hE hb0 hP hS (by decide) (by decide) (by decide) (Nat.le_trans (show 80 + 1 ≤ 2000 by decide) hR1) (Nat.le_trans (show 950 + 10 ≤ 20000 by decide) hR2) dL_law_236 (fun q9 al c H ha0 ha1 hc400 hc9 hX hP hS => ?_)
  have hl : lv_has ls 13 [(2, .int (nI k.1)), (1, .ref (al 0)), (0, .ref (gSb G))] := by rw [ha1 0 (by decide)]; exact hl
  subst ha0
  have hP : mP G al (w2 G al k c g g) H := hP
  refine lv_astore_n (lv' := [(3, .ref (al 400)), (2, .int (nI k.1)), (1, .ref (al 0)), (0, .ref (gSb G))]) hx hb dL_law_238 rfl hl (by decide) rfl (fun ls hl => ?_)
  refine lv_sipush (v := 3000) hx hb dL_law_239 (by decide) ?_
  refine lv_istore (lv' := [(4, .int 3000), (3, .ref (al 400)), (2, .int (nI k.1)), (1, .ref (al 0)), (0, .ref (gSb G))]) hx hb dL_law_242 hl (by decide) rfl (fun ls hl => ?_)
  refine lv_iconst (v := 0) hx hb dL_law_244 (by decide) ?_
  refine lv_istore (lv' := [(5, .int 0), (4, .int 3000), (3, .ref (al 400)), (2, .int (nI k.1)), (1, .ref (al 0)), (0, .ref (gSb G))]) hx hb dL_law_245 hl (by decide) rfl (fun ls hl => ?_)
  have hc400 : c 400 = some (.inl (gZ G, 10, .inl (fun z => bz ((fun _ => (0 : Int32)) z)))) := hc400.trans (by simp only [bz_0])
  have hR : lwR G k 0 al c h g 3000 (fun _ => 0) := ⟨hX, hhf, hsf, ⟨0, hI, Nat.le_refl _⟩, by decide, hc400, fun j9 _ => by rw [hg]; exact congrArg bz (g0S_o (by omega) 8)⟩
  exact law_247 (ce := 80 + 1) (sl := 950 + 10) C0 hcf hR (by decide) hP hS (lv_sub (l' := [(5, .int 0), (4, .int 3000), (3, .ref (al 400)), (2, .int (nI k.1)), (1, .ref (al 0)), (0, .ref (gSb G))]) hl [0, 1, 2, 3, 4, 5] rfl) (by decide) (by decide) (fun al c h g t F f lk H locs ls hR hP hS hl => law_937 C0 hcf hR hP hS hl (by decide) (by decide) (fun H locs ls hS => kk _ _ H locs ls (by decide) (by decide) hS))
end LAWP
