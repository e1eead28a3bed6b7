section LAWP
variable {p : Program} {l : Launch} {e : Env} {s : State} {m : MethodId} {below : List Frame} {meth : Method} {cd : Code} {Q : State → Prop} {G : gT}
set_option maxHeartbeats 4000000 in
set_option maxRecDepth 100000 in
/-- a valve is set -/
theorem law_400 {k : gC} {r j q : Nat} {al : Nat → Nat} {c : mC} {h : gK} {g t : St} {F : Int} {lk : Nat → Int32} {f z6 z7 sw : Int32} {H : Heap} {locs : List Loc} {ls : Array Slot} {ce sl : Nat} (C : lwC p s m cd G) (hcf : cfg k) (hR : lwR G k r al c h g F lk) (hf : f.toInt = F) (hr : r < 60) (hj : j < k.1) (hq : q < 2) (hsw : sw = bz (g 0 14)) (hP : mP G al (w2 G al k c g t) H) (hS : va_S (gA G) s.heap H locs) (hl : lv_has ls 13 [(10, .int sw), (9, .int (nI q)), (8, .int (nI j)), (7, .int z7), (6, .int z6), (5, .int (nI r)), (4, .int f), (3, .ref (al 400)), (2, .int (nI k.1)), (1, .ref (al 0)), (0, .ref (gSb G))]) (hce : ce + 21 ≤ 2000) (hsl : sl + 148 ≤ 20000) (kk : ∀ (al : Nat → Nat) (c : mC) (h : gK) (g t : St) (F : Int) (f : Int32) (lk : Nat → Int32) (H : Heap) (locs : List Loc) (ls : Array Slot), lwR G k (r + 1) al c h g F lk → f.toInt = F → mP G al (w2 G al k c g t) H → va_S (gA G) s.heap H locs → lv_has ls 13 [(5, .int (nI r)), (4, .int f), (3, .ref (al 400)), (2, .int (nI k.1)), (1, .ref (al 0)), (0, .ref (gSb G))] → W p l e room_1 s m #[Value.ref (gSb G)] below meth cd H locs (ce + 21) (sl + 148) Q (F0 m 883 ls [])) : W p l e room_1 s m #[Value.ref (gSb G)] below meth cd H locs ce sl Q (F0 m 400 ls []) := by
  obtain ⟨hx, hb, hml, hown, hts, hb0, hE, hL⟩ := C
  have hR1 : 2000 ≤ room_1.cells := (Nat.le_of_ble_eq_true rfl)
  have hR2 : 20000 ≤ room_1.slots := (Nat.le_of_ble_eq_true rfl)
  have hR0 := hR
  obtain ⟨hX, hhf, hsf, ⟨N, hI, hN⟩, hF9, hc400, hlk⟩ := hR
  have hJ := gX_J hX
  have hk2 : 2 ≤ k.1 := hcf.1
  have hrw := hI.1
  have hb9 := bel_lt (z6 >>> (4 &&& 31)) (n := 5) (by decide)
  refine lv_iload hx hb dL_law_400 (lv_at hl 0 rfl) ?_
  refine lv_if_ne (tgt := 883) hx hb dL_law_402 (by decide) (fun hc_1 => ?_) (fun hc_1 => ?_)
  · skip
    refine W.widen (k := ce + 21) (n := sl + 148) (by omega) (by omega) ?_
    exact kk _ _ _ _ _ _ _ _ _ _ _ (lwR_k hR0) hf hP hS (lv_sub hl [5, 6, 7, 8, 9, 10] rfl)
  · skip
    have hsw0 : bz (g 0 14) = 0 := hsw.symm.trans (by first | exact hc_1 | exact Classical.byContradiction (fun z => hc_1 z))
    refine lv_aload_n hx hb dL_law_405 rfl (lv_at hl 9 rfl) ?_
    refine lv_iload hx hb dL_law_406 (lv_at hl 2 rfl) ?_
    refine lv_iload hx hb dL_law_408 (lv_at hl 4 rfl) ?_
    refine lv_iconst (v := 4) hx hb dL_law_410 (by decide) ?_
    refine lv_ishr hx hb dL_law_411 ?_
    refine lv_iconst (v := 5) hx hb dL_law_412 (by decide) ?_
    refine g_aft_i (g_runS (As := [.int (z6 >>> (4 &&& 31)), .int 5]) (rest := [.int (nI j), .ref (al 0)]) hx hb hml hown hts (kL_below l G al (w2 G al k c g t) (z6 >>> (4 &&& 31)) 5 (by decide) (by decide)) (fcwS 2 hts q585 q586 q584 q555 rfl rfl (by decide +kernel) ⟨(Nat.le_of_ble_eq_true rfl), (Nat.le_of_ble_eq_true rfl)⟩) hE hb0 hP hS rfl hl.1 rfl (Nat.le_of_ble_eq_true rfl) dL_law_413 ⟨Nat.le_trans (show ce + 0 ≤ 2000 by omega) hR1, Nat.le_trans (show sl + 0 ≤ 20000 by omega) hR2⟩) hS (fun u H locs hP hS => ?_)
    refine f_topi (v := nI (bel (z6 >>> (4 &&& 31)) 5)) rfl ?_
    refine g_aft_i (g_runV (As := [.int (nI j), .int (nI (bel (z6 >>> (4 &&& 31)) 5))]) (rest := []) hx hb hml hown hts (kX7_valve l G al k h c g t j (nI (bel (z6 >>> (4 &&& 31)) 5)) hX hj (nI_pos (by omega)) (nI_le (b := 4) (by omega) (by omega)) hsw0) (fcwV 2 hts q599 q600 q601 q148 q427 rfl rfl (by decide +kernel) ⟨(Nat.le_of_ble_eq_true rfl), (Nat.le_of_ble_eq_true rfl)⟩) hE hb0 hP hS (m_recvA hE hP 0 rfl (gX_0 hX) rfl) rfl hl.1 rfl (Nat.le_of_ble_eq_true rfl) dL_law_416 ⟨Nat.le_trans (show ce + 0 ≤ 2000 by omega) hR1, Nat.le_trans (show sl + 0 ≤ 20000 by omega) hR2⟩) hS (fun u H locs hP hS => ?_)
    have hP : mP G al (w2 G al k c (s2 g (3 + j) 4 (nI (bel (z6 >>> (4 &&& 31)) 5))) t) H := hP
    refine f_topi (v := g (3 + j) 4) rfl ?_
    refine lv_iconst (v := 4) hx hb dL_law_419 (by decide) ?_
    refine lv_icmp_gt (tgt := 441) hx hb dL_law_420 (by decide) (fun h => absurd h (fun z => by have z9 := i_lt.mp z; have := (hrw.2 j hj).2.1; rw [c_4] at z9; omega)) (fun _ => ?_)
    refine lv_aload_n hx hb dL_law_423 rfl (lv_at hl 9 rfl) ?_
    refine lv_iload hx hb dL_law_424 (lv_at hl 2 rfl) ?_
    refine lv_iconst (v := 4) hx hb dL_law_426 (by decide) ?_
    refine g_aft_i (g_runV (As := [.int (nI j), .int 4]) (rest := []) hx hb hml hown hts (kX7_ofJet_4 l G al k h c (s2 g (3 + j) 4 (nI (bel (z6 >>> (4 &&& 31)) 5))) t j hX hj) (fcwV 2 hts q560 q534 q535 q148 q477 rfl rfl (by decide +kernel) ⟨(Nat.le_of_ble_eq_true rfl), (Nat.le_of_ble_eq_true rfl)⟩) hE hb0 hP hS (m_recvA hE hP 0 rfl (gX_0 hX) rfl) rfl hl.1 rfl (Nat.le_of_ble_eq_true rfl) dL_law_427 ⟨Nat.le_trans (show ce + 0 ≤ 2000 by omega) hR1, Nat.le_trans (show sl + 0 ≤ 20000 by omega) hR2⟩) hS (fun u H locs hP hS => ?_)
    have hP : mP G al (w2 G al k c (s2 g (3 + j) 4 (nI (bel (z6 >>> (4 &&& 31)) 5))) t) H := hP
    refine f_topi (v := nI (bel (z6 >>> (4 &&& 31)) 5)) (s2_s _ _ _ _) ?_
    refine f_topi (v := nI (bel (z6 >>> (4 &&& 31)) 5)) rfl ?_
    refine lv_iload hx hb dL_law_430 (lv_at hl 4 rfl) ?_
    refine lv_iconst (v := 4) hx hb dL_law_432 (by decide) ?_
    refine lv_ishr hx hb dL_law_433 ?_
    refine lv_iconst (v := 5) hx hb dL_law_434 (by decide) ?_
    refine g_aft_i (g_runS (As := [.int (z6 >>> (4 &&& 31)), .int 5]) (rest := [.int (nI (bel (z6 >>> (4 &&& 31)) 5))]) hx hb hml hown hts (kL_below l G al (w2 G al k c (s2 g (3 + j) 4 (nI (bel (z6 >>> (4 &&& 31)) 5))) t) (z6 >>> (4 &&& 31)) 5 (by decide) (by decide)) (fcwS 2 hts q585 q586 q584 q555 rfl rfl (by decide +kernel) ⟨(Nat.le_of_ble_eq_true rfl), (Nat.le_of_ble_eq_true rfl)⟩) hE hb0 hP hS rfl hl.1 rfl (Nat.le_of_ble_eq_true rfl) dL_law_435 ⟨Nat.le_trans (show ce + 0 ≤ 2000 by omega) hR1, Nat.le_trans (show sl + 0 ≤ 20000 by omega) hR2⟩) hS (fun u H locs hP hS => ?_)
    refine f_topi (v := nI (bel (z6 >>> (4 &&& 31)) 5)) rfl ?_
    refine lv_icmp_eq (tgt := 883) hx hb dL_law_438 (by decide) (fun _ => ?_) (fun h => absurd rfl h)
    refine W.widen (k := ce + 21) (n := sl + 148) (by omega) (by omega) ?_
    exact kk _ _ _ _ _ _ _ _ _ _ _ (lwR_g hR0 (fun N9 hIn => jrow_I hIn (by omega) (Or.inr ⟨by rw [nI_t (by omega)]; omega, by rw [nI_t (by omega)]; omega⟩)) (fun i9 _ => s2_8 g (by decide))) hf hP hS (lv_sub hl [5, 6, 7, 8, 9, 10] rfl)
set_option maxHeartbeats 4000000 in
set_option maxRecDepth 100000 in
/-- a drive is set -/
theorem law_443 {k : gC} {r j q : Nat} {al : Nat → Nat} {c : mC} {h : gK} {g t : St} {F : Int} {lk : Nat → Int32} {f z6 z7 sw : Int32} {H : Heap} {locs : List Loc} {ls : Array Slot} {ce sl : Nat} (C : lwC p s m cd G) (hcf : cfg k) (hR : lwR G k r al c h g F lk) (hf : f.toInt = F) (hr : r < 60) (hj : j < k.1) (hq : q < 2) (hsw : sw = bz (g 0 14)) (hP : mP G al (w2 G al k c g t) H) (hS : va_S (gA G) s.heap H locs) (hl : lv_has ls 13 [(10, .int sw), (9, .int (nI q)), (8, .int (nI j)), (7, .int z7), (6, .int z6), (5, .int (nI r)), (4, .int f), (3, .ref (al 400)), (2, .int (nI k.1)), (1, .ref (al 0)), (0, .ref (gSb G))]) (hce : ce + 21 ≤ 2000) (hsl : sl + 148 ≤ 20000) (kk : ∀ (al : Nat → Nat) (c : mC) (h : gK) (g t : St) (F : Int) (f : Int32) (lk : Nat → Int32) (H : Heap) (locs : List Loc) (ls : Array Slot), lwR G k (r + 1) al c h g F lk → f.toInt = F → mP G al (w2 G al k c g t) H → va_S (gA G) s.heap H locs → lv_has ls 13 [(5, .int (nI r)), (4, .int f), (3, .ref (al 400)), (2, .int (nI k.1)), (1, .ref (al 0)), (0, .ref (gSb G))] → W p l e room_1 s m #[Value.ref (gSb G)] below meth cd H locs (ce + 21) (sl + 148) Q (F0 m 883 ls [])) : W p l e room_1 s m #[Value.ref (gSb G)] below meth cd H locs ce sl Q (F0 m 443 ls []) := by
  obtain ⟨hx, hb, hml, hown, hts, hb0, hE, hL⟩ := C
  have hR1 : 2000 ≤ room_1.cells := (Nat.le_of_ble_eq_true rfl)
  have hR2 : 20000 ≤ room_1.slots := (Nat.le_of_ble_eq_true rfl)
  have hR0 := hR
  obtain ⟨hX, hhf, hsf, ⟨N, hI, hN⟩, hF9, hc400, hlk⟩ := hR
  have hJ := gX_J hX
  have hk2 : 2 ≤ k.1 := hcf.1
  have hrw := hI.1
  have hb9 := bel_lt (z6 >>> (4 &&& 31)) (n := 11) (by decide)
  refine lv_iload hx hb dL_law_443 (lv_at hl 0 rfl) ?_
  refine lv_if_ne (tgt := 883) hx hb dL_law_445 (by decide) (fun hc_1 => ?_) (fun hc_1 => ?_)
  · skip
    refine W.widen (k := ce + 21) (n := sl + 148) (by omega) (by omega) ?_
    exact kk _ _ _ _ _ _ _ _ _ _ _ (lwR_k hR0) hf hP hS (lv_sub hl [5, 6, 7, 8, 9, 10] rfl)
  · skip
    have hsw0 : bz (g 0 14) = 0 := hsw.symm.trans (by first | exact hc_1 | exact Classical.byContradiction (fun z => hc_1 z))
    refine lv_aload_n hx hb dL_law_448 rfl (lv_at hl 9 rfl) ?_
    refine lv_iload hx hb dL_law_449 (lv_at hl 1 rfl) ?_
    refine lv_iconst (v := 4) hx hb dL_law_451 (by decide) ?_
    refine g_aft_i (g_runV (As := [.int (nI q), .int 4]) (rest := []) hx hb hml hown hts (kX7_ofPump_4 l G al k h c g t q hX hq) (fcwV 2 hts q563 q531 q532 q148 q466 rfl rfl (by decide +kernel) ⟨(Nat.le_of_ble_eq_true rfl), (Nat.le_of_ble_eq_true rfl)⟩) hE hb0 hP hS (m_recvA hE hP 0 rfl (gX_0 hX) rfl) rfl hl.1 rfl (Nat.le_of_ble_eq_true rfl) dL_law_452 ⟨Nat.le_trans (show ce + 0 ≤ 2000 by omega) hR1, Nat.le_trans (show sl + 0 ≤ 20000 by omega) hR2⟩) hS (fun u H locs hP hS => ?_)
    have hP : mP G al (w2 G al k c g t) H := hP
    refine f_topi (v := if bz (g (1 + q) 4) = 0 then 0 else 1) rfl ?_
    refine f_topi (v := if bz (g (1 + q) 4) = 0 then 0 else 1) rfl ?_
    refine lv_if_ne (tgt := 883) hx hb dL_law_455 (by decide) (fun hc_2 => ?_) (fun hc_2 => ?_)
    · skip
      refine W.widen (k := ce + 21) (n := sl + 148) (by omega) (by omega) ?_
      exact kk _ _ _ _ _ _ _ _ _ _ _ (lwR_k hR0) hf hP hS (lv_sub hl [5, 6, 7, 8, 9, 10] rfl)
    · skip
      have htr : bz (g (1 + q) 4) = 0 := if01_0 (by first | exact hc_2 | exact Classical.byContradiction (fun z => hc_2 z))
      refine lv_aload_n hx hb dL_law_458 rfl (lv_at hl 9 rfl) ?_
      refine lv_iload hx hb dL_law_459 (lv_at hl 1 rfl) ?_
      refine lv_iload hx hb dL_law_461 (lv_at hl 4 rfl) ?_
      refine lv_iconst (v := 4) hx hb dL_law_463 (by decide) ?_
      refine lv_ishr hx hb dL_law_464 ?_
      refine lv_bipush (v := 11) hx hb dL_law_465 (by decide) ?_
      refine g_aft_i (g_runS (As := [.int (z6 >>> (4 &&& 31)), .int 11]) (rest := [.int (nI q), .ref (al 0)]) hx hb hml hown hts (kL_below l G al (w2 G al k c g t) (z6 >>> (4 &&& 31)) 11 (by decide) (by decide)) (fcwS 2 hts q585 q586 q584 q555 rfl rfl (by decide +kernel) ⟨(Nat.le_of_ble_eq_true rfl), (Nat.le_of_ble_eq_true rfl)⟩) hE hb0 hP hS rfl hl.1 rfl (Nat.le_of_ble_eq_true rfl) dL_law_467 ⟨Nat.le_trans (show ce + 0 ≤ 2000 by omega) hR1, Nat.le_trans (show sl + 0 ≤ 20000 by omega) hR2⟩) hS (fun u H locs hP hS => ?_)
      refine f_topi (v := nI (bel (z6 >>> (4 &&& 31)) 11)) rfl ?_
      refine g_aft_i (g_runV (As := [.int (nI q), .int (nI (bel (z6 >>> (4 &&& 31)) 11))]) (rest := []) hx hb hml hown hts (kX7_setting l G al k h c g t q (nI (bel (z6 >>> (4 &&& 31)) 11)) hX hq (nI_pos (by omega)) (nI_le (b := 10) (by omega) (by omega)) hsw0 htr) (fcwV 2 hts q602 q603 q604 q148 q431 rfl rfl (by decide +kernel) ⟨(Nat.le_of_ble_eq_true rfl), (Nat.le_of_ble_eq_true rfl)⟩) hE hb0 hP hS (m_recvA hE hP 0 rfl (gX_0 hX) rfl) rfl hl.1 rfl (Nat.le_of_ble_eq_true rfl) dL_law_470 ⟨Nat.le_trans (show ce + 0 ≤ 2000 by omega) hR1, Nat.le_trans (show sl + 0 ≤ 20000 by omega) hR2⟩) hS (fun u H locs hP hS => ?_)
      have hP : mP G al (w2 G al k c (mSetTo g q (nI (bel (z6 >>> (4 &&& 31)) 11))) t) H := hP
      refine f_topi (v := g (1 + q) 2) rfl ?_
      refine lv_bipush (v := 10) hx hb dL_law_473 (by decide) ?_
      refine lv_icmp_gt (tgt := 497) hx hb dL_law_475 (by decide) (fun h => absurd h (fun z => by have z9 := i_lt.mp z; have := (hrw.1 q hq).2.1; rw [c_10] at z9; omega)) (fun _ => ?_)
      refine lv_aload_n hx hb dL_law_478 rfl (lv_at hl 9 rfl) ?_
      refine lv_iload hx hb dL_law_479 (lv_at hl 1 rfl) ?_
      refine lv_iconst (v := 1) hx hb dL_law_481 (by decide) ?_
      refine g_aft_i (g_runV (As := [.int (nI q), .int 1]) (rest := []) hx hb hml hown hts (kX7_ofPump_1 l G al k h c (mSetTo g q (nI (bel (z6 >>> (4 &&& 31)) 11))) t q hX hq) (fcwV 2 hts q563 q531 q532 q148 q466 rfl rfl (by decide +kernel) ⟨(Nat.le_of_ble_eq_true rfl), (Nat.le_of_ble_eq_true rfl)⟩) hE hb0 hP hS (m_recvA hE hP 0 rfl (gX_0 hX) rfl) rfl hl.1 rfl (Nat.le_of_ble_eq_true rfl) dL_law_482 ⟨Nat.le_trans (show ce + 0 ≤ 2000 by omega) hR1, Nat.le_trans (show sl + 0 ≤ 20000 by omega) hR2⟩) hS (fun u H locs hP hS => ?_)
      have hP : mP G al (w2 G al k c (mSetTo g q (nI (bel (z6 >>> (4 &&& 31)) 11))) t) H := hP
      refine f_topi (v := nI (bel (z6 >>> (4 &&& 31)) 11)) (by show mSetTo g q _ (1 + q) 2 = _; unfold mSetTo; rw [if_pos htr]; exact s2_s _ _ _ _) ?_
      refine f_topi (v := nI (bel (z6 >>> (4 &&& 31)) 11)) rfl ?_
      refine lv_iload hx hb dL_law_485 (lv_at hl 4 rfl) ?_
      refine lv_iconst (v := 4) hx hb dL_law_487 (by decide) ?_
      refine lv_ishr hx hb dL_law_488 ?_
      refine lv_bipush (v := 11) hx hb dL_law_489 (by decide) ?_
      refine g_aft_i (g_runS (As := [.int (z6 >>> (4 &&& 31)), .int 11]) (rest := [.int (nI (bel (z6 >>> (4 &&& 31)) 11))]) hx hb hml hown hts (kL_below l G al (w2 G al k c (mSetTo g q (nI (bel (z6 >>> (4 &&& 31)) 11))) t) (z6 >>> (4 &&& 31)) 11 (by decide) (by decide)) (fcwS 2 hts q585 q586 q584 q555 rfl rfl (by decide +kernel) ⟨(Nat.le_of_ble_eq_true rfl), (Nat.le_of_ble_eq_true rfl)⟩) hE hb0 hP hS rfl hl.1 rfl (Nat.le_of_ble_eq_true rfl) dL_law_491 ⟨Nat.le_trans (show ce + 0 ≤ 2000 by omega) hR1, Nat.le_trans (show sl + 0 ≤ 20000 by omega) hR2⟩) hS (fun u H locs hP hS => ?_)
      refine f_topi (v := nI (bel (z6 >>> (4 &&& 31)) 11)) rfl ?_
      refine lv_icmp_eq (tgt := 883) hx hb dL_law_494 (by decide) (fun _ => ?_) (fun h => absurd rfl h)
      refine W.widen (k := ce + 21) (n := sl + 148) (by omega) (by omega) ?_
      exact kk _ _ _ _ _ _ _ _ _ _ _ (lwR_g hR0 (fun N9 hIn => set_I hIn hq (by rw [nI_t (by omega)]; omega) (by rw [nI_t (by omega)]; omega)) (fun i9 _ => mSetTo_8 g)) hf hP hS (lv_sub hl [5, 6, 7, 8, 9, 10] rfl)
set_option maxHeartbeats 4000000 in
set_option maxRecDepth 100000 in
/-- a pump is reset -/
theorem law_499 {k : gC} {r j q : Nat} {al : Nat → Nat} {c : mC} {h : gK} {g t : St} {F : Int} {lk : Nat → Int32} {f z6 z7 sw : Int32} {H : Heap} {locs : List Loc} {ls : Array Slot} {ce sl : Nat} (C : lwC p s m cd G) (hcf : cfg k) (hR : lwR G k r al c h g F lk) (hf : f.toInt = F) (hr : r < 60) (hj : j < k.1) (hq : q < 2) (hsw : sw = bz (g 0 14)) (hP : mP G al (w2 G al k c g t) H) (hS : va_S (gA G) s.heap H locs) (hl : lv_has ls 13 [(10, .int sw), (9, .int (nI q)), (8, .int (nI j)), (7, .int z7), (6, .int z6), (5, .int (nI r)), (4, .int f), (3, .ref (al 400)), (2, .int (nI k.1)), (1, .ref (al 0)), (0, .ref (gSb G))]) (hce : ce + 21 ≤ 2000) (hsl : sl + 148 ≤ 20000) (kk : ∀ (al : Nat → Nat) (c : mC) (h : gK) (g t : St) (F : Int) (f : Int32) (lk : Nat → Int32) (H : Heap) (locs : List Loc) (ls : Array Slot), lwR G k (r + 1) al c h g F lk → f.toInt = F → mP G al (w2 G al k c g t) H → va_S (gA G) s.heap H locs → lv_has ls 13 [(5, .int (nI r)), (4, .int f), (3, .ref (al 400)), (2, .int (nI k.1)), (1, .ref (al 0)), (0, .ref (gSb G))] → W p l e room_1 s m #[Value.ref (gSb G)] below meth cd H locs (ce + 21) (sl + 148) Q (F0 m 883 ls [])) : W p l e room_1 s m #[Value.ref (gSb G)] below meth cd H locs ce sl Q (F0 m 499 ls []) := by
  obtain ⟨hx, hb, hml, hown, hts, hb0, hE, hL⟩ := C
  have hR1 : 2000 ≤ room_1.cells := (Nat.le_of_ble_eq_true rfl)
  have hR2 : 20000 ≤ room_1.slots := (Nat.le_of_ble_eq_true rfl)
  have hR0 := hR
  obtain ⟨hX, hhf, hsf, ⟨N, hI, hN⟩, hF9, hc400, hlk⟩ := hR
  have hJ := gX_J hX
  have hk2 : 2 ≤ k.1 := hcf.1
  have hrw := hI.1
  refine lv_aload_n hx hb dL_law_499 rfl (lv_at hl 9 rfl) ?_
  refine lv_iload hx hb dL_law_500 (lv_at hl 1 rfl) ?_
  refine lv_iconst (v := 4) hx hb dL_law_502 (by decide) ?_
  refine g_aft_i (g_runV (As := [.int (nI q), .int 4]) (rest := []) hx hb hml hown hts (kX7_ofPump_4 l G al k h c g t q hX hq) (fcwV 2 hts q563 q531 q532 q148 q466 rfl rfl (by decide +kernel) ⟨(Nat.le_of_ble_eq_true rfl), (Nat.le_of_ble_eq_true rfl)⟩) hE hb0 hP hS (m_recvA hE hP 0 rfl (gX_0 hX) rfl) rfl hl.1 rfl (Nat.le_of_ble_eq_true rfl) dL_law_503 ⟨Nat.le_trans (show ce + 0 ≤ 2000 by omega) hR1, Nat.le_trans (show sl + 0 ≤ 20000 by omega) hR2⟩) hS (fun u H locs hP hS => ?_)
  have hP : mP G al (w2 G al k c g t) H := hP
  refine f_topi (v := if bz (g (1 + q) 4) = 0 then 0 else 1) rfl ?_
  refine f_topi (v := if bz (g (1 + q) 4) = 0 then 0 else 1) rfl ?_
  refine lv_iconst (v := 1) hx hb dL_law_506 (by decide) ?_
  refine lv_icmp_ne (tgt := 883) hx hb dL_law_507 (by decide) (fun hc_1 => ?_) (fun hc_1 => ?_)
  · skip
    refine W.widen (k := ce + 21) (n := sl + 148) (by omega) (by omega) ?_
    exact kk _ _ _ _ _ _ _ _ _ _ _ (lwR_k hR0) hf hP hS (lv_sub hl [5, 6, 7, 8, 9, 10] rfl)
  · skip
    have htr : ¬ bz (g (1 + q) 4) = 0 := bz_i2 (by first | exact hc_1 | exact Classical.byContradiction (fun z => hc_1 z))
    refine lv_aload_n hx hb dL_law_510 rfl (lv_at hl 9 rfl) ?_
    refine lv_iconst (v := 5) hx hb dL_law_511 (by decide) ?_
    refine g_aft_i (g_runV (As := [.int 5]) (rest := []) hx hb hml hown hts (kX7_many_5 l G al k h c g t hX) (fcwV 1 hts q562 q528 q529 q148 q499 rfl rfl (by decide +kernel) ⟨(Nat.le_of_ble_eq_true rfl), (Nat.le_of_ble_eq_true rfl)⟩) hE hb0 hP hS (m_recvA hE hP 0 rfl (gX_0 hX) rfl) rfl hl.1 rfl (Nat.le_of_ble_eq_true rfl) dL_law_512 ⟨Nat.le_trans (show ce + 0 ≤ 2000 by omega) hR1, Nat.le_trans (show sl + 0 ≤ 20000 by omega) hR2⟩) hS (fun u H locs hP hS => ?_)
    have hP : mP G al (w2 G al k c g t) H := hP
    refine f_topi (v := g 0 5) rfl ?_
    refine f_topi (v := g 0 5) rfl ?_
    refine lv_sipush (v := 300) hx hb dL_law_515 (by decide) ?_
    refine lv_icmp_lt (tgt := 883) hx hb dL_law_518 (by decide) (fun hc_2 => ?_) (fun hc_2 => ?_)
    · skip
      refine W.widen (k := ce + 21) (n := sl + 148) (by omega) (by omega) ?_
      exact kk _ _ _ _ _ _ _ _ _ _ _ (lwR_k hR0) hf hP hS (lv_sub hl [5, 6, 7, 8, 9, 10] rfl)
    · skip
      have hw3 : 300 ≤ g 0 5 := Int32.not_lt.mp hc_2
      refine lv_aload_n hx hb dL_law_521 rfl (lv_at hl 9 rfl) ?_
      refine lv_iload hx hb dL_law_522 (lv_at hl 1 rfl) ?_
      refine g_aft_i (g_runV (As := [.int (nI q)]) (rest := []) hx hb hml hown hts (kX7_reset l G al k h c g t q hX hq htr hw3) (fcwV 1 hts q605 q606 q607 q148 q434 rfl rfl (by decide +kernel) ⟨(Nat.le_of_ble_eq_true rfl), (Nat.le_of_ble_eq_true rfl)⟩) hE hb0 hP hS (m_recvA hE hP 0 rfl (gX_0 hX) rfl) rfl hl.1 rfl (Nat.le_of_ble_eq_true rfl) dL_law_524 ⟨Nat.le_trans (show ce + 0 ≤ 2000 by omega) hR1, Nat.le_trans (show sl + 0 ≤ 20000 by omega) hR2⟩) hS (fun u H locs hP hS => ?_)
      have hP : mP G al (w2 G al k c (s2 g (1 + q) 4 0) t) H := hP
      refine f_topi (v := g (1 + q) 5) rfl ?_
      refine lv_aload_n hx hb dL_law_527 rfl (lv_at hl 9 rfl) ?_
      refine lv_iload hx hb dL_law_528 (lv_at hl 1 rfl) ?_
      refine lv_bipush (v := 6) hx hb dL_law_530 (by decide) ?_
      refine g_aft_i (g_runV (As := [.int (nI q), .int 6]) (rest := [.int (g (1 + q) 5)]) hx hb hml hown hts (kX7_ofPump_6 l G al k h c (s2 g (1 + q) 4 0) t q hX hq) (fcwV 2 hts q563 q531 q532 q148 q466 rfl rfl (by decide +kernel) ⟨(Nat.le_of_ble_eq_true rfl), (Nat.le_of_ble_eq_true rfl)⟩) hE hb0 hP hS (m_recvA hE hP 0 rfl (gX_0 hX) rfl) rfl hl.1 rfl (Nat.le_of_ble_eq_true rfl) dL_law_532 ⟨Nat.le_trans (show ce + 0 ≤ 2000 by omega) hR1, Nat.le_trans (show sl + 0 ≤ 20000 by omega) hR2⟩) hS (fun u H locs hP hS => ?_)
      have hP : mP G al (w2 G al k c (s2 g (1 + q) 4 0) t) H := hP
      refine f_topi (v := g (1 + q) 5) (s2_k _ _ _ (by decide)) ?_
      refine f_topi (v := g (1 + q) 5) rfl ?_
      refine lv_icmp_ne (tgt := 548) hx hb dL_law_535 (by decide) (fun h => absurd rfl h) (fun _ => ?_)
      refine lv_aload_n hx hb dL_law_538 rfl (lv_at hl 9 rfl) ?_
      refine lv_iload hx hb dL_law_539 (lv_at hl 1 rfl) ?_
      refine lv_iconst (v := 4) hx hb dL_law_541 (by decide) ?_
      refine g_aft_i (g_runV (As := [.int (nI q), .int 4]) (rest := []) hx hb hml hown hts (kX7_ofPump_4 l G al k h c (s2 g (1 + q) 4 0) t q hX hq) (fcwV 2 hts q563 q531 q532 q148 q466 rfl rfl (by decide +kernel) ⟨(Nat.le_of_ble_eq_true rfl), (Nat.le_of_ble_eq_true rfl)⟩) hE hb0 hP hS (m_recvA hE hP 0 rfl (gX_0 hX) rfl) rfl hl.1 rfl (Nat.le_of_ble_eq_true rfl) dL_law_542 ⟨Nat.le_trans (show ce + 0 ≤ 2000 by omega) hR1, Nat.le_trans (show sl + 0 ≤ 20000 by omega) hR2⟩) hS (fun u H locs hP hS => ?_)
      have hP : mP G al (w2 G al k c (s2 g (1 + q) 4 0) t) H := hP
      refine f_topi (v := 0) (by show (if bz (s2 g (1 + q) 4 0 (1 + q) 4) = 0 then (0 : Int32) else 1) = 0; rw [s2_s, bz_0]; rfl) ?_
      refine f_topi (v := 0) rfl ?_
      refine lv_if_eq (tgt := 883) hx hb dL_law_545 (by decide) (fun _ => ?_) (fun h => absurd (by decide) h)
      refine W.widen (k := ce + 21) (n := sl + 148) (by omega) (by omega) ?_
      exact kk _ _ _ _ _ _ _ _ _ _ _ (lwR_g hR0 (fun N9 hIn => reset_I hIn hq) (fun i9 _ => s2_8 g (by decide))) hf hP hS (lv_sub hl [5, 6, 7, 8, 9, 10] rfl)
set_option maxHeartbeats 4000000 in
set_option maxRecDepth 100000 in
/-- a lamp is lit -/
theorem law_550 {k : gC} {r j q : Nat} {al : Nat → Nat} {c : mC} {h : gK} {g t : St} {F : Int} {lk : Nat → Int32} {f z6 z7 sw : Int32} {H : Heap} {locs : List Loc} {ls : Array Slot} {ce sl : Nat} (C : lwC p s m cd G) (hcf : cfg k) (hR : lwR G k r al c h g F lk) (hf : f.toInt = F) (hr : r < 60) (hj : j < k.1) (hq : q < 2) (hsw : sw = bz (g 0 14)) (hP : mP G al (w2 G al k c g t) H) (hS : va_S (gA G) s.heap H locs) (hl : lv_has ls 13 [(10, .int sw), (9, .int (nI q)), (8, .int (nI j)), (7, .int z7), (6, .int z6), (5, .int (nI r)), (4, .int f), (3, .ref (al 400)), (2, .int (nI k.1)), (1, .ref (al 0)), (0, .ref (gSb G))]) (hce : ce + 21 ≤ 2000) (hsl : sl + 148 ≤ 20000) (kk : ∀ (al : Nat → Nat) (c : mC) (h : gK) (g t : St) (F : Int) (f : Int32) (lk : Nat → Int32) (H : Heap) (locs : List Loc) (ls : Array Slot), lwR G k (r + 1) al c h g F lk → f.toInt = F → mP G al (w2 G al k c g t) H → va_S (gA G) s.heap H locs → lv_has ls 13 [(5, .int (nI r)), (4, .int f), (3, .ref (al 400)), (2, .int (nI k.1)), (1, .ref (al 0)), (0, .ref (gSb G))] → W p l e room_1 s m #[Value.ref (gSb G)] below meth cd H locs (ce + 21) (sl + 148) Q (F0 m 883 ls [])) : W p l e room_1 s m #[Value.ref (gSb G)] below meth cd H locs ce sl Q (F0 m 550 ls []) := by
  obtain ⟨hx, hb, hml, hown, hts, hb0, hE, hL⟩ := C
  have hR1 : 2000 ≤ room_1.cells := (Nat.le_of_ble_eq_true rfl)
  have hR2 : 20000 ≤ room_1.slots := (Nat.le_of_ble_eq_true rfl)
  have hR0 := hR
  obtain ⟨hX, hhf, hsf, ⟨N, hI, hN⟩, hF9, hc400, hlk⟩ := hR
  have hJ := gX_J hX
  have hk2 : 2 ≤ k.1 := hcf.1
  have hrw := hI.1
  refine lv_aload_n hx hb dL_law_550 rfl (lv_at hl 9 rfl) ?_
  refine lv_iload hx hb dL_law_551 (lv_at hl 2 rfl) ?_
  refine lv_iconst (v := 1) hx hb dL_law_553 (by decide) ?_
  refine g_aft_i (g_runV (As := [.int (nI j), .int 1]) (rest := []) hx hb hml hown hts (kX7_lamp l G al k h c g t j hX hj) (fcwV 2 hts q608 q609 q610 q148 q436 rfl rfl (by decide +kernel) ⟨(Nat.le_of_ble_eq_true rfl), (Nat.le_of_ble_eq_true rfl)⟩) hE hb0 hP hS (m_recvA hE hP 0 rfl (gX_0 hX) rfl) rfl hl.1 rfl (Nat.le_of_ble_eq_true rfl) dL_law_554 ⟨Nat.le_trans (show ce + 0 ≤ 2000 by omega) hR1, Nat.le_trans (show sl + 0 ≤ 20000 by omega) hR2⟩) hS (fun u H locs hP hS => ?_)
  have hP : mP G al (w2 G al k c (s2 g (3 + j) 7 1) t) H := hP
  refine f_topi (v := bz (g (3 + j) 7)) rfl ?_
  refine lv_if_eq (tgt := 883) hx hb dL_law_557 (by decide) (fun hc_1 => ?_) (fun hc_1 => ?_)
  · skip
    refine W.widen (k := ce + 21) (n := sl + 148) (by omega) (by omega) ?_
    exact kk _ _ _ _ _ _ _ _ _ _ _ (lwR_g hR0 (fun N9 hIn => jrow_I hIn (by omega) (Or.inl ⟨by decide, by decide⟩)) (fun i9 _ => s2_8 g (by decide))) hf hP hS (lv_sub hl [5, 6, 7, 8, 9, 10] rfl)
  · skip
    refine lv_aload_n hx hb dL_law_560 rfl (lv_at hl 9 rfl) ?_
    refine lv_iload hx hb dL_law_561 (lv_at hl 2 rfl) ?_
    refine lv_bipush (v := 9) hx hb dL_law_563 (by decide) ?_
    refine g_aft_i (g_runV (As := [.int (nI j), .int 9]) (rest := []) hx hb hml hown hts (kX7_ofJet_9 l G al k h c (s2 g (3 + j) 7 1) t j hX hj) (fcwV 2 hts q560 q534 q535 q148 q477 rfl rfl (by decide +kernel) ⟨(Nat.le_of_ble_eq_true rfl), (Nat.le_of_ble_eq_true rfl)⟩) hE hb0 hP hS (m_recvA hE hP 0 rfl (gX_0 hX) rfl) rfl hl.1 rfl (Nat.le_of_ble_eq_true rfl) dL_law_565 ⟨Nat.le_trans (show ce + 0 ≤ 2000 by omega) hR1, Nat.le_trans (show sl + 0 ≤ 20000 by omega) hR2⟩) hS (fun u H locs hP hS => ?_)
    have hP : mP G al (w2 G al k c (s2 g (3 + j) 7 1) t) H := hP
    refine f_topi (v := 1) (by show (if bz (s2 g (3 + j) 7 1 (3 + j) 7) = 0 then (0 : Int32) else 1) = 1; rw [s2_s]; decide) ?_
    refine f_topi (v := 1) rfl ?_
    refine lv_if_ne (tgt := 883) hx hb dL_law_568 (by decide) (fun _ => ?_) (fun h => absurd h (by decide))
    refine W.widen (k := ce + 21) (n := sl + 148) (by omega) (by omega) ?_
    exact kk _ _ _ _ _ _ _ _ _ _ _ (lwR_g hR0 (fun N9 hIn => jrow_I hIn (by omega) (Or.inl ⟨by decide, by decide⟩)) (fun i9 _ => s2_8 g (by decide))) hf hP hS (lv_sub hl [5, 6, 7, 8, 9, 10] rfl)
set_option maxHeartbeats 4000000 in
set_option maxRecDepth 100000 in
/-- a fault is told -/
theorem law_573 {k : gC} {r j q : Nat} {al : Nat → Nat} {c : mC} {h : gK} {g t : St} {F : Int} {lk : Nat → Int32} {f z6 z7 sw : Int32} {H : Heap} {locs : List Loc} {ls : Array Slot} {ce sl : Nat} (C : lwC p s m cd G) (hcf : cfg k) (hR : lwR G k r al c h g F lk) (hf : f.toInt = F) (hr : r < 60) (hj : j < k.1) (hq : q < 2) (hsw : sw = bz (g 0 14)) (hP : mP G al (w2 G al k c g t) H) (hS : va_S (gA G) s.heap H locs) (hl : lv_has ls 13 [(10, .int sw), (9, .int (nI q)), (8, .int (nI j)), (7, .int z7), (6, .int z6), (5, .int (nI r)), (4, .int f), (3, .ref (al 400)), (2, .int (nI k.1)), (1, .ref (al 0)), (0, .ref (gSb G))]) (hce : ce + 21 ≤ 2000) (hsl : sl + 148 ≤ 20000) (kk : ∀ (al : Nat → Nat) (c : mC) (h : gK) (g t : St) (F : Int) (f : Int32) (lk : Nat → Int32) (H : Heap) (locs : List Loc) (ls : Array Slot), lwR G k (r + 1) al c h g F lk → f.toInt = F → mP G al (w2 G al k c g t) H → va_S (gA G) s.heap H locs → lv_has ls 13 [(5, .int (nI r)), (4, .int f), (3, .ref (al 400)), (2, .int (nI k.1)), (1, .ref (al 0)), (0, .ref (gSb G))] → W p l e room_1 s m #[Value.ref (gSb G)] below meth cd H locs (ce + 21) (sl + 148) Q (F0 m 883 ls [])) : W p l e room_1 s m #[Value.ref (gSb G)] below meth cd H locs ce sl Q (F0 m 573 ls []) := by
  obtain ⟨hx, hb, hml, hown, hts, hb0, hE, hL⟩ := C
  have hR1 : 2000 ≤ room_1.cells := (Nat.le_of_ble_eq_true rfl)
  have hR2 : 20000 ≤ room_1.slots := (Nat.le_of_ble_eq_true rfl)
  have hR0 := hR
  obtain ⟨hX, hhf, hsf, ⟨N, hI, hN⟩, hF9, hc400, hlk⟩ := hR
  have hJ := gX_J hX
  have hk2 : 2 ≤ k.1 := hcf.1
  have hrw := hI.1
  refine lv_aload_n hx hb dL_law_573 rfl (lv_at hl 7 rfl) ?_
  refine lv_iload hx hb dL_law_574 (lv_at hl 2 rfl) ?_
  refine lv_iload hx hb dL_law_576 (lv_at hl 4 rfl) ?_
  refine lv_iconst (v := 5) hx hb dL_law_578 (by decide) ?_
  refine lv_ishr hx hb dL_law_579 ?_
  refine lv_iconst (v := 2) hx hb dL_law_580 (by decide) ?_
  refine g_aft_i (g_runS (As := [.int (z6 >>> (5 &&& 31)), .int 2]) (rest := [.int (nI j), .ref (al 400)]) hx hb hml hown hts (kL_below l G al (w2 G al k c g t) (z6 >>> (5 &&& 31)) 2 (by decide) (by decide)) (fcwS 2 hts q585 q586 q584 q555 rfl rfl (by decide +kernel) ⟨(Nat.le_of_ble_eq_true rfl), (Nat.le_of_ble_eq_true rfl)⟩) hE hb0 hP hS rfl hl.1 rfl (Nat.le_of_ble_eq_true rfl) dL_law_581 ⟨Nat.le_trans (show ce + 0 ≤ 2000 by omega) hR1, Nat.le_trans (show sl + 0 ≤ 20000 by omega) hR2⟩) hS (fun u H locs hP hS => ?_)
  refine f_topi (v := nI (bel (z6 >>> (5 &&& 31)) 2)) rfl ?_
  refine lv_if_ne (tgt := 591) hx hb dL_law_584 (by decide) (fun hc_1 => ?_) (fun hc_1 => ?_)
  · skip
    refine lv_iconst (v := 0) hx hb dL_law_591 (by decide) ?_
    refine mX_zast 400 (by decide) (by decide) hX hx hb hE hP hS rfl hc400 (nI_in (by omega) (by omega)) (x' := j) (nI_clamp (by omega)) dL_law_592 (fun c H locs hc400 hc9 hX hP hS => ?_)
    have hc400 : c 400 = some (.inl (gZ G, 10, .inl (fun z => bz (upd lk j 0 z)))) := hc400.trans (congrArg (fun z : Nat → Int32 => some ((.inl (gZ G, 10, .inl z)) : va_E)) (lk_upd (by first | exact Or.inl rfl | exact Or.inr rfl)))
    have hP : mP G al (w2 G al k c g t) H := hP
    refine lv_aload_n hx hb dL_law_593 rfl (lv_at hl 9 rfl) ?_
    refine lv_iload hx hb dL_law_594 (lv_at hl 2 rfl) ?_
    refine lv_bipush (v := 6) hx hb dL_law_596 (by decide) ?_
    refine g_aft_i (g_runV (As := [.int (nI j), .int 6]) (rest := []) hx hb hml hown hts (kX7_ofJet_6 l G al k h c g t j hX hj) (fcwV 2 hts q560 q534 q535 q148 q477 rfl rfl (by decide +kernel) ⟨(Nat.le_of_ble_eq_true rfl), (Nat.le_of_ble_eq_true rfl)⟩) hE hb0 hP hS (m_recvA hE hP 0 rfl (gX_0 hX) rfl) rfl hl.1 rfl (Nat.le_of_ble_eq_true rfl) dL_law_598 ⟨Nat.le_trans (show ce + 0 ≤ 2000 by omega) hR1, Nat.le_trans (show sl + 0 ≤ 20000 by omega) hR2⟩) hS (fun u H locs hP hS => ?_)
    have hP : mP G al (w2 G al k c g t) H := hP
    refine f_topi (v := if bz (g (3 + j) 6) = 0 then 0 else 1) rfl ?_
    refine f_topi (v := if bz (g (3 + j) 6) = 0 then 0 else 1) rfl ?_
    refine lv_iconst (v := 1) hx hb dL_law_601 (by decide) ?_
    refine lv_icmp_ne (tgt := 609) hx hb dL_law_602 (by decide) (fun hc_2 => ?_) (fun hc_2 => ?_)
    · skip
      have hst := bz_i1 hc_2
      refine lv_iconst (v := 0) hx hb dL_law_609 (by decide) ?_
      refine lv_istore (lv' := [(11, .int 0), (10, .int sw), (9, .int (nI q)), (8, .int (nI j)), (7, .int z7), (6, .int z6), (5, .int (nI r)), (4, .int f), (3, .ref (al 400)), (2, .int (nI k.1)), (1, .ref (al 0)), (0, .ref (gSb G))]) hx hb dL_law_610 hl (by decide) rfl (fun ls hl => ?_)
      refine lv_aload_n hx hb dL_law_612 rfl (lv_at hl 10 rfl) ?_
      refine lv_iload hx hb dL_law_613 (lv_at hl 3 rfl) ?_
      refine lv_iload hx hb dL_law_615 (lv_at hl 5 rfl) ?_
      refine lv_iconst (v := 4) hx hb dL_law_617 (by decide) ?_
      refine lv_ishr hx hb dL_law_618 ?_
      refine lv_iconst (v := 4) hx hb dL_law_619 (by decide) ?_
      refine g_aft_i (g_runS (As := [.int (z6 >>> (4 &&& 31)), .int 4]) (rest := [.int (nI j), .ref (al 0)]) hx hb hml hown hts (kL_below l G al (w2 G al k c g t) (z6 >>> (4 &&& 31)) 4 (by decide) (by decide)) (fcwS 2 hts q585 q586 q584 q555 rfl rfl (by decide +kernel) ⟨(Nat.le_of_ble_eq_true rfl), (Nat.le_of_ble_eq_true rfl)⟩) hE hb0 hP hS rfl hl.1 rfl (Nat.le_of_ble_eq_true rfl) dL_law_620 ⟨Nat.le_trans (show ce + 0 ≤ 2000 by omega) hR1, Nat.le_trans (show sl + 0 ≤ 20000 by omega) hR2⟩) hS (fun u H locs hP hS => ?_)
      refine f_topi (v := nI (bel (z6 >>> (4 &&& 31)) 4)) rfl ?_
      refine lv_if_ne (tgt := 630) hx hb dL_law_623 (by decide) (fun hc_3 => ?_) (fun hc_3 => ?_)
      · skip
        refine lv_iconst (v := 0) hx hb dL_law_630 (by decide) ?_
        refine lv_aload_n hx hb dL_law_631 rfl (lv_at hl 8 rfl) ?_
        refine lv_iload hx hb dL_law_632 (lv_at hl 3 rfl) ?_
        refine m_zald hx hb hE hP 400 rfl ((w2_hi hJ (by decide)).trans hc400) (nI_in (by omega) (by omega)) dL_law_634 ?_
        refine f_topi (v := bz 0) ((congrArg (fun z => bz (upd lk j 0 z)) (nI_clamp (by omega))).trans (congrArg bz (upd_s _ _ _))) ?_
        refine g_aft_i (g_runV (As := [.int (nI j), .int 0, .int (bz 0)]) (rest := []) hx hb hml hown hts (kX7_fault_0 l G al k h c g t j 0 hX hj) (fcwV 3 hts q611 q612 q613 q148 q439 rfl rfl (by decide +kernel) ⟨(Nat.le_of_ble_eq_true rfl), (Nat.le_of_ble_eq_true rfl)⟩) hE hb0 hP hS (m_recvA hE hP 0 rfl (gX_0 hX) rfl) rfl hl.1 rfl (Nat.le_of_ble_eq_true rfl) dL_law_635 ⟨Nat.le_trans (show ce + 0 ≤ 2000 by omega) hR1, Nat.le_trans (show sl + 0 ≤ 20000 by omega) hR2⟩) hS (fun u H locs hP hS => ?_)
        have hP : mP G al (w2 G al k c (s2 (s2 g (3 + j) 6 0) (3 + j) 8 0) t) H := hP
        refine f_topi (v := bz (g (3 + j) 6)) rfl ?_
        refine lv_iload hx hb dL_law_638 (lv_at hl 0 rfl) ?_
        refine lv_icmp_eq (tgt := 883) hx hb dL_law_640 (by decide) (fun _ => ?_) (fun h => absurd hst h)
        refine W.widen (k := ce + 21) (n := sl + 148) (by omega) (by omega) ?_
        exact kk _ _ _ _ _ _ _ _ _ _ _ ⟨hX, hhf, hsf, ⟨N, jrow_I (jrow_I hI (by omega) (Or.inl ⟨by decide, by decide⟩)) (by omega) (Or.inl ⟨by decide, by decide⟩), by omega⟩, by omega, hc400, fun i9 h9 => lk_8 (u := 0) (w := 0) (hlk i9 h9)⟩ hf hP hS (lv_sub hl [6, 7, 8, 9, 10, 11] rfl)
      · skip
        refine lv_iconst (v := 1) hx hb dL_law_626 (by decide) ?_
        refine lv_goto (tgt := 631) hx hb dL_law_627 (by decide) ?_
        refine lv_aload_n hx hb dL_law_631 rfl (lv_at hl 8 rfl) ?_
        refine lv_iload hx hb dL_law_632 (lv_at hl 3 rfl) ?_
        refine m_zald hx hb hE hP 400 rfl ((w2_hi hJ (by decide)).trans hc400) (nI_in (by omega) (by omega)) dL_law_634 ?_
        refine f_topi (v := bz 0) ((congrArg (fun z => bz (upd lk j 0 z)) (nI_clamp (by omega))).trans (congrArg bz (upd_s _ _ _))) ?_
        refine g_aft_i (g_runV (As := [.int (nI j), .int 1, .int (bz 0)]) (rest := []) hx hb hml hown hts (kX7_fault_1 l G al k h c g t j 0 hX hj) (fcwV 3 hts q611 q612 q613 q148 q439 rfl rfl (by decide +kernel) ⟨(Nat.le_of_ble_eq_true rfl), (Nat.le_of_ble_eq_true rfl)⟩) hE hb0 hP hS (m_recvA hE hP 0 rfl (gX_0 hX) rfl) rfl hl.1 rfl (Nat.le_of_ble_eq_true rfl) dL_law_635 ⟨Nat.le_trans (show ce + 0 ≤ 2000 by omega) hR1, Nat.le_trans (show sl + 0 ≤ 20000 by omega) hR2⟩) hS (fun u H locs hP hS => ?_)
        have hP : mP G al (w2 G al k c (s2 (s2 g (3 + j) 6 1) (3 + j) 8 0) t) H := hP
        refine f_topi (v := bz (g (3 + j) 6)) rfl ?_
        refine lv_iload hx hb dL_law_638 (lv_at hl 0 rfl) ?_
        refine lv_icmp_eq (tgt := 883) hx hb dL_law_640 (by decide) (fun _ => ?_) (fun h => absurd hst h)
        refine W.widen (k := ce + 21) (n := sl + 148) (by omega) (by omega) ?_
        exact kk _ _ _ _ _ _ _ _ _ _ _ ⟨hX, hhf, hsf, ⟨N, jrow_I (jrow_I hI (by omega) (Or.inl ⟨by decide, by decide⟩)) (by omega) (Or.inl ⟨by decide, by decide⟩), by omega⟩, by omega, hc400, fun i9 h9 => lk_8 (u := 0) (w := 0) (hlk i9 h9)⟩ hf hP hS (lv_sub hl [6, 7, 8, 9, 10, 11] rfl)
    · skip
      have hst := bz_i2 hc_2
      refine lv_iconst (v := 1) hx hb dL_law_605 (by decide) ?_
      refine lv_goto (tgt := 610) hx hb dL_law_606 (by decide) ?_
      refine lv_istore (lv' := [(11, .int 1), (10, .int sw), (9, .int (nI q)), (8, .int (nI j)), (7, .int z7), (6, .int z6), (5, .int (nI r)), (4, .int f), (3, .ref (al 400)), (2, .int (nI k.1)), (1, .ref (al 0)), (0, .ref (gSb G))]) hx hb dL_law_610 hl (by decide) rfl (fun ls hl => ?_)
      refine lv_aload_n hx hb dL_law_612 rfl (lv_at hl 10 rfl) ?_
      refine lv_iload hx hb dL_law_613 (lv_at hl 3 rfl) ?_
      refine lv_iload hx hb dL_law_615 (lv_at hl 5 rfl) ?_
      refine lv_iconst (v := 4) hx hb dL_law_617 (by decide) ?_
      refine lv_ishr hx hb dL_law_618 ?_
      refine lv_iconst (v := 4) hx hb dL_law_619 (by decide) ?_
      refine g_aft_i (g_runS (As := [.int (z6 >>> (4 &&& 31)), .int 4]) (rest := [.int (nI j), .ref (al 0)]) hx hb hml hown hts (kL_below l G al (w2 G al k c g t) (z6 >>> (4 &&& 31)) 4 (by decide) (by decide)) (fcwS 2 hts q585 q586 q584 q555 rfl rfl (by decide +kernel) ⟨(Nat.le_of_ble_eq_true rfl), (Nat.le_of_ble_eq_true rfl)⟩) hE hb0 hP hS rfl hl.1 rfl (Nat.le_of_ble_eq_true rfl) dL_law_620 ⟨Nat.le_trans (show ce + 0 ≤ 2000 by omega) hR1, Nat.le_trans (show sl + 0 ≤ 20000 by omega) hR2⟩) hS (fun u H locs hP hS => ?_)
      refine f_topi (v := nI (bel (z6 >>> (4 &&& 31)) 4)) rfl ?_
      refine lv_if_ne (tgt := 630) hx hb dL_law_623 (by decide) (fun hc_4 => ?_) (fun hc_4 => ?_)
      · skip
        refine lv_iconst (v := 0) hx hb dL_law_630 (by decide) ?_
        refine lv_aload_n hx hb dL_law_631 rfl (lv_at hl 8 rfl) ?_
        refine lv_iload hx hb dL_law_632 (lv_at hl 3 rfl) ?_
        refine m_zald hx hb hE hP 400 rfl ((w2_hi hJ (by decide)).trans hc400) (nI_in (by omega) (by omega)) dL_law_634 ?_
        refine f_topi (v := bz 0) ((congrArg (fun z => bz (upd lk j 0 z)) (nI_clamp (by omega))).trans (congrArg bz (upd_s _ _ _))) ?_
        refine g_aft_i (g_runV (As := [.int (nI j), .int 0, .int (bz 0)]) (rest := []) hx hb hml hown hts (kX7_fault_0 l G al k h c g t j 0 hX hj) (fcwV 3 hts q611 q612 q613 q148 q439 rfl rfl (by decide +kernel) ⟨(Nat.le_of_ble_eq_true rfl), (Nat.le_of_ble_eq_true rfl)⟩) hE hb0 hP hS (m_recvA hE hP 0 rfl (gX_0 hX) rfl) rfl hl.1 rfl (Nat.le_of_ble_eq_true rfl) dL_law_635 ⟨Nat.le_trans (show ce + 0 ≤ 2000 by omega) hR1, Nat.le_trans (show sl + 0 ≤ 20000 by omega) hR2⟩) hS (fun u H locs hP hS => ?_)
        have hP : mP G al (w2 G al k c (s2 (s2 g (3 + j) 6 0) (3 + j) 8 0) t) H := hP
        refine f_topi (v := bz (g (3 + j) 6)) rfl ?_
        refine lv_iload hx hb dL_law_638 (lv_at hl 0 rfl) ?_
        refine lv_icmp_eq (tgt := 883) hx hb dL_law_640 (by decide) (fun _ => ?_) (fun h => absurd ((bz_b _).resolve_left hst) h)
        refine W.widen (k := ce + 21) (n := sl + 148) (by omega) (by omega) ?_
        exact kk _ _ _ _ _ _ _ _ _ _ _ ⟨hX, hhf, hsf, ⟨N, jrow_I (jrow_I hI (by omega) (Or.inl ⟨by decide, by decide⟩)) (by omega) (Or.inl ⟨by decide, by decide⟩), by omega⟩, by omega, hc400, fun i9 h9 => lk_8 (u := 0) (w := 0) (hlk i9 h9)⟩ hf hP hS (lv_sub hl [6, 7, 8, 9, 10, 11] rfl)
      · skip
        refine lv_iconst (v := 1) hx hb dL_law_626 (by decide) ?_
        refine lv_goto (tgt := 631) hx hb dL_law_627 (by decide) ?_
        refine lv_aload_n hx hb dL_law_631 rfl (lv_at hl 8 rfl) ?_
        refine lv_iload hx hb dL_law_632 (lv_at hl 3 rfl) ?_
        refine m_zald hx hb hE hP 400 rfl ((w2_hi hJ (by decide)).trans hc400) (nI_in (by omega) (by omega)) dL_law_634 ?_
        refine f_topi (v := bz 0) ((congrArg (fun z => bz (upd lk j 0 z)) (nI_clamp (by omega))).trans (congrArg bz (upd_s _ _ _))) ?_
        refine g_aft_i (g_runV (As := [.int (nI j), .int 1, .int (bz 0)]) (rest := []) hx hb hml hown hts (kX7_fault_1 l G al k h c g t j 0 hX hj) (fcwV 3 hts q611 q612 q613 q148 q439 rfl rfl (by decide +kernel) ⟨(Nat.le_of_ble_eq_true rfl), (Nat.le_of_ble_eq_true rfl)⟩) hE hb0 hP hS (m_recvA hE hP 0 rfl (gX_0 hX) rfl) rfl hl.1 rfl (Nat.le_of_ble_eq_true rfl) dL_law_635 ⟨Nat.le_trans (show ce + 0 ≤ 2000 by omega) hR1, Nat.le_trans (show sl + 0 ≤ 20000 by omega) hR2⟩) hS (fun u H locs hP hS => ?_)
        have hP : mP G al (w2 G al k c (s2 (s2 g (3 + j) 6 1) (3 + j) 8 0) t) H := hP
        refine f_topi (v := bz (g (3 + j) 6)) rfl ?_
        refine lv_iload hx hb dL_law_638 (lv_at hl 0 rfl) ?_
        refine lv_icmp_eq (tgt := 883) hx hb dL_law_640 (by decide) (fun _ => ?_) (fun h => absurd ((bz_b _).resolve_left hst) h)
        refine W.widen (k := ce + 21) (n := sl + 148) (by omega) (by omega) ?_
        exact kk _ _ _ _ _ _ _ _ _ _ _ ⟨hX, hhf, hsf, ⟨N, jrow_I (jrow_I hI (by omega) (Or.inl ⟨by decide, by decide⟩)) (by omega) (Or.inl ⟨by decide, by decide⟩), by omega⟩, by omega, hc400, fun i9 h9 => lk_8 (u := 0) (w := 0) (hlk i9 h9)⟩ hf hP hS (lv_sub hl [6, 7, 8, 9, 10, 11] rfl)
  · skip
    refine lv_iconst (v := 1) hx hb dL_law_587 (by decide) ?_
    refine lv_goto (tgt := 592) hx hb dL_law_588 (by decide) ?_
    refine mX_zast 400 (by decide) (by decide) hX hx hb hE hP hS rfl hc400 (nI_in (by omega) (by omega)) (x' := j) (nI_clamp (by omega)) dL_law_592 (fun c H locs hc400 hc9 hX hP hS => ?_)
    have hc400 : c 400 = some (.inl (gZ G, 10, .inl (fun z => bz (upd lk j 1 z)))) := hc400.trans (congrArg (fun z : Nat → Int32 => some ((.inl (gZ G, 10, .inl z)) : va_E)) (lk_upd (by first | exact Or.inl rfl | exact Or.inr rfl)))
    have hP : mP G al (w2 G al k c g t) H := hP
    refine lv_aload_n hx hb dL_law_593 rfl (lv_at hl 9 rfl) ?_
    refine lv_iload hx hb dL_law_594 (lv_at hl 2 rfl) ?_
    refine lv_bipush (v := 6) hx hb dL_law_596 (by decide) ?_
    refine g_aft_i (g_runV (As := [.int (nI j), .int 6]) (rest := []) hx hb hml hown hts (kX7_ofJet_6 l G al k h c g t j hX hj) (fcwV 2 hts q560 q534 q535 q148 q477 rfl rfl (by decide +kernel) ⟨(Nat.le_of_ble_eq_true rfl), (Nat.le_of_ble_eq_true rfl)⟩) hE hb0 hP hS (m_recvA hE hP 0 rfl (gX_0 hX) rfl) rfl hl.1 rfl (Nat.le_of_ble_eq_true rfl) dL_law_598 ⟨Nat.le_trans (show ce + 0 ≤ 2000 by omega) hR1, Nat.le_trans (show sl + 0 ≤ 20000 by omega) hR2⟩) hS (fun u H locs hP hS => ?_)
    have hP : mP G al (w2 G al k c g t) H := hP
    refine f_topi (v := if bz (g (3 + j) 6) = 0 then 0 else 1) rfl ?_
    refine f_topi (v := if bz (g (3 + j) 6) = 0 then 0 else 1) rfl ?_
    refine lv_iconst (v := 1) hx hb dL_law_601 (by decide) ?_
    refine lv_icmp_ne (tgt := 609) hx hb dL_law_602 (by decide) (fun hc_5 => ?_) (fun hc_5 => ?_)
    · skip
      have hst := bz_i1 hc_5
      refine lv_iconst (v := 0) hx hb dL_law_609 (by decide) ?_
      refine lv_istore (lv' := [(11, .int 0), (10, .int sw), (9, .int (nI q)), (8, .int (nI j)), (7, .int z7), (6, .int z6), (5, .int (nI r)), (4, .int f), (3, .ref (al 400)), (2, .int (nI k.1)), (1, .ref (al 0)), (0, .ref (gSb G))]) hx hb dL_law_610 hl (by decide) rfl (fun ls hl => ?_)
      refine lv_aload_n hx hb dL_law_612 rfl (lv_at hl 10 rfl) ?_
      refine lv_iload hx hb dL_law_613 (lv_at hl 3 rfl) ?_
      refine lv_iload hx hb dL_law_615 (lv_at hl 5 rfl) ?_
      refine lv_iconst (v := 4) hx hb dL_law_617 (by decide) ?_
      refine lv_ishr hx hb dL_law_618 ?_
      refine lv_iconst (v := 4) hx hb dL_law_619 (by decide) ?_
      refine g_aft_i (g_runS (As := [.int (z6 >>> (4 &&& 31)), .int 4]) (rest := [.int (nI j), .ref (al 0)]) hx hb hml hown hts (kL_below l G al (w2 G al k c g t) (z6 >>> (4 &&& 31)) 4 (by decide) (by decide)) (fcwS 2 hts q585 q586 q584 q555 rfl rfl (by decide +kernel) ⟨(Nat.le_of_ble_eq_true rfl), (Nat.le_of_ble_eq_true rfl)⟩) hE hb0 hP hS rfl hl.1 rfl (Nat.le_of_ble_eq_true rfl) dL_law_620 ⟨Nat.le_trans (show ce + 0 ≤ 2000 by omega) hR1, Nat.le_trans (show sl + 0 ≤ 20000 by omega) hR2⟩) hS (fun u H locs hP hS => ?_)
      refine f_topi (v := nI (bel (z6 >>> (4 &&& 31)) 4)) rfl ?_
      refine lv_if_ne (tgt := 630) hx hb dL_law_623 (by decide) (fun hc_6 => ?_) (fun hc_6 => ?_)
      · skip
        refine lv_iconst (v := 0) hx hb dL_law_630 (by decide) ?_
        refine lv_aload_n hx hb dL_law_631 rfl (lv_at hl 8 rfl) ?_
        refine lv_iload hx hb dL_law_632 (lv_at hl 3 rfl) ?_
        refine m_zald hx hb hE hP 400 rfl ((w2_hi hJ (by decide)).trans hc400) (nI_in (by omega) (by omega)) dL_law_634 ?_
        refine f_topi (v := bz 1) ((congrArg (fun z => bz (upd lk j 1 z)) (nI_clamp (by omega))).trans (congrArg bz (upd_s _ _ _))) ?_
        refine g_aft_i (g_runV (As := [.int (nI j), .int 0, .int (bz 1)]) (rest := []) hx hb hml hown hts (kX7_fault_0 l G al k h c g t j 1 hX hj) (fcwV 3 hts q611 q612 q613 q148 q439 rfl rfl (by decide +kernel) ⟨(Nat.le_of_ble_eq_true rfl), (Nat.le_of_ble_eq_true rfl)⟩) hE hb0 hP hS (m_recvA hE hP 0 rfl (gX_0 hX) rfl) rfl hl.1 rfl (Nat.le_of_ble_eq_true rfl) dL_law_635 ⟨Nat.le_trans (show ce + 0 ≤ 2000 by omega) hR1, Nat.le_trans (show sl + 0 ≤ 20000 by omega) hR2⟩) hS (fun u H locs hP hS => ?_)
        have hP : mP G al (w2 G al k c (s2 (s2 g (3 + j) 6 0) (3 + j) 8 1) t) H := hP
        refine f_topi (v := bz (g (3 + j) 6)) rfl ?_
        refine lv_iload hx hb dL_law_638 (lv_at hl 0 rfl) ?_
        refine lv_icmp_eq (tgt := 883) hx hb dL_law_640 (by decide) (fun _ => ?_) (fun h => absurd hst h)
        refine W.widen (k := ce + 21) (n := sl + 148) (by omega) (by omega) ?_
        exact kk _ _ _ _ _ _ _ _ _ _ _ ⟨hX, hhf, hsf, ⟨N, jrow_I (jrow_I hI (by omega) (Or.inl ⟨by decide, by decide⟩)) (by omega) (Or.inl ⟨by decide, by decide⟩), by omega⟩, by omega, hc400, fun i9 h9 => lk_8 (u := 0) (w := 0) (hlk i9 h9)⟩ hf hP hS (lv_sub hl [6, 7, 8, 9, 10, 11] rfl)
      · skip
        refine lv_iconst (v := 1) hx hb dL_law_626 (by decide) ?_
        refine lv_goto (tgt := 631) hx hb dL_law_627 (by decide) ?_
        refine lv_aload_n hx hb dL_law_631 rfl (lv_at hl 8 rfl) ?_
        refine lv_iload hx hb dL_law_632 (lv_at hl 3 rfl) ?_
        refine m_zald hx hb hE hP 400 rfl ((w2_hi hJ (by decide)).trans hc400) (nI_in (by omega) (by omega)) dL_law_634 ?_
        refine f_topi (v := bz 1) ((congrArg (fun z => bz (upd lk j 1 z)) (nI_clamp (by omega))).trans (congrArg bz (upd_s _ _ _))) ?_
        refine g_aft_i (g_runV (As := [.int (nI j), .int 1, .int (bz 1)]) (rest := []) hx hb hml hown hts (kX7_fault_1 l G al k h c g t j 1 hX hj) (fcwV 3 hts q611 q612 q613 q148 q439 rfl rfl (by decide +kernel) ⟨(Nat.le_of_ble_eq_true rfl), (Nat.le_of_ble_eq_true rfl)⟩) hE hb0 hP hS (m_recvA hE hP 0 rfl (gX_0 hX) rfl) rfl hl.1 rfl (Nat.le_of_ble_eq_true rfl) dL_law_635 ⟨Nat.le_trans (show ce + 0 ≤ 2000 by omega) hR1, Nat.le_trans (show sl + 0 ≤ 20000 by omega) hR2⟩) hS (fun u H locs hP hS => ?_)
        have hP : mP G al (w2 G al k c (s2 (s2 g (3 + j) 6 1) (3 + j) 8 1) t) H := hP
        refine f_topi (v := bz (g (3 + j) 6)) rfl ?_
        refine lv_iload hx hb dL_law_638 (lv_at hl 0 rfl) ?_
        refine lv_icmp_eq (tgt := 883) hx hb dL_law_640 (by decide) (fun _ => ?_) (fun h => absurd hst h)
        refine W.widen (k := ce + 21) (n := sl + 148) (by omega) (by omega) ?_
        exact kk _ _ _ _ _ _ _ _ _ _ _ ⟨hX, hhf, hsf, ⟨N, jrow_I (jrow_I hI (by omega) (Or.inl ⟨by decide, by decide⟩)) (by omega) (Or.inl ⟨by decide, by decide⟩), by omega⟩, by omega, hc400, fun i9 h9 => lk_8 (u := 0) (w := 0) (hlk i9 h9)⟩ hf hP hS (lv_sub hl [6, 7, 8, 9, 10, 11] rfl)
    · skip
      have hst := bz_i2 hc_5
      refine lv_iconst (v := 1) hx hb dL_law_605 (by decide) ?_
      refine lv_goto (tgt := 610) hx hb dL_law_606 (by decide) ?_
      refine lv_istore (lv' := [(11, .int 1), (10, .int sw), (9, .int (nI q)), (8, .int (nI j)), (7, .int z7), (6, .int z6), (5, .int (nI r)), (4, .int f), (3, .ref (al 400)), (2, .int (nI k.1)), (1, .ref (al 0)), (0, .ref (gSb G))]) hx hb dL_law_610 hl (by decide) rfl (fun ls hl => ?_)
      refine lv_aload_n hx hb dL_law_612 rfl (lv_at hl 10 rfl) ?_
      refine lv_iload hx hb dL_law_613 (lv_at hl 3 rfl) ?_
      refine lv_iload hx hb dL_law_615 (lv_at hl 5 rfl) ?_
      refine lv_iconst (v := 4) hx hb dL_law_617 (by decide) ?_
      refine lv_ishr hx hb dL_law_618 ?_
      refine lv_iconst (v := 4) hx hb dL_law_619 (by decide) ?_
      refine g_aft_i (g_runS (As := [.int (z6 >>> (4 &&& 31)), .int 4]) (rest := [.int (nI j), .ref (al 0)]) hx hb hml hown hts (kL_below l G al (w2 G al k c g t) (z6 >>> (4 &&& 31)) 4 (by decide) (by decide)) (fcwS 2 hts q585 q586 q584 q555 rfl rfl (by decide +kernel) ⟨(Nat.le_of_ble_eq_true rfl), (Nat.le_of_ble_eq_true rfl)⟩) hE hb0 hP hS rfl hl.1 rfl (Nat.le_of_ble_eq_true rfl) dL_law_620 ⟨Nat.le_trans (show ce + 0 ≤ 2000 by omega) hR1, Nat.le_trans (show sl + 0 ≤ 20000 by omega) hR2⟩) hS (fun u H locs hP hS => ?_)
      refine f_topi (v := nI (bel (z6 >>> (4 &&& 31)) 4)) rfl ?_
      refine lv_if_ne (tgt := 630) hx hb dL_law_623 (by decide) (fun hc_7 => ?_) (fun hc_7 => ?_)
      · skip
        refine lv_iconst (v := 0) hx hb dL_law_630 (by decide) ?_
        refine lv_aload_n hx hb dL_law_631 rfl (lv_at hl 8 rfl) ?_
        refine lv_iload hx hb dL_law_632 (lv_at hl 3 rfl) ?_
        refine m_zald hx hb hE hP 400 rfl ((w2_hi hJ (by decide)).trans hc400) (nI_in (by omega) (by omega)) dL_law_634 ?_
        refine f_topi (v := bz 1) ((congrArg (fun z => bz (upd lk j 1 z)) (nI_clamp (by omega))).trans (congrArg bz (upd_s _ _ _))) ?_
        refine g_aft_i (g_runV (As := [.int (nI j), .int 0, .int (bz 1)]) (rest := []) hx hb hml hown hts (kX7_fault_0 l G al k h c g t j 1 hX hj) (fcwV 3 hts q611 q612 q613 q148 q439 rfl rfl (by decide +kernel) ⟨(Nat.le_of_ble_eq_true rfl), (Nat.le_of_ble_eq_true rfl)⟩) hE hb0 hP hS (m_recvA hE hP 0 rfl (gX_0 hX) rfl) rfl hl.1 rfl (Nat.le_of_ble_eq_true rfl) dL_law_635 ⟨Nat.le_trans (show ce + 0 ≤ 2000 by omega) hR1, Nat.le_trans (show sl + 0 ≤ 20000 by omega) hR2⟩) hS (fun u H locs hP hS => ?_)
        have hP : mP G al (w2 G al k c (s2 (s2 g (3 + j) 6 0) (3 + j) 8 1) t) H := hP
        refine f_topi (v := bz (g (3 + j) 6)) rfl ?_
        refine lv_iload hx hb dL_law_638 (lv_at hl 0 rfl) ?_
        refine lv_icmp_eq (tgt := 883) hx hb dL_law_640 (by decide) (fun _ => ?_) (fun h => absurd ((bz_b _).resolve_left hst) h)
        refine W.widen (k := ce + 21) (n := sl + 148) (by omega) (by omega) ?_
        exact kk _ _ _ _ _ _ _ _ _ _ _ ⟨hX, hhf, hsf, ⟨N, jrow_I (jrow_I hI (by omega) (Or.inl ⟨by decide, by decide⟩)) (by omega) (Or.inl ⟨by decide, by decide⟩), by omega⟩, by omega, hc400, fun i9 h9 => lk_8 (u := 0) (w := 0) (hlk i9 h9)⟩ hf hP hS (lv_sub hl [6, 7, 8, 9, 10, 11] rfl)
      · skip
        refine lv_iconst (v := 1) hx hb dL_law_626 (by decide) ?_
        refine lv_goto (tgt := 631) hx hb dL_law_627 (by decide) ?_
        refine lv_aload_n hx hb dL_law_631 rfl (lv_at hl 8 rfl) ?_
        refine lv_iload hx hb dL_law_632 (lv_at hl 3 rfl) ?_
        refine m_zald hx hb hE hP 400 rfl ((w2_hi hJ (by decide)).trans hc400) (nI_in (by omega) (by omega)) dL_law_634 ?_
        refine f_topi (v := bz 1) ((congrArg (fun z => bz (upd lk j 1 z)) (nI_clamp (by omega))).trans (congrArg bz (upd_s _ _ _))) ?_
        refine g_aft_i (g_runV (As := [.int (nI j), .int 1, .int (bz 1)]) (rest := []) hx hb hml hown hts (kX7_fault_1 l G al k h c g t j 1 hX hj) (fcwV 3 hts q611 q612 q613 q148 q439 rfl rfl (by decide +kernel) ⟨(Nat.le_of_ble_eq_true rfl), (Nat.le_of_ble_eq_true rfl)⟩) hE hb0 hP hS (m_recvA hE hP 0 rfl (gX_0 hX) rfl) rfl hl.1 rfl (Nat.le_of_ble_eq_true rfl) dL_law_635 ⟨Nat.le_trans (show ce + 0 ≤ 2000 by omega) hR1, Nat.le_trans (show sl + 0 ≤ 20000 by omega) hR2⟩) hS (fun u H locs hP hS => ?_)
        have hP : mP G al (w2 G al k c (s2 (s2 g (3 + j) 6 1) (3 + j) 8 1) t) H := hP
        refine f_topi (v := bz (g (3 + j) 6)) rfl ?_
        refine lv_iload hx hb dL_law_638 (lv_at hl 0 rfl) ?_
        refine lv_icmp_eq (tgt := 883) hx hb dL_law_640 (by decide) (fun _ => ?_) (fun h => absurd ((bz_b _).resolve_left hst) h)
        refine W.widen (k := ce + 21) (n := sl + 148) (by omega) (by omega) ?_
        exact kk _ _ _ _ _ _ _ _ _ _ _ ⟨hX, hhf, hsf, ⟨N, jrow_I (jrow_I hI (by omega) (Or.inl ⟨by decide, by decide⟩)) (by omega) (Or.inl ⟨by decide, by decide⟩), by omega⟩, by omega, hc400, fun i9 h9 => lk_8 (u := 0) (w := 0) (hlk i9 h9)⟩ hf hP hS (lv_sub hl [6, 7, 8, 9, 10, 11] rfl)
set_option maxHeartbeats 4000000 in
set_option maxRecDepth 100000 in
/-- a swimmer comes or goes -/
theorem law_645 {k : gC} {r j q : Nat} {al : Nat → Nat} {c : mC} {h : gK} {g t : St} {F : Int} {lk : Nat → Int32} {f z6 z7 sw : Int32} {H : Heap} {locs : List Loc} {ls : Array Slot} {ce sl : Nat} (C : lwC p s m cd G) (hcf : cfg k) (hR : lwR G k r al c h g F lk) (hf : f.toInt = F) (hr : r < 60) (hj : j < k.1) (hq : q < 2) (hsw : sw = bz (g 0 14)) (hP : mP G al (w2 G al k c g t) H) (hS : va_S (gA G) s.heap H locs) (hl : lv_has ls 13 [(10, .int sw), (9, .int (nI q)), (8, .int (nI j)), (7, .int z7), (6, .int z6), (5, .int (nI r)), (4, .int f), (3, .ref (al 400)), (2, .int (nI k.1)), (1, .ref (al 0)), (0, .ref (gSb G))]) (hce : ce + 21 ≤ 2000) (hsl : sl + 148 ≤ 20000) (kk : ∀ (al : Nat → Nat) (c : mC) (h : gK) (g t : St) (F : Int) (f : Int32) (lk : Nat → Int32) (H : Heap) (locs : List Loc) (ls : Array Slot), lwR G k (r + 1) al c h g F lk → f.toInt = F → mP G al (w2 G al k c g t) H → va_S (gA G) s.heap H locs → lv_has ls 13 [(5, .int (nI r)), (4, .int f), (3, .ref (al 400)), (2, .int (nI k.1)), (1, .ref (al 0)), (0, .ref (gSb G))] → W p l e room_1 s m #[Value.ref (gSb G)] below meth cd H locs (ce + 21) (sl + 148) Q (F0 m 883 ls [])) : W p l e room_1 s m #[Value.ref (gSb G)] below meth cd H locs ce sl Q (F0 m 645 ls []) := by
  obtain ⟨hx, hb, hml, hown, hts, hb0, hE, hL⟩ := C
  have hR1 : 2000 ≤ room_1.cells := (Nat.le_of_ble_eq_true rfl)
  have hR2 : 20000 ≤ room_1.slots := (Nat.le_of_ble_eq_true rfl)
  have hR0 := hR
  obtain ⟨hX, hhf, hsf, ⟨N, hI, hN⟩, hF9, hc400, hlk⟩ := hR
  have hJ := gX_J hX
  have hk2 : 2 ≤ k.1 := hcf.1
  have hrw := hI.1
  refine lv_iload hx hb dL_law_645 (lv_at hl 3 rfl) ?_
  refine lv_iconst (v := 4) hx hb dL_law_647 (by decide) ?_
  refine lv_ishr hx hb dL_law_648 ?_
  refine lv_iconst (v := 3) hx hb dL_law_649 (by decide) ?_
  refine g_aft_i (g_runS (As := [.int (z7 >>> (4 &&& 31)), .int 3]) (rest := []) hx hb hml hown hts (kL_below l G al (w2 G al k c g t) (z7 >>> (4 &&& 31)) 3 (by decide) (by decide)) (fcwS 2 hts q585 q586 q584 q555 rfl rfl (by decide +kernel) ⟨(Nat.le_of_ble_eq_true rfl), (Nat.le_of_ble_eq_true rfl)⟩) hE hb0 hP hS rfl hl.1 rfl (Nat.le_of_ble_eq_true rfl) dL_law_650 ⟨Nat.le_trans (show ce + 0 ≤ 2000 by omega) hR1, Nat.le_trans (show sl + 0 ≤ 20000 by omega) hR2⟩) hS (fun u H locs hP hS => ?_)
  refine f_topi (v := nI (bel (z7 >>> (4 &&& 31)) 3)) rfl ?_
  refine lv_if_ne (tgt := 660) hx hb dL_law_653 (by decide) (fun hc_1 => ?_) (fun hc_1 => ?_)
  · skip
    refine lv_iconst (v := 0) hx hb dL_law_660 (by decide) ?_
    refine lv_istore (lv' := [(12, .int 0), (10, .int sw), (9, .int (nI q)), (8, .int (nI j)), (7, .int z7), (6, .int z6), (5, .int (nI r)), (4, .int f), (3, .ref (al 400)), (2, .int (nI k.1)), (1, .ref (al 0)), (0, .ref (gSb G))]) hx hb dL_law_661 hl (by decide) rfl (fun ls hl => ?_)
    refine lv_aload_n hx hb dL_law_663 rfl (lv_at hl 10 rfl) ?_
    refine lv_iload hx hb dL_law_664 (lv_at hl 0 rfl) ?_
    refine g_aft_i (g_runV (As := [.int 0]) (rest := []) hx hb hml hown hts (kX7_swim_0 l G al k h c g t hX) (fcwV 1 hts q614 q615 q616 q148 q443 rfl rfl (by decide +kernel) ⟨(Nat.le_of_ble_eq_true rfl), (Nat.le_of_ble_eq_true rfl)⟩) hE hb0 hP hS (m_recvA hE hP 0 rfl (gX_0 hX) rfl) rfl hl.1 rfl (Nat.le_of_ble_eq_true rfl) dL_law_666 ⟨Nat.le_trans (show ce + 0 ≤ 2000 by omega) hR1, Nat.le_trans (show sl + 0 ≤ 20000 by omega) hR2⟩) hS (fun u H locs hP hS => ?_)
    have hP : mP G al (w2 G al k c (s2 g 0 14 0) t) H := hP
    refine f_topi (v := bz (g 0 14)) rfl ?_
    refine lv_iload hx hb dL_law_669 (lv_at hl 1 rfl) ?_
    refine lv_icmp_ne (tgt := 708) hx hb dL_law_671 (by decide) (fun h => absurd hsw.symm h) (fun _ => ?_)
    refine lv_iload hx hb dL_law_674 (lv_at hl 0 rfl) ?_
    refine lv_if_eq (tgt := 883) hx hb dL_law_676 (by decide) (fun _ => ?_) (fun h => absurd (by decide) h)
    refine W.widen (k := ce + 21) (n := sl + 148) (by omega) (by omega) ?_
    exact kk _ _ _ _ _ _ _ _ _ _ _ (lwR_g hR0 (fun N9 hIn => swim_I hIn) (fun i9 _ => s2_8 g (by decide))) hf hP hS (lv_sub hl [6, 7, 8, 9, 10, 11] rfl)
  · skip
    have hsh := shut_x (swim_I (v := 1) hI) hJ
    refine lv_iconst (v := 1) hx hb dL_law_656 (by decide) ?_
    refine lv_goto (tgt := 661) hx hb dL_law_657 (by decide) ?_
    refine lv_istore (lv' := [(12, .int 1), (10, .int sw), (9, .int (nI q)), (8, .int (nI j)), (7, .int z7), (6, .int z6), (5, .int (nI r)), (4, .int f), (3, .ref (al 400)), (2, .int (nI k.1)), (1, .ref (al 0)), (0, .ref (gSb G))]) hx hb dL_law_661 hl (by decide) rfl (fun ls hl => ?_)
    refine lv_aload_n hx hb dL_law_663 rfl (lv_at hl 10 rfl) ?_
    refine lv_iload hx hb dL_law_664 (lv_at hl 0 rfl) ?_
    refine g_aft_i (g_runV (As := [.int 1]) (rest := []) hx hb hml hown hts (kX7_swim_1 l G al k h c g t hX) (fcwV 1 hts q614 q615 q616 q148 q443 rfl rfl (by decide +kernel) ⟨(Nat.le_of_ble_eq_true rfl), (Nat.le_of_ble_eq_true rfl)⟩) hE hb0 hP hS (m_recvA hE hP 0 rfl (gX_0 hX) rfl) rfl hl.1 rfl (Nat.le_of_ble_eq_true rfl) dL_law_666 ⟨Nat.le_trans (show ce + 0 ≤ 2000 by omega) hR1, Nat.le_trans (show sl + 0 ≤ 20000 by omega) hR2⟩) hS (fun u H locs hP hS => ?_)
    have hP : mP G al (w2 G al k c (mShut k (s2 g 0 14 1)) t) H := hP
    refine f_topi (v := bz (g 0 14)) rfl ?_
    refine lv_iload hx hb dL_law_669 (lv_at hl 1 rfl) ?_
    refine lv_icmp_ne (tgt := 708) hx hb dL_law_671 (by decide) (fun h => absurd hsw.symm h) (fun _ => ?_)
    refine lv_iload hx hb dL_law_674 (lv_at hl 0 rfl) ?_
    refine lv_if_eq (tgt := 883) hx hb dL_law_676 (by decide) (fun h => absurd h (by decide)) (fun _ => ?_)
    refine lv_aload_n hx hb dL_law_679 rfl (lv_at hl 10 rfl) ?_
    refine lv_bipush (v := 14) hx hb dL_law_680 (by decide) ?_
    refine g_aft_i (g_runV (As := [.int 14]) (rest := []) hx hb hml hown hts (kX7_many_14 l G al k h c (mShut k (s2 g 0 14 1)) t hX) (fcwV 1 hts q562 q528 q529 q148 q499 rfl rfl (by decide +kernel) ⟨(Nat.le_of_ble_eq_true rfl), (Nat.le_of_ble_eq_true rfl)⟩) hE hb0 hP hS (m_recvA hE hP 0 rfl (gX_0 hX) rfl) rfl hl.1 rfl (Nat.le_of_ble_eq_true rfl) dL_law_682 ⟨Nat.le_trans (show ce + 0 ≤ 2000 by omega) hR1, Nat.le_trans (show sl + 0 ≤ 20000 by omega) hR2⟩) hS (fun u H locs hP hS => ?_)
    have hP : mP G al (w2 G al k c (mShut k (s2 g 0 14 1)) t) H := hP
    refine f_topi (v := 0) (lamps_0 (fun j9 h9 => (hsh.2.1 j9 h9).2.1)) ?_
    refine f_topi (v := 0) rfl ?_
    refine lv_if_ne (tgt := 708) hx hb dL_law_685 (by decide) (fun h => absurd (by decide) h) (fun _ => ?_)
    refine lv_aload_n hx hb dL_law_688 rfl (lv_at hl 10 rfl) ?_
    refine lv_iload hx hb dL_law_689 (lv_at hl 3 rfl) ?_
    refine lv_iconst (v := 4) hx hb dL_law_691 (by decide) ?_
    refine g_aft_i (g_runV (As := [.int (nI j), .int 4]) (rest := []) hx hb hml hown hts (kX7_ofJet_4 l G al k h c (mShut k (s2 g 0 14 1)) t j hX hj) (fcwV 2 hts q560 q534 q535 q148 q477 rfl rfl (by decide +kernel) ⟨(Nat.le_of_ble_eq_true rfl), (Nat.le_of_ble_eq_true rfl)⟩) hE hb0 hP hS (m_recvA hE hP 0 rfl (gX_0 hX) rfl) rfl hl.1 rfl (Nat.le_of_ble_eq_true rfl) dL_law_692 ⟨Nat.le_trans (show ce + 0 ≤ 2000 by omega) hR1, Nat.le_trans (show sl + 0 ≤ 20000 by omega) hR2⟩) hS (fun u H locs hP hS => ?_)
    have hP : mP G al (w2 G al k c (mShut k (s2 g 0 14 1)) t) H := hP
    refine f_topi (v := 0) ((hsh.2.1 j hj).1) ?_
    refine f_topi (v := 0) rfl ?_
    refine lv_if_ne (tgt := 708) hx hb dL_law_695 (by decide) (fun h => absurd (by decide) h) (fun _ => ?_)
    refine lv_aload_n hx hb dL_law_698 rfl (lv_at hl 10 rfl) ?_
    refine lv_iload hx hb dL_law_699 (lv_at hl 2 rfl) ?_
    refine lv_iconst (v := 1) hx hb dL_law_701 (by decide) ?_
    refine g_aft_i (g_runV (As := [.int (nI q), .int 1]) (rest := []) hx hb hml hown hts (kX7_ofPump_1 l G al k h c (mShut k (s2 g 0 14 1)) t q hX hq) (fcwV 2 hts q563 q531 q532 q148 q466 rfl rfl (by decide +kernel) ⟨(Nat.le_of_ble_eq_true rfl), (Nat.le_of_ble_eq_true rfl)⟩) hE hb0 hP hS (m_recvA hE hP 0 rfl (gX_0 hX) rfl) rfl hl.1 rfl (Nat.le_of_ble_eq_true rfl) dL_law_702 ⟨Nat.le_trans (show ce + 0 ≤ 2000 by omega) hR1, Nat.le_trans (show sl + 0 ≤ 20000 by omega) hR2⟩) hS (fun u H locs hP hS => ?_)
    have hP : mP G al (w2 G al k c (mShut k (s2 g 0 14 1)) t) H := hP
    refine f_topi (v := 0) (hsh.2.2 q hq) ?_
    refine f_topi (v := 0) rfl ?_
    refine lv_if_eq (tgt := 883) hx hb dL_law_705 (by decide) (fun _ => ?_) (fun h => absurd (by decide) h)
    refine W.widen (k := ce + 21) (n := sl + 148) (by omega) (by omega) ?_
    exact kk _ _ _ _ _ _ _ _ _ _ _ (lwR_g hR0 (fun N9 hIn => (shut_x (swim_I hIn) hJ).1) (fun i9 h9 => ((hsh.2.1 i9 h9).2.2).trans (s2_8 g (by decide)))) hf hP hS (lv_sub hl [6, 7, 8, 9, 10, 11] rfl)
set_option maxHeartbeats 4000000 in
set_option maxRecDepth 100000 in
/-- water is filled in -/
theorem law_710 {k : gC} {r j q : Nat} {al : Nat → Nat} {c : mC} {h : gK} {g t : St} {F : Int} {lk : Nat → Int32} {f z6 z7 sw : Int32} {H : Heap} {locs : List Loc} {ls : Array Slot} {ce sl : Nat} (C : lwC p s m cd G) (hcf : cfg k) (hR : lwR G k r al c h g F lk) (hf : f.toInt = F) (hr : r < 60) (hj : j < k.1) (hq : q < 2) (hsw : sw = bz (g 0 14)) (hP : mP G al (w2 G al k c g t) H) (hS : va_S (gA G) s.heap H locs) (hl : lv_has ls 13 [(10, .int sw), (9, .int (nI q)), (8, .int (nI j)), (7, .int z7), (6, .int z6), (5, .int (nI r)), (4, .int f), (3, .ref (al 400)), (2, .int (nI k.1)), (1, .ref (al 0)), (0, .ref (gSb G))]) (hce : ce + 21 ≤ 2000) (hsl : sl + 148 ≤ 20000) (kk : ∀ (al : Nat → Nat) (c : mC) (h : gK) (g t : St) (F : Int) (f : Int32) (lk : Nat → Int32) (H : Heap) (locs : List Loc) (ls : Array Slot), lwR G k (r + 1) al c h g F lk → f.toInt = F → mP G al (w2 G al k c g t) H → va_S (gA G) s.heap H locs → lv_has ls 13 [(5, .int (nI r)), (4, .int f), (3, .ref (al 400)), (2, .int (nI k.1)), (1, .ref (al 0)), (0, .ref (gSb G))] → W p l e room_1 s m #[Value.ref (gSb G)] below meth cd H locs (ce + 21) (sl + 148) Q (F0 m 883 ls [])) : W p l e room_1 s m #[Value.ref (gSb G)] below meth cd H locs ce sl Q (F0 m 710 ls []) := by
  obtain ⟨hx, hb, hml, hown, hts, hb0, hE, hL⟩ := C
  have hR1 : 2000 ≤ room_1.cells := (Nat.le_of_ble_eq_true rfl)
  have hR2 : 20000 ≤ room_1.slots := (Nat.le_of_ble_eq_true rfl)
  have hR0 := hR
  obtain ⟨hX, hhf, hsf, ⟨N, hI, hN⟩, hF9, hc400, hlk⟩ := hR
  have hJ := gX_J hX
  have hk2 : 2 ≤ k.1 := hcf.1
  have hrw := hI.1
  have hb9 := bel_lt (z7 * 5 + z6) (n := 2000) (by decide)
  have hx9 : ((1 + nI (bel (z7 * 5 + z6) 2000)) : Int32).toInt = 1 + (bel (z7 * 5 + z6) 2000 : Nat) := fill_x hb9
  have hF0 : 0 ≤ F := by obtain ⟨-, i2, i3, i4, i5, i6, i7, i8, -⟩ := hI; have := SI_0 i2; omega
  refine lv_iload hx hb dL_law_710 (lv_at hl 6 rfl) ?_
  refine lv_iconst (v := 1) hx hb dL_law_712 (by decide) ?_
  refine lv_iload hx hb dL_law_713 (lv_at hl 3 rfl) ?_
  refine lv_iconst (v := 5) hx hb dL_law_715 (by decide) ?_
  refine lv_imul hx hb dL_law_716 ?_
  refine lv_iload hx hb dL_law_717 (lv_at hl 4 rfl) ?_
  refine lv_iadd hx hb dL_law_719 ?_
  refine lv_sipush (v := 2000) hx hb dL_law_720 (by decide) ?_
  refine g_aft_i (g_runS (As := [.int ((z7 * 5) + z6), .int 2000]) (rest := [.int 1, .int f]) hx hb hml hown hts (kL_below l G al (w2 G al k c g t) ((z7 * 5) + z6) 2000 (by decide) (by decide)) (fcwS 2 hts q585 q586 q584 q555 rfl rfl (by decide +kernel) ⟨(Nat.le_of_ble_eq_true rfl), (Nat.le_of_ble_eq_true rfl)⟩) hE hb0 hP hS rfl hl.1 rfl (Nat.le_of_ble_eq_true rfl) dL_law_723 ⟨Nat.le_trans (show ce + 0 ≤ 2000 by omega) hR1, Nat.le_trans (show sl + 0 ≤ 20000 by omega) hR2⟩) hS (fun u H locs hP hS => ?_)
  refine f_topi (v := nI (bel ((z7 * 5) + z6) 2000)) rfl ?_
  refine lv_iadd hx hb dL_law_726 ?_
  refine lv_iadd hx hb dL_law_727 ?_
  refine lv_istore (lv' := [(4, .int (f + (1 + (nI (bel ((z7 * 5) + z6) 2000))))), (10, .int sw), (9, .int (nI q)), (8, .int (nI j)), (7, .int z7), (6, .int z6), (5, .int (nI r)), (3, .ref (al 400)), (2, .int (nI k.1)), (1, .ref (al 0)), (0, .ref (gSb G))]) hx hb dL_law_728 hl (by decide) rfl (fun ls hl => ?_)
  refine lv_aload_n hx hb dL_law_730 rfl (lv_at hl 9 rfl) ?_
  refine lv_iconst (v := 1) hx hb dL_law_731 (by decide) ?_
  refine lv_iload hx hb dL_law_732 (lv_at hl 4 rfl) ?_
  refine lv_iconst (v := 5) hx hb dL_law_734 (by decide) ?_
  refine lv_imul hx hb dL_law_735 ?_
  refine lv_iload hx hb dL_law_736 (lv_at hl 5 rfl) ?_
  refine lv_iadd hx hb dL_law_738 ?_
  refine lv_sipush (v := 2000) hx hb dL_law_739 (by decide) ?_
  refine g_aft_i (g_runS (As := [.int ((z7 * 5) + z6), .int 2000]) (rest := [.int 1, .ref (al 0)]) hx hb hml hown hts (kL_below l G al (w2 G al k c g t) ((z7 * 5) + z6) 2000 (by decide) (by decide)) (fcwS 2 hts q585 q586 q584 q555 rfl rfl (by decide +kernel) ⟨(Nat.le_of_ble_eq_true rfl), (Nat.le_of_ble_eq_true rfl)⟩) hE hb0 hP hS rfl hl.1 rfl (Nat.le_of_ble_eq_true rfl) dL_law_742 ⟨Nat.le_trans (show ce + 0 ≤ 2000 by omega) hR1, Nat.le_trans (show sl + 0 ≤ 20000 by omega) hR2⟩) hS (fun u H locs hP hS => ?_)
  refine f_topi (v := nI (bel ((z7 * 5) + z6) 2000)) rfl ?_
  refine lv_iadd hx hb dL_law_745 ?_
  refine g_aft_i (g_runV (As := [.int (1 + (nI (bel ((z7 * 5) + z6) 2000)))]) (rest := []) hx hb hml hown hts (kX7_fill l G al k h c g t (1 + (nI (bel ((z7 * 5) + z6) 2000))) hX (fun z => by have z9 := i_lt.mp z; rw [hx9, c_1] at z9; omega) (i_le.mpr (by rw [hx9, show (5000 : Int32).toInt = 5000 from by decide]; omega))) (fcwV 1 hts q617 q618 q619 q148 q444 rfl rfl (by decide +kernel) ⟨(Nat.le_of_ble_eq_true rfl), (Nat.le_of_ble_eq_true rfl)⟩) hE hb0 hP hS (m_recvA hE hP 0 rfl (gX_0 hX) rfl) rfl hl.1 rfl (Nat.le_of_ble_eq_true rfl) dL_law_746 ⟨Nat.le_trans (show ce + 0 ≤ 2000 by omega) hR1, Nat.le_trans (show sl + 0 ≤ 20000 by omega) hR2⟩) hS (fun u H locs hP hS => ?_)
  have hP : mP G al (w2 G al k c (mPour g (1 + (nI (bel ((z7 * 5) + z6) 2000)))) t) H := hP
  refine f_topi (v := mPour g (1 + (nI (bel ((z7 * 5) + z6) 2000))) 0 5) rfl ?_
  refine lv_aload_n hx hb dL_law_749 rfl (lv_at hl 9 rfl) ?_
  refine lv_iconst (v := 5) hx hb dL_law_750 (by decide) ?_
  refine g_aft_i (g_runV (As := [.int 5]) (rest := [.int (mPour g (1 + (nI (bel ((z7 * 5) + z6) 2000))) 0 5)]) hx hb hml hown hts (kX7_many_5 l G al k h c (mPour g (1 + (nI (bel ((z7 * 5) + z6) 2000)))) t hX) (fcwV 1 hts q562 q528 q529 q148 q499 rfl rfl (by decide +kernel) ⟨(Nat.le_of_ble_eq_true rfl), (Nat.le_of_ble_eq_true rfl)⟩) hE hb0 hP hS (m_recvA hE hP 0 rfl (gX_0 hX) rfl) rfl hl.1 rfl (Nat.le_of_ble_eq_true rfl) dL_law_751 ⟨Nat.le_trans (show ce + 0 ≤ 2000 by omega) hR1, Nat.le_trans (show sl + 0 ≤ 20000 by omega) hR2⟩) hS (fun u H locs hP hS => ?_)
  have hP : mP G al (w2 G al k c (mPour g (1 + (nI (bel ((z7 * 5) + z6) 2000)))) t) H := hP
  refine f_topi (v := mPour g (1 + nI (bel (z7 * 5 + z6) 2000)) 0 5) rfl ?_
  refine f_topi (v := mPour g (1 + nI (bel (z7 * 5 + z6) 2000)) 0 5) rfl ?_
  refine lv_icmp_eq (tgt := 883) hx hb dL_law_754 (by decide) (fun _ => ?_) (fun h => absurd rfl h)
  refine W.widen (k := ce + 21) (n := sl + 148) (by omega) (by omega) ?_
  exact kk _ _ _ _ _ _ _ _ _ _ _ ⟨hX, hhf, hsf, ⟨N, fill_I hI (x := (1 + nI (bel (z7 * 5 + z6) 2000))) (by rw [hx9]; omega) (by rw [hx9]; omega) (by rw [hx9]; omega), by omega⟩, by rw [hx9]; omega, hc400, fun i9 h9 => by rw [pour_o g _ (by omega)]; exact hlk i9 h9⟩ (by rw [i_add (by rw [hf, hx9]; omega) (by rw [hf, hx9]; omega), hf]) hP hS (lv_sub hl [6, 0, 7, 8, 9, 10] rfl)
set_option maxHeartbeats 4000000 in
set_option maxRecDepth 100000 in
/-- a figure is called -/
theorem law_759 {k : gC} {r j q : Nat} {al : Nat → Nat} {c : mC} {h : gK} {g t : St} {F : Int} {lk : Nat → Int32} {f z6 z7 sw : Int32} {H : Heap} {locs : List Loc} {ls : Array Slot} {ce sl : Nat} (C : lwC p s m cd G) (hcf : cfg k) (hR : lwR G k r al c h g F lk) (hf : f.toInt = F) (hr : r < 60) (hj : j < k.1) (hq : q < 2) (hsw : sw = bz (g 0 14)) (hP : mP G al (w2 G al k c g t) H) (hS : va_S (gA G) s.heap H locs) (hl : lv_has ls 13 [(10, .int sw), (9, .int (nI q)), (8, .int (nI j)), (7, .int z7), (6, .int z6), (5, .int (nI r)), (4, .int f), (3, .ref (al 400)), (2, .int (nI k.1)), (1, .ref (al 0)), (0, .ref (gSb G))]) (hce : ce + 21 ≤ 2000) (hsl : sl + 148 ≤ 20000) (kk : ∀ (al : Nat → Nat) (c : mC) (h : gK) (g t : St) (F : Int) (f : Int32) (lk : Nat → Int32) (H : Heap) (locs : List Loc) (ls : Array Slot), lwR G k (r + 1) al c h g F lk → f.toInt = F → mP G al (w2 G al k c g t) H → va_S (gA G) s.heap H locs → lv_has ls 13 [(5, .int (nI r)), (4, .int f), (3, .ref (al 400)), (2, .int (nI k.1)), (1, .ref (al 0)), (0, .ref (gSb G))] → W p l e room_1 s m #[Value.ref (gSb G)] below meth cd H locs (ce + 21) (sl + 148) Q (F0 m 883 ls [])) : W p l e room_1 s m #[Value.ref (gSb G)] below meth cd H locs ce sl Q (F0 m 759 ls []) := by
  obtain ⟨hx, hb, hml, hown, hts, hb0, hE, hL⟩ := C
  have hR1 : 2000 ≤ room_1.cells := (Nat.le_of_ble_eq_true rfl)
  have hR2 : 20000 ≤ room_1.slots := (Nat.le_of_ble_eq_true rfl)
  have hR0 := hR
  obtain ⟨hX, hhf, hsf, ⟨N, hI, hN⟩, hF9, hc400, hlk⟩ := hR
  have hJ := gX_J hX
  have hk2 : 2 ≤ k.1 := hcf.1
  have hrw := hI.1
  have hb9 := bel_lt (z6 >>> (4 &&& 31)) (n := 10) (by decide)
  have hN20 : h.1 ≤ 20 := (gX_3 hX).2.1
  refine lv_aload_n hx hb dL_law_759 rfl (lv_at hl 9 rfl) ?_
  refine lv_iconst (v := 4) hx hb dL_law_760 (by decide) ?_
  refine g_aft_i (g_runV (As := [.int 4]) (rest := []) hx hb hml hown hts (kX7_many_4 l G al k h c g t hX) (fcwV 1 hts q562 q528 q529 q148 q499 rfl rfl (by decide +kernel) ⟨(Nat.le_of_ble_eq_true rfl), (Nat.le_of_ble_eq_true rfl)⟩) hE hb0 hP hS (m_recvA hE hP 0 rfl (gX_0 hX) rfl) rfl hl.1 rfl (Nat.le_of_ble_eq_true rfl) dL_law_761 ⟨Nat.le_trans (show ce + 0 ≤ 2000 by omega) hR1, Nat.le_trans (show sl + 0 ≤ 20000 by omega) hR2⟩) hS (fun u H locs hP hS => ?_)
  have hP : mP G al (w2 G al k c g t) H := hP
  refine f_topi (v := nI h.1) rfl ?_
  refine f_topi (v := nI h.1) rfl ?_
  refine lv_bipush (v := 20) hx hb dL_law_764 (by decide) ?_
  refine lv_icmp_ge (tgt := 883) hx hb dL_law_766 (by decide) (fun hc_1 => ?_) (fun hc_1 => ?_)
  · skip
    refine W.widen (k := ce + 21) (n := sl + 148) (by omega) (by omega) ?_
    exact kk _ _ _ _ _ _ _ _ _ _ _ (lwR_k hR0) hf hP hS (lv_sub hl [5, 6, 7, 8, 9, 10] rfl)
  · skip
    have hh20 : h.1 < 20 := Nat.lt_of_not_le (fun z => hc_1 (nI_le (a := 20) z (by omega)))
    refine lv_aload_n hx hb dL_law_769 rfl (lv_at hl 9 rfl) ?_
    refine lv_iload hx hb dL_law_770 (lv_at hl 1 rfl) ?_
    refine lv_iload hx hb dL_law_772 (lv_at hl 4 rfl) ?_
    refine lv_iconst (v := 4) hx hb dL_law_774 (by decide) ?_
    refine lv_ishr hx hb dL_law_775 ?_
    refine lv_bipush (v := 10) hx hb dL_law_776 (by decide) ?_
    refine g_aft_i (g_runS (As := [.int (z6 >>> (4 &&& 31)), .int 10]) (rest := [.int (nI q), .ref (al 0)]) hx hb hml hown hts (kL_below l G al (w2 G al k c g t) (z6 >>> (4 &&& 31)) 10 (by decide) (by decide)) (fcwS 2 hts q585 q586 q584 q555 rfl rfl (by decide +kernel) ⟨(Nat.le_of_ble_eq_true rfl), (Nat.le_of_ble_eq_true rfl)⟩) hE hb0 hP hS rfl hl.1 rfl (Nat.le_of_ble_eq_true rfl) dL_law_778 ⟨Nat.le_trans (show ce + 0 ≤ 2000 by omega) hR1, Nat.le_trans (show sl + 0 ≤ 20000 by omega) hR2⟩) hS (fun u H locs hP hS => ?_)
    refine f_topi (v := nI (bel (z6 >>> (4 &&& 31)) 10)) rfl ?_
    refine g_aft_ip (g_runV (As := [.int (nI q), .int (nI (bel (z6 >>> (4 &&& 31)) 10))]) (rest := []) hx hb hml hown hts (kX7_call l G al k h c g t q (bel (z6 >>> (4 &&& 31)) 10) hX hq hb9 hh20) (fcwV 2 hts q620 q621 q622 q148 q455 rfl rfl (by decide +kernel) ⟨(Nat.le_of_ble_eq_true rfl), (Nat.le_of_ble_eq_true rfl)⟩) hE hb0 hP hS (m_recvA hE hP 0 rfl (gX_0 hX) rfl) rfl hl.1 rfl (Nat.le_of_ble_eq_true rfl) dL_law_781 ⟨Nat.le_trans (show ce + 7 ≤ 2000 by omega) hR1, Nat.le_trans (show sl + 116 ≤ 20000 by omega) hR2⟩) hS (fun u_2 H locs hu_2 hP hS => ?_)
    obtain ⟨al, c⟩ := u_2
    obtain ⟨hX, hc9, ha9⟩ := hu_2
    try dsimp only at hX hc9 ha9
    have hP : mP G al (w2 G al k c g t) H := hP
    have hc400 := (hc9 400 (by decide)).trans hc400
    have hl : lv_has ls 13 [(10, .int sw), (9, .int (nI q)), (8, .int (nI j)), (7, .int z7), (6, .int z6), (5, .int (nI r)), (4, .int f), (3, .ref (al 400)), (2, .int (nI k.1)), (1, .ref (al 0)), (0, .ref (gSb G))] := by rw [ha9 0 (Or.inl (by decide)), ha9 400 (Or.inr (by decide))]; exact hl
    have hP : mP G al (w2 G al k c g t) H := hP
    refine f_topi (v := nI h.1) rfl ?_
    refine lv_aload_n hx hb dL_law_784 rfl (lv_at hl 9 rfl) ?_
    refine lv_iconst (v := 4) hx hb dL_law_785 (by decide) ?_
    refine g_aft_i (g_runV (As := [.int 4]) (rest := [.int (nI h.1)]) hx hb hml hown hts (kX7_many_4 l G al k (mCall h q (bel (z6 >>> (4 &&& 31)) 10) (g 0 4)) c g t hX) (fcwV 1 hts q562 q528 q529 q148 q499 rfl rfl (by decide +kernel) ⟨(Nat.le_of_ble_eq_true rfl), (Nat.le_of_ble_eq_true rfl)⟩) hE hb0 hP hS (m_recvA hE hP 0 rfl (gX_0 hX) rfl) rfl hl.1 rfl (Nat.le_of_ble_eq_true rfl) dL_law_786 ⟨Nat.le_trans (show ce + 7 + 0 ≤ 2000 by omega) hR1, Nat.le_trans (show sl + 116 + 0 ≤ 20000 by omega) hR2⟩) hS (fun u H locs hP hS => ?_)
    have hP : mP G al (w2 G al k c g t) H := hP
    refine f_topi (v := nI (h.1 + 1)) rfl ?_
    refine f_topi (v := nI (h.1 + 1)) rfl ?_
    refine lv_iconst (v := 1) hx hb dL_law_789 (by decide) ?_
    refine lv_isub hx hb dL_law_790 ?_
    refine f_topi (v := nI h.1) (lj_m1 _) ?_
    refine lv_icmp_ne (tgt := 809) hx hb dL_law_791 (by decide) (fun h => absurd rfl h) (fun _ => ?_)
    refine lv_aload_n hx hb dL_law_794 rfl (lv_at hl 9 rfl) ?_
    refine lv_aload_n hx hb dL_law_795 rfl (lv_at hl 9 rfl) ?_
    refine lv_iconst (v := 4) hx hb dL_law_796 (by decide) ?_
    refine g_aft_i (g_runV (As := [.int 4]) (rest := [.ref (al 0)]) hx hb hml hown hts (kX7_many_4 l G al k (mCall h q (bel (z6 >>> (4 &&& 31)) 10) (g 0 4)) c g t hX) (fcwV 1 hts q562 q528 q529 q148 q499 rfl rfl (by decide +kernel) ⟨(Nat.le_of_ble_eq_true rfl), (Nat.le_of_ble_eq_true rfl)⟩) hE hb0 hP hS (m_recvA hE hP 0 rfl (gX_0 hX) rfl) rfl hl.1 rfl (Nat.le_of_ble_eq_true rfl) dL_law_797 ⟨Nat.le_trans (show ce + 7 + 0 ≤ 2000 by omega) hR1, Nat.le_trans (show sl + 116 + 0 ≤ 20000 by omega) hR2⟩) hS (fun u H locs hP hS => ?_)
    have hP : mP G al (w2 G al k c g t) H := hP
    refine f_topi (v := nI (h.1 + 1)) rfl ?_
    refine f_topi (v := nI (h.1 + 1)) rfl ?_
    refine lv_iconst (v := 1) hx hb dL_law_800 (by decide) ?_
    refine lv_isub hx hb dL_law_801 ?_
    refine f_topi (v := nI h.1) (lj_m1 _) ?_
    refine g_aft_i (g_runV (As := [.int (nI h.1)]) (rest := []) hx hb hml hown hts (kX7_open l G al k (mCall h q (bel (z6 >>> (4 &&& 31)) 10) (g 0 4)) c g t h.1 hX (Nat.lt_succ_self _)) (fcwV 1 hts q623 q546 q547 q148 q485 rfl rfl (by decide +kernel) ⟨(Nat.le_of_ble_eq_true rfl), (Nat.le_of_ble_eq_true rfl)⟩) hE hb0 hP hS (m_recvA hE hP 0 rfl (gX_0 hX) rfl) rfl hl.1 rfl (Nat.le_of_ble_eq_true rfl) dL_law_802 ⟨Nat.le_trans (show ce + 7 + 0 ≤ 2000 by omega) hR1, Nat.le_trans (show sl + 116 + 0 ≤ 20000 by omega) hR2⟩) hS (fun u H locs hP hS => ?_)
    have hP : mP G al (w2 G al k c g t) H := hP
    refine f_topi (v := 3) (open_c hsf hq hI) ?_
    refine f_topi (v := 3) rfl ?_
    refine lv_iconst (v := 3) hx hb dL_law_805 (by decide) ?_
    refine lv_icmp_eq (tgt := 883) hx hb dL_law_806 (by decide) (fun _ => ?_) (fun h => absurd (by decide) h)
    refine W.widen (k := ce + 21) (n := sl + 148) (by omega) (by omega) ?_
    exact kk _ _ _ _ _ _ _ _ _ _ _ ⟨hX, callsOK_c hhf hq, hsf, ⟨N, hI, by omega⟩, by omega, hc400, hlk⟩ hf hP hS (lv_sub hl [5, 6, 7, 8, 9, 10] rfl)
set_option maxHeartbeats 4000000 in
set_option maxRecDepth 100000 in
/-- the wind turns -/
theorem law_811 {k : gC} {r j q : Nat} {al : Nat → Nat} {c : mC} {h : gK} {g t : St} {F : Int} {lk : Nat → Int32} {f z6 z7 sw : Int32} {H : Heap} {locs : List Loc} {ls : Array Slot} {ce sl : Nat} (C : lwC p s m cd G) (hcf : cfg k) (hR : lwR G k r al c h g F lk) (hf : f.toInt = F) (hr : r < 60) (hj : j < k.1) (hq : q < 2) (hsw : sw = bz (g 0 14)) (hP : mP G al (w2 G al k c g t) H) (hS : va_S (gA G) s.heap H locs) (hl : lv_has ls 13 [(10, .int sw), (9, .int (nI q)), (8, .int (nI j)), (7, .int z7), (6, .int z6), (5, .int (nI r)), (4, .int f), (3, .ref (al 400)), (2, .int (nI k.1)), (1, .ref (al 0)), (0, .ref (gSb G))]) (hce : ce + 21 ≤ 2000) (hsl : sl + 148 ≤ 20000) (kk : ∀ (al : Nat → Nat) (c : mC) (h : gK) (g t : St) (F : Int) (f : Int32) (lk : Nat → Int32) (H : Heap) (locs : List Loc) (ls : Array Slot), lwR G k (r + 1) al c h g F lk → f.toInt = F → mP G al (w2 G al k c g t) H → va_S (gA G) s.heap H locs → lv_has ls 13 [(5, .int (nI r)), (4, .int f), (3, .ref (al 400)), (2, .int (nI k.1)), (1, .ref (al 0)), (0, .ref (gSb G))] → W p l e room_1 s m #[Value.ref (gSb G)] below meth cd H locs (ce + 21) (sl + 148) Q (F0 m 883 ls [])) : W p l e room_1 s m #[Value.ref (gSb G)] below meth cd H locs ce sl Q (F0 m 811 ls []) := by
  obtain ⟨hx, hb, hml, hown, hts, hb0, hE, hL⟩ := C
  have hR1 : 2000 ≤ room_1.cells := (Nat.le_of_ble_eq_true rfl)
  have hR2 : 20000 ≤ room_1.slots := (Nat.le_of_ble_eq_true rfl)
  have hR0 := hR
  obtain ⟨hX, hhf, hsf, ⟨N, hI, hN⟩, hF9, hc400, hlk⟩ := hR
  have hJ := gX_J hX
  have hk2 : 2 ≤ k.1 := hcf.1
  have hrw := hI.1
  have hb9 := bel_lt (z6 >>> (4 &&& 31)) (n := 9) (by decide)
  have hb8 := bel_lt z7 (n := 3) (by decide)
  have hx9 : ((nI (bel (z6 >>> (4 &&& 31)) 9) - 4) : Int32).toInt = (bel (z6 >>> (4 &&& 31)) 9 : Nat) - 4 := wind_x hb9
  refine lv_aload_n hx hb dL_law_811 rfl (lv_at hl 9 rfl) ?_
  refine lv_iload hx hb dL_law_812 (lv_at hl 4 rfl) ?_
  refine lv_iconst (v := 4) hx hb dL_law_814 (by decide) ?_
  refine lv_ishr hx hb dL_law_815 ?_
  refine lv_bipush (v := 9) hx hb dL_law_816 (by decide) ?_
  refine g_aft_i (g_runS (As := [.int (z6 >>> (4 &&& 31)), .int 9]) (rest := [.ref (al 0)]) hx hb hml hown hts (kL_below l G al (w2 G al k c g t) (z6 >>> (4 &&& 31)) 9 (by decide) (by decide)) (fcwS 2 hts q585 q586 q584 q555 rfl rfl (by decide +kernel) ⟨(Nat.le_of_ble_eq_true rfl), (Nat.le_of_ble_eq_true rfl)⟩) hE hb0 hP hS rfl hl.1 rfl (Nat.le_of_ble_eq_true rfl) dL_law_818 ⟨Nat.le_trans (show ce + 0 ≤ 2000 by omega) hR1, Nat.le_trans (show sl + 0 ≤ 20000 by omega) hR2⟩) hS (fun u H locs hP hS => ?_)
  refine f_topi (v := nI (bel (z6 >>> (4 &&& 31)) 9)) rfl ?_
  refine lv_iconst (v := 4) hx hb dL_law_821 (by decide) ?_
  refine lv_isub hx hb dL_law_822 ?_
  refine lv_iload hx hb dL_law_823 (lv_at hl 3 rfl) ?_
  refine lv_iconst (v := 3) hx hb dL_law_825 (by decide) ?_
  refine g_aft_i (g_runS (As := [.int z7, .int 3]) (rest := [.int ((nI (bel (z6 >>> (4 &&& 31)) 9)) - 4), .ref (al 0)]) hx hb hml hown hts (kL_below l G al (w2 G al k c g t) z7 3 (by decide) (by decide)) (fcwS 2 hts q585 q586 q584 q555 rfl rfl (by decide +kernel) ⟨(Nat.le_of_ble_eq_true rfl), (Nat.le_of_ble_eq_true rfl)⟩) hE hb0 hP hS rfl hl.1 rfl (Nat.le_of_ble_eq_true rfl) dL_law_826 ⟨Nat.le_trans (show ce + 0 ≤ 2000 by omega) hR1, Nat.le_trans (show sl + 0 ≤ 20000 by omega) hR2⟩) hS (fun u H locs hP hS => ?_)
  refine f_topi (v := nI (bel z7 3)) rfl ?_
  refine g_aft_i (g_runV (As := [.int ((nI (bel (z6 >>> (4 &&& 31)) 9)) - 4), .int (nI (bel z7 3))]) (rest := []) hx hb hml hown hts (kX7_wind l G al k h c g t ((nI (bel (z6 >>> (4 &&& 31)) 9)) - 4) (nI (bel z7 3)) hX (fun z => by have z9 := i_lt.mp z; rw [hx9, show (-4 : Int32).toInt = -4 from by decide] at z9; omega) (fun z => by have z9 := i_lt.mp z; rw [hx9, c_4] at z9; omega) (nI_pos (by omega)) (nI_le (b := 2) (by omega) (by omega))) (fcwV 2 hts q624 q625 q626 q148 q417 rfl rfl (by decide +kernel) ⟨(Nat.le_of_ble_eq_true rfl), (Nat.le_of_ble_eq_true rfl)⟩) hE hb0 hP hS (m_recvA hE hP 0 rfl (gX_0 hX) rfl) rfl hl.1 rfl (Nat.le_of_ble_eq_true rfl) dL_law_829 ⟨Nat.le_trans (show ce + 0 ≤ 2000 by omega) hR1, Nat.le_trans (show sl + 0 ≤ 20000 by omega) hR2⟩) hS (fun u H locs hP hS => ?_)
  have hP : mP G al (w2 G al k c (s2 (s2 g 0 12 ((nI (bel (z6 >>> (4 &&& 31)) 9)) - 4)) 0 13 (nI (bel z7 3))) t) H := hP
  refine f_topi (v := g 0 12) rfl ?_
  refine lv_iconst (v := 4) hx hb dL_law_832 (by decide) ?_
  refine lv_icmp_le (tgt := 883) hx hb dL_law_833 (by decide) (fun _ => ?_) (fun h => absurd (i_le.mpr (by rw [c_4]; exact hI.2.2.2.2.2.2.2.2.2.2.2.2.2.2)) h)
  refine W.widen (k := ce + 21) (n := sl + 148) (by omega) (by omega) ?_
  exact kk _ _ _ _ _ _ _ _ _ _ _ (lwR_g hR0 (fun N9 hIn => wind_I hIn (by rw [hx9]; omega)) (fun i9 _ => (s2_8 _ (by decide)).trans (s2_8 g (by decide)))) hf hP hS (lv_sub hl [5, 6, 7, 8, 9, 10] rfl)
set_option maxHeartbeats 4000000 in
set_option maxRecDepth 100000 in
/-- a setting is the least that does -/
theorem law_838 {k : gC} {r j q : Nat} {al : Nat → Nat} {c : mC} {h : gK} {g t : St} {F : Int} {lk : Nat → Int32} {f z6 z7 sw : Int32} {H : Heap} {locs : List Loc} {ls : Array Slot} {ce sl : Nat} (C : lwC p s m cd G) (hcf : cfg k) (hR : lwR G k r al c h g F lk) (hf : f.toInt = F) (hr : r < 60) (hj : j < k.1) (hq : q < 2) (hsw : sw = bz (g 0 14)) (hP : mP G al (w2 G al k c g t) H) (hS : va_S (gA G) s.heap H locs) (hl : lv_has ls 13 [(10, .int sw), (9, .int (nI q)), (8, .int (nI j)), (7, .int z7), (6, .int z6), (5, .int (nI r)), (4, .int f), (3, .ref (al 400)), (2, .int (nI k.1)), (1, .ref (al 0)), (0, .ref (gSb G))]) (hce : ce + 21 ≤ 2000) (hsl : sl + 148 ≤ 20000) (kk : ∀ (al : Nat → Nat) (c : mC) (h : gK) (g t : St) (F : Int) (f : Int32) (lk : Nat → Int32) (H : Heap) (locs : List Loc) (ls : Array Slot), lwR G k (r + 1) al c h g F lk → f.toInt = F → mP G al (w2 G al k c g t) H → va_S (gA G) s.heap H locs → lv_has ls 13 [(5, .int (nI r)), (4, .int f), (3, .ref (al 400)), (2, .int (nI k.1)), (1, .ref (al 0)), (0, .ref (gSb G))] → W p l e room_1 s m #[Value.ref (gSb G)] below meth cd H locs (ce + 21) (sl + 148) Q (F0 m 883 ls [])) : W p l e room_1 s m #[Value.ref (gSb G)] below meth cd H locs ce sl Q (F0 m 838 ls []) := by
  obtain ⟨hx, hb, hml, hown, hts, hb0, hE, hL⟩ := C
  have hR1 : 2000 ≤ room_1.cells := (Nat.le_of_ble_eq_true rfl)
  have hR2 : 20000 ≤ room_1.slots := (Nat.le_of_ble_eq_true rfl)
  have hR0 := hR
  obtain ⟨hX, hhf, hsf, ⟨N, hI, hN⟩, hF9, hc400, hlk⟩ := hR
  have hJ := gX_J hX
  have hk2 : 2 ≤ k.1 := hcf.1
  have hrw := hI.1
  have hb9 := bel_lt (z6 >>> (4 &&& 31)) (n := 60) (by decide)
  refine lv_aload_n hx hb dL_law_838 rfl (lv_at hl 9 rfl) ?_
  refine lv_iload hx hb dL_law_839 (lv_at hl 2 rfl) ?_
  refine lv_iload hx hb dL_law_841 (lv_at hl 1 rfl) ?_
  refine lv_iconst (v := 1) hx hb dL_law_843 (by decide) ?_
  refine lv_iload hx hb dL_law_844 (lv_at hl 4 rfl) ?_
  refine lv_iconst (v := 4) hx hb dL_law_846 (by decide) ?_
  refine lv_ishr hx hb dL_law_847 ?_
  refine lv_bipush (v := 60) hx hb dL_law_848 (by decide) ?_
  refine g_aft_i (g_runS (As := [.int (z6 >>> (4 &&& 31)), .int 60]) (rest := [.int 1, .int (nI q), .int (nI j), .ref (al 0)]) hx hb hml hown hts (kL_below l G al (w2 G al k c g t) (z6 >>> (4 &&& 31)) 60 (by decide) (by decide)) (fcwS 2 hts q585 q586 q584 q555 rfl rfl (by decide +kernel) ⟨(Nat.le_of_ble_eq_true rfl), (Nat.le_of_ble_eq_true rfl)⟩) hE hb0 hP hS rfl hl.1 rfl (Nat.le_of_ble_eq_true rfl) dL_law_850 ⟨Nat.le_trans (show ce + 0 ≤ 2000 by omega) hR1, Nat.le_trans (show sl + 0 ≤ 20000 by omega) hR2⟩) hS (fun u H locs hP hS => ?_)
  refine f_topi (v := nI (bel (z6 >>> (4 &&& 31)) 60)) rfl ?_
  refine lv_iadd hx hb dL_law_853 ?_
  refine f_topi (v := nI (1 + bel (z6 >>> (4 &&& 31)) 60)) (lj_1x _) ?_
  refine g_aft_i (g_runS (As := [.ref (al 0), .int (nI j), .int (nI q), .int (nI (1 + bel (z6 >>> (4 &&& 31)) 60))]) (rest := []) hx hb hml hown hts (kL_isLeast l G al k h c g t j q (1 + bel (z6 >>> (4 &&& 31)) 60) hX hj (by omega) (by omega) (by omega) hcf hrw) (fcwS 4 hts q627 q628 q584 q564 rfl rfl (by decide +kernel) ⟨(Nat.le_of_ble_eq_true rfl), (Nat.le_of_ble_eq_true rfl)⟩) hE hb0 hP hS rfl hl.1 rfl (Nat.le_of_ble_eq_true rfl) dL_law_854 ⟨Nat.le_trans (show ce + 0 ≤ 2000 by omega) hR1, Nat.le_trans (show sl + 0 ≤ 20000 by omega) hR2⟩) hS (fun u_1 H locs hP hS => ?_)
  have hP : mP G al (w2 G al k c g u_1) H := hP
  refine f_topi (v := 1) rfl ?_
  refine f_topi (v := 1) rfl ?_
  refine lv_if_ne (tgt := 883) hx hb dL_law_857 (by decide) (fun _ => ?_) (fun h => absurd h (by decide))
  refine W.widen (k := ce + 21) (n := sl + 148) (by omega) (by omega) ?_
  exact kk _ _ _ _ _ _ _ _ _ _ _ (lwR_k hR0) hf hP hS (lv_sub hl [5, 6, 7, 8, 9, 10] rfl)
set_option maxHeartbeats 4000000 in
set_option maxRecDepth 100000 in
/-- ticks pass -/
theorem law_862 {k : gC} {r j q : Nat} {al : Nat → Nat} {c : mC} {h : gK} {g t : St} {F : Int} {lk : Nat → Int32} {f z6 z7 sw : Int32} {H : Heap} {locs : List Loc} {ls : Array Slot} {ce sl : Nat} (C : lwC p s m cd G) (hcf : cfg k) (hR : lwR G k r al c h g F lk) (hf : f.toInt = F) (hr : r < 60) (hj : j < k.1) (hq : q < 2) (hsw : sw = bz (g 0 14)) (hP : mP G al (w2 G al k c g t) H) (hS : va_S (gA G) s.heap H locs) (hl : lv_has ls 13 [(10, .int sw), (9, .int (nI q)), (8, .int (nI j)), (7, .int z7), (6, .int z6), (5, .int (nI r)), (4, .int f), (3, .ref (al 400)), (2, .int (nI k.1)), (1, .ref (al 0)), (0, .ref (gSb G))]) (hce : ce + 21 ≤ 2000) (hsl : sl + 148 ≤ 20000) (kk : ∀ (al : Nat → Nat) (c : mC) (h : gK) (g t : St) (F : Int) (f : Int32) (lk : Nat → Int32) (H : Heap) (locs : List Loc) (ls : Array Slot), lwR G k (r + 1) al c h g F lk → f.toInt = F → mP G al (w2 G al k c g t) H → va_S (gA G) s.heap H locs → lv_has ls 13 [(5, .int (nI r)), (4, .int f), (3, .ref (al 400)), (2, .int (nI k.1)), (1, .ref (al 0)), (0, .ref (gSb G))] → W p l e room_1 s m #[Value.ref (gSb G)] below meth cd H locs (ce + 21) (sl + 148) Q (F0 m 883 ls [])) : W p l e room_1 s m #[Value.ref (gSb G)] below meth cd H locs ce sl Q (F0 m 862 ls []) := by
  obtain ⟨hx, hb, hml, hown, hts, hb0, hE, hL⟩ := C
  have hR1 : 2000 ≤ room_1.cells := (Nat.le_of_ble_eq_true rfl)
  have hR2 : 20000 ≤ room_1.slots := (Nat.le_of_ble_eq_true rfl)
  have hR0 := hR
  obtain ⟨hX, hhf, hsf, ⟨N, hI, hN⟩, hF9, hc400, hlk⟩ := hR
  have hJ := gX_J hX
  have hk2 : 2 ≤ k.1 := hcf.1
  have hrw := hI.1
  have hb9 := bel_lt (z6 >>> (4 &&& 31)) (n := 5) (by decide)
  have hti := ticks_I hcf hsf hhf hI (1 + bel (z6 >>> (4 &&& 31)) 5) (by omega)
  refine lv_aload_n hx hb dL_law_862 rfl (lv_at hl 9 rfl) ?_
  refine lv_iload_n hx hb dL_law_863 rfl (lv_at hl 8 rfl) ?_
  refine lv_aload_n hx hb dL_law_864 rfl (lv_at hl 7 rfl) ?_
  refine lv_iconst (v := 1) hx hb dL_law_865 (by decide) ?_
  refine lv_iload hx hb dL_law_866 (lv_at hl 4 rfl) ?_
  refine lv_iconst (v := 4) hx hb dL_law_868 (by decide) ?_
  refine lv_ishr hx hb dL_law_869 ?_
  refine lv_iconst (v := 5) hx hb dL_law_870 (by decide) ?_
  refine g_aft_i (g_runS (As := [.int (z6 >>> (4 &&& 31)), .int 5]) (rest := [.int 1, .ref (al 400), .int (nI k.1), .ref (al 0)]) hx hb hml hown hts (kL_below l G al (w2 G al k c g t) (z6 >>> (4 &&& 31)) 5 (by decide) (by decide)) (fcwS 2 hts q585 q586 q584 q555 rfl rfl (by decide +kernel) ⟨(Nat.le_of_ble_eq_true rfl), (Nat.le_of_ble_eq_true rfl)⟩) hE hb0 hP hS rfl hl.1 rfl (Nat.le_of_ble_eq_true rfl) dL_law_871 ⟨Nat.le_trans (show ce + 0 ≤ 2000 by omega) hR1, Nat.le_trans (show sl + 0 ≤ 20000 by omega) hR2⟩) hS (fun u H locs hP hS => ?_)
  refine f_topi (v := nI (bel (z6 >>> (4 &&& 31)) 5)) rfl ?_
  refine lv_iadd hx hb dL_law_874 ?_
  refine f_topi (v := nI (1 + bel (z6 >>> (4 &&& 31)) 5)) (lj_1x _) ?_
  refine g_aft_ip (g_runS (As := [.ref (al 0), .int (nI k.1), .ref (al 400), .int (nI (1 + bel (z6 >>> (4 &&& 31)) 5))]) (rest := []) hx hb hml hown hts (kL_isPassed l G al k h c g t (1 + bel (z6 >>> (4 &&& 31)) 5) F N lk hX (by omega) (by omega) hcf hsf hhf hI (by omega) hc400 hlk) (fcwS 4 hts q629 q630 q584 q575 rfl rfl (by decide +kernel) ⟨(Nat.le_of_ble_eq_true rfl), (Nat.le_of_ble_eq_true rfl)⟩) hE hb0 hP hS rfl hl.1 rfl (Nat.le_of_ble_eq_true rfl) dL_law_875 ⟨Nat.le_trans (show ce + 21 ≤ 2000 by omega) hR1, Nat.le_trans (show sl + 148 ≤ 20000 by omega) hR2⟩) hS (fun u_1 H locs hu_1 hP hS => ?_)
  obtain ⟨al, c⟩ := u_1
  obtain ⟨hX, hc400, ha9⟩ := hu_1
  try dsimp only at hX hc400 ha9
  have hP : mP G al (w2 G al k c (mTicks k h (1 + bel (z6 >>> (4 &&& 31)) 5) g) (mTicks k h (1 + bel (z6 >>> (4 &&& 31)) 5) g)) H := hP
  have hl : lv_has ls 13 [(10, .int sw), (9, .int (nI q)), (8, .int (nI j)), (7, .int z7), (6, .int z6), (5, .int (nI r)), (4, .int f), (3, .ref (al 400)), (2, .int (nI k.1)), (1, .ref (al 0)), (0, .ref (gSb G))] := by rw [ha9 0 (by decide), ha9 400 (by decide)]; exact hl
  have hP : mP G al (w2 G al k c (mTicks k h (1 + bel (z6 >>> (4 &&& 31)) 5) g) (mTicks k h (1 + bel (z6 >>> (4 &&& 31)) 5) g)) H := hP
  refine f_topi (v := 1) rfl ?_
  refine f_topi (v := 1) rfl ?_
  refine lv_if_ne (tgt := 883) hx hb dL_law_878 (by decide) (fun _ => ?_) (fun h => absurd h (by decide))
  refine W.widen (k := ce + 21) (n := sl + 148) (by omega) (by omega) ?_
  exact kk _ _ _ _ _ _ _ _ _ _ _ ⟨hX, hhf, hsf, ⟨N + (1 + bel (z6 >>> (4 &&& 31)) 5), hti.1, by omega⟩, by omega, hc400, fun i9 h9 => (congrArg bz (hti.2 i9 h9)).trans (hlk i9 h9)⟩ hf hP hS (lv_sub hl [5, 6, 7, 8, 9, 10] rfl)
end LAWP
