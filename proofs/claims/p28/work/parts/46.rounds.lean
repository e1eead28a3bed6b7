section LAWP
variable {p : Program} {l : Launch} {e : Env} {s : State} {m : MethodId} {below : List Frame} {meth : Method} {cd : Code} {Q : State → Prop} {G : gT}
set_option maxHeartbeats 4000000 in
set_option maxRecDepth 100000 in
/-- all the rounds -/
theorem law_247 {k : gC} {al : Nat → Nat} {c : mC} {h : gK} {g t : St} {F : Int} {lk : Nat → Int32} {f : Int32} {H : Heap} {locs : List Loc} {ls : Array Slot} {ce sl : Nat} (C : lwC p s m cd G) (hcf : cfg k) (hR : lwR G k 0 al c h g F lk) (hf : f.toInt = F) (hP : mP G al (w2 G al k c g t) H) (hS : va_S (gA G) s.heap H locs) (hl : lv_has ls 13 [(5, .int 0), (4, .int f), (3, .ref (al 400)), (2, .int (nI k.1)), (1, .ref (al 0)), (0, .ref (gSb G))]) (hce : ce ≤ 700) (hsl : sl ≤ 11000) (kk : ∀ (al : Nat → Nat) (c : mC) (h : gK) (g t : St) (F : Int) (f : Int32) (lk : Nat → Int32) (H : Heap) (locs : List Loc) (ls : Array Slot), lwR G k 60 al c h g F lk → mP G al (w2 G al k c g t) H → va_S (gA G) s.heap H locs → lv_has ls 13 [(1, .ref (al 0)), (0, .ref (gSb G))] → W p l e room_1 s m #[Value.ref (gSb G)] below meth cd H locs (ce + 21 * 60) (sl + 148 * 60) Q (F0 m 937 ls [])) : W p l e room_1 s m #[Value.ref (gSb G)] below meth cd H locs ce sl Q (F0 m 247 ls []) := by
  have C0 := C
  obtain ⟨hx, hb, hml, hown, hts, hb0, hE, hL⟩ := C
  have hR1 : 2000 ≤ room_1.cells := (Nat.le_of_ble_eq_true rfl)
  have hR2 : 20000 ≤ room_1.slots := (Nat.le_of_ble_eq_true rfl)
  refine g_loopE (U := (Nat → Nat) × mC × gK × St × St × Int × Int32 × (Nat → Int32)) (Ai := fun _ u => u.1) (N := 60) (nL := 13) (Wi := fun _ u => w2 G u.1 k u.2.1 (u.2.2.2.1) (u.2.2.2.2.1)) (Li := fun r u => [(5, .int (nI r)), (4, .int u.2.2.2.2.2.2.1), (3, .ref (u.1 400)), (2, .int (nI k.1)), (1, .ref (u.1 0)), (0, .ref (gSb G))]) (ce := fun r => ce + 21 * r) (sl := fun r => sl + 148 * r) (fun r u => lwR G k r u.1 u.2.1 u.2.2.1 (u.2.2.2.1) (u.2.2.2.2.2.1) (u.2.2.2.2.2.2.2) ∧ (u.2.2.2.2.2.2.1).toInt = u.2.2.2.2.2.1) (al, c, h, g, t, F, f, lk) ⟨hR, hf⟩ hP hS hl rfl rfl (fun r u hir hJr ihr H locs ls hP hS hl => ?_)
  obtain ⟨al, c, h, g, t, F, f, lk⟩ := u
  obtain ⟨hR, hf⟩ := hJr
  have hR : lwR G k r al c h g F lk := hR
  have hf : f.toInt = F := hf
  have hP : mP G al (w2 G al k c g t) H := hP
  have hl : lv_has ls 13 [(5, .int (nI r)), (4, .int f), (3, .ref (al 400)), (2, .int (nI k.1)), (1, .ref (al 0)), (0, .ref (gSb G))] := hl
  have hR0 := hR
  obtain ⟨hX, hhf, hsf, ⟨N, hI, hN⟩, hF9, hc400, hlk⟩ := hR
  have hJ := gX_J hX
  have hk2 : 2 ≤ k.1 := hcf.1
  refine lv_iload hx hb dL_law_247 (lv_at hl 0 rfl) ?_
  refine lv_bipush (v := 60) hx hb dL_law_249 (by decide) ?_
  refine lv_icmp_ge (tgt := 937) hx hb dL_law_251 (by decide) (fun hc_1 => ?_) (fun hc_1 => ?_)
  · skip
    have hger : 60 ≤ r := (nI_leI (a := 60) (by omega) (by omega)).mp hc_1
    obtain rfl : 60 = r := Nat.le_antisymm hger hir
    have hP : mP G al (w2 G al k c g t) H := hP
    have hl : lv_has ls 13 [(5, .int (nI 60)), (4, .int f), (3, .ref (al 400)), (2, .int (nI k.1)), (1, .ref (al 0)), (0, .ref (gSb G))] := hl
    exact kk _ _ _ _ _ _ f _ _ _ _ hR0 hP hS (lv_sub hl [4, 5] rfl)
  · skip
    have hltr : r < 60 := Nat.lt_of_not_le (fun q => hc_1 (nI_le (a := 60) q (by omega)))
    refine lv_aload_n hx hb dL_law_254 rfl (lv_at hl 5 rfl) ?_
    refine lv_iload hx hb dL_law_255 (lv_at hl 0 rfl) ?_
    refine lv_bipush (v := 16) hx hb dL_law_257 (by decide) ?_
    refine lv_irem hx hb dL_law_259 (by decide) ?_
    refine f_topi (v := nI (r % 16)) (lj_rem (b := 16) (by omega) (by decide) (by decide)) ?_
    refine g_aft_i (g_runS (As := [.ref (gSb G), .int (nI (r % 16))]) (rest := []) hx hb hml hown hts (kL_cell l G al (w2 G al k c g t) (r % 16) (by omega) hL) (fcwS 2 hts q582 q583 q584 q557 rfl rfl (by decide +kernel) ⟨(Nat.le_of_ble_eq_true rfl), (Nat.le_of_ble_eq_true rfl)⟩) hE hb0 hP hS rfl hl.1 rfl (Nat.le_of_ble_eq_true rfl) dL_law_260 ⟨Nat.le_trans (show ce + 21 * r + 0 ≤ 2000 by omega) hR1, Nat.le_trans (show sl + 148 * r + 0 ≤ 20000 by omega) hR2⟩) hS (fun u H locs hP hS => ?_)
    refine f_topi (v := sCell G (r % 16)) rfl ?_
    refine lv_bipush (v := 31) hx hb dL_law_263 (by decide) ?_
    refine lv_iload hx hb dL_law_265 (lv_at hl 0 rfl) ?_
    refine lv_imul hx hb dL_law_267 ?_
    refine lv_iadd hx hb dL_law_268 ?_
    refine lv_istore (lv' := [(6, .int ((sCell G (r % 16)) + (31 * (nI r)))), (5, .int (nI r)), (4, .int f), (3, .ref (al 400)), (2, .int (nI k.1)), (1, .ref (al 0)), (0, .ref (gSb G))]) hx hb dL_law_269 hl (by decide) rfl (fun ls hl => ?_)
    refine lv_aload_n hx hb dL_law_271 rfl (lv_at hl 6 rfl) ?_
    refine lv_bipush (v := 7) hx hb dL_law_272 (by decide) ?_
    refine lv_iload hx hb dL_law_274 (lv_at hl 1 rfl) ?_
    refine lv_imul hx hb dL_law_276 ?_
    refine f_topi (v := nI (7 * r)) (lj_mul 7 r) ?_
    refine lv_iconst (v := 3) hx hb dL_law_277 (by decide) ?_
    refine lv_iadd hx hb dL_law_278 ?_
    refine f_topi (v := nI (7 * r + 3)) (lj_p3 _) ?_
    refine lv_bipush (v := 16) hx hb dL_law_279 (by decide) ?_
    refine lv_irem hx hb dL_law_281 (by decide) ?_
    refine f_topi (v := nI ((7 * r + 3) % 16)) (lj_rem (b := 16) (by omega) (by decide) (by decide)) ?_
    refine g_aft_i (g_runS (As := [.ref (gSb G), .int (nI ((7 * r + 3) % 16))]) (rest := []) hx hb hml hown hts (kL_cell l G al (w2 G al k c g t) ((7 * r + 3) % 16) (by omega) hL) (fcwS 2 hts q582 q583 q584 q557 rfl rfl (by decide +kernel) ⟨(Nat.le_of_ble_eq_true rfl), (Nat.le_of_ble_eq_true rfl)⟩) hE hb0 hP hS rfl hl.1 rfl (Nat.le_of_ble_eq_true rfl) dL_law_282 ⟨Nat.le_trans (show ce + 21 * r + 0 ≤ 2000 by omega) hR1, Nat.le_trans (show sl + 148 * r + 0 ≤ 20000 by omega) hR2⟩) hS (fun u H locs hP hS => ?_)
    refine f_topi (v := sCell G ((7 * r + 3) % 16)) rfl ?_
    refine lv_iconst (v := 5) hx hb dL_law_285 (by decide) ?_
    refine lv_iload hx hb dL_law_286 (lv_at hl 1 rfl) ?_
    refine lv_imul hx hb dL_law_288 ?_
    refine lv_iadd hx hb dL_law_289 ?_
    refine lv_istore (lv' := [(7, .int ((sCell G ((7 * r + 3) % 16)) + (5 * (nI r)))), (6, .int ((sCell G (r % 16)) + (31 * (nI r)))), (5, .int (nI r)), (4, .int f), (3, .ref (al 400)), (2, .int (nI k.1)), (1, .ref (al 0)), (0, .ref (gSb G))]) hx hb dL_law_290 hl (by decide) rfl (fun ls hl => ?_)
    refine lv_iload hx hb dL_law_292 (lv_at hl 0 rfl) ?_
    refine lv_iload_n hx hb dL_law_294 rfl (lv_at hl 5 rfl) ?_
    refine g_aft_i (g_runS (As := [.int ((sCell G ((7 * r + 3) % 16)) + (5 * (nI r))), .int (nI k.1)]) (rest := []) hx hb hml hown hts (kL_below l G al (w2 G al k c g t) ((sCell G ((7 * r + 3) % 16)) + (5 * (nI r))) k.1 (by omega) (by omega)) (fcwS 2 hts q585 q586 q584 q555 rfl rfl (by decide +kernel) ⟨(Nat.le_of_ble_eq_true rfl), (Nat.le_of_ble_eq_true rfl)⟩) hE hb0 hP hS rfl hl.1 rfl (Nat.le_of_ble_eq_true rfl) dL_law_295 ⟨Nat.le_trans (show ce + 21 * r + 0 ≤ 2000 by omega) hR1, Nat.le_trans (show sl + 148 * r + 0 ≤ 20000 by omega) hR2⟩) hS (fun u H locs hP hS => ?_)
    refine f_topi (v := nI (bel ((sCell G ((7 * r + 3) % 16)) + (5 * (nI r))) k.1)) rfl ?_
    refine lv_istore (lv' := [(8, .int (nI (bel ((sCell G ((7 * r + 3) % 16)) + (5 * (nI r))) k.1))), (7, .int ((sCell G ((7 * r + 3) % 16)) + (5 * (nI r)))), (6, .int ((sCell G (r % 16)) + (31 * (nI r)))), (5, .int (nI r)), (4, .int f), (3, .ref (al 400)), (2, .int (nI k.1)), (1, .ref (al 0)), (0, .ref (gSb G))]) hx hb dL_law_298 hl (by decide) rfl (fun ls hl => ?_)
    refine lv_iload hx hb dL_law_300 (lv_at hl 1 rfl) ?_
    refine lv_iconst (v := 2) hx hb dL_law_302 (by decide) ?_
    refine lv_ishr hx hb dL_law_303 ?_
    refine lv_iconst (v := 2) hx hb dL_law_304 (by decide) ?_
    refine g_aft_i (g_runS (As := [.int (((sCell G ((7 * r + 3) % 16)) + (5 * (nI r))) >>> (2 &&& 31)), .int 2]) (rest := []) hx hb hml hown hts (kL_below l G al (w2 G al k c g t) (((sCell G ((7 * r + 3) % 16)) + (5 * (nI r))) >>> (2 &&& 31)) 2 (by decide) (by decide)) (fcwS 2 hts q585 q586 q584 q555 rfl rfl (by decide +kernel) ⟨(Nat.le_of_ble_eq_true rfl), (Nat.le_of_ble_eq_true rfl)⟩) hE hb0 hP hS rfl hl.1 rfl (Nat.le_of_ble_eq_true rfl) dL_law_305 ⟨Nat.le_trans (show ce + 21 * r + 0 ≤ 2000 by omega) hR1, Nat.le_trans (show sl + 148 * r + 0 ≤ 20000 by omega) hR2⟩) hS (fun u H locs hP hS => ?_)
    refine f_topi (v := nI (bel (((sCell G ((7 * r + 3) % 16)) + (5 * (nI r))) >>> (2 &&& 31)) 2)) rfl ?_
    refine lv_istore (lv' := [(9, .int (nI (bel (((sCell G ((7 * r + 3) % 16)) + (5 * (nI r))) >>> (2 &&& 31)) 2))), (8, .int (nI (bel ((sCell G ((7 * r + 3) % 16)) + (5 * (nI r))) k.1))), (7, .int ((sCell G ((7 * r + 3) % 16)) + (5 * (nI r)))), (6, .int ((sCell G (r % 16)) + (31 * (nI r)))), (5, .int (nI r)), (4, .int f), (3, .ref (al 400)), (2, .int (nI k.1)), (1, .ref (al 0)), (0, .ref (gSb G))]) hx hb dL_law_308 hl (by decide) rfl (fun ls hl => ?_)
    refine lv_aload_n hx hb dL_law_310 rfl (lv_at hl 8 rfl) ?_
    refine lv_bipush (v := 15) hx hb dL_law_311 (by decide) ?_
    refine g_aft_i (g_runV (As := [.int 15]) (rest := []) hx hb hml hown hts (kX7_many_15 l G al k h c g t hX) (fcwV 1 hts q562 q528 q529 q148 q499 rfl rfl (by decide +kernel) ⟨(Nat.le_of_ble_eq_true rfl), (Nat.le_of_ble_eq_true rfl)⟩) hE hb0 hP hS (m_recvA hE hP 0 rfl (gX_0 hX) rfl) rfl hl.1 rfl (Nat.le_of_ble_eq_true rfl) dL_law_313 ⟨Nat.le_trans (show ce + 21 * r + 0 ≤ 2000 by omega) hR1, Nat.le_trans (show sl + 148 * r + 0 ≤ 20000 by omega) hR2⟩) hS (fun u H locs hP hS => ?_)
    have hP : mP G al (w2 G al k c g t) H := hP
    refine f_topi (v := if bz (g 0 14) = 0 then 0 else 1) rfl ?_
    refine f_topi (v := if bz (g 0 14) = 0 then 0 else 1) rfl ?_
    refine lv_iconst (v := 1) hx hb dL_law_316 (by decide) ?_
    refine lv_icmp_ne (tgt := 324) hx hb dL_law_317 (by decide) (fun hc_2 => ?_) (fun hc_2 => ?_)
    · skip
      have hsw := (bz_i1 hc_2).symm
      refine lv_iconst (v := 0) hx hb dL_law_324 (by decide) ?_
      refine lv_istore (lv' := [(10, .int 0), (9, .int (nI (bel (((sCell G ((7 * r + 3) % 16)) + (5 * (nI r))) >>> (2 &&& 31)) 2))), (8, .int (nI (bel ((sCell G ((7 * r + 3) % 16)) + (5 * (nI r))) k.1))), (7, .int ((sCell G ((7 * r + 3) % 16)) + (5 * (nI r)))), (6, .int ((sCell G (r % 16)) + (31 * (nI r)))), (5, .int (nI r)), (4, .int f), (3, .ref (al 400)), (2, .int (nI k.1)), (1, .ref (al 0)), (0, .ref (gSb G))]) hx hb dL_law_325 hl (by decide) rfl (fun ls hl => ?_)
      refine lv_iload hx hb dL_law_327 (lv_at hl 4 rfl) ?_
      refine lv_bipush (v := 17) hx hb dL_law_329 (by decide) ?_
      refine g_aft_i (g_runS (As := [.int ((sCell G (r % 16)) + (31 * (nI r))), .int 17]) (rest := []) hx hb hml hown hts (kL_below l G al (w2 G al k c g t) ((sCell G (r % 16)) + (31 * (nI r))) 17 (by decide) (by decide)) (fcwS 2 hts q585 q586 q584 q555 rfl rfl (by decide +kernel) ⟨(Nat.le_of_ble_eq_true rfl), (Nat.le_of_ble_eq_true rfl)⟩) hE hb0 hP hS rfl hl.1 rfl (Nat.le_of_ble_eq_true rfl) dL_law_331 ⟨Nat.le_trans (show ce + 21 * r + 0 ≤ 2000 by omega) hR1, Nat.le_trans (show sl + 148 * r + 0 ≤ 20000 by omega) hR2⟩) hS (fun u H locs hP hS => ?_)
      refine f_topi (v := nI (bel ((sCell G (r % 16)) + (31 * (nI r))) 17)) rfl ?_
      exact law_334 (ce := ce + 21 * r) (sl := sl + 148 * r) C0 hcf hR0 hf hltr (bel_lt _ (by omega)) (bel_lt _ (by decide)) hsw hP hS (lv_sub hl [0, 1, 2, 3, 4, 5, 6, 7, 8, 9, 10] rfl) (by omega) (by omega) (fun al c h g t F f lk H locs ls hR hf hP hS hl => law_883 C0 hR hf hP hS hl (by omega) (by omega) (fun H locs ls hP hS hl => W.widen (k := ce + 21 * (r + 1)) (n := sl + 148 * (r + 1)) (by omega) (by omega) (ihr hltr (al, c, h, g, t, F, f, lk) ⟨hR, hf⟩ H locs ls hP hS hl)))
    · skip
      have hsw := sw_1 (bz_i2 hc_2)
      refine lv_iconst (v := 1) hx hb dL_law_320 (by decide) ?_
      refine lv_goto (tgt := 325) hx hb dL_law_321 (by decide) ?_
      refine lv_istore (lv' := [(10, .int 1), (9, .int (nI (bel (((sCell G ((7 * r + 3) % 16)) + (5 * (nI r))) >>> (2 &&& 31)) 2))), (8, .int (nI (bel ((sCell G ((7 * r + 3) % 16)) + (5 * (nI r))) k.1))), (7, .int ((sCell G ((7 * r + 3) % 16)) + (5 * (nI r)))), (6, .int ((sCell G (r % 16)) + (31 * (nI r)))), (5, .int (nI r)), (4, .int f), (3, .ref (al 400)), (2, .int (nI k.1)), (1, .ref (al 0)), (0, .ref (gSb G))]) hx hb dL_law_325 hl (by decide) rfl (fun ls hl => ?_)
      refine lv_iload hx hb dL_law_327 (lv_at hl 4 rfl) ?_
      refine lv_bipush (v := 17) hx hb dL_law_329 (by decide) ?_
      refine g_aft_i (g_runS (As := [.int ((sCell G (r % 16)) + (31 * (nI r))), .int 17]) (rest := []) hx hb hml hown hts (kL_below l G al (w2 G al k c g t) ((sCell G (r % 16)) + (31 * (nI r))) 17 (by decide) (by decide)) (fcwS 2 hts q585 q586 q584 q555 rfl rfl (by decide +kernel) ⟨(Nat.le_of_ble_eq_true rfl), (Nat.le_of_ble_eq_true rfl)⟩) hE hb0 hP hS rfl hl.1 rfl (Nat.le_of_ble_eq_true rfl) dL_law_331 ⟨Nat.le_trans (show ce + 21 * r + 0 ≤ 2000 by omega) hR1, Nat.le_trans (show sl + 148 * r + 0 ≤ 20000 by omega) hR2⟩) hS (fun u H locs hP hS => ?_)
      refine f_topi (v := nI (bel ((sCell G (r % 16)) + (31 * (nI r))) 17)) rfl ?_
      exact law_334 (ce := ce + 21 * r) (sl := sl + 148 * r) C0 hcf hR0 hf hltr (bel_lt _ (by omega)) (bel_lt _ (by decide)) hsw hP hS (lv_sub hl [0, 1, 2, 3, 4, 5, 6, 7, 8, 9, 10] rfl) (by omega) (by omega) (fun al c h g t F f lk H locs ls hR hf hP hS hl => law_883 C0 hR hf hP hS hl (by omega) (by omega) (fun H locs ls hP hS hl => W.widen (k := ce + 21 * (r + 1)) (n := sl + 148 * (r + 1)) (by omega) (by omega) (ihr hltr (al, c, h, g, t, F, f, lk) ⟨hR, hf⟩ H locs ls hP hS hl)))
set_option maxHeartbeats 4000000 in
set_option maxRecDepth 100000 in
/-- the end -/
theorem law_937 {k : gC} {al : Nat → Nat} {c : mC} {h : gK} {g t : St} {F : Int} {lk : Nat → Int32} {H : Heap} {locs : List Loc} {ls : Array Slot} {ce sl : Nat} (C : lwC p s m cd G) (hcf : cfg k) (hR : lwR G k 60 al c h g F lk) (hP : mP G al (w2 G al k c g t) H) (hS : va_S (gA G) s.heap H locs) (hl : lv_has ls 13 [(1, .ref (al 0)), (0, .ref (gSb G))]) (hce : ce ≤ 2000) (hsl : sl ≤ 20000) (kk : ∀ (H : Heap) (locs : List Loc) (ls : Array Slot), va_S (gA G) s.heap H locs → W p l e room_1 s m #[Value.ref (gSb G)] below meth cd H locs ce sl Q (F0 m 1008 ls [.int 1])) : W p l e room_1 s m #[Value.ref (gSb G)] below meth cd H locs ce sl Q (F0 m 937 ls []) := by
  obtain ⟨hx, hb, hml, hown, hts, hb0, hE, hL⟩ := C
  have hR1 : 2000 ≤ room_1.cells := (Nat.le_of_ble_eq_true rfl)
  have hR2 : 20000 ≤ room_1.slots := (Nat.le_of_ble_eq_true rfl)
  have hR0 := hR
  obtain ⟨hX, hhf, hsf, ⟨N, hI, hN⟩, hF9, hc400, hlk⟩ := hR
  have hJ := gX_J hX
  have hk2 : 2 ≤ k.1 := hcf.1
  refine lv_aload_n hx hb dL_law_937 rfl (lv_at hl 0 rfl) ?_
  refine g_aft_l (g_runV (As := []) (rest := []) hx hb hml hown hts (kX7_digest l G al k h c g t hX) (fcwV 0 hts q631 q632 q633 q148 q551 rfl rfl (by decide +kernel) ⟨(Nat.le_of_ble_eq_true rfl), (Nat.le_of_ble_eq_true rfl)⟩) hE hb0 hP hS (m_recvA hE hP 0 rfl (gX_0 hX) rfl) rfl hl.1 rfl (Nat.le_of_ble_eq_true rfl) dL_law_938 ⟨Nat.le_trans (show ce + 0 ≤ 2000 by omega) hR1, Nat.le_trans (show sl + 0 ≤ 20000 by omega) hR2⟩) hS (fun u_1 H locs hP hS => ?_)
  have hP : mP G al (w2 G al k c g u_1) H := hP
  refine lv_lstore (lv' := [(5, .long (mDig k h g)), (1, .ref (al 0)), (0, .ref (gSb G))]) hx hb dL_law_941 hl (by decide) rfl (fun ls hl => ?_)
  refine lv_aload_n hx hb dL_law_943 rfl (lv_at hl 1 rfl) ?_
  refine lv_iconst (v := 0) hx hb dL_law_944 (by decide) ?_
  refine lv_bipush (v := 9) hx hb dL_law_945 (by decide) ?_
  refine g_aft_i (g_runV (As := [.int 0, .int 9]) (rest := []) hx hb hml hown hts (kX7_heightIn l G al k h c g u_1 0 9 hX (by omega) (by decide) (by decide)) (fcwV 2 hts q570 q537 q538 q148 q510 rfl rfl (by decide +kernel) ⟨(Nat.le_of_ble_eq_true rfl), (Nat.le_of_ble_eq_true rfl)⟩) hE hb0 hP hS (m_recvA hE hP 0 rfl (gX_0 hX) rfl) rfl hl.1 rfl (Nat.le_of_ble_eq_true rfl) dL_law_947 ⟨Nat.le_trans (show ce + 0 ≤ 2000 by omega) hR1, Nat.le_trans (show sl + 0 ≤ 20000 by omega) hR2⟩) hS (fun u H locs hP hS => ?_)
  have hP : mP G al (w2 G al k c g (mTicks k h 9 g)) H := hP
  refine f_topi (v := mHt k (mTicks k h 9 g) 0) rfl ?_
  refine lv_bipush (v := 60) hx hb dL_law_950 (by decide) ?_
  refine lv_icmp_gt (tgt := 991) hx hb dL_law_952 (by decide) (fun h => absurd h mHt_60) (fun _ => ?_)
  refine lv_aload_n hx hb dL_law_955 rfl (lv_at hl 1 rfl) ?_
  refine lv_iconst (v := 0) hx hb dL_law_956 (by decide) ?_
  refine lv_bipush (v := 9) hx hb dL_law_957 (by decide) ?_
  refine g_aft_i (g_runV (As := [.int 0, .int 9]) (rest := []) hx hb hml hown hts (kX7_leadFor l G al k h c g (mTicks k h 9 g) 0 9 hX (by omega) (by decide) (by decide)) (fcwV 2 hts q561 q540 q541 q148 q523 rfl rfl (by decide +kernel) ⟨(Nat.le_of_ble_eq_true rfl), (Nat.le_of_ble_eq_true rfl)⟩) hE hb0 hP hS (m_recvA hE hP 0 rfl (gX_0 hX) rfl) rfl hl.1 rfl (Nat.le_of_ble_eq_true rfl) dL_law_959 ⟨Nat.le_trans (show ce + 0 ≤ 2000 by omega) hR1, Nat.le_trans (show sl + 0 ≤ 20000 by omega) hR2⟩) hS (fun u_2 H locs hP hS => ?_)
  have hP : mP G al (w2 G al k c g u_2) H := hP
  refine f_topi (v := mLFor k h g 0 9) rfl ?_
  refine lv_bipush (v := 30) hx hb dL_law_962 (by decide) ?_
  refine lv_icmp_gt (tgt := 991) hx hb dL_law_964 (by decide) (fun h => absurd h mLF_30) (fun _ => ?_)
  refine lv_aload_n hx hb dL_law_967 rfl (lv_at hl 1 rfl) ?_
  refine lv_bipush (v := 60) hx hb dL_law_968 (by decide) ?_
  refine lv_iconst (v := 1) hx hb dL_law_970 (by decide) ?_
  refine g_aft_i (g_runV (As := [.int 60, .int 1]) (rest := []) hx hb hml hown hts (kX7_would_1 l G al k h c g u_2 60 hX (by decide) (by decide)) (fcwV 2 hts q569 q549 q550 q148 q524 rfl rfl (by decide +kernel) ⟨(Nat.le_of_ble_eq_true rfl), (Nat.le_of_ble_eq_true rfl)⟩) hE hb0 hP hS (m_recvA hE hP 0 rfl (gX_0 hX) rfl) rfl hl.1 rfl (Nat.le_of_ble_eq_true rfl) dL_law_971 ⟨Nat.le_trans (show ce + 0 ≤ 2000 by omega) hR1, Nat.le_trans (show sl + 0 ≤ 20000 by omega) hR2⟩) hS (fun u H locs hP hS => ?_)
  have hP : mP G al (w2 G al k c g (mTicks k h 60 g)) H := hP
  refine f_topi (v := mLeast k h g 60) (if_neg (by decide)) ?_
  refine f_topi (v := mLeast k h g 60) rfl ?_
  refine lv_sipush (v := 9000) hx hb dL_law_974 (by decide) ?_
  refine lv_icmp_gt (tgt := 991) hx hb dL_law_977 (by decide) (fun h => absurd h (mLeast_9 60)) (fun _ => ?_)
  refine lv_aload_n hx hb dL_law_980 rfl (lv_at hl 1 rfl) ?_
  refine g_aft_d (g_runV (As := []) (rest := []) hx hb hml hown hts (kX7_meanHeight l G al k h c g (mTicks k h 60 g) hX (nI_ne0 (by omega) (by omega)) (mean_I hcf hI.1).1) (fcwV 0 hts q634 q635 q636 q148 q503 rfl rfl (by decide +kernel) ⟨(Nat.le_of_ble_eq_true rfl), (Nat.le_of_ble_eq_true rfl)⟩) hE hb0 hP hS (m_recvA hE hP 0 rfl (gX_0 hX) rfl) rfl hl.1 rfl (Nat.le_of_ble_eq_true rfl) dL_law_981 ⟨Nat.le_trans (show ce + 0 ≤ 2000 by omega) hR1, Nat.le_trans (show sl + 0 ≤ 20000 by omega) hR2⟩) hS (fun u H locs hP hS => ?_)
  have hP : mP G al (w2 G al k c g (mTicks k h 60 g)) H := hP
  refine lv_ldc2d hx hb hown (hts _ q579) dL_law_984 ?_
  refine lv_dcmp hx hb dL_law_987 ?_
  refine lv_if_le (tgt := 993) hx hb dL_law_988 (by decide) (fun _ => ?_) (fun h => absurd (mean_I hcf hI.1).2 h)
  refine lv_aload_n hx hb dL_law_993 rfl (lv_at hl 1 rfl) ?_
  refine g_aft_l (g_runV (As := []) (rest := []) hx hb hml hown hts (kX7_digest l G al k h c g (mTicks k h 60 g) hX) (fcwV 0 hts q631 q632 q633 q148 q551 rfl rfl (by decide +kernel) ⟨(Nat.le_of_ble_eq_true rfl), (Nat.le_of_ble_eq_true rfl)⟩) hE hb0 hP hS (m_recvA hE hP 0 rfl (gX_0 hX) rfl) rfl hl.1 rfl (Nat.le_of_ble_eq_true rfl) dL_law_994 ⟨Nat.le_trans (show ce + 0 ≤ 2000 by omega) hR1, Nat.le_trans (show sl + 0 ≤ 20000 by omega) hR2⟩) hS (fun u_3 H locs hP hS => ?_)
  have hP : mP G al (w2 G al k c g u_3) H := hP
  refine lv_lload hx hb dL_law_997 (lv_at hl 0 rfl) ?_
  refine W.lcmp hx hb dL_law_999 ?_
  refine f_topi (v := 0) (lg_cmp0 _) ?_
  refine lv_if_ne (tgt := 1007) hx hb dL_law_1000 (by decide) (fun h => absurd (by decide) h) (fun _ => ?_)
  refine lv_iconst (v := 1) hx hb dL_law_1003 (by decide) ?_
  refine lv_goto (tgt := 1008) hx hb dL_law_1004 (by decide) ?_
  exact kk _ _ _ hS
end LAWP
