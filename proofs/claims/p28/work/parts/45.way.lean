section LAWP
variable {p : Program} {l : Launch} {e : Env} {s : State} {m : MethodId} {below : List Frame} {meth : Method} {cd : Code} {Q : State → Prop} {G : gT}
set_option maxHeartbeats 4000000 in
set_option maxRecDepth 100000 in
/-- the end of a round -/
theorem law_883 {k : gC} {r : Nat} {al : Nat → Nat} {c : mC} {h : gK} {g t : St} {F : Int} {lk : Nat → Int32} {f : Int32} {H : Heap} {locs : List Loc} {ls : Array Slot} {ce sl : Nat} (C : lwC p s m cd G) (hR : lwR G k (r + 1) al c h g F lk) (hf : f.toInt = F) (hP : mP G al (w2 G al k c g t) H) (hS : va_S (gA G) s.heap H locs) (hl : lv_has ls 13 [(5, .int (nI r)), (4, .int f), (3, .ref (al 400)), (2, .int (nI k.1)), (1, .ref (al 0)), (0, .ref (gSb G))]) (hce : ce ≤ 2000) (hsl : sl ≤ 20000) (kk : ∀ (H : Heap) (locs : List Loc) (ls : Array Slot), mP G al (w2 G al k c g t) H → va_S (gA G) s.heap H locs → lv_has ls 13 [(5, .int (nI (r + 1))), (4, .int f), (3, .ref (al 400)), (2, .int (nI k.1)), (1, .ref (al 0)), (0, .ref (gSb G))] → W p l e room_1 s m #[Value.ref (gSb G)] below meth cd H locs ce sl Q (F0 m 247 ls [])) : W p l e room_1 s m #[Value.ref (gSb G)] below meth cd H locs ce sl Q (F0 m 883 ls []) := by
  obtain ⟨hx, hb, hml, hown, hts, hb0, hE, hL⟩ := C
  have hR1 : 2000 ≤ room_1.cells := (Nat.le_of_ble_eq_true rfl)
  have hR2 : 20000 ≤ room_1.slots := (Nat.le_of_ble_eq_true rfl)
  have hR0 := hR
  obtain ⟨hX, hhf, hsf, ⟨N, hI, hN⟩, hF9, hc400, hlk⟩ := hR
  have hJ := gX_J hX
  refine lv_aload_n hx hb dL_law_883 rfl (lv_at hl 4 rfl) ?_
  refine lv_iconst (v := 5) hx hb dL_law_884 (by decide) ?_
  refine g_aft_i (g_runV (As := [.int 5]) (rest := []) hx hb hml hown hts (kX7_many_5 l G al k h c g t hX) (fcwV 1 hts q562 q528 q529 q148 q499 rfl rfl (by decide +kernel) ⟨(Nat.le_of_ble_eq_true rfl), (Nat.le_of_ble_eq_true rfl)⟩) hE hb0 hP hS (m_recvA hE hP 0 rfl (gX_0 hX) rfl) rfl hl.1 rfl (Nat.le_of_ble_eq_true rfl) dL_law_885 ⟨Nat.le_trans (show ce + 0 ≤ 2000 by omega) hR1, Nat.le_trans (show sl + 0 ≤ 20000 by omega) hR2⟩) hS (fun u H locs hP hS => ?_)
  have hP : mP G al (w2 G al k c g t) H := hP
  refine f_topi (v := g 0 5) rfl ?_
  refine f_topi (v := g 0 5) rfl ?_
  refine lv_aload_n hx hb dL_law_888 rfl (lv_at hl 4 rfl) ?_
  refine lv_bipush (v := 6) hx hb dL_law_889 (by decide) ?_
  refine g_aft_i (g_runV (As := [.int 6]) (rest := [.int (g 0 5)]) hx hb hml hown hts (kX7_many_6 l G al k h c g t hX) (fcwV 1 hts q562 q528 q529 q148 q499 rfl rfl (by decide +kernel) ⟨(Nat.le_of_ble_eq_true rfl), (Nat.le_of_ble_eq_true rfl)⟩) hE hb0 hP hS (m_recvA hE hP 0 rfl (gX_0 hX) rfl) rfl hl.1 rfl (Nat.le_of_ble_eq_true rfl) dL_law_891 ⟨Nat.le_trans (show ce + 0 ≤ 2000 by omega) hR1, Nat.le_trans (show sl + 0 ≤ 20000 by omega) hR2⟩) hS (fun u H locs hP hS => ?_)
  have hP : mP G al (w2 G al k c g t) H := hP
  refine f_topi (v := mAll g) rfl ?_
  refine f_topi (v := mAll g) rfl ?_
  refine lv_iadd hx hb dL_law_894 ?_
  refine lv_aload_n hx hb dL_law_895 rfl (lv_at hl 4 rfl) ?_
  refine lv_bipush (v := 7) hx hb dL_law_896 (by decide) ?_
  refine g_aft_i (g_runV (As := [.int 7]) (rest := [.int ((g 0 5) + (mAll g))]) hx hb hml hown hts (kX7_many_7 l G al k h c g t hX) (fcwV 1 hts q562 q528 q529 q148 q499 rfl rfl (by decide +kernel) ⟨(Nat.le_of_ble_eq_true rfl), (Nat.le_of_ble_eq_true rfl)⟩) hE hb0 hP hS (m_recvA hE hP 0 rfl (gX_0 hX) rfl) rfl hl.1 rfl (Nat.le_of_ble_eq_true rfl) dL_law_898 ⟨Nat.le_trans (show ce + 0 ≤ 2000 by omega) hR1, Nat.le_trans (show sl + 0 ≤ 20000 by omega) hR2⟩) hS (fun u H locs hP hS => ?_)
  have hP : mP G al (w2 G al k c g t) H := hP
  refine f_topi (v := g 0 7) rfl ?_
  refine f_topi (v := g 0 7) rfl ?_
  refine lv_iadd hx hb dL_law_901 ?_
  refine lv_aload_n hx hb dL_law_902 rfl (lv_at hl 4 rfl) ?_
  refine lv_bipush (v := 8) hx hb dL_law_903 (by decide) ?_
  refine g_aft_i (g_runV (As := [.int 8]) (rest := [.int (((g 0 5) + (mAll g)) + (g 0 7))]) hx hb hml hown hts (kX7_many_8 l G al k h c g t hX) (fcwV 1 hts q562 q528 q529 q148 q499 rfl rfl (by decide +kernel) ⟨(Nat.le_of_ble_eq_true rfl), (Nat.le_of_ble_eq_true rfl)⟩) hE hb0 hP hS (m_recvA hE hP 0 rfl (gX_0 hX) rfl) rfl hl.1 rfl (Nat.le_of_ble_eq_true rfl) dL_law_905 ⟨Nat.le_trans (show ce + 0 ≤ 2000 by omega) hR1, Nat.le_trans (show sl + 0 ≤ 20000 by omega) hR2⟩) hS (fun u H locs hP hS => ?_)
  have hP : mP G al (w2 G al k c g t) H := hP
  refine f_topi (v := g 0 6) rfl ?_
  refine f_topi (v := g 0 6) rfl ?_
  refine lv_iadd hx hb dL_law_908 ?_
  refine lv_iload hx hb dL_law_909 (lv_at hl 1 rfl) ?_
  refine lv_icmp_ne (tgt := 929) hx hb dL_law_911 (by decide) (fun h => absurd (sum_I hI hf).1 h) (fun _ => ?_)
  refine lv_aload_n hx hb dL_law_914 rfl (lv_at hl 4 rfl) ?_
  refine lv_bipush (v := 9) hx hb dL_law_915 (by decide) ?_
  refine g_aft_i (g_runV (As := [.int 9]) (rest := []) hx hb hml hown hts (kX7_many_9 l G al k h c g t hX) (fcwV 1 hts q562 q528 q529 q148 q499 rfl rfl (by decide +kernel) ⟨(Nat.le_of_ble_eq_true rfl), (Nat.le_of_ble_eq_true rfl)⟩) hE hb0 hP hS (m_recvA hE hP 0 rfl (gX_0 hX) rfl) rfl hl.1 rfl (Nat.le_of_ble_eq_true rfl) dL_law_917 ⟨Nat.le_trans (show ce + 0 ≤ 2000 by omega) hR1, Nat.le_trans (show sl + 0 ≤ 20000 by omega) hR2⟩) hS (fun u H locs hP hS => ?_)
  have hP : mP G al (w2 G al k c g t) H := hP
  refine f_topi (v := g 0 8) rfl ?_
  refine f_topi (v := g 0 8) rfl ?_
  refine lv_aload_n hx hb dL_law_920 rfl (lv_at hl 4 rfl) ?_
  refine lv_bipush (v := 7) hx hb dL_law_921 (by decide) ?_
  refine g_aft_i (g_runV (As := [.int 7]) (rest := [.int (g 0 8)]) hx hb hml hown hts (kX7_many_7 l G al k h c g t hX) (fcwV 1 hts q562 q528 q529 q148 q499 rfl rfl (by decide +kernel) ⟨(Nat.le_of_ble_eq_true rfl), (Nat.le_of_ble_eq_true rfl)⟩) hE hb0 hP hS (m_recvA hE hP 0 rfl (gX_0 hX) rfl) rfl hl.1 rfl (Nat.le_of_ble_eq_true rfl) dL_law_923 ⟨Nat.le_trans (show ce + 0 ≤ 2000 by omega) hR1, Nat.le_trans (show sl + 0 ≤ 20000 by omega) hR2⟩) hS (fun u H locs hP hS => ?_)
  have hP : mP G al (w2 G al k c g t) H := hP
  refine f_topi (v := g 0 7) rfl ?_
  refine f_topi (v := g 0 7) rfl ?_
  refine lv_icmp_le (tgt := 931) hx hb dL_law_926 (by decide) (fun _ => ?_) (fun h => absurd (sum_I hI hf).2 h)
  refine lv_iinc (v := nI (r + 1)) (lv' := [(5, .int (nI (r + 1))), (4, .int f), (3, .ref (al 400)), (2, .int (nI k.1)), (1, .ref (al 0)), (0, .ref (gSb G))]) hx hb dL_law_931 hl (k := 0) rfl (f_inc _) (by decide) rfl (fun ls hl => ?_)
  refine lv_goto (tgt := 247) hx hb dL_law_934 (by decide) ?_
  exact kk _ _ _ hP hS (lv_sub hl [0, 1, 2, 3, 4, 5] rfl)
set_option maxHeartbeats 4000000 in
set_option maxRecDepth 100000 in
/-- the ways of a round -/
theorem law_334 {k : gC} {r j q : Nat} {al : Nat → Nat} {c : mC} {h : gK} {g t : St} {F : Int} {lk : Nat → Int32} {f z6 z7 sw : Int32} {H : Heap} {locs : List Loc} {ls : Array Slot} {ce sl : Nat} (C : lwC p s m cd G) (hcf : cfg k) (hR : lwR G k r al c h g F lk) (hf : f.toInt = F) (hr : r < 60) (hj : j < k.1) (hq : q < 2) (hsw : sw = bz (g 0 14)) (hP : mP G al (w2 G al k c g t) H) (hS : va_S (gA G) s.heap H locs) (hl : lv_has ls 13 [(10, .int sw), (9, .int (nI q)), (8, .int (nI j)), (7, .int z7), (6, .int z6), (5, .int (nI r)), (4, .int f), (3, .ref (al 400)), (2, .int (nI k.1)), (1, .ref (al 0)), (0, .ref (gSb G))]) (hce : ce + 21 ≤ 2000) (hsl : sl + 148 ≤ 20000) (kk : ∀ (al : Nat → Nat) (c : mC) (h : gK) (g t : St) (F : Int) (f : Int32) (lk : Nat → Int32) (H : Heap) (locs : List Loc) (ls : Array Slot), lwR G k (r + 1) al c h g F lk → f.toInt = F → mP G al (w2 G al k c g t) H → va_S (gA G) s.heap H locs → lv_has ls 13 [(5, .int (nI r)), (4, .int f), (3, .ref (al 400)), (2, .int (nI k.1)), (1, .ref (al 0)), (0, .ref (gSb G))] → W p l e room_1 s m #[Value.ref (gSb G)] below meth cd H locs (ce + 21) (sl + 148) Q (F0 m 883 ls [])) : W p l e room_1 s m #[Value.ref (gSb G)] below meth cd H locs ce sl Q (F0 m 334 ls [.int (nI (bel z6 17))]) := by
  have hx := C.1
  have hb := C.2.1
  rcases bel_17 z6 with ⟨n, hn, hb9⟩ | ⟨hb8, hb9⟩
  · rcases (show n = 0 ∨ n = 1 ∨ n = 2 ∨ n = 3 ∨ n = 4 ∨ n = 5 ∨ n = 6 ∨ n = 7 ∨ n = 8 ∨ n = 9 ∨ n = 10 ∨ n = 11 ∨ n = 12 by omega) with rfl | rfl | rfl | rfl | rfl | rfl | rfl | rfl | rfl | rfl | rfl | rfl | rfl
    · refine f_topi (v := 0) (congrArg nI hb9) ?_
      refine lv_tableIn (off := 66) (tgt := 400) hx hb dL_law_334 (by decide) (by decide) (by decide) (by decide) ?_
      exact law_400 C hcf hR hf hr hj hq hsw hP hS hl hce hsl kk
    · refine f_topi (v := 1) (congrArg nI hb9) ?_
      refine lv_tableIn (off := 66) (tgt := 400) hx hb dL_law_334 (by decide) (by decide) (by decide) (by decide) ?_
      exact law_400 C hcf hR hf hr hj hq hsw hP hS hl hce hsl kk
    · refine f_topi (v := 2) (congrArg nI hb9) ?_
      refine lv_tableIn (off := 109) (tgt := 443) hx hb dL_law_334 (by decide) (by decide) (by decide) (by decide) ?_
      exact law_443 C hcf hR hf hr hj hq hsw hP hS hl hce hsl kk
    · refine f_topi (v := 3) (congrArg nI hb9) ?_
      refine lv_tableIn (off := 109) (tgt := 443) hx hb dL_law_334 (by decide) (by decide) (by decide) (by decide) ?_
      exact law_443 C hcf hR hf hr hj hq hsw hP hS hl hce hsl kk
    · refine f_topi (v := 4) (congrArg nI hb9) ?_
      refine lv_tableIn (off := 165) (tgt := 499) hx hb dL_law_334 (by decide) (by decide) (by decide) (by decide) ?_
      exact law_499 C hcf hR hf hr hj hq hsw hP hS hl hce hsl kk
    · refine f_topi (v := 5) (congrArg nI hb9) ?_
      refine lv_tableIn (off := 216) (tgt := 550) hx hb dL_law_334 (by decide) (by decide) (by decide) (by decide) ?_
      exact law_550 C hcf hR hf hr hj hq hsw hP hS hl hce hsl kk
    · refine f_topi (v := 6) (congrArg nI hb9) ?_
      refine lv_tableIn (off := 239) (tgt := 573) hx hb dL_law_334 (by decide) (by decide) (by decide) (by decide) ?_
      exact law_573 C hcf hR hf hr hj hq hsw hP hS hl hce hsl kk
    · refine f_topi (v := 7) (congrArg nI hb9) ?_
      refine lv_tableIn (off := 311) (tgt := 645) hx hb dL_law_334 (by decide) (by decide) (by decide) (by decide) ?_
      exact law_645 C hcf hR hf hr hj hq hsw hP hS hl hce hsl kk
    · refine f_topi (v := 8) (congrArg nI hb9) ?_
      refine lv_tableIn (off := 376) (tgt := 710) hx hb dL_law_334 (by decide) (by decide) (by decide) (by decide) ?_
      exact law_710 C hcf hR hf hr hj hq hsw hP hS hl hce hsl kk
    · refine f_topi (v := 9) (congrArg nI hb9) ?_
      refine lv_tableIn (off := 425) (tgt := 759) hx hb dL_law_334 (by decide) (by decide) (by decide) (by decide) ?_
      exact law_759 C hcf hR hf hr hj hq hsw hP hS hl hce hsl kk
    · refine f_topi (v := 10) (congrArg nI hb9) ?_
      refine lv_tableIn (off := 425) (tgt := 759) hx hb dL_law_334 (by decide) (by decide) (by decide) (by decide) ?_
      exact law_759 C hcf hR hf hr hj hq hsw hP hS hl hce hsl kk
    · refine f_topi (v := 11) (congrArg nI hb9) ?_
      refine lv_tableIn (off := 477) (tgt := 811) hx hb dL_law_334 (by decide) (by decide) (by decide) (by decide) ?_
      exact law_811 C hcf hR hf hr hj hq hsw hP hS hl hce hsl kk
    · refine f_topi (v := 12) (congrArg nI hb9) ?_
      refine lv_tableIn (off := 504) (tgt := 838) hx hb dL_law_334 (by decide) (by decide) (by decide) (by decide) ?_
      exact law_838 C hcf hR hf hr hj hq hsw hP hS hl hce hsl kk
  · refine lv_tableOut (tgt := 862) hx hb dL_law_334 (Or.inr (by rw [nI_t (by omega)]; omega)) (by decide) ?_
    exact law_862 C hcf hR hf hr hj hq hsw hP hS hl hce hsl kk
end LAWP
