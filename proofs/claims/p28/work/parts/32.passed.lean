set_option maxHeartbeats 4000000 in
set_option maxRecDepth 100000 in
theorem kL_isPassed (l : Launch) (G : gT) (al : Nat → Nat) (k : gC) (h : gK) (c : mC) (g : St) (t : St) (n : Nat) (F : Int) (N : Nat) (lk : Nat → Int32) (hX : gX G al k h c) (hn1 : 0 < n) (hn5 : n ≤ 5) (hcf : cfg k) (hsf : stepOK h) (hhf : callsOK h) (hI0 : Inv k g F N) (hN4 : N + n ≤ 4000) (hc400 : c 400 = some (.inl (gZ G, 10, .inl (fun z => bz (lk z))))) (hlk : ∀ j, j < k.1 → bz (g (3 + j) 8) = bz (lk j)) : Met l yL_isPassed (fW yL_isPassed cL_isPassed 19 (some .boolean)) { frames := 9, cells := 21, slots := 148, locals := 343 } (gPre G al (w2 G al k c g t) [.ref (al 0), .int (nI k.1), .ref (al 400), .int (nI n)]) (gQip (S := (Nat → Nat) × mC) G (fun u => gX G u.1 k h u.2 ∧ u.2 400 = some (.inl (gZ G, 10, .inl (fun z => bz (lk z)))) ∧ ∀ i, i < 401 → u.1 i = al i) (fun u => 1) (fun u => u.1) (fun u => w2 G u.1 k u.2 (mTicks k h n g) (mTicks k h n g))) 21 148 (gA G) := by
  refine Met.ofW (cc := cL_isPassed) (maxL := 19) (ret := (some .boolean)) (by decide) rfl ?_
  intro pz ez s m args below meth c₀ s₁ Bo hml hv
  obtain ⟨rfl, hb0, hP, hE⟩ := hv
  have hx := Bo.exec
  have hb := Bo.bytes
  have hr := Bo.returns
  have hts0 := atoms_spec (ws := (fW yL_isPassed cL_isPassed 19 (some .boolean))) Bo.pre
  have hts : ∀ w ∈ fA, w.before _ s = true := fun w h => hts0 w (List.mem_cons_of_mem _ h)
  have hown : s.vm.findClass RL = some m.cls := findClass_of_methodNamed Bo.named
  have hlocks := Bo.notSynchronized
  have hl := lv_entry ([.ref (al 0), .int (nI k.1), .ref (al 400), .int (nI n)]) (n := 19) (Nat.le_of_ble_eq_true rfl)
  rw [lg_entry_eq]
  generalize (lg_sl ([.ref (al 0), .int (nI k.1), .ref (al 400), .int (nI n)]) ++ List.replicate (19 - (lg_sl ([.ref (al 0), .int (nI k.1), .ref (al 400), .int (nI n)])).length) Slot.unset).toArray = ls at hl ⊢
  have hl : lv_has ls 19 [(0, .ref (al 0)), (1, .int (nI k.1)), (2, .ref (al 400)), (3, .int (nI n))] := hl
  have hJ := gX_J hX
  obtain ⟨al0, hal0⟩ : ∃ z, z = al := ⟨_, rfl⟩
  have hal : ∀ i, i < 401 → al i = al0 i := fun i _ => by rw [hal0]
  refine g_start hP (fun H hP hS => ?_)
  refine lv_aload_n hx hb dL_isPassed_0 rfl (lv_at hl 0 rfl) ?_
  refine lv_bipush (v := 9) hx hb dL_isPassed_1 (by decide) ?_
  refine g_aft_i (g_runV (As := [.int 9]) (rest := []) hx hb hml hown hts (kX7_many_9 l G al k h c g t hX) (fcwV 1 hts q562 q528 q529 q148 q499 rfl rfl (by decide +kernel) ⟨(Nat.le_of_ble_eq_true rfl), (Nat.le_of_ble_eq_true rfl)⟩) hE hb0 hP hS (m_recvA hE hP 0 rfl (gX_0 hX) rfl) rfl hl.1 rfl (Nat.le_of_ble_eq_true rfl) dL_isPassed_3 ⟨(Nat.le_of_ble_eq_true rfl), (Nat.le_of_ble_eq_true rfl)⟩) hS (fun u H locs hP hS => ?_)
  have hP : mP G al (w2 G al k c g t) H := hP
  refine f_topi (v := g 0 8) rfl ?_
  refine f_topi (v := g 0 8) rfl ?_
  refine lv_istore (lv' := [(4, .int (g 0 8)), (0, .ref (al 0)), (1, .int (nI k.1)), (2, .ref (al 400)), (3, .int (nI n))]) hx hb dL_isPassed_6 hl (by decide) rfl (fun ls hl => ?_)
  refine lv_aload_n hx hb dL_isPassed_8 rfl (lv_at hl 1 rfl) ?_
  refine lv_iload_n hx hb dL_isPassed_9 rfl (lv_at hl 4 rfl) ?_
  refine lv_iconst (v := 0) hx hb dL_isPassed_10 (by decide) ?_
  refine g_aft_i (g_runV (As := [.int (nI n), .int 0]) (rest := []) hx hb hml hown hts (kX7_would_0 l G al k h c g t n hX hn1 (by omega)) (fcwV 2 hts q569 q549 q550 q148 q524 rfl rfl (by decide +kernel) ⟨(Nat.le_of_ble_eq_true rfl), (Nat.le_of_ble_eq_true rfl)⟩) hE hb0 hP hS (m_recvA hE hP 0 rfl (gX_0 hX) rfl) rfl hl.1 rfl (Nat.le_of_ble_eq_true rfl) dL_isPassed_11 ⟨(Nat.le_of_ble_eq_true rfl), (Nat.le_of_ble_eq_true rfl)⟩) hS (fun u H locs hP hS => ?_)
  have hP : mP G al (w2 G al k c g (mTicks k h n g)) H := hP
  refine f_topi (v := mTicks k h n g 0 8 - g 0 8) (if_pos rfl) ?_
  refine f_topi (v := mTicks k h n g 0 8 - g 0 8) rfl ?_
  refine lv_istore (lv' := [(5, .int (mTicks k h n g 0 8 - g 0 8)), (4, .int (g 0 8)), (0, .ref (al 0)), (1, .int (nI k.1)), (2, .ref (al 400)), (3, .int (nI n))]) hx hb dL_isPassed_14 hl (by decide) rfl (fun ls hl => ?_)
  refine lv_aload_n hx hb dL_isPassed_16 rfl (lv_at hl 2 rfl) ?_
  refine lv_iload_n hx hb dL_isPassed_17 rfl (lv_at hl 5 rfl) ?_
  refine lv_iconst (v := 1) hx hb dL_isPassed_18 (by decide) ?_
  refine g_aft_i (g_runV (As := [.int (nI n), .int 1]) (rest := []) hx hb hml hown hts (kX7_would_1 l G al k h c g (mTicks k h n g) n hX hn1 (by omega)) (fcwV 2 hts q569 q549 q550 q148 q524 rfl rfl (by decide +kernel) ⟨(Nat.le_of_ble_eq_true rfl), (Nat.le_of_ble_eq_true rfl)⟩) hE hb0 hP hS (m_recvA hE hP 0 rfl (gX_0 hX) rfl) rfl hl.1 rfl (Nat.le_of_ble_eq_true rfl) dL_isPassed_19 ⟨(Nat.le_of_ble_eq_true rfl), (Nat.le_of_ble_eq_true rfl)⟩) hS (fun u H locs hP hS => ?_)
  have hP : mP G al (w2 G al k c g (mTicks k h n g)) H := hP
  refine f_topi (v := mLeast k h g n) (if_neg (by decide)) ?_
  refine f_topi (v := mLeast k h g n) rfl ?_
  refine lv_istore (lv' := [(6, .int (mLeast k h g n)), (5, .int (mTicks k h n g 0 8 - g 0 8)), (4, .int (g 0 8)), (0, .ref (al 0)), (1, .int (nI k.1)), (2, .ref (al 400)), (3, .int (nI n))]) hx hb dL_isPassed_22 hl (by decide) rfl (fun ls hl => ?_)
  refine lv_iload_n hx hb dL_isPassed_24 rfl (lv_at hl 4 rfl) ?_
  refine mX_newI 401 (by decide) (by decide) hX (N := k.1) hx hb (hts _ q4) hE hb0 hP hS (nI_pos (by omega)) (nI_clamp (by omega)) (show k.1 * 4 ≤ 536870912 by omega) (show 0 + 1 ≤ 21 by omega) (show 0 + k.1 ≤ 148 by omega) dL_isPassed_25 (fun q9 al c H ha0 ha1 hc401 hc9 hX hP hS => ?_)
  have hc400 := (hc9 400 (by decide)).trans hc400
  have hal : ∀ i, i < 401 → al i = al0 i := fun i hi => (ha1 i (by omega)).trans (hal i hi)
  have hl : lv_has ls 19 [(6, .int (mLeast k h g n)), (5, .int (mTicks k h n g 0 8 - g 0 8)), (4, .int (g 0 8)), (0, .ref (al 0)), (1, .int (nI k.1)), (2, .ref (al 400)), (3, .int (nI n))] := by rw [ha1 0 (by decide), ha1 400 (by decide)]; exact hl
  subst ha0
  have hP : mP G al (w2 G al k c g (mTicks k h n g)) H := hP
  refine lv_astore (lv' := [(7, .ref (al 401)), (6, .int (mLeast k h g n)), (5, .int (mTicks k h n g 0 8 - g 0 8)), (4, .int (g 0 8)), (0, .ref (al 0)), (1, .int (nI k.1)), (2, .ref (al 400)), (3, .int (nI n))]) hx hb dL_isPassed_27 hl (by decide) rfl (fun ls hl => ?_)
  refine lv_iconst (v := 0) hx hb dL_isPassed_29 (by decide) ?_
  refine lv_istore (lv' := [(8, .int 0), (7, .ref (al 401)), (6, .int (mLeast k h g n)), (5, .int (mTicks k h n g 0 8 - g 0 8)), (4, .int (g 0 8)), (0, .ref (al 0)), (1, .int (nI k.1)), (2, .ref (al 400)), (3, .int (nI n))]) hx hb dL_isPassed_30 hl (by decide) rfl (fun ls hl => ?_)
  refine g_loopE (U := mC) (Ai := fun _ u => al) (N := k.1) (nL := 19) (Wi := fun i0 u => w2 G al k u g (mTicks k h n g)) (Li := fun i0 u => [(8, .int (nI i0)), (7, .ref (al 401)), (6, .int (mLeast k h g n)), (5, .int (mTicks k h n g 0 8 - g 0 8)), (4, .int (g 0 8)), (3, .int (nI n)), (2, .ref (al 400)), (1, .int (nI k.1)), (0, .ref (al 0))]) (ce := fun i0 => 1) (sl := fun i0 => 0 + k.1) (fun i0 u => (gX G al k h u) ∧ (u 400 = some (.inl (gZ G, 10, .inl (fun z => bz (lk z))))) ∧ (u 401 = some (.inl (gI G, k.1, .inl (arS (fun z => mHt k (mTicks k h n g) z) i0))))) c ⟨hX, hc400, (hc401.trans (congrArg (fun z : Nat → Int32 => some ((.inl (gI G, k.1, .inl z)) : va_E)) (ar_0 (fun z => mHt k (mTicks k h n g) z))))⟩ hP hS (lv_sub hl [0, 1, 2, 3, 4, 8, 7, 6, 5] rfl) rfl rfl (fun i0 u hii0 hJi0 ihi0 H locs ls hP hS hl => ?_)
  obtain ⟨c, hu9⟩ : ∃ z, z = u := ⟨_, rfl⟩; subst hu9
  obtain ⟨hX, hc400, hc401⟩ := hJi0
  have hP : mP G al (w2 G al k c g (mTicks k h n g)) H := hP
  have hl : lv_has ls 19 [(8, .int (nI i0)), (7, .ref (al 401)), (6, .int (mLeast k h g n)), (5, .int (mTicks k h n g 0 8 - g 0 8)), (4, .int (g 0 8)), (3, .int (nI n)), (2, .ref (al 400)), (1, .int (nI k.1)), (0, .ref (al 0))] := hl
  refine lv_iload hx hb dL_isPassed_32 (lv_at hl 0 rfl) ?_
  refine lv_iload_n hx hb dL_isPassed_34 rfl (lv_at hl 7 rfl) ?_
  refine lv_icmp_ge (tgt := 56) hx hb dL_isPassed_35 (by decide) (fun hc_1 => ?_) (fun hc_1 => ?_)
  · skip
    have hgei0 : k.1 ≤ i0 := (nI_leI (by omega) (by omega)).mp hc_1
    obtain rfl : k.1 = i0 := Nat.le_antisymm hgei0 hii0
    have hP : mP G al (w2 G al k c g (mTicks k h n g)) H := hP
    have hl : lv_has ls 19 [(8, .int (nI k.1)), (7, .ref (al 401)), (6, .int (mLeast k h g n)), (5, .int (mTicks k h n g 0 8 - g 0 8)), (4, .int (g 0 8)), (3, .int (nI n)), (2, .ref (al 400)), (1, .int (nI k.1)), (0, .ref (al 0))] := hl
    refine lv_sipush (v := 9000) hx hb dL_isPassed_56 (by decide) ?_
    refine lv_istore (lv' := [(8, .int 9000), (7, .ref (al 401)), (6, .int (mLeast k h g n)), (5, .int (mTicks k h n g 0 8 - g 0 8)), (4, .int (g 0 8)), (3, .int (nI n)), (2, .ref (al 400)), (1, .int (nI k.1)), (0, .ref (al 0))]) hx hb dL_isPassed_59 hl (by decide) rfl (fun ls hl => ?_)
    refine lv_iconst (v := 0) hx hb dL_isPassed_61 (by decide) ?_
    refine lv_istore (lv' := [(9, .int 0), (8, .int 9000), (7, .ref (al 401)), (6, .int (mLeast k h g n)), (5, .int (mTicks k h n g 0 8 - g 0 8)), (4, .int (g 0 8)), (3, .int (nI n)), (2, .ref (al 400)), (1, .int (nI k.1)), (0, .ref (al 0))]) hx hb dL_isPassed_62 hl (by decide) rfl (fun ls hl => ?_)
    refine W.widen (k := 1) (n := 8) (by omega) (by omega) ?_
    refine g_loopE (U := (Nat → Nat) × mC) (Ai := fun _ u => u.1) (N := n) (nL := 19) (Wi := fun i1 u => w2 G u.1 k u.2 (mTicks k h i1 g) (mTicks k h n g)) (Li := fun i1 u => [(9, .int (nI i1)), (8, .int (it (fun i a => if mTicks k h (i + 1) g 0 5 < a then mTicks k h (i + 1) g 0 5 else a) i1 9000)), (7, .ref (u.1 401)), (6, .int (mLeast k h g n)), (5, .int (mTicks k h n g 0 8 - g 0 8)), (4, .int (g 0 8)), (3, .int (nI n)), (2, .ref (u.1 400)), (1, .int (nI k.1)), (0, .ref (u.1 0))]) (ce := fun i1 => 1 + 4 * i1) (sl := fun i1 => 8 + 28 * i1) (fun i1 u => (gX G u.1 k h u.2) ∧ (u.2 400 = some (.inl (gZ G, 10, .inl (fun z => bz (lk z))))) ∧ (u.2 401 = some (.inl (gI G, k.1, .inl (arS (fun z => mHt k (mTicks k h n g) z) k.1)))) ∧ (∀ i, i < 401 → u.1 i = al0 i)) (al, c) ⟨hX, hc400, hc401, hal⟩ hP hS (lv_sub hl [0, 1, 2, 3, 4, 5, 6, 7, 8, 9] rfl) rfl rfl (fun i1 u hii1 hJi1 ihi1 H locs ls hP hS hl => ?_)
    obtain ⟨al, c⟩ := u
    obtain ⟨hX, hc400, hc401, hal⟩ := hJi1
    have hP : mP G al (w2 G al k c (mTicks k h i1 g) (mTicks k h n g)) H := hP
    have hl : lv_has ls 19 [(9, .int (nI i1)), (8, .int (it (fun i a => if mTicks k h (i + 1) g 0 5 < a then mTicks k h (i + 1) g 0 5 else a) i1 9000)), (7, .ref (al 401)), (6, .int (mLeast k h g n)), (5, .int (mTicks k h n g 0 8 - g 0 8)), (4, .int (g 0 8)), (3, .int (nI n)), (2, .ref (al 400)), (1, .int (nI k.1)), (0, .ref (al 0))] := hl
    refine lv_iload hx hb dL_isPassed_64 (lv_at hl 0 rfl) ?_
    refine lv_iload_n hx hb dL_isPassed_66 rfl (lv_at hl 6 rfl) ?_
    refine lv_icmp_ge (tgt := 654) hx hb dL_isPassed_67 (by decide) (fun hc_2 => ?_) (fun hc_2 => ?_)
    · skip
      have hgei1 : n ≤ i1 := (nI_leI (by omega) (by omega)).mp hc_2
      obtain rfl : n = i1 := Nat.le_antisymm hgei1 hii1
      have hP : mP G al (w2 G al k c (mTicks k h n g) (mTicks k h n g)) H := hP
      have hl : lv_has ls 19 [(9, .int (nI n)), (8, .int (it (fun i a => if mTicks k h (i + 1) g 0 5 < a then mTicks k h (i + 1) g 0 5 else a) n 9000)), (7, .ref (al 401)), (6, .int (mLeast k h g n)), (5, .int (mTicks k h n g 0 8 - g 0 8)), (4, .int (g 0 8)), (3, .int (nI n)), (2, .ref (al 400)), (1, .int (nI k.1)), (0, .ref (al 0))] := hl
      refine lv_iconst (v := 0) hx hb dL_isPassed_654 (by decide) ?_
      refine lv_istore (lv' := [(9, .int 0), (8, .int (it (fun i a => if mTicks k h (i + 1) g 0 5 < a then mTicks k h (i + 1) g 0 5 else a) n 9000)), (7, .ref (al 401)), (6, .int (mLeast k h g n)), (5, .int (mTicks k h n g 0 8 - g 0 8)), (4, .int (g 0 8)), (3, .int (nI n)), (2, .ref (al 400)), (1, .int (nI k.1)), (0, .ref (al 0))]) hx hb dL_isPassed_655 hl (by decide) rfl (fun ls hl => ?_)
      refine g_loop (al := al) (N := k.1) (nL := 19) (Wi := fun i7 => w2 G al k c (mTicks k h n g) (mTicks k h n g)) (Li := fun i7 => [(9, .int (nI i7)), (8, .int (it (fun i a => if mTicks k h (i + 1) g 0 5 < a then mTicks k h (i + 1) g 0 5 else a) n 9000)), (7, .ref (al 401)), (6, .int (mLeast k h g n)), (5, .int (mTicks k h n g 0 8 - g 0 8)), (4, .int (g 0 8)), (3, .int (nI n)), (2, .ref (al 400)), (1, .int (nI k.1)), (0, .ref (al 0))]) hP hS (lv_sub hl [0, 1, 2, 3, 4, 5, 6, 7, 8, 9] rfl) (fun i7 hii7 ihi7 H locs ls hP hS hl => ?_)
      have hP : mP G al (w2 G al k c (mTicks k h n g) (mTicks k h n g)) H := hP
      have hl : lv_has ls 19 [(9, .int (nI i7)), (8, .int (it (fun i a => if mTicks k h (i + 1) g 0 5 < a then mTicks k h (i + 1) g 0 5 else a) n 9000)), (7, .ref (al 401)), (6, .int (mLeast k h g n)), (5, .int (mTicks k h n g 0 8 - g 0 8)), (4, .int (g 0 8)), (3, .int (nI n)), (2, .ref (al 400)), (1, .int (nI k.1)), (0, .ref (al 0))] := hl
      refine lv_iload hx hb dL_isPassed_657 (lv_at hl 0 rfl) ?_
      refine lv_iload_n hx hb dL_isPassed_659 rfl (lv_at hl 8 rfl) ?_
      refine lv_icmp_ge (tgt := 687) hx hb dL_isPassed_660 (by decide) (fun hc_3 => ?_) (fun hc_3 => ?_)
      · skip
        have hgei7 : k.1 ≤ i7 := (nI_leI (by omega) (by omega)).mp hc_3
        obtain rfl : k.1 = i7 := Nat.le_antisymm hgei7 hii7
        have hP : mP G al (w2 G al k c (mTicks k h n g) (mTicks k h n g)) H := hP
        have hl : lv_has ls 19 [(9, .int (nI k.1)), (8, .int (it (fun i a => if mTicks k h (i + 1) g 0 5 < a then mTicks k h (i + 1) g 0 5 else a) n 9000)), (7, .ref (al 401)), (6, .int (mLeast k h g n)), (5, .int (mTicks k h n g 0 8 - g 0 8)), (4, .int (g 0 8)), (3, .int (nI n)), (2, .ref (al 400)), (1, .int (nI k.1)), (0, .ref (al 0))] := hl
        refine lv_aload_n hx hb dL_isPassed_687 rfl (lv_at hl 9 rfl) ?_
        refine lv_bipush (v := 9) hx hb dL_isPassed_688 (by decide) ?_
        refine g_aft_i (g_runV (As := [.int 9]) (rest := []) hx hb hml hown hts (kX7_many_9 l G al k h c (mTicks k h n g) (mTicks k h n g) hX) (fcwV 1 hts q562 q528 q529 q148 q499 rfl rfl (by decide +kernel) ⟨(Nat.le_of_ble_eq_true rfl), (Nat.le_of_ble_eq_true rfl)⟩) hE hb0 hP hS (m_recvA hE hP 0 rfl (gX_0 hX) rfl) rfl hl.1 rfl (Nat.le_of_ble_eq_true rfl) dL_isPassed_690 ⟨show 1 + 4 * n + 0 ≤ 21 by omega, show 8 + 28 * n + 0 ≤ 148 by omega⟩) hS (fun u H locs hP hS => ?_)
        have hP : mP G al (w2 G al k c (mTicks k h n g) (mTicks k h n g)) H := hP
        refine f_topi (v := mTicks k h n g 0 8) rfl ?_
        refine f_topi (v := mTicks k h n g 0 8) rfl ?_
        refine lv_iload hx hb dL_isPassed_693 (lv_at hl 5 rfl) ?_
        refine lv_isub hx hb dL_isPassed_695 ?_
        refine lv_iload hx hb dL_isPassed_696 (lv_at hl 4 rfl) ?_
        refine lv_icmp_ne (tgt := 712) hx hb dL_isPassed_698 (by decide) (fun h => absurd rfl h) (fun _ => ?_)
        refine lv_iload hx hb dL_isPassed_701 (lv_at hl 1 rfl) ?_
        refine lv_iload hx hb dL_isPassed_703 (lv_at hl 3 rfl) ?_
        refine lv_icmp_ne (tgt := 712) hx hb dL_isPassed_705 (by decide) (fun h => absurd rfl h) (fun _ => ?_)
        refine lv_iconst (v := 1) hx hb dL_isPassed_708 (by decide) ?_
        refine lv_goto (tgt := 713) hx hb dL_isPassed_709 (by decide) ?_
        refine W.widen (k := 21) (n := 148) (by omega) (by omega) ?_
        exact W.zret (v := 1) hx hb hr (by decide) (fun tz htz hW => ⟨⟨1, (al, c), rfl, ⟨rfl, ⟨hX, hc400, fun i hi => (hal i hi).trans (congrFun hal0 i)⟩⟩, g_end htz hP⟩, hS.F htz⟩) hS.2.2 dL_isPassed_713
      · skip
        have hlti7 : i7 < k.1 := Nat.lt_of_not_le (fun q => hc_3 (nI_le q (by omega)))
        refine lv_aload_n hx hb dL_isPassed_663 rfl (lv_at hl 9 rfl) ?_
        refine lv_iload hx hb dL_isPassed_664 (lv_at hl 0 rfl) ?_
        refine lv_bipush (v := 8) hx hb dL_isPassed_666 (by decide) ?_
        refine g_aft_i (g_runV (As := [.int (nI i7), .int 8]) (rest := []) hx hb hml hown hts (kX7_ofJet_8 l G al k h c (mTicks k h n g) (mTicks k h n g) i7 hX hlti7) (fcwV 2 hts q560 q534 q535 q148 q477 rfl rfl (by decide +kernel) ⟨(Nat.le_of_ble_eq_true rfl), (Nat.le_of_ble_eq_true rfl)⟩) hE hb0 hP hS (m_recvA hE hP 0 rfl (gX_0 hX) rfl) rfl hl.1 rfl (Nat.le_of_ble_eq_true rfl) dL_isPassed_668 ⟨show 1 + 4 * n + 0 ≤ 21 by omega, show 8 + 28 * n + 0 ≤ 148 by omega⟩) hS (fun u H locs hP hS => ?_)
        have hP : mP G al (w2 G al k c (mTicks k h n g) (mTicks k h n g)) H := hP
        refine f_topi (v := mHt k (mTicks k h n g) i7) rfl ?_
        refine f_topi (v := mHt k (mTicks k h n g) i7) rfl ?_
        refine lv_aload hx hb dL_isPassed_671 (lv_at hl 2 rfl) ?_
        refine lv_iload hx hb dL_isPassed_673 (lv_at hl 0 rfl) ?_
        refine m_iald hx hb hE hP 401 rfl ((w2_hi hJ (by decide)).trans hc401) (nI_in (by omega) (by omega)) dL_isPassed_675 ?_
        refine f_topi (v := mHt k (mTicks k h n g) i7) ((congrArg (arS (fun z => mHt k (mTicks k h n g) z) k.1) (nI_clamp (by omega))).trans (ar_r _ (by omega))) ?_
        refine lv_icmp_eq (tgt := 681) hx hb dL_isPassed_676 (by decide) (fun _ => ?_) (fun h => absurd rfl h)
        refine lv_iinc (v := nI (i7 + 1)) (lv' := [(9, .int (nI (i7 + 1))), (8, .int (it (fun i a => if mTicks k h (i + 1) g 0 5 < a then mTicks k h (i + 1) g 0 5 else a) n 9000)), (7, .ref (al 401)), (6, .int (mLeast k h g n)), (5, .int (mTicks k h n g 0 8 - g 0 8)), (4, .int (g 0 8)), (3, .int (nI n)), (2, .ref (al 400)), (1, .int (nI k.1)), (0, .ref (al 0))]) hx hb dL_isPassed_681 hl (k := 0) rfl (f_inc _) (by decide) rfl (fun ls hl => ?_)
        refine lv_goto (tgt := 657) hx hb dL_isPassed_684 (by decide) ?_
        exact ihi7 hlti7 _ _ _ hP hS (lv_sub hl [0, 1, 2, 3, 4, 5, 6, 7, 8, 9] rfl)
    · skip
      have hlti1 : i1 < n := Nat.lt_of_not_le (fun q => hc_2 (nI_le q (by omega)))
      obtain ⟨gi, hgi⟩ : ∃ z, z = mTicks k h i1 g := ⟨_, rfl⟩
      have hti := ticks_I hcf hsf hhf hI0 i1 (by omega)
      rw [← hgi] at hti
      obtain ⟨hIi, hLi⟩ := hti
      obtain ⟨A, S9, gn, hgn, hIn, hdn, hTF⟩ := tick_E hcf hsf hhf hIi (by omega)
      have hP : mP G al (w2 G al k c gi (mTicks k h n g)) H := by rw [hgi]; exact hP
      refine lv_iload_n hx hb dL_isPassed_70 rfl (lv_at hl 8 rfl) ?_
      refine mX_newI 402 (by decide) (by decide) hX (N := k.1) hx hb (hts _ q4) hE hb0 hP hS (nI_pos (by omega)) (nI_clamp (by omega)) (show k.1 * 4 ≤ 536870912 by omega) (show 1 + 4 * i1 + 1 ≤ 21 by omega) (show 8 + 28 * i1 + k.1 ≤ 148 by omega) dL_isPassed_71 (fun q9 al c H ha0 ha1 hc402 hc9 hX hP hS => ?_)
      have hc400 := (hc9 400 (by decide)).trans hc400
      have hc401 := (hc9 401 (by decide)).trans hc401
      have hal : ∀ i, i < 401 → al i = al0 i := fun i hi => (ha1 i (by omega)).trans (hal i hi)
      have hl : lv_has ls 19 [(9, .int (nI i1)), (8, .int (it (fun i a => if mTicks k h (i + 1) g 0 5 < a then mTicks k h (i + 1) g 0 5 else a) i1 9000)), (7, .ref (al 401)), (6, .int (mLeast k h g n)), (5, .int (mTicks k h n g 0 8 - g 0 8)), (4, .int (g 0 8)), (3, .int (nI n)), (2, .ref (al 400)), (1, .int (nI k.1)), (0, .ref (al 0))] := by rw [ha1 0 (by decide), ha1 400 (by decide), ha1 401 (by decide)]; exact hl
      subst ha0
      have hP : mP G al (w2 G al k c gi (mTicks k h n g)) H := hP
      refine lv_astore (lv' := [(10, .ref (al 402)), (9, .int (nI i1)), (8, .int (it (fun i a => if mTicks k h (i + 1) g 0 5 < a then mTicks k h (i + 1) g 0 5 else a) i1 9000)), (7, .ref (al 401)), (6, .int (mLeast k h g n)), (5, .int (mTicks k h n g 0 8 - g 0 8)), (4, .int (g 0 8)), (3, .int (nI n)), (2, .ref (al 400)), (1, .int (nI k.1)), (0, .ref (al 0))]) hx hb dL_isPassed_73 hl (by decide) rfl (fun ls hl => ?_)
      refine lv_iload_n hx hb dL_isPassed_75 rfl (lv_at hl 9 rfl) ?_
      refine mX_newI 403 (by decide) (by decide) hX (N := k.1) hx hb (hts _ q4) hE hb0 hP hS (nI_pos (by omega)) (nI_clamp (by omega)) (show k.1 * 4 ≤ 536870912 by omega) (show 1 + 4 * i1 + 1 + 1 ≤ 21 by omega) (show 8 + 28 * i1 + k.1 + k.1 ≤ 148 by omega) dL_isPassed_76 (fun q9 al c H ha0 ha1 hc403 hc9 hX hP hS => ?_)
      have hc400 := (hc9 400 (by decide)).trans hc400
      have hc401 := (hc9 401 (by decide)).trans hc401
      have hc402 := (hc9 402 (by decide)).trans hc402
      have hal : ∀ i, i < 401 → al i = al0 i := fun i hi => (ha1 i (by omega)).trans (hal i hi)
      have hl : lv_has ls 19 [(10, .ref (al 402)), (9, .int (nI i1)), (8, .int (it (fun i a => if mTicks k h (i + 1) g 0 5 < a then mTicks k h (i + 1) g 0 5 else a) i1 9000)), (7, .ref (al 401)), (6, .int (mLeast k h g n)), (5, .int (mTicks k h n g 0 8 - g 0 8)), (4, .int (g 0 8)), (3, .int (nI n)), (2, .ref (al 400)), (1, .int (nI k.1)), (0, .ref (al 0))] := by rw [ha1 0 (by decide), ha1 400 (by decide), ha1 401 (by decide), ha1 402 (by decide)]; exact hl
      subst ha0
      have hP : mP G al (w2 G al k c gi (mTicks k h n g)) H := hP
      refine lv_astore (lv' := [(11, .ref (al 403)), (10, .ref (al 402)), (9, .int (nI i1)), (8, .int (it (fun i a => if mTicks k h (i + 1) g 0 5 < a then mTicks k h (i + 1) g 0 5 else a) i1 9000)), (7, .ref (al 401)), (6, .int (mLeast k h g n)), (5, .int (mTicks k h n g 0 8 - g 0 8)), (4, .int (g 0 8)), (3, .int (nI n)), (2, .ref (al 400)), (1, .int (nI k.1)), (0, .ref (al 0))]) hx hb dL_isPassed_78 hl (by decide) rfl (fun ls hl => ?_)
      refine lv_iconst (v := 2) hx hb dL_isPassed_80 (by decide) ?_
      refine mX_newI 404 (by decide) (by decide) hX (N := 2) hx hb (hts _ q4) hE hb0 hP hS (by decide) (by decide) (show 2 * 4 ≤ 536870912 by omega) (show 1 + 4 * i1 + 1 + 1 + 1 ≤ 21 by omega) (show 8 + 28 * i1 + k.1 + k.1 + 2 ≤ 148 by omega) dL_isPassed_81 (fun q9 al c H ha0 ha1 hc404 hc9 hX hP hS => ?_)
      have hc400 := (hc9 400 (by decide)).trans hc400
      have hc401 := (hc9 401 (by decide)).trans hc401
      have hc402 := (hc9 402 (by decide)).trans hc402
      have hc403 := (hc9 403 (by decide)).trans hc403
      have hal : ∀ i, i < 401 → al i = al0 i := fun i hi => (ha1 i (by omega)).trans (hal i hi)
      have hl : lv_has ls 19 [(11, .ref (al 403)), (10, .ref (al 402)), (9, .int (nI i1)), (8, .int (it (fun i a => if mTicks k h (i + 1) g 0 5 < a then mTicks k h (i + 1) g 0 5 else a) i1 9000)), (7, .ref (al 401)), (6, .int (mLeast k h g n)), (5, .int (mTicks k h n g 0 8 - g 0 8)), (4, .int (g 0 8)), (3, .int (nI n)), (2, .ref (al 400)), (1, .int (nI k.1)), (0, .ref (al 0))] := by rw [ha1 0 (by decide), ha1 400 (by decide), ha1 401 (by decide), ha1 402 (by decide), ha1 403 (by decide)]; exact hl
      subst ha0
      have hP : mP G al (w2 G al k c gi (mTicks k h n g)) H := hP
      refine lv_dup hx hb dL_isPassed_83 rfl ?_
      refine lv_iconst (v := 0) hx hb dL_isPassed_84 (by decide) ?_
      refine lv_aload_n hx hb dL_isPassed_85 rfl (lv_at hl 11 rfl) ?_
      refine lv_iconst (v := 0) hx hb dL_isPassed_86 (by decide) ?_
      refine lv_iconst (v := 2) hx hb dL_isPassed_87 (by decide) ?_
      refine g_aft_i (g_runV (As := [.int 0, .int 2]) (rest := [.int 0, .ref (al 404), .ref (al 404)]) hx hb hml hown hts (kX7_ofPump_2 l G al k h c gi (mTicks k h n g) 0 hX (by decide)) (fcwV 2 hts q563 q531 q532 q148 q466 rfl rfl (by decide +kernel) ⟨(Nat.le_of_ble_eq_true rfl), (Nat.le_of_ble_eq_true rfl)⟩) hE hb0 hP hS (m_recvA hE hP 0 rfl (gX_0 hX) rfl) rfl hl.1 rfl (Nat.le_of_ble_eq_true rfl) dL_isPassed_88 ⟨show 1 + 4 * i1 + 1 + 1 + 1 + 0 ≤ 21 by omega, show 8 + 28 * i1 + k.1 + k.1 + 2 + 0 ≤ 148 by omega⟩) hS (fun u H locs hP hS => ?_)
      have hP : mP G al (w2 G al k c gi (mTicks k h n g)) H := hP
      refine f_topi (v := gi (1 + 0) 3) rfl ?_
      refine f_topi (v := gi (1 + 0) 3) rfl ?_
      refine mX_iast 404 (by decide) (by decide) hX hx hb hE hP hS rfl hc404 (by unfold vp_in; decide) (x' := 0) (by decide) dL_isPassed_91 (fun c H locs hc404 hc9 hX hP hS => ?_)
      have hc400 := (hc9 400 (by decide)).trans hc400
      have hc401 := (hc9 401 (by decide)).trans hc401
      have hc402 := (hc9 402 (by decide)).trans hc402
      have hc403 := (hc9 403 (by decide)).trans hc403
      have hc404 : c 404 = some (.inl (gI G, 2, .inl (arS (fun z => gi (1 + z) 3) 1))) := hc404.trans (congrArg (fun z : Nat → Int32 => some ((.inl (gI G, 2, .inl z)) : va_E)) (by rw [ar_0 (fun z => gi (1 + z) 3)]; exact ar_s (fun z => gi (1 + z) 3) 0))
      have hP : mP G al (w2 G al k c gi (mTicks k h n g)) H := hP
      refine lv_dup hx hb dL_isPassed_92 rfl ?_
      refine lv_iconst (v := 1) hx hb dL_isPassed_93 (by decide) ?_
      refine lv_aload_n hx hb dL_isPassed_94 rfl (lv_at hl 11 rfl) ?_
      refine lv_iconst (v := 1) hx hb dL_isPassed_95 (by decide) ?_
      refine lv_iconst (v := 2) hx hb dL_isPassed_96 (by decide) ?_
      refine g_aft_i (g_runV (As := [.int 1, .int 2]) (rest := [.int 1, .ref (al 404), .ref (al 404)]) hx hb hml hown hts (kX7_ofPump_2 l G al k h c gi (mTicks k h n g) 1 hX (by decide)) (fcwV 2 hts q563 q531 q532 q148 q466 rfl rfl (by decide +kernel) ⟨(Nat.le_of_ble_eq_true rfl), (Nat.le_of_ble_eq_true rfl)⟩) hE hb0 hP hS (m_recvA hE hP 0 rfl (gX_0 hX) rfl) rfl hl.1 rfl (Nat.le_of_ble_eq_true rfl) dL_isPassed_97 ⟨show 1 + 4 * i1 + 1 + 1 + 1 + 0 ≤ 21 by omega, show 8 + 28 * i1 + k.1 + k.1 + 2 + 0 ≤ 148 by omega⟩) hS (fun u H locs hP hS => ?_)
      have hP : mP G al (w2 G al k c gi (mTicks k h n g)) H := hP
      refine f_topi (v := gi (1 + 1) 3) rfl ?_
      refine f_topi (v := gi (1 + 1) 3) rfl ?_
      refine mX_iast 404 (by decide) (by decide) hX hx hb hE hP hS rfl hc404 (by unfold vp_in; decide) (x' := 1) (by decide) dL_isPassed_100 (fun c H locs hc404 hc9 hX hP hS => ?_)
      have hc400 := (hc9 400 (by decide)).trans hc400
      have hc401 := (hc9 401 (by decide)).trans hc401
      have hc402 := (hc9 402 (by decide)).trans hc402
      have hc403 := (hc9 403 (by decide)).trans hc403
      have hc404 : c 404 = some (.inl (gI G, 2, .inl (arS (fun z => gi (1 + z) 3) 2))) := hc404.trans (congrArg (fun z : Nat → Int32 => some ((.inl (gI G, 2, .inl z)) : va_E)) (ar_s (fun z => gi (1 + z) 3) 1))
      have hP : mP G al (w2 G al k c gi (mTicks k h n g)) H := hP
      refine lv_astore (lv' := [(12, .ref (al 404)), (11, .ref (al 403)), (10, .ref (al 402)), (9, .int (nI i1)), (8, .int (it (fun i a => if mTicks k h (i + 1) g 0 5 < a then mTicks k h (i + 1) g 0 5 else a) i1 9000)), (7, .ref (al 401)), (6, .int (mLeast k h g n)), (5, .int (mTicks k h n g 0 8 - g 0 8)), (4, .int (g 0 8)), (3, .int (nI n)), (2, .ref (al 400)), (1, .int (nI k.1)), (0, .ref (al 0))]) hx hb dL_isPassed_101 hl (by decide) rfl (fun ls hl => ?_)
      refine lv_iconst (v := 0) hx hb dL_isPassed_103 (by decide) ?_
      refine lv_istore (lv' := [(13, .int 0), (12, .ref (al 404)), (11, .ref (al 403)), (10, .ref (al 402)), (9, .int (nI i1)), (8, .int (it (fun i a => if mTicks k h (i + 1) g 0 5 < a then mTicks k h (i + 1) g 0 5 else a) i1 9000)), (7, .ref (al 401)), (6, .int (mLeast k h g n)), (5, .int (mTicks k h n g 0 8 - g 0 8)), (4, .int (g 0 8)), (3, .int (nI n)), (2, .ref (al 400)), (1, .int (nI k.1)), (0, .ref (al 0))]) hx hb dL_isPassed_104 hl (by decide) rfl (fun ls hl => ?_)
      refine g_loopE (U := mC) (Ai := fun _ u => al) (N := k.1) (nL := 19) (Wi := fun i2 u => w2 G al k u gi (mTicks k h n g)) (Li := fun i2 u => [(13, .int (nI i2)), (12, .ref (al 404)), (11, .ref (al 403)), (10, .ref (al 402)), (9, .int (nI i1)), (8, .int (it (fun i a => if mTicks k h (i + 1) g 0 5 < a then mTicks k h (i + 1) g 0 5 else a) i1 9000)), (7, .ref (al 401)), (6, .int (mLeast k h g n)), (5, .int (mTicks k h n g 0 8 - g 0 8)), (4, .int (g 0 8)), (3, .int (nI n)), (2, .ref (al 400)), (1, .int (nI k.1)), (0, .ref (al 0))]) (ce := fun i2 => 1 + 4 * i1 + 1 + 1 + 1) (sl := fun i2 => 8 + 28 * i1 + k.1 + k.1 + 2) (fun i2 u => (gX G al k h u) ∧ (u 400 = some (.inl (gZ G, 10, .inl (fun z => bz (lk z))))) ∧ (u 401 = some (.inl (gI G, k.1, .inl (arS (fun z => mHt k (mTicks k h n g) z) k.1)))) ∧ (u 402 = some (.inl (gI G, k.1, .inl (arS (fun z => gi (3 + z) 5) i2)))) ∧ (u 403 = some (.inl (gI G, k.1, .inl (arS (fun z => gi (3 + z) 9) i2)))) ∧ (u 404 = some (.inl (gI G, 2, .inl (arS (fun z => gi (1 + z) 3) 2))))) c ⟨hX, hc400, hc401, (hc402.trans (congrArg (fun z : Nat → Int32 => some ((.inl (gI G, k.1, .inl z)) : va_E)) (ar_0 (fun z => gi (3 + z) 5)))), (hc403.trans (congrArg (fun z : Nat → Int32 => some ((.inl (gI G, k.1, .inl z)) : va_E)) (ar_0 (fun z => gi (3 + z) 9)))), hc404⟩ hP hS (lv_sub hl [0, 1, 2, 3, 4, 5, 6, 7, 8, 9, 10, 11, 12, 13] rfl) rfl rfl (fun i2 u hii2 hJi2 ihi2 H locs ls hP hS hl => ?_)
      obtain ⟨c, hu9⟩ : ∃ z, z = u := ⟨_, rfl⟩; subst hu9
      obtain ⟨hX, hc400, hc401, hc402, hc403, hc404⟩ := hJi2
      have hP : mP G al (w2 G al k c gi (mTicks k h n g)) H := hP
      have hl : lv_has ls 19 [(13, .int (nI i2)), (12, .ref (al 404)), (11, .ref (al 403)), (10, .ref (al 402)), (9, .int (nI i1)), (8, .int (it (fun i a => if mTicks k h (i + 1) g 0 5 < a then mTicks k h (i + 1) g 0 5 else a) i1 9000)), (7, .ref (al 401)), (6, .int (mLeast k h g n)), (5, .int (mTicks k h n g 0 8 - g 0 8)), (4, .int (g 0 8)), (3, .int (nI n)), (2, .ref (al 400)), (1, .int (nI k.1)), (0, .ref (al 0))] := hl
      refine lv_iload hx hb dL_isPassed_106 (lv_at hl 0 rfl) ?_
      refine lv_iload_n hx hb dL_isPassed_108 rfl (lv_at hl 12 rfl) ?_
      refine lv_icmp_ge (tgt := 143) hx hb dL_isPassed_109 (by decide) (fun hc_4 => ?_) (fun hc_4 => ?_)
      · skip
        have hgei2 : k.1 ≤ i2 := (nI_leI (by omega) (by omega)).mp hc_4
        obtain rfl : k.1 = i2 := Nat.le_antisymm hgei2 hii2
        have hP : mP G al (w2 G al k c gi (mTicks k h n g)) H := hP
        have hl : lv_has ls 19 [(13, .int (nI k.1)), (12, .ref (al 404)), (11, .ref (al 403)), (10, .ref (al 402)), (9, .int (nI i1)), (8, .int (it (fun i a => if mTicks k h (i + 1) g 0 5 < a then mTicks k h (i + 1) g 0 5 else a) i1 9000)), (7, .ref (al 401)), (6, .int (mLeast k h g n)), (5, .int (mTicks k h n g 0 8 - g 0 8)), (4, .int (g 0 8)), (3, .int (nI n)), (2, .ref (al 400)), (1, .int (nI k.1)), (0, .ref (al 0))] := hl
        refine lv_bipush (v := 10) hx hb dL_isPassed_143 (by decide) ?_
        refine mX_newI 405 (by decide) (by decide) hX (N := 10) hx hb (hts _ q4) hE hb0 hP hS (by decide) (by decide) (show 10 * 4 ≤ 536870912 by omega) (show 1 + 4 * i1 + 1 + 1 + 1 + 1 ≤ 21 by omega) (show 8 + 28 * i1 + k.1 + k.1 + 2 + 10 ≤ 148 by omega) dL_isPassed_145 (fun q9 al c H ha0 ha1 hc405 hc9 hX hP hS => ?_)
        have hc400 := (hc9 400 (by decide)).trans hc400
        have hc401 := (hc9 401 (by decide)).trans hc401
        have hc402 := (hc9 402 (by decide)).trans hc402
        have hc403 := (hc9 403 (by decide)).trans hc403
        have hc404 := (hc9 404 (by decide)).trans hc404
        have hal : ∀ i, i < 401 → al i = al0 i := fun i hi => (ha1 i (by omega)).trans (hal i hi)
        have hl : lv_has ls 19 [(13, .int (nI k.1)), (12, .ref (al 404)), (11, .ref (al 403)), (10, .ref (al 402)), (9, .int (nI i1)), (8, .int (it (fun i a => if mTicks k h (i + 1) g 0 5 < a then mTicks k h (i + 1) g 0 5 else a) i1 9000)), (7, .ref (al 401)), (6, .int (mLeast k h g n)), (5, .int (mTicks k h n g 0 8 - g 0 8)), (4, .int (g 0 8)), (3, .int (nI n)), (2, .ref (al 400)), (1, .int (nI k.1)), (0, .ref (al 0))] := by rw [ha1 0 (by decide), ha1 400 (by decide), ha1 401 (by decide), ha1 402 (by decide), ha1 403 (by decide), ha1 404 (by decide)]; exact hl
        subst ha0
        have hP : mP G al (w2 G al k c gi (mTicks k h n g)) H := hP
        refine lv_astore (lv' := [(13, .ref (al 405)), (12, .ref (al 404)), (11, .ref (al 403)), (10, .ref (al 402)), (9, .int (nI i1)), (8, .int (it (fun i a => if mTicks k h (i + 1) g 0 5 < a then mTicks k h (i + 1) g 0 5 else a) i1 9000)), (7, .ref (al 401)), (6, .int (mLeast k h g n)), (5, .int (mTicks k h n g 0 8 - g 0 8)), (4, .int (g 0 8)), (3, .int (nI n)), (2, .ref (al 400)), (1, .int (nI k.1)), (0, .ref (al 0))]) hx hb dL_isPassed_147 hl (by decide) rfl (fun ls hl => ?_)
        refine lv_iconst (v := 1) hx hb dL_isPassed_149 (by decide) ?_
        refine lv_istore (lv' := [(14, .int 1), (13, .ref (al 405)), (12, .ref (al 404)), (11, .ref (al 403)), (10, .ref (al 402)), (9, .int (nI i1)), (8, .int (it (fun i a => if mTicks k h (i + 1) g 0 5 < a then mTicks k h (i + 1) g 0 5 else a) i1 9000)), (7, .ref (al 401)), (6, .int (mLeast k h g n)), (5, .int (mTicks k h n g 0 8 - g 0 8)), (4, .int (g 0 8)), (3, .int (nI n)), (2, .ref (al 400)), (1, .int (nI k.1)), (0, .ref (al 0))]) hx hb dL_isPassed_150 hl (by decide) rfl (fun ls hl => ?_)
        refine g_loopE (U := mC) (Ai := fun _ u => al) (N := 8) (nL := 19) (Wi := fun i3 u => w2 G al k u gi (mTicks k h n g)) (Li := fun i3 u => [(14, .int (nI (i3 + 1))), (13, .ref (al 405)), (12, .ref (al 404)), (11, .ref (al 403)), (10, .ref (al 402)), (9, .int (nI i1)), (8, .int (it (fun i a => if mTicks k h (i + 1) g 0 5 < a then mTicks k h (i + 1) g 0 5 else a) i1 9000)), (7, .ref (al 401)), (6, .int (mLeast k h g n)), (5, .int (mTicks k h n g 0 8 - g 0 8)), (4, .int (g 0 8)), (3, .int (nI n)), (2, .ref (al 400)), (1, .int (nI k.1)), (0, .ref (al 0))]) (ce := fun i3 => 1 + 4 * i1 + 1 + 1 + 1 + 1) (sl := fun i3 => 8 + 28 * i1 + k.1 + k.1 + 2 + 10) (fun i3 u => (gX G al k h u) ∧ (u 400 = some (.inl (gZ G, 10, .inl (fun z => bz (lk z))))) ∧ (u 401 = some (.inl (gI G, k.1, .inl (arS (fun z => mHt k (mTicks k h n g) z) k.1)))) ∧ (u 402 = some (.inl (gI G, k.1, .inl (arS (fun z => gi (3 + z) 5) k.1)))) ∧ (u 403 = some (.inl (gI G, k.1, .inl (arS (fun z => gi (3 + z) 9) k.1)))) ∧ (u 404 = some (.inl (gI G, 2, .inl (arS (fun z => gi (1 + z) 3) 2)))) ∧ (u 405 = some (.inl (gI G, 10, .inl (arF (fun z => mFallIn gi (gi 0 4 + nI z)) (i3 + 1)))))) c ⟨hX, hc400, hc401, hc402, hc403, hc404, (hc405.trans (congrArg (fun z : Nat → Int32 => some ((.inl (gI G, 10, .inl z)) : va_E)) (af_0 (fun z => mFallIn gi (gi 0 4 + nI z)))))⟩ hP hS (lv_sub hl [0, 1, 2, 3, 4, 5, 6, 7, 8, 9, 10, 11, 12, 13, 14] rfl) rfl rfl (fun i3 u hii3 hJi3 ihi3 H locs ls hP hS hl => ?_)
        obtain ⟨c, hu9⟩ : ∃ z, z = u := ⟨_, rfl⟩; subst hu9
        obtain ⟨hX, hc400, hc401, hc402, hc403, hc404, hc405⟩ := hJi3
        have hP : mP G al (w2 G al k c gi (mTicks k h n g)) H := hP
        have hl : lv_has ls 19 [(14, .int (nI (i3 + 1))), (13, .ref (al 405)), (12, .ref (al 404)), (11, .ref (al 403)), (10, .ref (al 402)), (9, .int (nI i1)), (8, .int (it (fun i a => if mTicks k h (i + 1) g 0 5 < a then mTicks k h (i + 1) g 0 5 else a) i1 9000)), (7, .ref (al 401)), (6, .int (mLeast k h g n)), (5, .int (mTicks k h n g 0 8 - g 0 8)), (4, .int (g 0 8)), (3, .int (nI n)), (2, .ref (al 400)), (1, .int (nI k.1)), (0, .ref (al 0))] := hl
        refine lv_iload hx hb dL_isPassed_152 (lv_at hl 0 rfl) ?_
        refine lv_bipush (v := 9) hx hb dL_isPassed_154 (by decide) ?_
        refine lv_icmp_ge (tgt := 176) hx hb dL_isPassed_156 (by decide) (fun hc_5 => ?_) (fun hc_5 => ?_)
        · skip
          have hgei3 : 8 ≤ i3 := by have := (nI_leI (a := 9) (by omega) (by omega)).mp hc_5; omega
          obtain rfl : 8 = i3 := Nat.le_antisymm hgei3 hii3
          have hP : mP G al (w2 G al k c gi (mTicks k h n g)) H := hP
          have hl : lv_has ls 19 [(14, .int (nI (8 + 1))), (13, .ref (al 405)), (12, .ref (al 404)), (11, .ref (al 403)), (10, .ref (al 402)), (9, .int (nI i1)), (8, .int (it (fun i a => if mTicks k h (i + 1) g 0 5 < a then mTicks k h (i + 1) g 0 5 else a) i1 9000)), (7, .ref (al 401)), (6, .int (mLeast k h g n)), (5, .int (mTicks k h n g 0 8 - g 0 8)), (4, .int (g 0 8)), (3, .int (nI n)), (2, .ref (al 400)), (1, .int (nI k.1)), (0, .ref (al 0))] := hl
          refine lv_aload_n hx hb dL_isPassed_176 rfl (lv_at hl 14 rfl) ?_
          refine lv_bipush (v := 10) hx hb dL_isPassed_177 (by decide) ?_
          refine g_aft_i (g_runV (As := [.int 10]) (rest := []) hx hb hml hown hts (kX7_many_10 l G al k h c gi (mTicks k h n g) hX) (fcwV 1 hts q562 q528 q529 q148 q499 rfl rfl (by decide +kernel) ⟨(Nat.le_of_ble_eq_true rfl), (Nat.le_of_ble_eq_true rfl)⟩) hE hb0 hP hS (m_recvA hE hP 0 rfl (gX_0 hX) rfl) rfl hl.1 rfl (Nat.le_of_ble_eq_true rfl) dL_isPassed_179 ⟨show 1 + 4 * i1 + 1 + 1 + 1 + 1 + 0 ≤ 21 by omega, show 8 + 28 * i1 + k.1 + k.1 + 2 + 10 + 0 ≤ 148 by omega⟩) hS (fun u H locs hP hS => ?_)
          have hP : mP G al (w2 G al k c gi (mTicks k h n g)) H := hP
          refine f_topi (v := gi 0 9) rfl ?_
          refine f_topi (v := gi 0 9) rfl ?_
          refine lv_istore (lv' := [(14, .int (gi 0 9)), (13, .ref (al 405)), (12, .ref (al 404)), (11, .ref (al 403)), (10, .ref (al 402)), (9, .int (nI i1)), (8, .int (it (fun i a => if mTicks k h (i + 1) g 0 5 < a then mTicks k h (i + 1) g 0 5 else a) i1 9000)), (7, .ref (al 401)), (6, .int (mLeast k h g n)), (5, .int (mTicks k h n g 0 8 - g 0 8)), (4, .int (g 0 8)), (3, .int (nI n)), (2, .ref (al 400)), (1, .int (nI k.1)), (0, .ref (al 0))]) hx hb dL_isPassed_182 hl (by decide) rfl (fun ls hl => ?_)
          refine lv_aload_n hx hb dL_isPassed_184 rfl (lv_at hl 14 rfl) ?_
          refine lv_iconst (v := 1) hx hb dL_isPassed_185 (by decide) ?_
          refine g_aft_i (g_runV (As := [.int 1]) (rest := []) hx hb hml hown hts (kX7_pass l G al k h c gi (mTicks k h n g) hX (by obtain ⟨-, -, -, -, -, -, -, -, -, e4, -⟩ := hIi; rw [e4, nI_1]; exact nI_le (b := 5000) (by omega) (by omega))) (fcwV 1 hts q572 q573 q574 q148 q459 rfl rfl (by decide +kernel) ⟨(Nat.le_of_ble_eq_true rfl), (Nat.le_of_ble_eq_true rfl)⟩) hE hb0 hP hS (m_recvA hE hP 0 rfl (gX_0 hX) rfl) rfl hl.1 rfl (Nat.le_of_ble_eq_true rfl) dL_isPassed_186 ⟨show 1 + 4 * i1 + 1 + 1 + 1 + 1 + 0 ≤ 21 by omega, show 8 + 28 * i1 + k.1 + k.1 + 2 + 10 + 0 ≤ 148 by omega⟩) hS (fun u H locs hP hS => ?_)
          have hP : mP G al (w2 G al k c (mTick k h gi) (mTicks k h n g)) H := hP
          have hP : mP G al (w2 G al k c gn (mTicks k h n g)) H := by rw [hgn]; exact hP
          refine f_topi (v := mFallIn gi (gi 0 4 + nI 1)) hdn ?_
          refine f_topi (v := mFallIn gi (gi 0 4 + nI 1)) rfl ?_
          refine lv_aload hx hb dL_isPassed_189 (lv_at hl 1 rfl) ?_
          refine lv_iconst (v := 1) hx hb dL_isPassed_191 (by decide) ?_
          refine m_iald hx hb hE hP 405 rfl ((w2_hi hJ (by decide)).trans hc405) (by unfold vp_in; decide) dL_isPassed_192 ?_
          refine f_topi (v := mFallIn gi (gi 0 4 + nI 1)) (rfl.trans (if_pos ⟨by decide, by decide⟩)) ?_
          refine lv_icmp_eq (tgt := 198) hx hb dL_isPassed_193 (by decide) (fun _ => ?_) (fun h => absurd rfl h)
          refine lv_iload hx hb dL_isPassed_198 (lv_at hl 6 rfl) ?_
          refine lv_aload_n hx hb dL_isPassed_200 rfl (lv_at hl 14 rfl) ?_
          refine lv_iconst (v := 5) hx hb dL_isPassed_201 (by decide) ?_
          refine g_aft_i (g_runV (As := [.int 5]) (rest := [.int (it (fun i a => if mTicks k h (i + 1) g 0 5 < a then mTicks k h (i + 1) g 0 5 else a) i1 9000)]) hx hb hml hown hts (kX7_many_5 l G al k h c gn (mTicks k h n g) hX) (fcwV 1 hts q562 q528 q529 q148 q499 rfl rfl (by decide +kernel) ⟨(Nat.le_of_ble_eq_true rfl), (Nat.le_of_ble_eq_true rfl)⟩) hE hb0 hP hS (m_recvA hE hP 0 rfl (gX_0 hX) rfl) rfl hl.1 rfl (Nat.le_of_ble_eq_true rfl) dL_isPassed_202 ⟨show 1 + 4 * i1 + 1 + 1 + 1 + 1 + 0 ≤ 21 by omega, show 8 + 28 * i1 + k.1 + k.1 + 2 + 10 + 0 ≤ 148 by omega⟩) hS (fun u H locs hP hS => ?_)
          have hP : mP G al (w2 G al k c gn (mTicks k h n g)) H := hP
          refine f_topi (v := gn 0 5) rfl ?_
          refine f_topi (v := gn 0 5) rfl ?_
          refine va_mmin hx hb (hml.trans hl.1.symm) hown (hts _ q565) (hts _ q95) (hts _ q87) (hts _ q96) (Nat.le_of_ble_eq_true rfl) (Nat.le_of_ble_eq_true rfl) (show 1 + 4 * i1 + 1 + 1 + 1 + 1 ≤ 21 by omega) (show 8 + 28 * i1 + k.1 + k.1 + 2 + 10 ≤ 148 by omega) dL_isPassed_205 ?_
          refine lv_istore (lv' := [(8, .int (if (gn 0 5) < (it (fun i a => if mTicks k h (i + 1) g 0 5 < a then mTicks k h (i + 1) g 0 5 else a) i1 9000) then (gn 0 5) else (it (fun i a => if mTicks k h (i + 1) g 0 5 < a then mTicks k h (i + 1) g 0 5 else a) i1 9000))), (14, .int (gi 0 9)), (13, .ref (al 405)), (12, .ref (al 404)), (11, .ref (al 403)), (10, .ref (al 402)), (9, .int (nI i1)), (7, .ref (al 401)), (6, .int (mLeast k h g n)), (5, .int (mTicks k h n g 0 8 - g 0 8)), (4, .int (g 0 8)), (3, .int (nI n)), (2, .ref (al 400)), (1, .int (nI k.1)), (0, .ref (al 0))]) hx hb dL_isPassed_208 hl (by decide) rfl (fun ls hl => ?_)
          refine lv_iconst (v := 1) hx hb dL_isPassed_210 (by decide) ?_
          refine lv_istore (lv' := [(15, .int 1), (8, .int (if (gn 0 5) < (it (fun i a => if mTicks k h (i + 1) g 0 5 < a then mTicks k h (i + 1) g 0 5 else a) i1 9000) then (gn 0 5) else (it (fun i a => if mTicks k h (i + 1) g 0 5 < a then mTicks k h (i + 1) g 0 5 else a) i1 9000))), (14, .int (gi 0 9)), (13, .ref (al 405)), (12, .ref (al 404)), (11, .ref (al 403)), (10, .ref (al 402)), (9, .int (nI i1)), (7, .ref (al 401)), (6, .int (mLeast k h g n)), (5, .int (mTicks k h n g 0 8 - g 0 8)), (4, .int (g 0 8)), (3, .int (nI n)), (2, .ref (al 400)), (1, .int (nI k.1)), (0, .ref (al 0))]) hx hb dL_isPassed_211 hl (by decide) rfl (fun ls hl => ?_)
          refine lv_iconst (v := 0) hx hb dL_isPassed_213 (by decide) ?_
          refine lv_istore (lv' := [(16, .int 0), (15, .int 1), (8, .int (if (gn 0 5) < (it (fun i a => if mTicks k h (i + 1) g 0 5 < a then mTicks k h (i + 1) g 0 5 else a) i1 9000) then (gn 0 5) else (it (fun i a => if mTicks k h (i + 1) g 0 5 < a then mTicks k h (i + 1) g 0 5 else a) i1 9000))), (14, .int (gi 0 9)), (13, .ref (al 405)), (12, .ref (al 404)), (11, .ref (al 403)), (10, .ref (al 402)), (9, .int (nI i1)), (7, .ref (al 401)), (6, .int (mLeast k h g n)), (5, .int (mTicks k h n g 0 8 - g 0 8)), (4, .int (g 0 8)), (3, .int (nI n)), (2, .ref (al 400)), (1, .int (nI k.1)), (0, .ref (al 0))]) hx hb dL_isPassed_214 hl (by decide) rfl (fun ls hl => ?_)
          refine g_loopE (U := mC) (Ai := fun _ u => al) (N := k.1) (nL := 19) (Wi := fun i4 u => w2 G al k u gn (mTicks k h n g)) (Li := fun i4 u => [(16, .int (nI i4)), (15, .int (seenJ k gn A i4)), (14, .int (gi 0 9)), (13, .ref (al 405)), (12, .ref (al 404)), (11, .ref (al 403)), (10, .ref (al 402)), (9, .int (nI i1)), (8, .int (if (gn 0 5) < (it (fun i a => if mTicks k h (i + 1) g 0 5 < a then mTicks k h (i + 1) g 0 5 else a) i1 9000) then (gn 0 5) else (it (fun i a => if mTicks k h (i + 1) g 0 5 < a then mTicks k h (i + 1) g 0 5 else a) i1 9000))), (7, .ref (al 401)), (6, .int (mLeast k h g n)), (5, .int (mTicks k h n g 0 8 - g 0 8)), (4, .int (g 0 8)), (3, .int (nI n)), (2, .ref (al 400)), (1, .int (nI k.1)), (0, .ref (al 0))]) (ce := fun i4 => 1 + 4 * i1 + 1 + 1 + 1 + 1) (sl := fun i4 => 8 + 28 * i1 + k.1 + k.1 + 2 + 10) (fun i4 u => (gX G al k h u) ∧ (u 400 = some (.inl (gZ G, 10, .inl (fun z => bz (lk z))))) ∧ (u 401 = some (.inl (gI G, k.1, .inl (arS (fun z => mHt k (mTicks k h n g) z) k.1)))) ∧ (u 402 = some (.inl (gI G, k.1, .inl (arS (fun z => gi (3 + z) 5) k.1)))) ∧ (u 403 = some (.inl (gI G, k.1, .inl (arS (fun z => gi (3 + z) 9) k.1)))) ∧ (u 404 = some (.inl (gI G, 2, .inl (arS (fun z => gi (1 + z) 3) 2)))) ∧ (u 405 = some (.inl (gI G, 10, .inl (flJ k gn A i4 (arF (fun z => mFallIn gi (gi 0 4 + nI z)) 9)))))) c ⟨hX, hc400, hc401, hc402, hc403, hc404, (hc405.trans (congrArg (fun z : Nat → Int32 => some ((.inl (gI G, 10, .inl z)) : va_E)) rfl))⟩ hP hS (lv_sub hl [0, 1, 3, 4, 5, 6, 7, 8, 2, 9, 10, 11, 12, 13, 14, 15, 16] rfl) rfl rfl (fun i4 u hii4 hJi4 ihi4 H locs ls hP hS hl => ?_)
          obtain ⟨c, hu9⟩ : ∃ z, z = u := ⟨_, rfl⟩; subst hu9
          obtain ⟨hX, hc400, hc401, hc402, hc403, hc404, hc405⟩ := hJi4
          have hP : mP G al (w2 G al k c gn (mTicks k h n g)) H := hP
          have hl : lv_has ls 19 [(16, .int (nI i4)), (15, .int (seenJ k gn A i4)), (14, .int (gi 0 9)), (13, .ref (al 405)), (12, .ref (al 404)), (11, .ref (al 403)), (10, .ref (al 402)), (9, .int (nI i1)), (8, .int (if (gn 0 5) < (it (fun i a => if mTicks k h (i + 1) g 0 5 < a then mTicks k h (i + 1) g 0 5 else a) i1 9000) then (gn 0 5) else (it (fun i a => if mTicks k h (i + 1) g 0 5 < a then mTicks k h (i + 1) g 0 5 else a) i1 9000))), (7, .ref (al 401)), (6, .int (mLeast k h g n)), (5, .int (mTicks k h n g 0 8 - g 0 8)), (4, .int (g 0 8)), (3, .int (nI n)), (2, .ref (al 400)), (1, .int (nI k.1)), (0, .ref (al 0))] := hl
          refine lv_iload hx hb dL_isPassed_216 (lv_at hl 0 rfl) ?_
          refine lv_iload_n hx hb dL_isPassed_218 rfl (lv_at hl 15 rfl) ?_
          refine lv_icmp_ge (tgt := 428) hx hb dL_isPassed_219 (by decide) (fun hc_6 => ?_) (fun hc_6 => ?_)
          · skip
            have hgei4 : k.1 ≤ i4 := (nI_leI (by omega) (by omega)).mp hc_6
            obtain rfl : k.1 = i4 := Nat.le_antisymm hgei4 hii4
            have hP : mP G al (w2 G al k c gn (mTicks k h n g)) H := hP
            have hl : lv_has ls 19 [(16, .int (nI k.1)), (15, .int (seenJ k gn A k.1)), (14, .int (gi 0 9)), (13, .ref (al 405)), (12, .ref (al 404)), (11, .ref (al 403)), (10, .ref (al 402)), (9, .int (nI i1)), (8, .int (if (gn 0 5) < (it (fun i a => if mTicks k h (i + 1) g 0 5 < a then mTicks k h (i + 1) g 0 5 else a) i1 9000) then (gn 0 5) else (it (fun i a => if mTicks k h (i + 1) g 0 5 < a then mTicks k h (i + 1) g 0 5 else a) i1 9000))), (7, .ref (al 401)), (6, .int (mLeast k h g n)), (5, .int (mTicks k h n g 0 8 - g 0 8)), (4, .int (g 0 8)), (3, .int (nI n)), (2, .ref (al 400)), (1, .int (nI k.1)), (0, .ref (al 0))] := hl
            refine lv_iconst (v := 0) hx hb dL_isPassed_428 (by decide) ?_
            refine lv_istore (lv' := [(16, .int 0), (15, .int (seenJ k gn A k.1)), (14, .int (gi 0 9)), (13, .ref (al 405)), (12, .ref (al 404)), (11, .ref (al 403)), (10, .ref (al 402)), (9, .int (nI i1)), (8, .int (if (gn 0 5) < (it (fun i a => if mTicks k h (i + 1) g 0 5 < a then mTicks k h (i + 1) g 0 5 else a) i1 9000) then (gn 0 5) else (it (fun i a => if mTicks k h (i + 1) g 0 5 < a then mTicks k h (i + 1) g 0 5 else a) i1 9000))), (7, .ref (al 401)), (6, .int (mLeast k h g n)), (5, .int (mTicks k h n g 0 8 - g 0 8)), (4, .int (g 0 8)), (3, .int (nI n)), (2, .ref (al 400)), (1, .int (nI k.1)), (0, .ref (al 0))]) hx hb dL_isPassed_429 hl (by decide) rfl (fun ls hl => ?_)
            refine lv_iconst (v := 1) hx hb dL_isPassed_431 (by decide) ?_
            refine lv_istore (lv' := [(17, .int 1), (16, .int 0), (15, .int (seenJ k gn A k.1)), (14, .int (gi 0 9)), (13, .ref (al 405)), (12, .ref (al 404)), (11, .ref (al 403)), (10, .ref (al 402)), (9, .int (nI i1)), (8, .int (if (gn 0 5) < (it (fun i a => if mTicks k h (i + 1) g 0 5 < a then mTicks k h (i + 1) g 0 5 else a) i1 9000) then (gn 0 5) else (it (fun i a => if mTicks k h (i + 1) g 0 5 < a then mTicks k h (i + 1) g 0 5 else a) i1 9000))), (7, .ref (al 401)), (6, .int (mLeast k h g n)), (5, .int (mTicks k h n g 0 8 - g 0 8)), (4, .int (g 0 8)), (3, .int (nI n)), (2, .ref (al 400)), (1, .int (nI k.1)), (0, .ref (al 0))]) hx hb dL_isPassed_432 hl (by decide) rfl (fun ls hl => ?_)
            refine g_loop (al := al) (N := 8) (nL := 19) (Wi := fun i5 => w2 G al k c gn (mTicks k h n g)) (Li := fun i5 => [(17, .int (nI (i5 + 1))), (16, .int (it (fun i a => a + mFallIn gn (gn 0 4 + nI (i + 1))) i5 0)), (15, .int (seenJ k gn A k.1)), (14, .int (gi 0 9)), (13, .ref (al 405)), (12, .ref (al 404)), (9, .int (nI i1)), (8, .int (if (gn 0 5) < (it (fun i a => if mTicks k h (i + 1) g 0 5 < a then mTicks k h (i + 1) g 0 5 else a) i1 9000) then (gn 0 5) else (it (fun i a => if mTicks k h (i + 1) g 0 5 < a then mTicks k h (i + 1) g 0 5 else a) i1 9000))), (7, .ref (al 401)), (6, .int (mLeast k h g n)), (5, .int (mTicks k h n g 0 8 - g 0 8)), (4, .int (g 0 8)), (3, .int (nI n)), (2, .ref (al 400)), (1, .int (nI k.1)), (0, .ref (al 0))]) hP hS (lv_sub hl [0, 1, 2, 3, 4, 5, 8, 9, 10, 11, 12, 13, 14, 15, 16, 17] rfl) (fun i5 hii5 ihi5 H locs ls hP hS hl => ?_)
            have hP : mP G al (w2 G al k c gn (mTicks k h n g)) H := hP
            have hl : lv_has ls 19 [(17, .int (nI (i5 + 1))), (16, .int (it (fun i a => a + mFallIn gn (gn 0 4 + nI (i + 1))) i5 0)), (15, .int (seenJ k gn A k.1)), (14, .int (gi 0 9)), (13, .ref (al 405)), (12, .ref (al 404)), (9, .int (nI i1)), (8, .int (if (gn 0 5) < (it (fun i a => if mTicks k h (i + 1) g 0 5 < a then mTicks k h (i + 1) g 0 5 else a) i1 9000) then (gn 0 5) else (it (fun i a => if mTicks k h (i + 1) g 0 5 < a then mTicks k h (i + 1) g 0 5 else a) i1 9000))), (7, .ref (al 401)), (6, .int (mLeast k h g n)), (5, .int (mTicks k h n g 0 8 - g 0 8)), (4, .int (g 0 8)), (3, .int (nI n)), (2, .ref (al 400)), (1, .int (nI k.1)), (0, .ref (al 0))] := hl
            refine lv_iload hx hb dL_isPassed_434 (lv_at hl 0 rfl) ?_
            refine lv_bipush (v := 9) hx hb dL_isPassed_436 (by decide) ?_
            refine lv_icmp_ge (tgt := 481) hx hb dL_isPassed_438 (by decide) (fun hc_7 => ?_) (fun hc_7 => ?_)
            · skip
              have hgei5 : 8 ≤ i5 := by have := (nI_leI (a := 9) (by omega) (by omega)).mp hc_7; omega
              obtain rfl : 8 = i5 := Nat.le_antisymm hgei5 hii5
              have hP : mP G al (w2 G al k c gn (mTicks k h n g)) H := hP
              have hl : lv_has ls 19 [(17, .int (nI (8 + 1))), (16, .int (it (fun i a => a + mFallIn gn (gn 0 4 + nI (i + 1))) 8 0)), (15, .int (seenJ k gn A k.1)), (14, .int (gi 0 9)), (13, .ref (al 405)), (12, .ref (al 404)), (9, .int (nI i1)), (8, .int (if (gn 0 5) < (it (fun i a => if mTicks k h (i + 1) g 0 5 < a then mTicks k h (i + 1) g 0 5 else a) i1 9000) then (gn 0 5) else (it (fun i a => if mTicks k h (i + 1) g 0 5 < a then mTicks k h (i + 1) g 0 5 else a) i1 9000))), (7, .ref (al 401)), (6, .int (mLeast k h g n)), (5, .int (mTicks k h n g 0 8 - g 0 8)), (4, .int (g 0 8)), (3, .int (nI n)), (2, .ref (al 400)), (1, .int (nI k.1)), (0, .ref (al 0))] := hl
              refine lv_iload hx hb dL_isPassed_481 (lv_at hl 1 rfl) ?_
              refine lv_aload_n hx hb dL_isPassed_483 rfl (lv_at hl 15 rfl) ?_
              refine lv_bipush (v := 6) hx hb dL_isPassed_484 (by decide) ?_
              refine g_aft_i (g_runV (As := [.int 6]) (rest := [.int (it (fun i a => a + mFallIn gn (gn 0 4 + nI (i + 1))) 8 0)]) hx hb hml hown hts (kX7_many_6 l G al k h c gn (mTicks k h n g) hX) (fcwV 1 hts q562 q528 q529 q148 q499 rfl rfl (by decide +kernel) ⟨(Nat.le_of_ble_eq_true rfl), (Nat.le_of_ble_eq_true rfl)⟩) hE hb0 hP hS (m_recvA hE hP 0 rfl (gX_0 hX) rfl) rfl hl.1 rfl (Nat.le_of_ble_eq_true rfl) dL_isPassed_486 ⟨show 1 + 4 * i1 + 1 + 1 + 1 + 1 + 0 ≤ 21 by omega, show 8 + 28 * i1 + k.1 + k.1 + 2 + 10 + 0 ≤ 148 by omega⟩) hS (fun u H locs hP hS => ?_)
              have hP : mP G al (w2 G al k c gn (mTicks k h n g)) H := hP
              refine f_topi (v := mAll gn) rfl ?_
              refine f_topi (v := mAll gn) rfl ?_
              refine lv_icmp_eq (tgt := 494) hx hb dL_isPassed_489 (by decide) (fun _ => ?_) (fun h => absurd (falls_all hIn) h)
              refine lv_iconst (v := 0) hx hb dL_isPassed_494 (by decide) ?_
              refine lv_istore (lv' := [(17, .int 0), (16, .int (it (fun i a => a + mFallIn gn (gn 0 4 + nI (i + 1))) 8 0)), (15, .int (seenJ k gn A k.1)), (14, .int (gi 0 9)), (13, .ref (al 405)), (12, .ref (al 404)), (9, .int (nI i1)), (8, .int (if (gn 0 5) < (it (fun i a => if mTicks k h (i + 1) g 0 5 < a then mTicks k h (i + 1) g 0 5 else a) i1 9000) then (gn 0 5) else (it (fun i a => if mTicks k h (i + 1) g 0 5 < a then mTicks k h (i + 1) g 0 5 else a) i1 9000))), (7, .ref (al 401)), (6, .int (mLeast k h g n)), (5, .int (mTicks k h n g 0 8 - g 0 8)), (4, .int (g 0 8)), (3, .int (nI n)), (2, .ref (al 400)), (1, .int (nI k.1)), (0, .ref (al 0))]) hx hb dL_isPassed_495 hl (by decide) rfl (fun ls hl => ?_)
              refine g_loop (al := al) (N := 2) (nL := 19) (Wi := fun i6 => w2 G al k c gn (mTicks k h n g)) (Li := fun i6 => [(17, .int (nI i6)), (14, .int (lEn gn (gi 0 9) i6)), (12, .ref (al 404)), (9, .int (nI i1)), (8, .int (if (gn 0 5) < (it (fun i a => if mTicks k h (i + 1) g 0 5 < a then mTicks k h (i + 1) g 0 5 else a) i1 9000) then (gn 0 5) else (it (fun i a => if mTicks k h (i + 1) g 0 5 < a then mTicks k h (i + 1) g 0 5 else a) i1 9000))), (7, .ref (al 401)), (6, .int (mLeast k h g n)), (5, .int (mTicks k h n g 0 8 - g 0 8)), (4, .int (g 0 8)), (3, .int (nI n)), (2, .ref (al 400)), (1, .int (nI k.1)), (0, .ref (al 0))]) hP hS (lv_sub hl [0, 3, 5, 6, 7, 8, 9, 10, 11, 12, 13, 14, 15] rfl) (fun i6 hii6 ihi6 H locs ls hP hS hl => ?_)
              have hP : mP G al (w2 G al k c gn (mTicks k h n g)) H := hP
              have hl : lv_has ls 19 [(17, .int (nI i6)), (14, .int (lEn gn (gi 0 9) i6)), (12, .ref (al 404)), (9, .int (nI i1)), (8, .int (if (gn 0 5) < (it (fun i a => if mTicks k h (i + 1) g 0 5 < a then mTicks k h (i + 1) g 0 5 else a) i1 9000) then (gn 0 5) else (it (fun i a => if mTicks k h (i + 1) g 0 5 < a then mTicks k h (i + 1) g 0 5 else a) i1 9000))), (7, .ref (al 401)), (6, .int (mLeast k h g n)), (5, .int (mTicks k h n g 0 8 - g 0 8)), (4, .int (g 0 8)), (3, .int (nI n)), (2, .ref (al 400)), (1, .int (nI k.1)), (0, .ref (al 0))] := hl
              refine lv_iload hx hb dL_isPassed_497 (lv_at hl 0 rfl) ?_
              refine lv_iconst (v := 2) hx hb dL_isPassed_499 (by decide) ?_
              refine lv_icmp_ge (tgt := 635) hx hb dL_isPassed_500 (by decide) (fun hc_8 => ?_) (fun hc_8 => ?_)
              · skip
                have hgei6 : 2 ≤ i6 := (nI_leI (a := 2) (by omega) (by omega)).mp hc_8
                obtain rfl : 2 = i6 := Nat.le_antisymm hgei6 hii6
                have hP : mP G al (w2 G al k c gn (mTicks k h n g)) H := hP
                have hl : lv_has ls 19 [(17, .int (nI 2)), (14, .int (lEn gn (gi 0 9) 2)), (12, .ref (al 404)), (9, .int (nI i1)), (8, .int (if (gn 0 5) < (it (fun i a => if mTicks k h (i + 1) g 0 5 < a then mTicks k h (i + 1) g 0 5 else a) i1 9000) then (gn 0 5) else (it (fun i a => if mTicks k h (i + 1) g 0 5 < a then mTicks k h (i + 1) g 0 5 else a) i1 9000))), (7, .ref (al 401)), (6, .int (mLeast k h g n)), (5, .int (mTicks k h n g 0 8 - g 0 8)), (4, .int (g 0 8)), (3, .int (nI n)), (2, .ref (al 400)), (1, .int (nI k.1)), (0, .ref (al 0))] := hl
                refine lv_aload_n hx hb dL_isPassed_635 rfl (lv_at hl 12 rfl) ?_
                refine lv_bipush (v := 10) hx hb dL_isPassed_636 (by decide) ?_
                refine g_aft_i (g_runV (As := [.int 10]) (rest := []) hx hb hml hown hts (kX7_many_10 l G al k h c gn (mTicks k h n g) hX) (fcwV 1 hts q562 q528 q529 q148 q499 rfl rfl (by decide +kernel) ⟨(Nat.le_of_ble_eq_true rfl), (Nat.le_of_ble_eq_true rfl)⟩) hE hb0 hP hS (m_recvA hE hP 0 rfl (gX_0 hX) rfl) rfl hl.1 rfl (Nat.le_of_ble_eq_true rfl) dL_isPassed_638 ⟨show 1 + 4 * i1 + 1 + 1 + 1 + 1 + 0 ≤ 21 by omega, show 8 + 28 * i1 + k.1 + k.1 + 2 + 10 + 0 ≤ 148 by omega⟩) hS (fun u H locs hP hS => ?_)
                have hP : mP G al (w2 G al k c gn (mTicks k h n g)) H := hP
                refine f_topi (v := gn 0 9) rfl ?_
                refine f_topi (v := gn 0 9) rfl ?_
                refine lv_iload hx hb dL_isPassed_641 (lv_at hl 1 rfl) ?_
                refine lv_icmp_ge (tgt := 648) hx hb dL_isPassed_643 (by decide) (fun _ => ?_) (fun h => absurd (Int32.not_lt.mp (en_I hIi hIn hTF)) h)
                refine lv_iinc (v := nI (i1 + 1)) (lv' := [(9, .int (nI (i1 + 1))), (17, .int (nI 2)), (14, .int (lEn gn (gi 0 9) 2)), (12, .ref (al 404)), (8, .int (if (gn 0 5) < (it (fun i a => if mTicks k h (i + 1) g 0 5 < a then mTicks k h (i + 1) g 0 5 else a) i1 9000) then (gn 0 5) else (it (fun i a => if mTicks k h (i + 1) g 0 5 < a then mTicks k h (i + 1) g 0 5 else a) i1 9000))), (7, .ref (al 401)), (6, .int (mLeast k h g n)), (5, .int (mTicks k h n g 0 8 - g 0 8)), (4, .int (g 0 8)), (3, .int (nI n)), (2, .ref (al 400)), (1, .int (nI k.1)), (0, .ref (al 0))]) hx hb dL_isPassed_648 hl (k := 3) rfl (f_inc _) (by decide) rfl (fun ls hl => ?_)
                refine lv_goto (tgt := 64) hx hb dL_isPassed_651 (by decide) ?_
                have hP : mP G al (w2 G al k c (mTicks k h (i1 + 1) g) (mTicks k h n g)) H := (by rw [hgn, hgi] at hP; exact hP)
                have hl9 := lv_sub (l' := [(9, .int (nI (i1 + 1))), (8, .int (if (gn 0 5) < (it (fun i a => if mTicks k h (i + 1) g 0 5 < a then mTicks k h (i + 1) g 0 5 else a) i1 9000) then (gn 0 5) else (it (fun i a => if mTicks k h (i + 1) g 0 5 < a then mTicks k h (i + 1) g 0 5 else a) i1 9000))), (7, .ref (al 401)), (6, .int (mLeast k h g n)), (5, .int (mTicks k h n g 0 8 - g 0 8)), (4, .int (g 0 8)), (3, .int (nI n)), (2, .ref (al 400)), (1, .int (nI k.1)), (0, .ref (al 0))]) hl [0, 4, 5, 6, 7, 8, 9, 10, 11, 12] rfl
                rw [show ([(9, .int (nI (i1 + 1))), (8, .int (if (gn 0 5) < (it (fun i a => if mTicks k h (i + 1) g 0 5 < a then mTicks k h (i + 1) g 0 5 else a) i1 9000) then (gn 0 5) else (it (fun i a => if mTicks k h (i + 1) g 0 5 < a then mTicks k h (i + 1) g 0 5 else a) i1 9000))), (7, .ref (al 401)), (6, .int (mLeast k h g n)), (5, .int (mTicks k h n g 0 8 - g 0 8)), (4, .int (g 0 8)), (3, .int (nI n)), (2, .ref (al 400)), (1, .int (nI k.1)), (0, .ref (al 0))] : List (Nat × Value)) = [(9, .int (nI (i1 + 1))), (8, .int (it (fun i a => if mTicks k h (i + 1) g 0 5 < a then mTicks k h (i + 1) g 0 5 else a) (i1 + 1) 9000)), (7, .ref (al 401)), (6, .int (mLeast k h g n)), (5, .int (mTicks k h n g 0 8 - g 0 8)), (4, .int (g 0 8)), (3, .int (nI n)), (2, .ref (al 400)), (1, .int (nI k.1)), (0, .ref (al 0))] from (by rw [hgn, hgi]; rfl)] at hl9
                refine W.widen (k := 1 + 4 * (i1 + 1)) (n := 8 + 28 * (i1 + 1)) (by omega) (by omega) ?_
                exact ihi1 hlti1 (al, c) ⟨hX, hc400, hc401, hal⟩ _ _ _ hP hS hl9
              · skip
                have hlti6 : i6 < 2 := Nat.lt_of_not_le (fun q => hc_8 (nI_le (a := 2) q (by omega)))
                have hpI := pump_I hIi hIn hTF hlti6
                refine lv_aload_n hx hb dL_isPassed_503 rfl (lv_at hl 12 rfl) ?_
                refine lv_iload hx hb dL_isPassed_504 (lv_at hl 0 rfl) ?_
                refine lv_iconst (v := 4) hx hb dL_isPassed_506 (by decide) ?_
                refine g_aft_i (g_runV (As := [.int (nI i6), .int 4]) (rest := []) hx hb hml hown hts (kX7_ofPump_4 l G al k h c gn (mTicks k h n g) i6 hX hlti6) (fcwV 2 hts q563 q531 q532 q148 q466 rfl rfl (by decide +kernel) ⟨(Nat.le_of_ble_eq_true rfl), (Nat.le_of_ble_eq_true rfl)⟩) hE hb0 hP hS (m_recvA hE hP 0 rfl (gX_0 hX) rfl) rfl hl.1 rfl (Nat.le_of_ble_eq_true rfl) dL_isPassed_507 ⟨show 1 + 4 * i1 + 1 + 1 + 1 + 1 + 0 ≤ 21 by omega, show 8 + 28 * i1 + k.1 + k.1 + 2 + 10 + 0 ≤ 148 by omega⟩) hS (fun u H locs hP hS => ?_)
                have hP : mP G al (w2 G al k c gn (mTicks k h n g)) H := hP
                refine f_topi (v := mOfP k gn i6 4) rfl ?_
                refine lv_iconst (v := 1) hx hb dL_isPassed_510 (by decide) ?_
                refine lv_icmp_ne (tgt := 518) hx hb dL_isPassed_511 (by decide) (fun hc_9 => ?_) (fun hc_9 => ?_)
                · skip
                  have htr := bz_i1 hc_9
                  refine lv_iconst (v := 0) hx hb dL_isPassed_518 (by decide) ?_
                  refine lv_istore (lv' := [(18, .int 0), (17, .int (nI i6)), (14, .int (lEn gn (gi 0 9) i6)), (12, .ref (al 404)), (9, .int (nI i1)), (8, .int (if (gn 0 5) < (it (fun i a => if mTicks k h (i + 1) g 0 5 < a then mTicks k h (i + 1) g 0 5 else a) i1 9000) then (gn 0 5) else (it (fun i a => if mTicks k h (i + 1) g 0 5 < a then mTicks k h (i + 1) g 0 5 else a) i1 9000))), (7, .ref (al 401)), (6, .int (mLeast k h g n)), (5, .int (mTicks k h n g 0 8 - g 0 8)), (4, .int (g 0 8)), (3, .int (nI n)), (2, .ref (al 400)), (1, .int (nI k.1)), (0, .ref (al 0))]) hx hb dL_isPassed_519 hl (by decide) rfl (fun ls hl => ?_)
                  refine lv_iload hx hb dL_isPassed_521 (lv_at hl 0 rfl) ?_
                  refine lv_if_eq (tgt := 552) hx hb dL_isPassed_523 (by decide) (fun _ => ?_) (fun h => absurd (by decide) h)
                  refine lv_iload hx hb dL_isPassed_552 (lv_at hl 0 rfl) ?_
                  refine lv_if_ne (tgt := 577) hx hb dL_isPassed_554 (by decide) (fun h => absurd (by decide) h) (fun _ => ?_)
                  refine lv_aload_n hx hb dL_isPassed_557 rfl (lv_at hl 13 rfl) ?_
                  refine lv_iload hx hb dL_isPassed_558 (lv_at hl 1 rfl) ?_
                  refine lv_iconst (v := 2) hx hb dL_isPassed_560 (by decide) ?_
                  refine g_aft_i (g_runV (As := [.int (nI i6), .int 2]) (rest := []) hx hb hml hown hts (kX7_ofPump_2 l G al k h c gn (mTicks k h n g) i6 hX hlti6) (fcwV 2 hts q563 q531 q532 q148 q466 rfl rfl (by decide +kernel) ⟨(Nat.le_of_ble_eq_true rfl), (Nat.le_of_ble_eq_true rfl)⟩) hE hb0 hP hS (m_recvA hE hP 0 rfl (gX_0 hX) rfl) rfl hl.1 rfl (Nat.le_of_ble_eq_true rfl) dL_isPassed_561 ⟨show 1 + 4 * i1 + 1 + 1 + 1 + 1 + 0 ≤ 21 by omega, show 8 + 28 * i1 + k.1 + k.1 + 2 + 10 + 0 ≤ 148 by omega⟩) hS (fun u H locs hP hS => ?_)
                  have hP : mP G al (w2 G al k c gn (mTicks k h n g)) H := hP
                  refine f_topi (v := gn (1 + i6) 3) rfl ?_
                  refine f_topi (v := gn (1 + i6) 3) rfl ?_
                  refine lv_aload hx hb dL_isPassed_564 (lv_at hl 3 rfl) ?_
                  refine lv_iload hx hb dL_isPassed_566 (lv_at hl 1 rfl) ?_
                  refine m_iald hx hb hE hP 404 rfl ((w2_hi hJ (by decide)).trans hc404) (nI_in (by omega) (by omega)) dL_isPassed_568 ?_
                  refine f_topi (v := gi (1 + i6) 3) ((congrArg (arS (fun z => gi (1 + z) 3) 2) (nI_clamp (by omega))).trans (ar_r _ (by omega))) ?_
                  refine lv_isub hx hb dL_isPassed_569 ?_
                  refine va_mabs hx hb (hml.trans hl.1.symm) hown (hts _ q566) (hts _ q567) (hts _ q87) (hts _ q568) (Nat.le_of_ble_eq_true rfl) (Nat.le_of_ble_eq_true rfl) (show 1 + 4 * i1 + 1 + 1 + 1 + 1 ≤ 21 by omega) (show 8 + 28 * i1 + k.1 + k.1 + 2 + 10 ≤ 148 by omega) dL_isPassed_570 ?_
                  refine lv_iconst (v := 1) hx hb dL_isPassed_573 (by decide) ?_
                  refine lv_icmp_gt (tgt := 598) hx hb dL_isPassed_574 (by decide) (fun h => absurd h (hpI.2.1 htr)) (fun _ => ?_)
                  refine lv_aload_n hx hb dL_isPassed_577 rfl (lv_at hl 13 rfl) ?_
                  refine lv_iconst (v := 5) hx hb dL_isPassed_578 (by decide) ?_
                  refine g_aft_i (g_runV (As := [.int 5]) (rest := []) hx hb hml hown hts (kX7_many_5 l G al k h c gn (mTicks k h n g) hX) (fcwV 1 hts q562 q528 q529 q148 q499 rfl rfl (by decide +kernel) ⟨(Nat.le_of_ble_eq_true rfl), (Nat.le_of_ble_eq_true rfl)⟩) hE hb0 hP hS (m_recvA hE hP 0 rfl (gX_0 hX) rfl) rfl hl.1 rfl (Nat.le_of_ble_eq_true rfl) dL_isPassed_579 ⟨show 1 + 4 * i1 + 1 + 1 + 1 + 1 + 0 ≤ 21 by omega, show 8 + 28 * i1 + k.1 + k.1 + 2 + 10 + 0 ≤ 148 by omega⟩) hS (fun u H locs hP hS => ?_)
                  have hP : mP G al (w2 G al k c gn (mTicks k h n g)) H := hP
                  refine f_topi (v := gn 0 5) rfl ?_
                  refine f_topi (v := gn 0 5) rfl ?_
                  refine lv_sipush (v := 300) hx hb dL_isPassed_582 (by decide) ?_
                  refine lv_icmp_ge (tgt := 600) hx hb dL_isPassed_585 (by decide) (fun hc_10 => ?_) (fun hc_10 => ?_)
                  · skip
                    refine lv_iload hx hb dL_isPassed_600 (lv_at hl 2 rfl) ?_
                    refine lv_iload hx hb dL_isPassed_602 (lv_at hl 0 rfl) ?_
                    refine lv_if_eq (tgt := 611) hx hb dL_isPassed_604 (by decide) (fun _ => ?_) (fun h => absurd (by decide) h)
                    refine lv_aload_n hx hb dL_isPassed_611 rfl (lv_at hl 13 rfl) ?_
                    refine lv_iload hx hb dL_isPassed_612 (lv_at hl 1 rfl) ?_
                    refine lv_iconst (v := 2) hx hb dL_isPassed_614 (by decide) ?_
                    refine g_aft_i (g_runV (As := [.int (nI i6), .int 2]) (rest := [.int (lEn gn (gi 0 9) i6)]) hx hb hml hown hts (kX7_ofPump_2 l G al k h c gn (mTicks k h n g) i6 hX hlti6) (fcwV 2 hts q563 q531 q532 q148 q466 rfl rfl (by decide +kernel) ⟨(Nat.le_of_ble_eq_true rfl), (Nat.le_of_ble_eq_true rfl)⟩) hE hb0 hP hS (m_recvA hE hP 0 rfl (gX_0 hX) rfl) rfl hl.1 rfl (Nat.le_of_ble_eq_true rfl) dL_isPassed_615 ⟨show 1 + 4 * i1 + 1 + 1 + 1 + 1 + 0 ≤ 21 by omega, show 8 + 28 * i1 + k.1 + k.1 + 2 + 10 + 0 ≤ 148 by omega⟩) hS (fun u H locs hP hS => ?_)
                    have hP : mP G al (w2 G al k c gn (mTicks k h n g)) H := hP
                    refine f_topi (v := gn (1 + i6) 3) rfl ?_
                    refine f_topi (v := gn (1 + i6) 3) rfl ?_
                    refine lv_aload_n hx hb dL_isPassed_618 rfl (lv_at hl 13 rfl) ?_
                    refine lv_iload hx hb dL_isPassed_619 (lv_at hl 1 rfl) ?_
                    refine lv_iconst (v := 2) hx hb dL_isPassed_621 (by decide) ?_
                    refine g_aft_i (g_runV (As := [.int (nI i6), .int 2]) (rest := [.int (gn (1 + i6) 3), .int (lEn gn (gi 0 9) i6)]) hx hb hml hown hts (kX7_ofPump_2 l G al k h c gn (mTicks k h n g) i6 hX hlti6) (fcwV 2 hts q563 q531 q532 q148 q466 rfl rfl (by decide +kernel) ⟨(Nat.le_of_ble_eq_true rfl), (Nat.le_of_ble_eq_true rfl)⟩) hE hb0 hP hS (m_recvA hE hP 0 rfl (gX_0 hX) rfl) rfl hl.1 rfl (Nat.le_of_ble_eq_true rfl) dL_isPassed_622 ⟨show 1 + 4 * i1 + 1 + 1 + 1 + 1 + 0 ≤ 21 by omega, show 8 + 28 * i1 + k.1 + k.1 + 2 + 10 + 0 ≤ 148 by omega⟩) hS (fun u H locs hP hS => ?_)
                    have hP : mP G al (w2 G al k c gn (mTicks k h n g)) H := hP
                    refine f_topi (v := gn (1 + i6) 3) rfl ?_
                    refine f_topi (v := gn (1 + i6) 3) rfl ?_
                    refine lv_imul hx hb dL_isPassed_625 ?_
                    refine lv_iadd hx hb dL_isPassed_626 ?_
                    refine lv_istore (lv' := [(14, .int ((lEn gn (gi 0 9) i6) + ((gn (1 + i6) 3) * (gn (1 + i6) 3)))), (18, .int 0), (17, .int (nI i6)), (12, .ref (al 404)), (9, .int (nI i1)), (8, .int (if (gn 0 5) < (it (fun i a => if mTicks k h (i + 1) g 0 5 < a then mTicks k h (i + 1) g 0 5 else a) i1 9000) then (gn 0 5) else (it (fun i a => if mTicks k h (i + 1) g 0 5 < a then mTicks k h (i + 1) g 0 5 else a) i1 9000))), (7, .ref (al 401)), (6, .int (mLeast k h g n)), (5, .int (mTicks k h n g 0 8 - g 0 8)), (4, .int (g 0 8)), (3, .int (nI n)), (2, .ref (al 400)), (1, .int (nI k.1)), (0, .ref (al 0))]) hx hb dL_isPassed_627 hl (by decide) rfl (fun ls hl => ?_)
                    refine lv_iinc (v := nI (i6 + 1)) (lv' := [(17, .int (nI (i6 + 1))), (14, .int ((lEn gn (gi 0 9) i6) + ((gn (1 + i6) 3) * (gn (1 + i6) 3)))), (18, .int 0), (12, .ref (al 404)), (9, .int (nI i1)), (8, .int (if (gn 0 5) < (it (fun i a => if mTicks k h (i + 1) g 0 5 < a then mTicks k h (i + 1) g 0 5 else a) i1 9000) then (gn 0 5) else (it (fun i a => if mTicks k h (i + 1) g 0 5 < a then mTicks k h (i + 1) g 0 5 else a) i1 9000))), (7, .ref (al 401)), (6, .int (mLeast k h g n)), (5, .int (mTicks k h n g 0 8 - g 0 8)), (4, .int (g 0 8)), (3, .int (nI n)), (2, .ref (al 400)), (1, .int (nI k.1)), (0, .ref (al 0))]) hx hb dL_isPassed_629 hl (k := 2) rfl (f_inc _) (by decide) rfl (fun ls hl => ?_)
                    refine lv_goto (tgt := 497) hx hb dL_isPassed_632 (by decide) ?_
                    have hl9 := lv_sub (l' := [(17, .int (nI (i6 + 1))), (14, .int ((lEn gn (gi 0 9) i6) + ((gn (1 + i6) 3) * (gn (1 + i6) 3)))), (12, .ref (al 404)), (9, .int (nI i1)), (8, .int (if (gn 0 5) < (it (fun i a => if mTicks k h (i + 1) g 0 5 < a then mTicks k h (i + 1) g 0 5 else a) i1 9000) then (gn 0 5) else (it (fun i a => if mTicks k h (i + 1) g 0 5 < a then mTicks k h (i + 1) g 0 5 else a) i1 9000))), (7, .ref (al 401)), (6, .int (mLeast k h g n)), (5, .int (mTicks k h n g 0 8 - g 0 8)), (4, .int (g 0 8)), (3, .int (nI n)), (2, .ref (al 400)), (1, .int (nI k.1)), (0, .ref (al 0))]) hl [0, 1, 3, 4, 5, 6, 7, 8, 9, 10, 11, 12, 13] rfl
                    rw [show ([(17, .int (nI (i6 + 1))), (14, .int ((lEn gn (gi 0 9) i6) + ((gn (1 + i6) 3) * (gn (1 + i6) 3)))), (12, .ref (al 404)), (9, .int (nI i1)), (8, .int (if (gn 0 5) < (it (fun i a => if mTicks k h (i + 1) g 0 5 < a then mTicks k h (i + 1) g 0 5 else a) i1 9000) then (gn 0 5) else (it (fun i a => if mTicks k h (i + 1) g 0 5 < a then mTicks k h (i + 1) g 0 5 else a) i1 9000))), (7, .ref (al 401)), (6, .int (mLeast k h g n)), (5, .int (mTicks k h n g 0 8 - g 0 8)), (4, .int (g 0 8)), (3, .int (nI n)), (2, .ref (al 400)), (1, .int (nI k.1)), (0, .ref (al 0))] : List (Nat × Value)) = [(17, .int (nI (i6 + 1))), (14, .int (lEn gn (gi 0 9) (i6 + 1))), (12, .ref (al 404)), (9, .int (nI i1)), (8, .int (if (gn 0 5) < (it (fun i a => if mTicks k h (i + 1) g 0 5 < a then mTicks k h (i + 1) g 0 5 else a) i1 9000) then (gn 0 5) else (it (fun i a => if mTicks k h (i + 1) g 0 5 < a then mTicks k h (i + 1) g 0 5 else a) i1 9000))), (7, .ref (al 401)), (6, .int (mLeast k h g n)), (5, .int (mTicks k h n g 0 8 - g 0 8)), (4, .int (g 0 8)), (3, .int (nI n)), (2, .ref (al 400)), (1, .int (nI k.1)), (0, .ref (al 0))] from (by unfold lEn; rw [it_s, if_pos htr])] at hl9
                    exact ihi6 hlti6 _ _ _ hP hS hl9
                  · skip
                    refine lv_aload_n hx hb dL_isPassed_588 rfl (lv_at hl 13 rfl) ?_
                    refine lv_iload hx hb dL_isPassed_589 (lv_at hl 1 rfl) ?_
                    refine lv_iconst (v := 2) hx hb dL_isPassed_591 (by decide) ?_
                    refine g_aft_i (g_runV (As := [.int (nI i6), .int 2]) (rest := []) hx hb hml hown hts (kX7_ofPump_2 l G al k h c gn (mTicks k h n g) i6 hX hlti6) (fcwV 2 hts q563 q531 q532 q148 q466 rfl rfl (by decide +kernel) ⟨(Nat.le_of_ble_eq_true rfl), (Nat.le_of_ble_eq_true rfl)⟩) hE hb0 hP hS (m_recvA hE hP 0 rfl (gX_0 hX) rfl) rfl hl.1 rfl (Nat.le_of_ble_eq_true rfl) dL_isPassed_592 ⟨show 1 + 4 * i1 + 1 + 1 + 1 + 1 + 0 ≤ 21 by omega, show 8 + 28 * i1 + k.1 + k.1 + 2 + 10 + 0 ≤ 148 by omega⟩) hS (fun u H locs hP hS => ?_)
                    have hP : mP G al (w2 G al k c gn (mTicks k h n g)) H := hP
                    refine f_topi (v := gn (1 + i6) 3) rfl ?_
                    refine f_topi (v := gn (1 + i6) 3) rfl ?_
                    refine lv_if_le (tgt := 600) hx hb dL_isPassed_595 (by decide) (fun _ => ?_) (fun h => absurd (hpI.2.2 hc_10) h)
                    refine lv_iload hx hb dL_isPassed_600 (lv_at hl 2 rfl) ?_
                    refine lv_iload hx hb dL_isPassed_602 (lv_at hl 0 rfl) ?_
                    refine lv_if_eq (tgt := 611) hx hb dL_isPassed_604 (by decide) (fun _ => ?_) (fun h => absurd (by decide) h)
                    refine lv_aload_n hx hb dL_isPassed_611 rfl (lv_at hl 13 rfl) ?_
                    refine lv_iload hx hb dL_isPassed_612 (lv_at hl 1 rfl) ?_
                    refine lv_iconst (v := 2) hx hb dL_isPassed_614 (by decide) ?_
                    refine g_aft_i (g_runV (As := [.int (nI i6), .int 2]) (rest := [.int (lEn gn (gi 0 9) i6)]) hx hb hml hown hts (kX7_ofPump_2 l G al k h c gn (mTicks k h n g) i6 hX hlti6) (fcwV 2 hts q563 q531 q532 q148 q466 rfl rfl (by decide +kernel) ⟨(Nat.le_of_ble_eq_true rfl), (Nat.le_of_ble_eq_true rfl)⟩) hE hb0 hP hS (m_recvA hE hP 0 rfl (gX_0 hX) rfl) rfl hl.1 rfl (Nat.le_of_ble_eq_true rfl) dL_isPassed_615 ⟨show 1 + 4 * i1 + 1 + 1 + 1 + 1 + 0 ≤ 21 by omega, show 8 + 28 * i1 + k.1 + k.1 + 2 + 10 + 0 ≤ 148 by omega⟩) hS (fun u H locs hP hS => ?_)
                    have hP : mP G al (w2 G al k c gn (mTicks k h n g)) H := hP
                    refine f_topi (v := gn (1 + i6) 3) rfl ?_
                    refine f_topi (v := gn (1 + i6) 3) rfl ?_
                    refine lv_aload_n hx hb dL_isPassed_618 rfl (lv_at hl 13 rfl) ?_
                    refine lv_iload hx hb dL_isPassed_619 (lv_at hl 1 rfl) ?_
                    refine lv_iconst (v := 2) hx hb dL_isPassed_621 (by decide) ?_
                    refine g_aft_i (g_runV (As := [.int (nI i6), .int 2]) (rest := [.int (gn (1 + i6) 3), .int (lEn gn (gi 0 9) i6)]) hx hb hml hown hts (kX7_ofPump_2 l G al k h c gn (mTicks k h n g) i6 hX hlti6) (fcwV 2 hts q563 q531 q532 q148 q466 rfl rfl (by decide +kernel) ⟨(Nat.le_of_ble_eq_true rfl), (Nat.le_of_ble_eq_true rfl)⟩) hE hb0 hP hS (m_recvA hE hP 0 rfl (gX_0 hX) rfl) rfl hl.1 rfl (Nat.le_of_ble_eq_true rfl) dL_isPassed_622 ⟨show 1 + 4 * i1 + 1 + 1 + 1 + 1 + 0 ≤ 21 by omega, show 8 + 28 * i1 + k.1 + k.1 + 2 + 10 + 0 ≤ 148 by omega⟩) hS (fun u H locs hP hS => ?_)
                    have hP : mP G al (w2 G al k c gn (mTicks k h n g)) H := hP
                    refine f_topi (v := gn (1 + i6) 3) rfl ?_
                    refine f_topi (v := gn (1 + i6) 3) rfl ?_
                    refine lv_imul hx hb dL_isPassed_625 ?_
                    refine lv_iadd hx hb dL_isPassed_626 ?_
                    refine lv_istore (lv' := [(14, .int ((lEn gn (gi 0 9) i6) + ((gn (1 + i6) 3) * (gn (1 + i6) 3)))), (18, .int 0), (17, .int (nI i6)), (12, .ref (al 404)), (9, .int (nI i1)), (8, .int (if (gn 0 5) < (it (fun i a => if mTicks k h (i + 1) g 0 5 < a then mTicks k h (i + 1) g 0 5 else a) i1 9000) then (gn 0 5) else (it (fun i a => if mTicks k h (i + 1) g 0 5 < a then mTicks k h (i + 1) g 0 5 else a) i1 9000))), (7, .ref (al 401)), (6, .int (mLeast k h g n)), (5, .int (mTicks k h n g 0 8 - g 0 8)), (4, .int (g 0 8)), (3, .int (nI n)), (2, .ref (al 400)), (1, .int (nI k.1)), (0, .ref (al 0))]) hx hb dL_isPassed_627 hl (by decide) rfl (fun ls hl => ?_)
                    refine lv_iinc (v := nI (i6 + 1)) (lv' := [(17, .int (nI (i6 + 1))), (14, .int ((lEn gn (gi 0 9) i6) + ((gn (1 + i6) 3) * (gn (1 + i6) 3)))), (18, .int 0), (12, .ref (al 404)), (9, .int (nI i1)), (8, .int (if (gn 0 5) < (it (fun i a => if mTicks k h (i + 1) g 0 5 < a then mTicks k h (i + 1) g 0 5 else a) i1 9000) then (gn 0 5) else (it (fun i a => if mTicks k h (i + 1) g 0 5 < a then mTicks k h (i + 1) g 0 5 else a) i1 9000))), (7, .ref (al 401)), (6, .int (mLeast k h g n)), (5, .int (mTicks k h n g 0 8 - g 0 8)), (4, .int (g 0 8)), (3, .int (nI n)), (2, .ref (al 400)), (1, .int (nI k.1)), (0, .ref (al 0))]) hx hb dL_isPassed_629 hl (k := 2) rfl (f_inc _) (by decide) rfl (fun ls hl => ?_)
                    refine lv_goto (tgt := 497) hx hb dL_isPassed_632 (by decide) ?_
                    have hl9 := lv_sub (l' := [(17, .int (nI (i6 + 1))), (14, .int ((lEn gn (gi 0 9) i6) + ((gn (1 + i6) 3) * (gn (1 + i6) 3)))), (12, .ref (al 404)), (9, .int (nI i1)), (8, .int (if (gn 0 5) < (it (fun i a => if mTicks k h (i + 1) g 0 5 < a then mTicks k h (i + 1) g 0 5 else a) i1 9000) then (gn 0 5) else (it (fun i a => if mTicks k h (i + 1) g 0 5 < a then mTicks k h (i + 1) g 0 5 else a) i1 9000))), (7, .ref (al 401)), (6, .int (mLeast k h g n)), (5, .int (mTicks k h n g 0 8 - g 0 8)), (4, .int (g 0 8)), (3, .int (nI n)), (2, .ref (al 400)), (1, .int (nI k.1)), (0, .ref (al 0))]) hl [0, 1, 3, 4, 5, 6, 7, 8, 9, 10, 11, 12, 13] rfl
                    rw [show ([(17, .int (nI (i6 + 1))), (14, .int ((lEn gn (gi 0 9) i6) + ((gn (1 + i6) 3) * (gn (1 + i6) 3)))), (12, .ref (al 404)), (9, .int (nI i1)), (8, .int (if (gn 0 5) < (it (fun i a => if mTicks k h (i + 1) g 0 5 < a then mTicks k h (i + 1) g 0 5 else a) i1 9000) then (gn 0 5) else (it (fun i a => if mTicks k h (i + 1) g 0 5 < a then mTicks k h (i + 1) g 0 5 else a) i1 9000))), (7, .ref (al 401)), (6, .int (mLeast k h g n)), (5, .int (mTicks k h n g 0 8 - g 0 8)), (4, .int (g 0 8)), (3, .int (nI n)), (2, .ref (al 400)), (1, .int (nI k.1)), (0, .ref (al 0))] : List (Nat × Value)) = [(17, .int (nI (i6 + 1))), (14, .int (lEn gn (gi 0 9) (i6 + 1))), (12, .ref (al 404)), (9, .int (nI i1)), (8, .int (if (gn 0 5) < (it (fun i a => if mTicks k h (i + 1) g 0 5 < a then mTicks k h (i + 1) g 0 5 else a) i1 9000) then (gn 0 5) else (it (fun i a => if mTicks k h (i + 1) g 0 5 < a then mTicks k h (i + 1) g 0 5 else a) i1 9000))), (7, .ref (al 401)), (6, .int (mLeast k h g n)), (5, .int (mTicks k h n g 0 8 - g 0 8)), (4, .int (g 0 8)), (3, .int (nI n)), (2, .ref (al 400)), (1, .int (nI k.1)), (0, .ref (al 0))] from (by unfold lEn; rw [it_s, if_pos htr])] at hl9
                    exact ihi6 hlti6 _ _ _ hP hS hl9
                · skip
                  have htr := bz_i2 hc_9
                  refine lv_iconst (v := 1) hx hb dL_isPassed_514 (by decide) ?_
                  refine lv_goto (tgt := 519) hx hb dL_isPassed_515 (by decide) ?_
                  refine lv_istore (lv' := [(18, .int 1), (17, .int (nI i6)), (14, .int (lEn gn (gi 0 9) i6)), (12, .ref (al 404)), (9, .int (nI i1)), (8, .int (if (gn 0 5) < (it (fun i a => if mTicks k h (i + 1) g 0 5 < a then mTicks k h (i + 1) g 0 5 else a) i1 9000) then (gn 0 5) else (it (fun i a => if mTicks k h (i + 1) g 0 5 < a then mTicks k h (i + 1) g 0 5 else a) i1 9000))), (7, .ref (al 401)), (6, .int (mLeast k h g n)), (5, .int (mTicks k h n g 0 8 - g 0 8)), (4, .int (g 0 8)), (3, .int (nI n)), (2, .ref (al 400)), (1, .int (nI k.1)), (0, .ref (al 0))]) hx hb dL_isPassed_519 hl (by decide) rfl (fun ls hl => ?_)
                  refine lv_iload hx hb dL_isPassed_521 (lv_at hl 0 rfl) ?_
                  refine lv_if_eq (tgt := 552) hx hb dL_isPassed_523 (by decide) (fun h => absurd h (by decide)) (fun _ => ?_)
                  refine lv_aload_n hx hb dL_isPassed_526 rfl (lv_at hl 13 rfl) ?_
                  refine lv_iload hx hb dL_isPassed_527 (lv_at hl 1 rfl) ?_
                  refine lv_iconst (v := 1) hx hb dL_isPassed_529 (by decide) ?_
                  refine g_aft_i (g_runV (As := [.int (nI i6), .int 1]) (rest := []) hx hb hml hown hts (kX7_ofPump_1 l G al k h c gn (mTicks k h n g) i6 hX hlti6) (fcwV 2 hts q563 q531 q532 q148 q466 rfl rfl (by decide +kernel) ⟨(Nat.le_of_ble_eq_true rfl), (Nat.le_of_ble_eq_true rfl)⟩) hE hb0 hP hS (m_recvA hE hP 0 rfl (gX_0 hX) rfl) rfl hl.1 rfl (Nat.le_of_ble_eq_true rfl) dL_isPassed_530 ⟨show 1 + 4 * i1 + 1 + 1 + 1 + 1 + 0 ≤ 21 by omega, show 8 + 28 * i1 + k.1 + k.1 + 2 + 10 + 0 ≤ 148 by omega⟩) hS (fun u H locs hP hS => ?_)
                  have hP : mP G al (w2 G al k c gn (mTicks k h n g)) H := hP
                  refine f_topi (v := gn (1 + i6) 2) rfl ?_
                  refine f_topi (v := gn (1 + i6) 2) rfl ?_
                  refine lv_aload_n hx hb dL_isPassed_533 rfl (lv_at hl 13 rfl) ?_
                  refine lv_iload hx hb dL_isPassed_534 (lv_at hl 1 rfl) ?_
                  refine lv_iconst (v := 2) hx hb dL_isPassed_536 (by decide) ?_
                  refine g_aft_i (g_runV (As := [.int (nI i6), .int 2]) (rest := [.int (gn (1 + i6) 2)]) hx hb hml hown hts (kX7_ofPump_2 l G al k h c gn (mTicks k h n g) i6 hX hlti6) (fcwV 2 hts q563 q531 q532 q148 q466 rfl rfl (by decide +kernel) ⟨(Nat.le_of_ble_eq_true rfl), (Nat.le_of_ble_eq_true rfl)⟩) hE hb0 hP hS (m_recvA hE hP 0 rfl (gX_0 hX) rfl) rfl hl.1 rfl (Nat.le_of_ble_eq_true rfl) dL_isPassed_537 ⟨show 1 + 4 * i1 + 1 + 1 + 1 + 1 + 0 ≤ 21 by omega, show 8 + 28 * i1 + k.1 + k.1 + 2 + 10 + 0 ≤ 148 by omega⟩) hS (fun u H locs hP hS => ?_)
                  have hP : mP G al (w2 G al k c gn (mTicks k h n g)) H := hP
                  refine f_topi (v := gn (1 + i6) 3) rfl ?_
                  refine f_topi (v := gn (1 + i6) 3) rfl ?_
                  refine lv_iadd hx hb dL_isPassed_540 ?_
                  refine lv_aload_n hx hb dL_isPassed_541 rfl (lv_at hl 13 rfl) ?_
                  refine lv_iload hx hb dL_isPassed_542 (lv_at hl 1 rfl) ?_
                  refine lv_iconst (v := 3) hx hb dL_isPassed_544 (by decide) ?_
                  refine g_aft_i (g_runV (As := [.int (nI i6), .int 3]) (rest := [.int ((gn (1 + i6) 2) + (gn (1 + i6) 3))]) hx hb hml hown hts (kX7_ofPump_3 l G al k h c gn (mTicks k h n g) i6 hX hlti6) (fcwV 2 hts q563 q531 q532 q148 q466 rfl rfl (by decide +kernel) ⟨(Nat.le_of_ble_eq_true rfl), (Nat.le_of_ble_eq_true rfl)⟩) hE hb0 hP hS (m_recvA hE hP 0 rfl (gX_0 hX) rfl) rfl hl.1 rfl (Nat.le_of_ble_eq_true rfl) dL_isPassed_545 ⟨show 1 + 4 * i1 + 1 + 1 + 1 + 1 + 0 ≤ 21 by omega, show 8 + 28 * i1 + k.1 + k.1 + 2 + 10 + 0 ≤ 148 by omega⟩) hS (fun u H locs hP hS => ?_)
                  have hP : mP G al (w2 G al k c gn (mTicks k h n g)) H := hP
                  refine f_topi (v := mPress k gn i6) rfl ?_
                  refine f_topi (v := mPress k gn i6) rfl ?_
                  refine lv_iadd hx hb dL_isPassed_548 ?_
                  refine lv_if_gt (tgt := 598) hx hb dL_isPassed_549 (by decide) (fun h => absurd h (hpI.1 htr)) (fun _ => ?_)
                  refine lv_iload hx hb dL_isPassed_552 (lv_at hl 0 rfl) ?_
                  refine lv_if_ne (tgt := 577) hx hb dL_isPassed_554 (by decide) (fun _ => ?_) (fun h => absurd h (by decide))
                  refine lv_aload_n hx hb dL_isPassed_577 rfl (lv_at hl 13 rfl) ?_
                  refine lv_iconst (v := 5) hx hb dL_isPassed_578 (by decide) ?_
                  refine g_aft_i (g_runV (As := [.int 5]) (rest := []) hx hb hml hown hts (kX7_many_5 l G al k h c gn (mTicks k h n g) hX) (fcwV 1 hts q562 q528 q529 q148 q499 rfl rfl (by decide +kernel) ⟨(Nat.le_of_ble_eq_true rfl), (Nat.le_of_ble_eq_true rfl)⟩) hE hb0 hP hS (m_recvA hE hP 0 rfl (gX_0 hX) rfl) rfl hl.1 rfl (Nat.le_of_ble_eq_true rfl) dL_isPassed_579 ⟨show 1 + 4 * i1 + 1 + 1 + 1 + 1 + 0 ≤ 21 by omega, show 8 + 28 * i1 + k.1 + k.1 + 2 + 10 + 0 ≤ 148 by omega⟩) hS (fun u H locs hP hS => ?_)
                  have hP : mP G al (w2 G al k c gn (mTicks k h n g)) H := hP
                  refine f_topi (v := gn 0 5) rfl ?_
                  refine f_topi (v := gn 0 5) rfl ?_
                  refine lv_sipush (v := 300) hx hb dL_isPassed_582 (by decide) ?_
                  refine lv_icmp_ge (tgt := 600) hx hb dL_isPassed_585 (by decide) (fun hc_11 => ?_) (fun hc_11 => ?_)
                  · skip
                    refine lv_iload hx hb dL_isPassed_600 (lv_at hl 2 rfl) ?_
                    refine lv_iload hx hb dL_isPassed_602 (lv_at hl 0 rfl) ?_
                    refine lv_if_eq (tgt := 611) hx hb dL_isPassed_604 (by decide) (fun h => absurd h (by decide)) (fun _ => ?_)
                    refine lv_iconst (v := 0) hx hb dL_isPassed_607 (by decide) ?_
                    refine lv_goto (tgt := 626) hx hb dL_isPassed_608 (by decide) ?_
                    refine lv_iadd hx hb dL_isPassed_626 ?_
                    refine lv_istore (lv' := [(14, .int ((lEn gn (gi 0 9) i6) + 0)), (18, .int 1), (17, .int (nI i6)), (12, .ref (al 404)), (9, .int (nI i1)), (8, .int (if (gn 0 5) < (it (fun i a => if mTicks k h (i + 1) g 0 5 < a then mTicks k h (i + 1) g 0 5 else a) i1 9000) then (gn 0 5) else (it (fun i a => if mTicks k h (i + 1) g 0 5 < a then mTicks k h (i + 1) g 0 5 else a) i1 9000))), (7, .ref (al 401)), (6, .int (mLeast k h g n)), (5, .int (mTicks k h n g 0 8 - g 0 8)), (4, .int (g 0 8)), (3, .int (nI n)), (2, .ref (al 400)), (1, .int (nI k.1)), (0, .ref (al 0))]) hx hb dL_isPassed_627 hl (by decide) rfl (fun ls hl => ?_)
                    refine lv_iinc (v := nI (i6 + 1)) (lv' := [(17, .int (nI (i6 + 1))), (14, .int ((lEn gn (gi 0 9) i6) + 0)), (18, .int 1), (12, .ref (al 404)), (9, .int (nI i1)), (8, .int (if (gn 0 5) < (it (fun i a => if mTicks k h (i + 1) g 0 5 < a then mTicks k h (i + 1) g 0 5 else a) i1 9000) then (gn 0 5) else (it (fun i a => if mTicks k h (i + 1) g 0 5 < a then mTicks k h (i + 1) g 0 5 else a) i1 9000))), (7, .ref (al 401)), (6, .int (mLeast k h g n)), (5, .int (mTicks k h n g 0 8 - g 0 8)), (4, .int (g 0 8)), (3, .int (nI n)), (2, .ref (al 400)), (1, .int (nI k.1)), (0, .ref (al 0))]) hx hb dL_isPassed_629 hl (k := 2) rfl (f_inc _) (by decide) rfl (fun ls hl => ?_)
                    refine lv_goto (tgt := 497) hx hb dL_isPassed_632 (by decide) ?_
                    have hl9 := lv_sub (l' := [(17, .int (nI (i6 + 1))), (14, .int ((lEn gn (gi 0 9) i6) + 0)), (12, .ref (al 404)), (9, .int (nI i1)), (8, .int (if (gn 0 5) < (it (fun i a => if mTicks k h (i + 1) g 0 5 < a then mTicks k h (i + 1) g 0 5 else a) i1 9000) then (gn 0 5) else (it (fun i a => if mTicks k h (i + 1) g 0 5 < a then mTicks k h (i + 1) g 0 5 else a) i1 9000))), (7, .ref (al 401)), (6, .int (mLeast k h g n)), (5, .int (mTicks k h n g 0 8 - g 0 8)), (4, .int (g 0 8)), (3, .int (nI n)), (2, .ref (al 400)), (1, .int (nI k.1)), (0, .ref (al 0))]) hl [0, 1, 3, 4, 5, 6, 7, 8, 9, 10, 11, 12, 13] rfl
                    rw [show ([(17, .int (nI (i6 + 1))), (14, .int ((lEn gn (gi 0 9) i6) + 0)), (12, .ref (al 404)), (9, .int (nI i1)), (8, .int (if (gn 0 5) < (it (fun i a => if mTicks k h (i + 1) g 0 5 < a then mTicks k h (i + 1) g 0 5 else a) i1 9000) then (gn 0 5) else (it (fun i a => if mTicks k h (i + 1) g 0 5 < a then mTicks k h (i + 1) g 0 5 else a) i1 9000))), (7, .ref (al 401)), (6, .int (mLeast k h g n)), (5, .int (mTicks k h n g 0 8 - g 0 8)), (4, .int (g 0 8)), (3, .int (nI n)), (2, .ref (al 400)), (1, .int (nI k.1)), (0, .ref (al 0))] : List (Nat × Value)) = [(17, .int (nI (i6 + 1))), (14, .int (lEn gn (gi 0 9) (i6 + 1))), (12, .ref (al 404)), (9, .int (nI i1)), (8, .int (if (gn 0 5) < (it (fun i a => if mTicks k h (i + 1) g 0 5 < a then mTicks k h (i + 1) g 0 5 else a) i1 9000) then (gn 0 5) else (it (fun i a => if mTicks k h (i + 1) g 0 5 < a then mTicks k h (i + 1) g 0 5 else a) i1 9000))), (7, .ref (al 401)), (6, .int (mLeast k h g n)), (5, .int (mTicks k h n g 0 8 - g 0 8)), (4, .int (g 0 8)), (3, .int (nI n)), (2, .ref (al 400)), (1, .int (nI k.1)), (0, .ref (al 0))] from (by unfold lEn; rw [it_s, if_neg htr])] at hl9
                    exact ihi6 hlti6 _ _ _ hP hS hl9
                  · skip
                    refine lv_aload_n hx hb dL_isPassed_588 rfl (lv_at hl 13 rfl) ?_
                    refine lv_iload hx hb dL_isPassed_589 (lv_at hl 1 rfl) ?_
                    refine lv_iconst (v := 2) hx hb dL_isPassed_591 (by decide) ?_
                    refine g_aft_i (g_runV (As := [.int (nI i6), .int 2]) (rest := []) hx hb hml hown hts (kX7_ofPump_2 l G al k h c gn (mTicks k h n g) i6 hX hlti6) (fcwV 2 hts q563 q531 q532 q148 q466 rfl rfl (by decide +kernel) ⟨(Nat.le_of_ble_eq_true rfl), (Nat.le_of_ble_eq_true rfl)⟩) hE hb0 hP hS (m_recvA hE hP 0 rfl (gX_0 hX) rfl) rfl hl.1 rfl (Nat.le_of_ble_eq_true rfl) dL_isPassed_592 ⟨show 1 + 4 * i1 + 1 + 1 + 1 + 1 + 0 ≤ 21 by omega, show 8 + 28 * i1 + k.1 + k.1 + 2 + 10 + 0 ≤ 148 by omega⟩) hS (fun u H locs hP hS => ?_)
                    have hP : mP G al (w2 G al k c gn (mTicks k h n g)) H := hP
                    refine f_topi (v := gn (1 + i6) 3) rfl ?_
                    refine f_topi (v := gn (1 + i6) 3) rfl ?_
                    refine lv_if_le (tgt := 600) hx hb dL_isPassed_595 (by decide) (fun _ => ?_) (fun h => absurd (hpI.2.2 hc_11) h)
                    refine lv_iload hx hb dL_isPassed_600 (lv_at hl 2 rfl) ?_
                    refine lv_iload hx hb dL_isPassed_602 (lv_at hl 0 rfl) ?_
                    refine lv_if_eq (tgt := 611) hx hb dL_isPassed_604 (by decide) (fun h => absurd h (by decide)) (fun _ => ?_)
                    refine lv_iconst (v := 0) hx hb dL_isPassed_607 (by decide) ?_
                    refine lv_goto (tgt := 626) hx hb dL_isPassed_608 (by decide) ?_
                    refine lv_iadd hx hb dL_isPassed_626 ?_
                    refine lv_istore (lv' := [(14, .int ((lEn gn (gi 0 9) i6) + 0)), (18, .int 1), (17, .int (nI i6)), (12, .ref (al 404)), (9, .int (nI i1)), (8, .int (if (gn 0 5) < (it (fun i a => if mTicks k h (i + 1) g 0 5 < a then mTicks k h (i + 1) g 0 5 else a) i1 9000) then (gn 0 5) else (it (fun i a => if mTicks k h (i + 1) g 0 5 < a then mTicks k h (i + 1) g 0 5 else a) i1 9000))), (7, .ref (al 401)), (6, .int (mLeast k h g n)), (5, .int (mTicks k h n g 0 8 - g 0 8)), (4, .int (g 0 8)), (3, .int (nI n)), (2, .ref (al 400)), (1, .int (nI k.1)), (0, .ref (al 0))]) hx hb dL_isPassed_627 hl (by decide) rfl (fun ls hl => ?_)
                    refine lv_iinc (v := nI (i6 + 1)) (lv' := [(17, .int (nI (i6 + 1))), (14, .int ((lEn gn (gi 0 9) i6) + 0)), (18, .int 1), (12, .ref (al 404)), (9, .int (nI i1)), (8, .int (if (gn 0 5) < (it (fun i a => if mTicks k h (i + 1) g 0 5 < a then mTicks k h (i + 1) g 0 5 else a) i1 9000) then (gn 0 5) else (it (fun i a => if mTicks k h (i + 1) g 0 5 < a then mTicks k h (i + 1) g 0 5 else a) i1 9000))), (7, .ref (al 401)), (6, .int (mLeast k h g n)), (5, .int (mTicks k h n g 0 8 - g 0 8)), (4, .int (g 0 8)), (3, .int (nI n)), (2, .ref (al 400)), (1, .int (nI k.1)), (0, .ref (al 0))]) hx hb dL_isPassed_629 hl (k := 2) rfl (f_inc _) (by decide) rfl (fun ls hl => ?_)
                    refine lv_goto (tgt := 497) hx hb dL_isPassed_632 (by decide) ?_
                    have hl9 := lv_sub (l' := [(17, .int (nI (i6 + 1))), (14, .int ((lEn gn (gi 0 9) i6) + 0)), (12, .ref (al 404)), (9, .int (nI i1)), (8, .int (if (gn 0 5) < (it (fun i a => if mTicks k h (i + 1) g 0 5 < a then mTicks k h (i + 1) g 0 5 else a) i1 9000) then (gn 0 5) else (it (fun i a => if mTicks k h (i + 1) g 0 5 < a then mTicks k h (i + 1) g 0 5 else a) i1 9000))), (7, .ref (al 401)), (6, .int (mLeast k h g n)), (5, .int (mTicks k h n g 0 8 - g 0 8)), (4, .int (g 0 8)), (3, .int (nI n)), (2, .ref (al 400)), (1, .int (nI k.1)), (0, .ref (al 0))]) hl [0, 1, 3, 4, 5, 6, 7, 8, 9, 10, 11, 12, 13] rfl
                    rw [show ([(17, .int (nI (i6 + 1))), (14, .int ((lEn gn (gi 0 9) i6) + 0)), (12, .ref (al 404)), (9, .int (nI i1)), (8, .int (if (gn 0 5) < (it (fun i a => if mTicks k h (i + 1) g 0 5 < a then mTicks k h (i + 1) g 0 5 else a) i1 9000) then (gn 0 5) else (it (fun i a => if mTicks k h (i + 1) g 0 5 < a then mTicks k h (i + 1) g 0 5 else a) i1 9000))), (7, .ref (al 401)), (6, .int (mLeast k h g n)), (5, .int (mTicks k h n g 0 8 - g 0 8)), (4, .int (g 0 8)), (3, .int (nI n)), (2, .ref (al 400)), (1, .int (nI k.1)), (0, .ref (al 0))] : List (Nat × Value)) = [(17, .int (nI (i6 + 1))), (14, .int (lEn gn (gi 0 9) (i6 + 1))), (12, .ref (al 404)), (9, .int (nI i1)), (8, .int (if (gn 0 5) < (it (fun i a => if mTicks k h (i + 1) g 0 5 < a then mTicks k h (i + 1) g 0 5 else a) i1 9000) then (gn 0 5) else (it (fun i a => if mTicks k h (i + 1) g 0 5 < a then mTicks k h (i + 1) g 0 5 else a) i1 9000))), (7, .ref (al 401)), (6, .int (mLeast k h g n)), (5, .int (mTicks k h n g 0 8 - g 0 8)), (4, .int (g 0 8)), (3, .int (nI n)), (2, .ref (al 400)), (1, .int (nI k.1)), (0, .ref (al 0))] from (by unfold lEn; rw [it_s, if_neg htr])] at hl9
                    exact ihi6 hlti6 _ _ _ hP hS hl9
            · skip
              have hlti5 : i5 < 8 := Nat.lt_of_not_le (fun q => hc_7 (nI_le (a := 9) (by omega) (by omega)))
              refine lv_iload hx hb dL_isPassed_441 (lv_at hl 1 rfl) ?_
              refine lv_aload_n hx hb dL_isPassed_443 rfl (lv_at hl 15 rfl) ?_
              refine lv_iload hx hb dL_isPassed_444 (lv_at hl 0 rfl) ?_
              refine g_aft_i (g_runV (As := [.int (nI (i5 + 1))]) (rest := [.int (it (fun i a => a + mFallIn gn (gn 0 4 + nI (i + 1))) i5 0)]) hx hb hml hown hts (kX7_falls l G al k h c gn (mTicks k h n g) (i5 + 1) hX (by omega) (by omega)) (fcwV 1 hts q571 q543 q544 q148 q478 rfl rfl (by decide +kernel) ⟨(Nat.le_of_ble_eq_true rfl), (Nat.le_of_ble_eq_true rfl)⟩) hE hb0 hP hS (m_recvA hE hP 0 rfl (gX_0 hX) rfl) rfl hl.1 rfl (Nat.le_of_ble_eq_true rfl) dL_isPassed_446 ⟨show 1 + 4 * i1 + 1 + 1 + 1 + 1 + 0 ≤ 21 by omega, show 8 + 28 * i1 + k.1 + k.1 + 2 + 10 + 0 ≤ 148 by omega⟩) hS (fun u H locs hP hS => ?_)
              have hP : mP G al (w2 G al k c gn (mTicks k h n g)) H := hP
              refine f_topi (v := mFallIn gn (gn 0 4 + nI (i5 + 1))) rfl ?_
              refine lv_iadd hx hb dL_isPassed_449 ?_
              refine lv_istore (lv' := [(16, .int ((it (fun i a => a + mFallIn gn (gn 0 4 + nI (i + 1))) i5 0) + (mFallIn gn (gn 0 4 + nI (i5 + 1))))), (17, .int (nI (i5 + 1))), (15, .int (seenJ k gn A k.1)), (14, .int (gi 0 9)), (13, .ref (al 405)), (12, .ref (al 404)), (9, .int (nI i1)), (8, .int (if (gn 0 5) < (it (fun i a => if mTicks k h (i + 1) g 0 5 < a then mTicks k h (i + 1) g 0 5 else a) i1 9000) then (gn 0 5) else (it (fun i a => if mTicks k h (i + 1) g 0 5 < a then mTicks k h (i + 1) g 0 5 else a) i1 9000))), (7, .ref (al 401)), (6, .int (mLeast k h g n)), (5, .int (mTicks k h n g 0 8 - g 0 8)), (4, .int (g 0 8)), (3, .int (nI n)), (2, .ref (al 400)), (1, .int (nI k.1)), (0, .ref (al 0))]) hx hb dL_isPassed_450 hl (by decide) rfl (fun ls hl => ?_)
              refine lv_iload hx hb dL_isPassed_452 (lv_at hl 2 rfl) ?_
              refine lv_if_eq (tgt := 475) hx hb dL_isPassed_454 (by decide) (fun hc_12 => ?_) (fun hc_12 => ?_)
              · skip
                refine lv_iinc (v := nI ((i5 + 1) + 1)) (lv' := [(17, .int (nI ((i5 + 1) + 1))), (16, .int ((it (fun i a => a + mFallIn gn (gn 0 4 + nI (i + 1))) i5 0) + (mFallIn gn (gn 0 4 + nI (i5 + 1))))), (15, .int (seenJ k gn A k.1)), (14, .int (gi 0 9)), (13, .ref (al 405)), (12, .ref (al 404)), (9, .int (nI i1)), (8, .int (if (gn 0 5) < (it (fun i a => if mTicks k h (i + 1) g 0 5 < a then mTicks k h (i + 1) g 0 5 else a) i1 9000) then (gn 0 5) else (it (fun i a => if mTicks k h (i + 1) g 0 5 < a then mTicks k h (i + 1) g 0 5 else a) i1 9000))), (7, .ref (al 401)), (6, .int (mLeast k h g n)), (5, .int (mTicks k h n g 0 8 - g 0 8)), (4, .int (g 0 8)), (3, .int (nI n)), (2, .ref (al 400)), (1, .int (nI k.1)), (0, .ref (al 0))]) hx hb dL_isPassed_475 hl (k := 1) rfl (f_inc _) (by decide) rfl (fun ls hl => ?_)
                refine lv_goto (tgt := 434) hx hb dL_isPassed_478 (by decide) ?_
                have hl9 := lv_sub (l' := [(17, .int (nI ((i5 + 1) + 1))), (16, .int ((it (fun i a => a + mFallIn gn (gn 0 4 + nI (i + 1))) i5 0) + (mFallIn gn (gn 0 4 + nI (i5 + 1))))), (15, .int (seenJ k gn A k.1)), (14, .int (gi 0 9)), (13, .ref (al 405)), (12, .ref (al 404)), (9, .int (nI i1)), (8, .int (if (gn 0 5) < (it (fun i a => if mTicks k h (i + 1) g 0 5 < a then mTicks k h (i + 1) g 0 5 else a) i1 9000) then (gn 0 5) else (it (fun i a => if mTicks k h (i + 1) g 0 5 < a then mTicks k h (i + 1) g 0 5 else a) i1 9000))), (7, .ref (al 401)), (6, .int (mLeast k h g n)), (5, .int (mTicks k h n g 0 8 - g 0 8)), (4, .int (g 0 8)), (3, .int (nI n)), (2, .ref (al 400)), (1, .int (nI k.1)), (0, .ref (al 0))]) hl [0, 1, 2, 3, 4, 5, 6, 7, 8, 9, 10, 11, 12, 13, 14, 15] rfl
                rw [show ([(17, .int (nI ((i5 + 1) + 1))), (16, .int ((it (fun i a => a + mFallIn gn (gn 0 4 + nI (i + 1))) i5 0) + (mFallIn gn (gn 0 4 + nI (i5 + 1))))), (15, .int (seenJ k gn A k.1)), (14, .int (gi 0 9)), (13, .ref (al 405)), (12, .ref (al 404)), (9, .int (nI i1)), (8, .int (if (gn 0 5) < (it (fun i a => if mTicks k h (i + 1) g 0 5 < a then mTicks k h (i + 1) g 0 5 else a) i1 9000) then (gn 0 5) else (it (fun i a => if mTicks k h (i + 1) g 0 5 < a then mTicks k h (i + 1) g 0 5 else a) i1 9000))), (7, .ref (al 401)), (6, .int (mLeast k h g n)), (5, .int (mTicks k h n g 0 8 - g 0 8)), (4, .int (g 0 8)), (3, .int (nI n)), (2, .ref (al 400)), (1, .int (nI k.1)), (0, .ref (al 0))] : List (Nat × Value)) = [(17, .int (nI ((i5 + 1) + 1))), (16, .int (it (fun i a => a + mFallIn gn (gn 0 4 + nI (i + 1))) (i5 + 1) 0)), (15, .int (seenJ k gn A k.1)), (14, .int (gi 0 9)), (13, .ref (al 405)), (12, .ref (al 404)), (9, .int (nI i1)), (8, .int (if (gn 0 5) < (it (fun i a => if mTicks k h (i + 1) g 0 5 < a then mTicks k h (i + 1) g 0 5 else a) i1 9000) then (gn 0 5) else (it (fun i a => if mTicks k h (i + 1) g 0 5 < a then mTicks k h (i + 1) g 0 5 else a) i1 9000))), (7, .ref (al 401)), (6, .int (mLeast k h g n)), (5, .int (mTicks k h n g 0 8 - g 0 8)), (4, .int (g 0 8)), (3, .int (nI n)), (2, .ref (al 400)), (1, .int (nI k.1)), (0, .ref (al 0))] from (by first | rfl | (simp only [it_s, if_pos hc_12]; done) | (simp only [it_s, if_pos hc_12]; rfl))] at hl9
                exact ihi5 hlti5 _ _ _ hP hS hl9
              · skip
                refine lv_aload_n hx hb dL_isPassed_457 rfl (lv_at hl 15 rfl) ?_
                refine lv_iload hx hb dL_isPassed_458 (lv_at hl 1 rfl) ?_
                refine g_aft_i (g_runV (As := [.int (nI (i5 + 1))]) (rest := []) hx hb hml hown hts (kX7_falls l G al k h c gn (mTicks k h n g) (i5 + 1) hX (by omega) (by omega)) (fcwV 1 hts q571 q543 q544 q148 q478 rfl rfl (by decide +kernel) ⟨(Nat.le_of_ble_eq_true rfl), (Nat.le_of_ble_eq_true rfl)⟩) hE hb0 hP hS (m_recvA hE hP 0 rfl (gX_0 hX) rfl) rfl hl.1 rfl (Nat.le_of_ble_eq_true rfl) dL_isPassed_460 ⟨show 1 + 4 * i1 + 1 + 1 + 1 + 1 + 0 ≤ 21 by omega, show 8 + 28 * i1 + k.1 + k.1 + 2 + 10 + 0 ≤ 148 by omega⟩) hS (fun u H locs hP hS => ?_)
                have hP : mP G al (w2 G al k c gn (mTicks k h n g)) H := hP
                refine f_topi (v := mFallIn gn (gn 0 4 + nI (i5 + 1))) rfl ?_
                refine lv_aload hx hb dL_isPassed_463 (lv_at hl 4 rfl) ?_
                refine lv_iload hx hb dL_isPassed_465 (lv_at hl 1 rfl) ?_
                refine lv_iconst (v := 1) hx hb dL_isPassed_467 (by decide) ?_
                refine lv_iadd hx hb dL_isPassed_468 ?_
                refine f_topi (v := nI (i5 + 1 + 1)) (nI_1 _) ?_
                refine m_iald hx hb hE hP 405 rfl ((w2_hi hJ (by decide)).trans hc405) (nI_in (by omega) (by omega)) dL_isPassed_469 ?_
                refine f_topi (v := (flJ k gn A k.1 (arF (fun z => mFallIn gi (gi 0 4 + nI z)) 9)) (i5 + 1 + 1)) (congrArg (flJ k gn A k.1 (arF (fun z => mFallIn gi (gi 0 4 + nI z)) 9)) (nI_clamp (by omega))) ?_
                refine lv_icmp_eq (tgt := 475) hx hb dL_isPassed_470 (by decide) (fun _ => ?_) (fun h => absurd (falls_seen hcf hIi hIn hTF hc_12 (by omega) (by omega)) h)
                refine lv_iinc (v := nI ((i5 + 1) + 1)) (lv' := [(17, .int (nI ((i5 + 1) + 1))), (16, .int ((it (fun i a => a + mFallIn gn (gn 0 4 + nI (i + 1))) i5 0) + (mFallIn gn (gn 0 4 + nI (i5 + 1))))), (15, .int (seenJ k gn A k.1)), (14, .int (gi 0 9)), (13, .ref (al 405)), (12, .ref (al 404)), (9, .int (nI i1)), (8, .int (if (gn 0 5) < (it (fun i a => if mTicks k h (i + 1) g 0 5 < a then mTicks k h (i + 1) g 0 5 else a) i1 9000) then (gn 0 5) else (it (fun i a => if mTicks k h (i + 1) g 0 5 < a then mTicks k h (i + 1) g 0 5 else a) i1 9000))), (7, .ref (al 401)), (6, .int (mLeast k h g n)), (5, .int (mTicks k h n g 0 8 - g 0 8)), (4, .int (g 0 8)), (3, .int (nI n)), (2, .ref (al 400)), (1, .int (nI k.1)), (0, .ref (al 0))]) hx hb dL_isPassed_475 hl (k := 1) rfl (f_inc _) (by decide) rfl (fun ls hl => ?_)
                refine lv_goto (tgt := 434) hx hb dL_isPassed_478 (by decide) ?_
                have hl9 := lv_sub (l' := [(17, .int (nI ((i5 + 1) + 1))), (16, .int ((it (fun i a => a + mFallIn gn (gn 0 4 + nI (i + 1))) i5 0) + (mFallIn gn (gn 0 4 + nI (i5 + 1))))), (15, .int (seenJ k gn A k.1)), (14, .int (gi 0 9)), (13, .ref (al 405)), (12, .ref (al 404)), (9, .int (nI i1)), (8, .int (if (gn 0 5) < (it (fun i a => if mTicks k h (i + 1) g 0 5 < a then mTicks k h (i + 1) g 0 5 else a) i1 9000) then (gn 0 5) else (it (fun i a => if mTicks k h (i + 1) g 0 5 < a then mTicks k h (i + 1) g 0 5 else a) i1 9000))), (7, .ref (al 401)), (6, .int (mLeast k h g n)), (5, .int (mTicks k h n g 0 8 - g 0 8)), (4, .int (g 0 8)), (3, .int (nI n)), (2, .ref (al 400)), (1, .int (nI k.1)), (0, .ref (al 0))]) hl [0, 1, 2, 3, 4, 5, 6, 7, 8, 9, 10, 11, 12, 13, 14, 15] rfl
                rw [show ([(17, .int (nI ((i5 + 1) + 1))), (16, .int ((it (fun i a => a + mFallIn gn (gn 0 4 + nI (i + 1))) i5 0) + (mFallIn gn (gn 0 4 + nI (i5 + 1))))), (15, .int (seenJ k gn A k.1)), (14, .int (gi 0 9)), (13, .ref (al 405)), (12, .ref (al 404)), (9, .int (nI i1)), (8, .int (if (gn 0 5) < (it (fun i a => if mTicks k h (i + 1) g 0 5 < a then mTicks k h (i + 1) g 0 5 else a) i1 9000) then (gn 0 5) else (it (fun i a => if mTicks k h (i + 1) g 0 5 < a then mTicks k h (i + 1) g 0 5 else a) i1 9000))), (7, .ref (al 401)), (6, .int (mLeast k h g n)), (5, .int (mTicks k h n g 0 8 - g 0 8)), (4, .int (g 0 8)), (3, .int (nI n)), (2, .ref (al 400)), (1, .int (nI k.1)), (0, .ref (al 0))] : List (Nat × Value)) = [(17, .int (nI ((i5 + 1) + 1))), (16, .int (it (fun i a => a + mFallIn gn (gn 0 4 + nI (i + 1))) (i5 + 1) 0)), (15, .int (seenJ k gn A k.1)), (14, .int (gi 0 9)), (13, .ref (al 405)), (12, .ref (al 404)), (9, .int (nI i1)), (8, .int (if (gn 0 5) < (it (fun i a => if mTicks k h (i + 1) g 0 5 < a then mTicks k h (i + 1) g 0 5 else a) i1 9000) then (gn 0 5) else (it (fun i a => if mTicks k h (i + 1) g 0 5 < a then mTicks k h (i + 1) g 0 5 else a) i1 9000))), (7, .ref (al 401)), (6, .int (mLeast k h g n)), (5, .int (mTicks k h n g 0 8 - g 0 8)), (4, .int (g 0 8)), (3, .int (nI n)), (2, .ref (al 400)), (1, .int (nI k.1)), (0, .ref (al 0))] from (by first | rfl | (simp only [it_s, if_neg hc_12]; done) | (simp only [it_s, if_neg hc_12]; rfl))] at hl9
                exact ihi5 hlti5 _ _ _ hP hS hl9
          · skip
            have hlti4 : i4 < k.1 := Nat.lt_of_not_le (fun q => hc_6 (nI_le q (by omega)))
            have hjI := jet_I hcf hIi hIn hTF hlti4
            refine lv_aload_n hx hb dL_isPassed_222 rfl (lv_at hl 16 rfl) ?_
            refine lv_iload hx hb dL_isPassed_223 (lv_at hl 0 rfl) ?_
            refine lv_bipush (v := 10) hx hb dL_isPassed_225 (by decide) ?_
            refine g_aft_i (g_runV (As := [.int (nI i4), .int 10]) (rest := []) hx hb hml hown hts (kX7_ofJet_10 l G al k h c gn (mTicks k h n g) i4 hX hlti4) (fcwV 2 hts q560 q534 q535 q148 q477 rfl rfl (by decide +kernel) ⟨(Nat.le_of_ble_eq_true rfl), (Nat.le_of_ble_eq_true rfl)⟩) hE hb0 hP hS (m_recvA hE hP 0 rfl (gX_0 hX) rfl) rfl hl.1 rfl (Nat.le_of_ble_eq_true rfl) dL_isPassed_227 ⟨show 1 + 4 * i1 + 1 + 1 + 1 + 1 + 0 ≤ 21 by omega, show 8 + 28 * i1 + k.1 + k.1 + 2 + 10 + 0 ≤ 148 by omega⟩) hS (fun u H locs hP hS => ?_)
            have hP : mP G al (w2 G al k c gn (mTicks k h n g)) H := hP
            refine f_topi (v := gn (3 + i4) 9) rfl ?_
            refine f_topi (v := gn (3 + i4) 9) rfl ?_
            refine lv_aload hx hb dL_isPassed_230 (lv_at hl 5 rfl) ?_
            refine lv_iload hx hb dL_isPassed_232 (lv_at hl 0 rfl) ?_
            refine m_iald hx hb hE hP 403 rfl ((w2_hi hJ (by decide)).trans hc403) (nI_in (by omega) (by omega)) dL_isPassed_234 ?_
            refine f_topi (v := gi (3 + i4) 9) ((congrArg (arS (fun z => gi (3 + z) 9) k.1) (nI_clamp (by omega))).trans (ar_r _ (by omega))) ?_
            refine lv_isub hx hb dL_isPassed_235 ?_
            refine f_topi (v := A i4) hjI.1 ?_
            refine lv_istore (lv' := [(17, .int (A i4)), (16, .int (nI i4)), (15, .int (seenJ k gn A i4)), (14, .int (gi 0 9)), (13, .ref (al 405)), (12, .ref (al 404)), (11, .ref (al 403)), (10, .ref (al 402)), (9, .int (nI i1)), (8, .int (if (gn 0 5) < (it (fun i a => if mTicks k h (i + 1) g 0 5 < a then mTicks k h (i + 1) g 0 5 else a) i1 9000) then (gn 0 5) else (it (fun i a => if mTicks k h (i + 1) g 0 5 < a then mTicks k h (i + 1) g 0 5 else a) i1 9000))), (7, .ref (al 401)), (6, .int (mLeast k h g n)), (5, .int (mTicks k h n g 0 8 - g 0 8)), (4, .int (g 0 8)), (3, .int (nI n)), (2, .ref (al 400)), (1, .int (nI k.1)), (0, .ref (al 0))]) hx hb dL_isPassed_236 hl (by decide) rfl (fun ls hl => ?_)
            refine lv_aload_n hx hb dL_isPassed_238 rfl (lv_at hl 17 rfl) ?_
            refine lv_iload hx hb dL_isPassed_239 (lv_at hl 1 rfl) ?_
            refine lv_bipush (v := 6) hx hb dL_isPassed_241 (by decide) ?_
            refine g_aft_i (g_runV (As := [.int (nI i4), .int 6]) (rest := []) hx hb hml hown hts (kX7_ofJet_6 l G al k h c gn (mTicks k h n g) i4 hX hlti4) (fcwV 2 hts q560 q534 q535 q148 q477 rfl rfl (by decide +kernel) ⟨(Nat.le_of_ble_eq_true rfl), (Nat.le_of_ble_eq_true rfl)⟩) hE hb0 hP hS (m_recvA hE hP 0 rfl (gX_0 hX) rfl) rfl hl.1 rfl (Nat.le_of_ble_eq_true rfl) dL_isPassed_243 ⟨show 1 + 4 * i1 + 1 + 1 + 1 + 1 + 0 ≤ 21 by omega, show 8 + 28 * i1 + k.1 + k.1 + 2 + 10 + 0 ≤ 148 by omega⟩) hS (fun u H locs hP hS => ?_)
            have hP : mP G al (w2 G al k c gn (mTicks k h n g)) H := hP
            refine f_topi (v := if bz (gn (3 + i4) 6) = 0 then 0 else 1) rfl ?_
            refine f_topi (v := if bz (gn (3 + i4) 6) = 0 then 0 else 1) rfl ?_
            refine lv_iconst (v := 1) hx hb dL_isPassed_246 (by decide) ?_
            refine lv_icmp_ne (tgt := 254) hx hb dL_isPassed_247 (by decide) (fun hc_13 => ?_) (fun hc_13 => ?_)
            · skip
              have hst := bz_i1 hc_13
              refine lv_iconst (v := 0) hx hb dL_isPassed_254 (by decide) ?_
              refine lv_istore (lv' := [(18, .int 0), (17, .int (A i4)), (16, .int (nI i4)), (15, .int (seenJ k gn A i4)), (14, .int (gi 0 9)), (13, .ref (al 405)), (12, .ref (al 404)), (11, .ref (al 403)), (10, .ref (al 402)), (9, .int (nI i1)), (8, .int (if (gn 0 5) < (it (fun i a => if mTicks k h (i + 1) g 0 5 < a then mTicks k h (i + 1) g 0 5 else a) i1 9000) then (gn 0 5) else (it (fun i a => if mTicks k h (i + 1) g 0 5 < a then mTicks k h (i + 1) g 0 5 else a) i1 9000))), (7, .ref (al 401)), (6, .int (mLeast k h g n)), (5, .int (mTicks k h n g 0 8 - g 0 8)), (4, .int (g 0 8)), (3, .int (nI n)), (2, .ref (al 400)), (1, .int (nI k.1)), (0, .ref (al 0))]) hx hb dL_isPassed_255 hl (by decide) rfl (fun ls hl => ?_)
              refine lv_aload_n hx hb dL_isPassed_257 rfl (lv_at hl 18 rfl) ?_
              refine lv_iload hx hb dL_isPassed_258 (lv_at hl 2 rfl) ?_
              refine lv_iconst (v := 5) hx hb dL_isPassed_260 (by decide) ?_
              refine g_aft_i (g_runV (As := [.int (nI i4), .int 5]) (rest := []) hx hb hml hown hts (kX7_ofJet_5 l G al k h c gn (mTicks k h n g) i4 hX hlti4) (fcwV 2 hts q560 q534 q535 q148 q477 rfl rfl (by decide +kernel) ⟨(Nat.le_of_ble_eq_true rfl), (Nat.le_of_ble_eq_true rfl)⟩) hE hb0 hP hS (m_recvA hE hP 0 rfl (gX_0 hX) rfl) rfl hl.1 rfl (Nat.le_of_ble_eq_true rfl) dL_isPassed_261 ⟨show 1 + 4 * i1 + 1 + 1 + 1 + 1 + 0 ≤ 21 by omega, show 8 + 28 * i1 + k.1 + k.1 + 2 + 10 + 0 ≤ 148 by omega⟩) hS (fun u H locs hP hS => ?_)
              have hP : mP G al (w2 G al k c gn (mTicks k h n g)) H := hP
              refine f_topi (v := gn (3 + i4) 5) rfl ?_
              refine f_topi (v := gn (3 + i4) 5) rfl ?_
              refine lv_aload hx hb dL_isPassed_264 (lv_at hl 8 rfl) ?_
              refine lv_iload hx hb dL_isPassed_266 (lv_at hl 2 rfl) ?_
              refine m_iald hx hb hE hP 402 rfl ((w2_hi hJ (by decide)).trans hc402) (nI_in (by omega) (by omega)) dL_isPassed_268 ?_
              refine f_topi (v := gi (3 + i4) 5) ((congrArg (arS (fun z => gi (3 + z) 5) k.1) (nI_clamp (by omega))).trans (ar_r _ (by omega))) ?_
              refine lv_isub hx hb dL_isPassed_269 ?_
              refine va_mabs hx hb (hml.trans hl.1.symm) hown (hts _ q566) (hts _ q567) (hts _ q87) (hts _ q568) (Nat.le_of_ble_eq_true rfl) (Nat.le_of_ble_eq_true rfl) (show 1 + 4 * i1 + 1 + 1 + 1 + 1 ≤ 21 by omega) (show 8 + 28 * i1 + k.1 + k.1 + 2 + 10 ≤ 148 by omega) dL_isPassed_270 ?_
              refine lv_iload hx hb dL_isPassed_273 (lv_at hl 0 rfl) ?_
              refine lv_if_eq (tgt := 282) hx hb dL_isPassed_275 (by decide) (fun _ => ?_) (fun h => absurd (by decide) h)
              refine lv_iconst (v := 1) hx hb dL_isPassed_282 (by decide) ?_
              refine lv_icmp_gt (tgt := 366) hx hb dL_isPassed_283 (by decide) (fun h => absurd h hjI.2.2.1) (fun _ => ?_)
              refine lv_iload hx hb dL_isPassed_286 (lv_at hl 0 rfl) ?_
              refine lv_if_ne (tgt := 321) hx hb dL_isPassed_288 (by decide) (fun h => absurd (by decide) h) (fun _ => ?_)
              refine lv_aload hx hb dL_isPassed_291 (lv_at hl 8 rfl) ?_
              refine lv_iload hx hb dL_isPassed_293 (lv_at hl 2 rfl) ?_
              refine m_iald hx hb hE hP 402 rfl ((w2_hi hJ (by decide)).trans hc402) (nI_in (by omega) (by omega)) dL_isPassed_295 ?_
              refine f_topi (v := gi (3 + i4) 5) ((congrArg (arS (fun z => gi (3 + z) 5) k.1) (nI_clamp (by omega))).trans (ar_r _ (by omega))) ?_
              refine lv_aload_n hx hb dL_isPassed_296 rfl (lv_at hl 18 rfl) ?_
              refine lv_iload hx hb dL_isPassed_297 (lv_at hl 2 rfl) ?_
              refine lv_iconst (v := 4) hx hb dL_isPassed_299 (by decide) ?_
              refine g_aft_i (g_runV (As := [.int (nI i4), .int 4]) (rest := [.int (gi (3 + i4) 5)]) hx hb hml hown hts (kX7_ofJet_4 l G al k h c gn (mTicks k h n g) i4 hX hlti4) (fcwV 2 hts q560 q534 q535 q148 q477 rfl rfl (by decide +kernel) ⟨(Nat.le_of_ble_eq_true rfl), (Nat.le_of_ble_eq_true rfl)⟩) hE hb0 hP hS (m_recvA hE hP 0 rfl (gX_0 hX) rfl) rfl hl.1 rfl (Nat.le_of_ble_eq_true rfl) dL_isPassed_300 ⟨show 1 + 4 * i1 + 1 + 1 + 1 + 1 + 0 ≤ 21 by omega, show 8 + 28 * i1 + k.1 + k.1 + 2 + 10 + 0 ≤ 148 by omega⟩) hS (fun u H locs hP hS => ?_)
              have hP : mP G al (w2 G al k c gn (mTicks k h n g)) H := hP
              refine f_topi (v := gn (3 + i4) 4) rfl ?_
              refine f_topi (v := gn (3 + i4) 4) rfl ?_
              refine lv_icmp_ne (tgt := 321) hx hb dL_isPassed_303 (by decide) (fun hc_14 => ?_) (fun hc_14 => ?_)
              · skip
                refine lv_aload_n hx hb dL_isPassed_321 rfl (lv_at hl 18 rfl) ?_
                refine lv_iload hx hb dL_isPassed_322 (lv_at hl 2 rfl) ?_
                refine lv_bipush (v := 8) hx hb dL_isPassed_324 (by decide) ?_
                refine g_aft_i (g_runV (As := [.int (nI i4), .int 8]) (rest := []) hx hb hml hown hts (kX7_ofJet_8 l G al k h c gn (mTicks k h n g) i4 hX hlti4) (fcwV 2 hts q560 q534 q535 q148 q477 rfl rfl (by decide +kernel) ⟨(Nat.le_of_ble_eq_true rfl), (Nat.le_of_ble_eq_true rfl)⟩) hE hb0 hP hS (m_recvA hE hP 0 rfl (gX_0 hX) rfl) rfl hl.1 rfl (Nat.le_of_ble_eq_true rfl) dL_isPassed_326 ⟨show 1 + 4 * i1 + 1 + 1 + 1 + 1 + 0 ≤ 21 by omega, show 8 + 28 * i1 + k.1 + k.1 + 2 + 10 + 0 ≤ 148 by omega⟩) hS (fun u H locs hP hS => ?_)
                have hP : mP G al (w2 G al k c gn (mTicks k h n g)) H := hP
                refine f_topi (v := mHt k gn i4) rfl ?_
                refine f_topi (v := mHt k gn i4) rfl ?_
                refine lv_bipush (v := 60) hx hb dL_isPassed_329 (by decide) ?_
                refine lv_icmp_gt (tgt := 366) hx hb dL_isPassed_331 (by decide) (fun h => absurd h hjI.2.2.2.2.1) (fun _ => ?_)
                refine lv_iload hx hb dL_isPassed_334 (lv_at hl 1 rfl) ?_
                refine lv_aload_n hx hb dL_isPassed_336 rfl (lv_at hl 18 rfl) ?_
                refine lv_iload hx hb dL_isPassed_337 (lv_at hl 2 rfl) ?_
                refine lv_bipush (v := 7) hx hb dL_isPassed_339 (by decide) ?_
                refine g_aft_i (g_runV (As := [.int (nI i4), .int 7]) (rest := [.int (A i4)]) hx hb hml hown hts (kX7_ofJet_7 l G al k h c gn (mTicks k h n g) i4 hX hlti4) (fcwV 2 hts q560 q534 q535 q148 q477 rfl rfl (by decide +kernel) ⟨(Nat.le_of_ble_eq_true rfl), (Nat.le_of_ble_eq_true rfl)⟩) hE hb0 hP hS (m_recvA hE hP 0 rfl (gX_0 hX) rfl) rfl hl.1 rfl (Nat.le_of_ble_eq_true rfl) dL_isPassed_341 ⟨show 1 + 4 * i1 + 1 + 1 + 1 + 1 + 0 ≤ 21 by omega, show 8 + 28 * i1 + k.1 + k.1 + 2 + 10 + 0 ≤ 148 by omega⟩) hS (fun u H locs hP hS => ?_)
                have hP : mP G al (w2 G al k c gn (mTicks k h n g)) H := hP
                refine f_topi (v := mFlow k gn i4) rfl ?_
                refine f_topi (v := mFlow k gn i4) rfl ?_
                refine lv_icmp_gt (tgt := 366) hx hb dL_isPassed_344 (by decide) (fun h => absurd h hjI.2.2.2.2.2.1) (fun _ => ?_)
                refine lv_aload_n hx hb dL_isPassed_347 rfl (lv_at hl 18 rfl) ?_
                refine lv_iload hx hb dL_isPassed_348 (lv_at hl 2 rfl) ?_
                refine lv_bipush (v := 9) hx hb dL_isPassed_350 (by decide) ?_
                refine g_aft_i (g_runV (As := [.int (nI i4), .int 9]) (rest := []) hx hb hml hown hts (kX7_ofJet_9 l G al k h c gn (mTicks k h n g) i4 hX hlti4) (fcwV 2 hts q560 q534 q535 q148 q477 rfl rfl (by decide +kernel) ⟨(Nat.le_of_ble_eq_true rfl), (Nat.le_of_ble_eq_true rfl)⟩) hE hb0 hP hS (m_recvA hE hP 0 rfl (gX_0 hX) rfl) rfl hl.1 rfl (Nat.le_of_ble_eq_true rfl) dL_isPassed_352 ⟨show 1 + 4 * i1 + 1 + 1 + 1 + 1 + 0 ≤ 21 by omega, show 8 + 28 * i1 + k.1 + k.1 + 2 + 10 + 0 ≤ 148 by omega⟩) hS (fun u H locs hP hS => ?_)
                have hP : mP G al (w2 G al k c gn (mTicks k h n g)) H := hP
                refine f_topi (v := if bz (gn (3 + i4) 7) = 0 then 0 else 1) rfl ?_
                refine f_topi (v := if bz (gn (3 + i4) 7) = 0 then 0 else 1) rfl ?_
                refine lv_iconst (v := 1) hx hb dL_isPassed_355 (by decide) ?_
                refine lv_icmp_ne (tgt := 368) hx hb dL_isPassed_356 (by decide) (fun hc_15 => ?_) (fun hc_15 => ?_)
                · skip
                  refine lv_aload_n hx hb dL_isPassed_368 rfl (lv_at hl 18 rfl) ?_
                  refine lv_aload_n hx hb dL_isPassed_369 rfl (lv_at hl 18 rfl) ?_
                  refine lv_iload hx hb dL_isPassed_370 (lv_at hl 2 rfl) ?_
                  refine lv_iconst (v := 0) hx hb dL_isPassed_372 (by decide) ?_
                  refine g_aft_i (g_runV (As := [.int (nI i4), .int 0]) (rest := [.ref (al 0)]) hx hb hml hown hts (kX7_ofJet_0 l G al k h c gn (mTicks k h n g) i4 hX hlti4) (fcwV 2 hts q560 q534 q535 q148 q477 rfl rfl (by decide +kernel) ⟨(Nat.le_of_ble_eq_true rfl), (Nat.le_of_ble_eq_true rfl)⟩) hE hb0 hP hS (m_recvA hE hP 0 rfl (gX_0 hX) rfl) rfl hl.1 rfl (Nat.le_of_ble_eq_true rfl) dL_isPassed_373 ⟨show 1 + 4 * i1 + 1 + 1 + 1 + 1 + 0 ≤ 21 by omega, show 8 + 28 * i1 + k.1 + k.1 + 2 + 10 + 0 ≤ 148 by omega⟩) hS (fun u H locs hP hS => ?_)
                  have hP : mP G al (w2 G al k c gn (mTicks k h n g)) H := hP
                  refine f_topi (v := nI (k.2.1 i4)) rfl ?_
                  refine f_topi (v := nI (k.2.1 i4)) rfl ?_
                  refine lv_iconst (v := 4) hx hb dL_isPassed_376 (by decide) ?_
                  refine g_aft_i (g_runV (As := [.int (nI (k.2.1 i4)), .int 4]) (rest := []) hx hb hml hown hts (kX7_ofPump_4 l G al k h c gn (mTicks k h n g) (k.2.1 i4) hX (gF_pp (gX_1 hX) hlti4)) (fcwV 2 hts q563 q531 q532 q148 q466 rfl rfl (by decide +kernel) ⟨(Nat.le_of_ble_eq_true rfl), (Nat.le_of_ble_eq_true rfl)⟩) hE hb0 hP hS (m_recvA hE hP 0 rfl (gX_0 hX) rfl) rfl hl.1 rfl (Nat.le_of_ble_eq_true rfl) dL_isPassed_377 ⟨show 1 + 4 * i1 + 1 + 1 + 1 + 1 + 0 ≤ 21 by omega, show 8 + 28 * i1 + k.1 + k.1 + 2 + 10 + 0 ≤ 148 by omega⟩) hS (fun u H locs hP hS => ?_)
                  have hP : mP G al (w2 G al k c gn (mTicks k h n g)) H := hP
                  refine f_topi (v := if bz (gn (1 + k.2.1 i4) 4) = 0 then 0 else 1) rfl ?_
                  refine f_topi (v := if bz (gn (1 + k.2.1 i4) 4) = 0 then 0 else 1) rfl ?_
                  refine lv_if_ne (tgt := 407) hx hb dL_isPassed_380 (by decide) (fun hc_16 => ?_) (fun hc_16 => ?_)
                  · skip
                    have htr := if01_n hc_16
                    refine lv_iload hx hb dL_isPassed_407 (lv_at hl 3 rfl) ?_
                    refine lv_iload hx hb dL_isPassed_409 (lv_at hl 1 rfl) ?_
                    refine lv_if_ne (tgt := 418) hx hb dL_isPassed_411 (by decide) (fun hc_17 => ?_) (fun hc_17 => ?_)
                    · skip
                      refine lv_iconst (v := 0) hx hb dL_isPassed_418 (by decide) ?_
                      refine lv_iand hx hb dL_isPassed_419 ?_
                      refine lv_istore (lv' := [(15, .int ((seenJ k gn A i4) &&& 0)), (18, .int 0), (17, .int (A i4)), (16, .int (nI i4)), (14, .int (gi 0 9)), (13, .ref (al 405)), (12, .ref (al 404)), (11, .ref (al 403)), (10, .ref (al 402)), (9, .int (nI i1)), (8, .int (if (gn 0 5) < (it (fun i a => if mTicks k h (i + 1) g 0 5 < a then mTicks k h (i + 1) g 0 5 else a) i1 9000) then (gn 0 5) else (it (fun i a => if mTicks k h (i + 1) g 0 5 < a then mTicks k h (i + 1) g 0 5 else a) i1 9000))), (7, .ref (al 401)), (6, .int (mLeast k h g n)), (5, .int (mTicks k h n g 0 8 - g 0 8)), (4, .int (g 0 8)), (3, .int (nI n)), (2, .ref (al 400)), (1, .int (nI k.1)), (0, .ref (al 0))]) hx hb dL_isPassed_420 hl (by decide) rfl (fun ls hl => ?_)
                      refine lv_iinc (v := nI (i4 + 1)) (lv' := [(16, .int (nI (i4 + 1))), (15, .int ((seenJ k gn A i4) &&& 0)), (18, .int 0), (17, .int (A i4)), (14, .int (gi 0 9)), (13, .ref (al 405)), (12, .ref (al 404)), (11, .ref (al 403)), (10, .ref (al 402)), (9, .int (nI i1)), (8, .int (if (gn 0 5) < (it (fun i a => if mTicks k h (i + 1) g 0 5 < a then mTicks k h (i + 1) g 0 5 else a) i1 9000) then (gn 0 5) else (it (fun i a => if mTicks k h (i + 1) g 0 5 < a then mTicks k h (i + 1) g 0 5 else a) i1 9000))), (7, .ref (al 401)), (6, .int (mLeast k h g n)), (5, .int (mTicks k h n g 0 8 - g 0 8)), (4, .int (g 0 8)), (3, .int (nI n)), (2, .ref (al 400)), (1, .int (nI k.1)), (0, .ref (al 0))]) hx hb dL_isPassed_422 hl (k := 3) rfl (f_inc _) (by decide) rfl (fun ls hl => ?_)
                      refine lv_goto (tgt := 216) hx hb dL_isPassed_425 (by decide) ?_
                      have hl9 := lv_sub (l' := [(16, .int (nI (i4 + 1))), (15, .int ((seenJ k gn A i4) &&& 0)), (14, .int (gi 0 9)), (13, .ref (al 405)), (12, .ref (al 404)), (11, .ref (al 403)), (10, .ref (al 402)), (9, .int (nI i1)), (8, .int (if (gn 0 5) < (it (fun i a => if mTicks k h (i + 1) g 0 5 < a then mTicks k h (i + 1) g 0 5 else a) i1 9000) then (gn 0 5) else (it (fun i a => if mTicks k h (i + 1) g 0 5 < a then mTicks k h (i + 1) g 0 5 else a) i1 9000))), (7, .ref (al 401)), (6, .int (mLeast k h g n)), (5, .int (mTicks k h n g 0 8 - g 0 8)), (4, .int (g 0 8)), (3, .int (nI n)), (2, .ref (al 400)), (1, .int (nI k.1)), (0, .ref (al 0))]) hl [0, 1, 4, 5, 6, 7, 8, 9, 10, 11, 12, 13, 14, 15, 16, 17, 18] rfl
                      rw [show ([(16, .int (nI (i4 + 1))), (15, .int ((seenJ k gn A i4) &&& 0)), (14, .int (gi 0 9)), (13, .ref (al 405)), (12, .ref (al 404)), (11, .ref (al 403)), (10, .ref (al 402)), (9, .int (nI i1)), (8, .int (if (gn 0 5) < (it (fun i a => if mTicks k h (i + 1) g 0 5 < a then mTicks k h (i + 1) g 0 5 else a) i1 9000) then (gn 0 5) else (it (fun i a => if mTicks k h (i + 1) g 0 5 < a then mTicks k h (i + 1) g 0 5 else a) i1 9000))), (7, .ref (al 401)), (6, .int (mLeast k h g n)), (5, .int (mTicks k h n g 0 8 - g 0 8)), (4, .int (g 0 8)), (3, .int (nI n)), (2, .ref (al 400)), (1, .int (nI k.1)), (0, .ref (al 0))] : List (Nat × Value)) = [(16, .int (nI (i4 + 1))), (15, .int (seenJ k gn A (i4 + 1))), (14, .int (gi 0 9)), (13, .ref (al 405)), (12, .ref (al 404)), (11, .ref (al 403)), (10, .ref (al 402)), (9, .int (nI i1)), (8, .int (if (gn 0 5) < (it (fun i a => if mTicks k h (i + 1) g 0 5 < a then mTicks k h (i + 1) g 0 5 else a) i1 9000) then (gn 0 5) else (it (fun i a => if mTicks k h (i + 1) g 0 5 < a then mTicks k h (i + 1) g 0 5 else a) i1 9000))), (7, .ref (al 401)), (6, .int (mLeast k h g n)), (5, .int (mTicks k h n g 0 8 - g 0 8)), (4, .int (g 0 8)), (3, .int (nI n)), (2, .ref (al 400)), (1, .int (nI k.1)), (0, .ref (al 0))] from (by unfold seenJ; rw [it_s, if_neg htr, if_neg hc_17])] at hl9
                      exact ihi4 hlti4 c ⟨hX, hc400, hc401, hc402, hc403, hc404, (hc405.trans (congrArg (fun z : Nat → Int32 => some ((.inl (gI G, 10, .inl z)) : va_E)) (by unfold flJ; rw [it_s, if_neg htr])))⟩ _ _ _ hP hS hl9
                    · skip
                      refine lv_iconst (v := 1) hx hb dL_isPassed_414 (by decide) ?_
                      refine lv_goto (tgt := 419) hx hb dL_isPassed_415 (by decide) ?_
                      refine lv_iand hx hb dL_isPassed_419 ?_
                      refine lv_istore (lv' := [(15, .int ((seenJ k gn A i4) &&& 1)), (18, .int 0), (17, .int (A i4)), (16, .int (nI i4)), (14, .int (gi 0 9)), (13, .ref (al 405)), (12, .ref (al 404)), (11, .ref (al 403)), (10, .ref (al 402)), (9, .int (nI i1)), (8, .int (if (gn 0 5) < (it (fun i a => if mTicks k h (i + 1) g 0 5 < a then mTicks k h (i + 1) g 0 5 else a) i1 9000) then (gn 0 5) else (it (fun i a => if mTicks k h (i + 1) g 0 5 < a then mTicks k h (i + 1) g 0 5 else a) i1 9000))), (7, .ref (al 401)), (6, .int (mLeast k h g n)), (5, .int (mTicks k h n g 0 8 - g 0 8)), (4, .int (g 0 8)), (3, .int (nI n)), (2, .ref (al 400)), (1, .int (nI k.1)), (0, .ref (al 0))]) hx hb dL_isPassed_420 hl (by decide) rfl (fun ls hl => ?_)
                      refine lv_iinc (v := nI (i4 + 1)) (lv' := [(16, .int (nI (i4 + 1))), (15, .int ((seenJ k gn A i4) &&& 1)), (18, .int 0), (17, .int (A i4)), (14, .int (gi 0 9)), (13, .ref (al 405)), (12, .ref (al 404)), (11, .ref (al 403)), (10, .ref (al 402)), (9, .int (nI i1)), (8, .int (if (gn 0 5) < (it (fun i a => if mTicks k h (i + 1) g 0 5 < a then mTicks k h (i + 1) g 0 5 else a) i1 9000) then (gn 0 5) else (it (fun i a => if mTicks k h (i + 1) g 0 5 < a then mTicks k h (i + 1) g 0 5 else a) i1 9000))), (7, .ref (al 401)), (6, .int (mLeast k h g n)), (5, .int (mTicks k h n g 0 8 - g 0 8)), (4, .int (g 0 8)), (3, .int (nI n)), (2, .ref (al 400)), (1, .int (nI k.1)), (0, .ref (al 0))]) hx hb dL_isPassed_422 hl (k := 3) rfl (f_inc _) (by decide) rfl (fun ls hl => ?_)
                      refine lv_goto (tgt := 216) hx hb dL_isPassed_425 (by decide) ?_
                      have hl9 := lv_sub (l' := [(16, .int (nI (i4 + 1))), (15, .int ((seenJ k gn A i4) &&& 1)), (14, .int (gi 0 9)), (13, .ref (al 405)), (12, .ref (al 404)), (11, .ref (al 403)), (10, .ref (al 402)), (9, .int (nI i1)), (8, .int (if (gn 0 5) < (it (fun i a => if mTicks k h (i + 1) g 0 5 < a then mTicks k h (i + 1) g 0 5 else a) i1 9000) then (gn 0 5) else (it (fun i a => if mTicks k h (i + 1) g 0 5 < a then mTicks k h (i + 1) g 0 5 else a) i1 9000))), (7, .ref (al 401)), (6, .int (mLeast k h g n)), (5, .int (mTicks k h n g 0 8 - g 0 8)), (4, .int (g 0 8)), (3, .int (nI n)), (2, .ref (al 400)), (1, .int (nI k.1)), (0, .ref (al 0))]) hl [0, 1, 4, 5, 6, 7, 8, 9, 10, 11, 12, 13, 14, 15, 16, 17, 18] rfl
                      rw [show ([(16, .int (nI (i4 + 1))), (15, .int ((seenJ k gn A i4) &&& 1)), (14, .int (gi 0 9)), (13, .ref (al 405)), (12, .ref (al 404)), (11, .ref (al 403)), (10, .ref (al 402)), (9, .int (nI i1)), (8, .int (if (gn 0 5) < (it (fun i a => if mTicks k h (i + 1) g 0 5 < a then mTicks k h (i + 1) g 0 5 else a) i1 9000) then (gn 0 5) else (it (fun i a => if mTicks k h (i + 1) g 0 5 < a then mTicks k h (i + 1) g 0 5 else a) i1 9000))), (7, .ref (al 401)), (6, .int (mLeast k h g n)), (5, .int (mTicks k h n g 0 8 - g 0 8)), (4, .int (g 0 8)), (3, .int (nI n)), (2, .ref (al 400)), (1, .int (nI k.1)), (0, .ref (al 0))] : List (Nat × Value)) = [(16, .int (nI (i4 + 1))), (15, .int (seenJ k gn A (i4 + 1))), (14, .int (gi 0 9)), (13, .ref (al 405)), (12, .ref (al 404)), (11, .ref (al 403)), (10, .ref (al 402)), (9, .int (nI i1)), (8, .int (if (gn 0 5) < (it (fun i a => if mTicks k h (i + 1) g 0 5 < a then mTicks k h (i + 1) g 0 5 else a) i1 9000) then (gn 0 5) else (it (fun i a => if mTicks k h (i + 1) g 0 5 < a then mTicks k h (i + 1) g 0 5 else a) i1 9000))), (7, .ref (al 401)), (6, .int (mLeast k h g n)), (5, .int (mTicks k h n g 0 8 - g 0 8)), (4, .int (g 0 8)), (3, .int (nI n)), (2, .ref (al 400)), (1, .int (nI k.1)), (0, .ref (al 0))] from (by unfold seenJ; rw [it_s, if_neg htr, if_pos hc_17])] at hl9
                      exact ihi4 hlti4 c ⟨hX, hc400, hc401, hc402, hc403, hc404, (hc405.trans (congrArg (fun z : Nat → Int32 => some ((.inl (gI G, 10, .inl z)) : va_E)) (by unfold flJ; rw [it_s, if_neg htr])))⟩ _ _ _ hP hS hl9
                  · skip
                    have htr := if01_0 hc_16
                    refine lv_aload hx hb dL_isPassed_383 (lv_at hl 5 rfl) ?_
                    refine lv_iconst (v := 3) hx hb dL_isPassed_385 (by decide) ?_
                    refine lv_aload_n hx hb dL_isPassed_386 rfl (lv_at hl 18 rfl) ?_
                    refine lv_iload hx hb dL_isPassed_387 (lv_at hl 2 rfl) ?_
                    refine lv_bipush (v := 8) hx hb dL_isPassed_389 (by decide) ?_
                    refine g_aft_i (g_runV (As := [.int (nI i4), .int 8]) (rest := [.int 3, .ref (al 405)]) hx hb hml hown hts (kX7_ofJet_8 l G al k h c gn (mTicks k h n g) i4 hX hlti4) (fcwV 2 hts q560 q534 q535 q148 q477 rfl rfl (by decide +kernel) ⟨(Nat.le_of_ble_eq_true rfl), (Nat.le_of_ble_eq_true rfl)⟩) hE hb0 hP hS (m_recvA hE hP 0 rfl (gX_0 hX) rfl) rfl hl.1 rfl (Nat.le_of_ble_eq_true rfl) dL_isPassed_391 ⟨show 1 + 4 * i1 + 1 + 1 + 1 + 1 + 0 ≤ 21 by omega, show 8 + 28 * i1 + k.1 + k.1 + 2 + 10 + 0 ≤ 148 by omega⟩) hS (fun u H locs hP hS => ?_)
                    have hP : mP G al (w2 G al k c gn (mTicks k h n g)) H := hP
                    refine f_topi (v := mHt k gn i4) rfl ?_
                    refine f_topi (v := mHt k gn i4) rfl ?_
                    refine lv_bipush (v := 10) hx hb dL_isPassed_394 (by decide) ?_
                    refine lv_idiv hx hb dL_isPassed_396 (by decide) ?_
                    refine lv_iadd hx hb dL_isPassed_397 ?_
                    refine lv_dup2_11 hx hb dL_isPassed_398 rfl rfl ?_
                    refine m_iald hx hb hE hP 405 rfl ((w2_hi hJ (by decide)).trans hc405) (ix_e hcf hIn.1 hlti4).2.2 dL_isPassed_399 ?_
                    refine f_topi (v := (flJ k gn A i4 (arF (fun z => mFallIn gi (gi 0 4 + nI z)) 9)) (ixJ k gn i4)) (congrArg (flJ k gn A i4 (arF (fun z => mFallIn gi (gi 0 4 + nI z)) 9)) rfl) ?_
                    refine lv_iload hx hb dL_isPassed_400 (lv_at hl 1 rfl) ?_
                    refine lv_iadd hx hb dL_isPassed_402 ?_
                    refine mX_iast 405 (by decide) (by decide) hX hx hb hE hP hS rfl hc405 (ix_e hcf hIn.1 hlti4).2.2 (x' := ixJ k gn i4) rfl dL_isPassed_403 (fun c H locs hc405 hc9 hX hP hS => ?_)
                    have hc400 := (hc9 400 (by decide)).trans hc400
                    have hc401 := (hc9 401 (by decide)).trans hc401
                    have hc402 := (hc9 402 (by decide)).trans hc402
                    have hc403 := (hc9 403 (by decide)).trans hc403
                    have hc404 := (hc9 404 (by decide)).trans hc404
                    have hP : mP G al (w2 G al k c gn (mTicks k h n g)) H := hP
                    refine lv_goto (tgt := 422) hx hb dL_isPassed_404 (by decide) ?_
                    refine lv_iinc (v := nI (i4 + 1)) (lv' := [(16, .int (nI (i4 + 1))), (18, .int 0), (17, .int (A i4)), (15, .int (seenJ k gn A i4)), (14, .int (gi 0 9)), (13, .ref (al 405)), (12, .ref (al 404)), (11, .ref (al 403)), (10, .ref (al 402)), (9, .int (nI i1)), (8, .int (if (gn 0 5) < (it (fun i a => if mTicks k h (i + 1) g 0 5 < a then mTicks k h (i + 1) g 0 5 else a) i1 9000) then (gn 0 5) else (it (fun i a => if mTicks k h (i + 1) g 0 5 < a then mTicks k h (i + 1) g 0 5 else a) i1 9000))), (7, .ref (al 401)), (6, .int (mLeast k h g n)), (5, .int (mTicks k h n g 0 8 - g 0 8)), (4, .int (g 0 8)), (3, .int (nI n)), (2, .ref (al 400)), (1, .int (nI k.1)), (0, .ref (al 0))]) hx hb dL_isPassed_422 hl (k := 2) rfl (f_inc _) (by decide) rfl (fun ls hl => ?_)
                    refine lv_goto (tgt := 216) hx hb dL_isPassed_425 (by decide) ?_
                    have hl9 := lv_sub (l' := [(16, .int (nI (i4 + 1))), (15, .int (seenJ k gn A i4)), (14, .int (gi 0 9)), (13, .ref (al 405)), (12, .ref (al 404)), (11, .ref (al 403)), (10, .ref (al 402)), (9, .int (nI i1)), (8, .int (if (gn 0 5) < (it (fun i a => if mTicks k h (i + 1) g 0 5 < a then mTicks k h (i + 1) g 0 5 else a) i1 9000) then (gn 0 5) else (it (fun i a => if mTicks k h (i + 1) g 0 5 < a then mTicks k h (i + 1) g 0 5 else a) i1 9000))), (7, .ref (al 401)), (6, .int (mLeast k h g n)), (5, .int (mTicks k h n g 0 8 - g 0 8)), (4, .int (g 0 8)), (3, .int (nI n)), (2, .ref (al 400)), (1, .int (nI k.1)), (0, .ref (al 0))]) hl [0, 3, 4, 5, 6, 7, 8, 9, 10, 11, 12, 13, 14, 15, 16, 17, 18] rfl
                    rw [show ([(16, .int (nI (i4 + 1))), (15, .int (seenJ k gn A i4)), (14, .int (gi 0 9)), (13, .ref (al 405)), (12, .ref (al 404)), (11, .ref (al 403)), (10, .ref (al 402)), (9, .int (nI i1)), (8, .int (if (gn 0 5) < (it (fun i a => if mTicks k h (i + 1) g 0 5 < a then mTicks k h (i + 1) g 0 5 else a) i1 9000) then (gn 0 5) else (it (fun i a => if mTicks k h (i + 1) g 0 5 < a then mTicks k h (i + 1) g 0 5 else a) i1 9000))), (7, .ref (al 401)), (6, .int (mLeast k h g n)), (5, .int (mTicks k h n g 0 8 - g 0 8)), (4, .int (g 0 8)), (3, .int (nI n)), (2, .ref (al 400)), (1, .int (nI k.1)), (0, .ref (al 0))] : List (Nat × Value)) = [(16, .int (nI (i4 + 1))), (15, .int (seenJ k gn A (i4 + 1))), (14, .int (gi 0 9)), (13, .ref (al 405)), (12, .ref (al 404)), (11, .ref (al 403)), (10, .ref (al 402)), (9, .int (nI i1)), (8, .int (if (gn 0 5) < (it (fun i a => if mTicks k h (i + 1) g 0 5 < a then mTicks k h (i + 1) g 0 5 else a) i1 9000) then (gn 0 5) else (it (fun i a => if mTicks k h (i + 1) g 0 5 < a then mTicks k h (i + 1) g 0 5 else a) i1 9000))), (7, .ref (al 401)), (6, .int (mLeast k h g n)), (5, .int (mTicks k h n g 0 8 - g 0 8)), (4, .int (g 0 8)), (3, .int (nI n)), (2, .ref (al 400)), (1, .int (nI k.1)), (0, .ref (al 0))] from (by unfold seenJ; rw [it_s, if_pos htr])] at hl9
                    exact ihi4 hlti4 c ⟨hX, hc400, hc401, hc402, hc403, hc404, (hc405.trans (congrArg (fun z : Nat → Int32 => some ((.inl (gI G, 10, .inl z)) : va_E)) (by unfold flJ; rw [it_s, if_pos htr])))⟩ _ _ _ hP hS hl9
                · skip
                  have hlm := bz_i2 hc_15
                  refine lv_aload_n hx hb dL_isPassed_359 rfl (lv_at hl 16 rfl) ?_
                  refine lv_iload hx hb dL_isPassed_360 (lv_at hl 2 rfl) ?_
                  refine m_zald hx hb hE hP 400 rfl ((w2_hi hJ (by decide)).trans hc400) (nI_in (by omega) (by omega)) dL_isPassed_362 ?_
                  refine f_topi (v := (fun z => bz (lk z)) i4) (congrArg (fun z => bz (lk z)) (nI_clamp (by omega))) ?_
                  refine lv_if_eq (tgt := 368) hx hb dL_isPassed_363 (by decide) (fun _ => ?_) (fun h => absurd (((hlk i4 hlti4).symm.trans (congrArg bz (hLi i4 hlti4).symm)).trans (hjI.2.2.2.2.2.2.1 hlm)) h)
                  refine lv_aload_n hx hb dL_isPassed_368 rfl (lv_at hl 18 rfl) ?_
                  refine lv_aload_n hx hb dL_isPassed_369 rfl (lv_at hl 18 rfl) ?_
                  refine lv_iload hx hb dL_isPassed_370 (lv_at hl 2 rfl) ?_
                  refine lv_iconst (v := 0) hx hb dL_isPassed_372 (by decide) ?_
                  refine g_aft_i (g_runV (As := [.int (nI i4), .int 0]) (rest := [.ref (al 0)]) hx hb hml hown hts (kX7_ofJet_0 l G al k h c gn (mTicks k h n g) i4 hX hlti4) (fcwV 2 hts q560 q534 q535 q148 q477 rfl rfl (by decide +kernel) ⟨(Nat.le_of_ble_eq_true rfl), (Nat.le_of_ble_eq_true rfl)⟩) hE hb0 hP hS (m_recvA hE hP 0 rfl (gX_0 hX) rfl) rfl hl.1 rfl (Nat.le_of_ble_eq_true rfl) dL_isPassed_373 ⟨show 1 + 4 * i1 + 1 + 1 + 1 + 1 + 0 ≤ 21 by omega, show 8 + 28 * i1 + k.1 + k.1 + 2 + 10 + 0 ≤ 148 by omega⟩) hS (fun u H locs hP hS => ?_)
                  have hP : mP G al (w2 G al k c gn (mTicks k h n g)) H := hP
                  refine f_topi (v := nI (k.2.1 i4)) rfl ?_
                  refine f_topi (v := nI (k.2.1 i4)) rfl ?_
                  refine lv_iconst (v := 4) hx hb dL_isPassed_376 (by decide) ?_
                  refine g_aft_i (g_runV (As := [.int (nI (k.2.1 i4)), .int 4]) (rest := []) hx hb hml hown hts (kX7_ofPump_4 l G al k h c gn (mTicks k h n g) (k.2.1 i4) hX (gF_pp (gX_1 hX) hlti4)) (fcwV 2 hts q563 q531 q532 q148 q466 rfl rfl (by decide +kernel) ⟨(Nat.le_of_ble_eq_true rfl), (Nat.le_of_ble_eq_true rfl)⟩) hE hb0 hP hS (m_recvA hE hP 0 rfl (gX_0 hX) rfl) rfl hl.1 rfl (Nat.le_of_ble_eq_true rfl) dL_isPassed_377 ⟨show 1 + 4 * i1 + 1 + 1 + 1 + 1 + 0 ≤ 21 by omega, show 8 + 28 * i1 + k.1 + k.1 + 2 + 10 + 0 ≤ 148 by omega⟩) hS (fun u H locs hP hS => ?_)
                  have hP : mP G al (w2 G al k c gn (mTicks k h n g)) H := hP
                  refine f_topi (v := if bz (gn (1 + k.2.1 i4) 4) = 0 then 0 else 1) rfl ?_
                  refine f_topi (v := if bz (gn (1 + k.2.1 i4) 4) = 0 then 0 else 1) rfl ?_
                  refine lv_if_ne (tgt := 407) hx hb dL_isPassed_380 (by decide) (fun hc_18 => ?_) (fun hc_18 => ?_)
                  · skip
                    have htr := if01_n hc_18
                    refine lv_iload hx hb dL_isPassed_407 (lv_at hl 3 rfl) ?_
                    refine lv_iload hx hb dL_isPassed_409 (lv_at hl 1 rfl) ?_
                    refine lv_if_ne (tgt := 418) hx hb dL_isPassed_411 (by decide) (fun hc_19 => ?_) (fun hc_19 => ?_)
                    · skip
                      refine lv_iconst (v := 0) hx hb dL_isPassed_418 (by decide) ?_
                      refine lv_iand hx hb dL_isPassed_419 ?_
                      refine lv_istore (lv' := [(15, .int ((seenJ k gn A i4) &&& 0)), (18, .int 0), (17, .int (A i4)), (16, .int (nI i4)), (14, .int (gi 0 9)), (13, .ref (al 405)), (12, .ref (al 404)), (11, .ref (al 403)), (10, .ref (al 402)), (9, .int (nI i1)), (8, .int (if (gn 0 5) < (it (fun i a => if mTicks k h (i + 1) g 0 5 < a then mTicks k h (i + 1) g 0 5 else a) i1 9000) then (gn 0 5) else (it (fun i a => if mTicks k h (i + 1) g 0 5 < a then mTicks k h (i + 1) g 0 5 else a) i1 9000))), (7, .ref (al 401)), (6, .int (mLeast k h g n)), (5, .int (mTicks k h n g 0 8 - g 0 8)), (4, .int (g 0 8)), (3, .int (nI n)), (2, .ref (al 400)), (1, .int (nI k.1)), (0, .ref (al 0))]) hx hb dL_isPassed_420 hl (by decide) rfl (fun ls hl => ?_)
                      refine lv_iinc (v := nI (i4 + 1)) (lv' := [(16, .int (nI (i4 + 1))), (15, .int ((seenJ k gn A i4) &&& 0)), (18, .int 0), (17, .int (A i4)), (14, .int (gi 0 9)), (13, .ref (al 405)), (12, .ref (al 404)), (11, .ref (al 403)), (10, .ref (al 402)), (9, .int (nI i1)), (8, .int (if (gn 0 5) < (it (fun i a => if mTicks k h (i + 1) g 0 5 < a then mTicks k h (i + 1) g 0 5 else a) i1 9000) then (gn 0 5) else (it (fun i a => if mTicks k h (i + 1) g 0 5 < a then mTicks k h (i + 1) g 0 5 else a) i1 9000))), (7, .ref (al 401)), (6, .int (mLeast k h g n)), (5, .int (mTicks k h n g 0 8 - g 0 8)), (4, .int (g 0 8)), (3, .int (nI n)), (2, .ref (al 400)), (1, .int (nI k.1)), (0, .ref (al 0))]) hx hb dL_isPassed_422 hl (k := 3) rfl (f_inc _) (by decide) rfl (fun ls hl => ?_)
                      refine lv_goto (tgt := 216) hx hb dL_isPassed_425 (by decide) ?_
                      have hl9 := lv_sub (l' := [(16, .int (nI (i4 + 1))), (15, .int ((seenJ k gn A i4) &&& 0)), (14, .int (gi 0 9)), (13, .ref (al 405)), (12, .ref (al 404)), (11, .ref (al 403)), (10, .ref (al 402)), (9, .int (nI i1)), (8, .int (if (gn 0 5) < (it (fun i a => if mTicks k h (i + 1) g 0 5 < a then mTicks k h (i + 1) g 0 5 else a) i1 9000) then (gn 0 5) else (it (fun i a => if mTicks k h (i + 1) g 0 5 < a then mTicks k h (i + 1) g 0 5 else a) i1 9000))), (7, .ref (al 401)), (6, .int (mLeast k h g n)), (5, .int (mTicks k h n g 0 8 - g 0 8)), (4, .int (g 0 8)), (3, .int (nI n)), (2, .ref (al 400)), (1, .int (nI k.1)), (0, .ref (al 0))]) hl [0, 1, 4, 5, 6, 7, 8, 9, 10, 11, 12, 13, 14, 15, 16, 17, 18] rfl
                      rw [show ([(16, .int (nI (i4 + 1))), (15, .int ((seenJ k gn A i4) &&& 0)), (14, .int (gi 0 9)), (13, .ref (al 405)), (12, .ref (al 404)), (11, .ref (al 403)), (10, .ref (al 402)), (9, .int (nI i1)), (8, .int (if (gn 0 5) < (it (fun i a => if mTicks k h (i + 1) g 0 5 < a then mTicks k h (i + 1) g 0 5 else a) i1 9000) then (gn 0 5) else (it (fun i a => if mTicks k h (i + 1) g 0 5 < a then mTicks k h (i + 1) g 0 5 else a) i1 9000))), (7, .ref (al 401)), (6, .int (mLeast k h g n)), (5, .int (mTicks k h n g 0 8 - g 0 8)), (4, .int (g 0 8)), (3, .int (nI n)), (2, .ref (al 400)), (1, .int (nI k.1)), (0, .ref (al 0))] : List (Nat × Value)) = [(16, .int (nI (i4 + 1))), (15, .int (seenJ k gn A (i4 + 1))), (14, .int (gi 0 9)), (13, .ref (al 405)), (12, .ref (al 404)), (11, .ref (al 403)), (10, .ref (al 402)), (9, .int (nI i1)), (8, .int (if (gn 0 5) < (it (fun i a => if mTicks k h (i + 1) g 0 5 < a then mTicks k h (i + 1) g 0 5 else a) i1 9000) then (gn 0 5) else (it (fun i a => if mTicks k h (i + 1) g 0 5 < a then mTicks k h (i + 1) g 0 5 else a) i1 9000))), (7, .ref (al 401)), (6, .int (mLeast k h g n)), (5, .int (mTicks k h n g 0 8 - g 0 8)), (4, .int (g 0 8)), (3, .int (nI n)), (2, .ref (al 400)), (1, .int (nI k.1)), (0, .ref (al 0))] from (by unfold seenJ; rw [it_s, if_neg htr, if_neg hc_19])] at hl9
                      exact ihi4 hlti4 c ⟨hX, hc400, hc401, hc402, hc403, hc404, (hc405.trans (congrArg (fun z : Nat → Int32 => some ((.inl (gI G, 10, .inl z)) : va_E)) (by unfold flJ; rw [it_s, if_neg htr])))⟩ _ _ _ hP hS hl9
                    · skip
                      refine lv_iconst (v := 1) hx hb dL_isPassed_414 (by decide) ?_
                      refine lv_goto (tgt := 419) hx hb dL_isPassed_415 (by decide) ?_
                      refine lv_iand hx hb dL_isPassed_419 ?_
                      refine lv_istore (lv' := [(15, .int ((seenJ k gn A i4) &&& 1)), (18, .int 0), (17, .int (A i4)), (16, .int (nI i4)), (14, .int (gi 0 9)), (13, .ref (al 405)), (12, .ref (al 404)), (11, .ref (al 403)), (10, .ref (al 402)), (9, .int (nI i1)), (8, .int (if (gn 0 5) < (it (fun i a => if mTicks k h (i + 1) g 0 5 < a then mTicks k h (i + 1) g 0 5 else a) i1 9000) then (gn 0 5) else (it (fun i a => if mTicks k h (i + 1) g 0 5 < a then mTicks k h (i + 1) g 0 5 else a) i1 9000))), (7, .ref (al 401)), (6, .int (mLeast k h g n)), (5, .int (mTicks k h n g 0 8 - g 0 8)), (4, .int (g 0 8)), (3, .int (nI n)), (2, .ref (al 400)), (1, .int (nI k.1)), (0, .ref (al 0))]) hx hb dL_isPassed_420 hl (by decide) rfl (fun ls hl => ?_)
                      refine lv_iinc (v := nI (i4 + 1)) (lv' := [(16, .int (nI (i4 + 1))), (15, .int ((seenJ k gn A i4) &&& 1)), (18, .int 0), (17, .int (A i4)), (14, .int (gi 0 9)), (13, .ref (al 405)), (12, .ref (al 404)), (11, .ref (al 403)), (10, .ref (al 402)), (9, .int (nI i1)), (8, .int (if (gn 0 5) < (it (fun i a => if mTicks k h (i + 1) g 0 5 < a then mTicks k h (i + 1) g 0 5 else a) i1 9000) then (gn 0 5) else (it (fun i a => if mTicks k h (i + 1) g 0 5 < a then mTicks k h (i + 1) g 0 5 else a) i1 9000))), (7, .ref (al 401)), (6, .int (mLeast k h g n)), (5, .int (mTicks k h n g 0 8 - g 0 8)), (4, .int (g 0 8)), (3, .int (nI n)), (2, .ref (al 400)), (1, .int (nI k.1)), (0, .ref (al 0))]) hx hb dL_isPassed_422 hl (k := 3) rfl (f_inc _) (by decide) rfl (fun ls hl => ?_)
                      refine lv_goto (tgt := 216) hx hb dL_isPassed_425 (by decide) ?_
                      have hl9 := lv_sub (l' := [(16, .int (nI (i4 + 1))), (15, .int ((seenJ k gn A i4) &&& 1)), (14, .int (gi 0 9)), (13, .ref (al 405)), (12, .ref (al 404)), (11, .ref (al 403)), (10, .ref (al 402)), (9, .int (nI i1)), (8, .int (if (gn 0 5) < (it (fun i a => if mTicks k h (i + 1) g 0 5 < a then mTicks k h (i + 1) g 0 5 else a) i1 9000) then (gn 0 5) else (it (fun i a => if mTicks k h (i + 1) g 0 5 < a then mTicks k h (i + 1) g 0 5 else a) i1 9000))), (7, .ref (al 401)), (6, .int (mLeast k h g n)), (5, .int (mTicks k h n g 0 8 - g 0 8)), (4, .int (g 0 8)), (3, .int (nI n)), (2, .ref (al 400)), (1, .int (nI k.1)), (0, .ref (al 0))]) hl [0, 1, 4, 5, 6, 7, 8, 9, 10, 11, 12, 13, 14, 15, 16, 17, 18] rfl
                      rw [show ([(16, .int (nI (i4 + 1))), (15, .int ((seenJ k gn A i4) &&& 1)), (14, .int (gi 0 9)), (13, .ref (al 405)), (12, .ref (al 404)), (11, .ref (al 403)), (10, .ref (al 402)), (9, .int (nI i1)), (8, .int (if (gn 0 5) < (it (fun i a => if mTicks k h (i + 1) g 0 5 < a then mTicks k h (i + 1) g 0 5 else a) i1 9000) then (gn 0 5) else (it (fun i a => if mTicks k h (i + 1) g 0 5 < a then mTicks k h (i + 1) g 0 5 else a) i1 9000))), (7, .ref (al 401)), (6, .int (mLeast k h g n)), (5, .int (mTicks k h n g 0 8 - g 0 8)), (4, .int (g 0 8)), (3, .int (nI n)), (2, .ref (al 400)), (1, .int (nI k.1)), (0, .ref (al 0))] : List (Nat × Value)) = [(16, .int (nI (i4 + 1))), (15, .int (seenJ k gn A (i4 + 1))), (14, .int (gi 0 9)), (13, .ref (al 405)), (12, .ref (al 404)), (11, .ref (al 403)), (10, .ref (al 402)), (9, .int (nI i1)), (8, .int (if (gn 0 5) < (it (fun i a => if mTicks k h (i + 1) g 0 5 < a then mTicks k h (i + 1) g 0 5 else a) i1 9000) then (gn 0 5) else (it (fun i a => if mTicks k h (i + 1) g 0 5 < a then mTicks k h (i + 1) g 0 5 else a) i1 9000))), (7, .ref (al 401)), (6, .int (mLeast k h g n)), (5, .int (mTicks k h n g 0 8 - g 0 8)), (4, .int (g 0 8)), (3, .int (nI n)), (2, .ref (al 400)), (1, .int (nI k.1)), (0, .ref (al 0))] from (by unfold seenJ; rw [it_s, if_neg htr, if_pos hc_19])] at hl9
                      exact ihi4 hlti4 c ⟨hX, hc400, hc401, hc402, hc403, hc404, (hc405.trans (congrArg (fun z : Nat → Int32 => some ((.inl (gI G, 10, .inl z)) : va_E)) (by unfold flJ; rw [it_s, if_neg htr])))⟩ _ _ _ hP hS hl9
                  · skip
                    have htr := if01_0 hc_18
                    refine lv_aload hx hb dL_isPassed_383 (lv_at hl 5 rfl) ?_
                    refine lv_iconst (v := 3) hx hb dL_isPassed_385 (by decide) ?_
                    refine lv_aload_n hx hb dL_isPassed_386 rfl (lv_at hl 18 rfl) ?_
                    refine lv_iload hx hb dL_isPassed_387 (lv_at hl 2 rfl) ?_
                    refine lv_bipush (v := 8) hx hb dL_isPassed_389 (by decide) ?_
                    refine g_aft_i (g_runV (As := [.int (nI i4), .int 8]) (rest := [.int 3, .ref (al 405)]) hx hb hml hown hts (kX7_ofJet_8 l G al k h c gn (mTicks k h n g) i4 hX hlti4) (fcwV 2 hts q560 q534 q535 q148 q477 rfl rfl (by decide +kernel) ⟨(Nat.le_of_ble_eq_true rfl), (Nat.le_of_ble_eq_true rfl)⟩) hE hb0 hP hS (m_recvA hE hP 0 rfl (gX_0 hX) rfl) rfl hl.1 rfl (Nat.le_of_ble_eq_true rfl) dL_isPassed_391 ⟨show 1 + 4 * i1 + 1 + 1 + 1 + 1 + 0 ≤ 21 by omega, show 8 + 28 * i1 + k.1 + k.1 + 2 + 10 + 0 ≤ 148 by omega⟩) hS (fun u H locs hP hS => ?_)
                    have hP : mP G al (w2 G al k c gn (mTicks k h n g)) H := hP
                    refine f_topi (v := mHt k gn i4) rfl ?_
                    refine f_topi (v := mHt k gn i4) rfl ?_
                    refine lv_bipush (v := 10) hx hb dL_isPassed_394 (by decide) ?_
                    refine lv_idiv hx hb dL_isPassed_396 (by decide) ?_
                    refine lv_iadd hx hb dL_isPassed_397 ?_
                    refine lv_dup2_11 hx hb dL_isPassed_398 rfl rfl ?_
                    refine m_iald hx hb hE hP 405 rfl ((w2_hi hJ (by decide)).trans hc405) (ix_e hcf hIn.1 hlti4).2.2 dL_isPassed_399 ?_
                    refine f_topi (v := (flJ k gn A i4 (arF (fun z => mFallIn gi (gi 0 4 + nI z)) 9)) (ixJ k gn i4)) (congrArg (flJ k gn A i4 (arF (fun z => mFallIn gi (gi 0 4 + nI z)) 9)) rfl) ?_
                    refine lv_iload hx hb dL_isPassed_400 (lv_at hl 1 rfl) ?_
                    refine lv_iadd hx hb dL_isPassed_402 ?_
                    refine mX_iast 405 (by decide) (by decide) hX hx hb hE hP hS rfl hc405 (ix_e hcf hIn.1 hlti4).2.2 (x' := ixJ k gn i4) rfl dL_isPassed_403 (fun c H locs hc405 hc9 hX hP hS => ?_)
                    have hc400 := (hc9 400 (by decide)).trans hc400
                    have hc401 := (hc9 401 (by decide)).trans hc401
                    have hc402 := (hc9 402 (by decide)).trans hc402
                    have hc403 := (hc9 403 (by decide)).trans hc403
                    have hc404 := (hc9 404 (by decide)).trans hc404
                    have hP : mP G al (w2 G al k c gn (mTicks k h n g)) H := hP
                    refine lv_goto (tgt := 422) hx hb dL_isPassed_404 (by decide) ?_
                    refine lv_iinc (v := nI (i4 + 1)) (lv' := [(16, .int (nI (i4 + 1))), (18, .int 0), (17, .int (A i4)), (15, .int (seenJ k gn A i4)), (14, .int (gi 0 9)), (13, .ref (al 405)), (12, .ref (al 404)), (11, .ref (al 403)), (10, .ref (al 402)), (9, .int (nI i1)), (8, .int (if (gn 0 5) < (it (fun i a => if mTicks k h (i + 1) g 0 5 < a then mTicks k h (i + 1) g 0 5 else a) i1 9000) then (gn 0 5) else (it (fun i a => if mTicks k h (i + 1) g 0 5 < a then mTicks k h (i + 1) g 0 5 else a) i1 9000))), (7, .ref (al 401)), (6, .int (mLeast k h g n)), (5, .int (mTicks k h n g 0 8 - g 0 8)), (4, .int (g 0 8)), (3, .int (nI n)), (2, .ref (al 400)), (1, .int (nI k.1)), (0, .ref (al 0))]) hx hb dL_isPassed_422 hl (k := 2) rfl (f_inc _) (by decide) rfl (fun ls hl => ?_)
                    refine lv_goto (tgt := 216) hx hb dL_isPassed_425 (by decide) ?_
                    have hl9 := lv_sub (l' := [(16, .int (nI (i4 + 1))), (15, .int (seenJ k gn A i4)), (14, .int (gi 0 9)), (13, .ref (al 405)), (12, .ref (al 404)), (11, .ref (al 403)), (10, .ref (al 402)), (9, .int (nI i1)), (8, .int (if (gn 0 5) < (it (fun i a => if mTicks k h (i + 1) g 0 5 < a then mTicks k h (i + 1) g 0 5 else a) i1 9000) then (gn 0 5) else (it (fun i a => if mTicks k h (i + 1) g 0 5 < a then mTicks k h (i + 1) g 0 5 else a) i1 9000))), (7, .ref (al 401)), (6, .int (mLeast k h g n)), (5, .int (mTicks k h n g 0 8 - g 0 8)), (4, .int (g 0 8)), (3, .int (nI n)), (2, .ref (al 400)), (1, .int (nI k.1)), (0, .ref (al 0))]) hl [0, 3, 4, 5, 6, 7, 8, 9, 10, 11, 12, 13, 14, 15, 16, 17, 18] rfl
                    rw [show ([(16, .int (nI (i4 + 1))), (15, .int (seenJ k gn A i4)), (14, .int (gi 0 9)), (13, .ref (al 405)), (12, .ref (al 404)), (11, .ref (al 403)), (10, .ref (al 402)), (9, .int (nI i1)), (8, .int (if (gn 0 5) < (it (fun i a => if mTicks k h (i + 1) g 0 5 < a then mTicks k h (i + 1) g 0 5 else a) i1 9000) then (gn 0 5) else (it (fun i a => if mTicks k h (i + 1) g 0 5 < a then mTicks k h (i + 1) g 0 5 else a) i1 9000))), (7, .ref (al 401)), (6, .int (mLeast k h g n)), (5, .int (mTicks k h n g 0 8 - g 0 8)), (4, .int (g 0 8)), (3, .int (nI n)), (2, .ref (al 400)), (1, .int (nI k.1)), (0, .ref (al 0))] : List (Nat × Value)) = [(16, .int (nI (i4 + 1))), (15, .int (seenJ k gn A (i4 + 1))), (14, .int (gi 0 9)), (13, .ref (al 405)), (12, .ref (al 404)), (11, .ref (al 403)), (10, .ref (al 402)), (9, .int (nI i1)), (8, .int (if (gn 0 5) < (it (fun i a => if mTicks k h (i + 1) g 0 5 < a then mTicks k h (i + 1) g 0 5 else a) i1 9000) then (gn 0 5) else (it (fun i a => if mTicks k h (i + 1) g 0 5 < a then mTicks k h (i + 1) g 0 5 else a) i1 9000))), (7, .ref (al 401)), (6, .int (mLeast k h g n)), (5, .int (mTicks k h n g 0 8 - g 0 8)), (4, .int (g 0 8)), (3, .int (nI n)), (2, .ref (al 400)), (1, .int (nI k.1)), (0, .ref (al 0))] from (by unfold seenJ; rw [it_s, if_pos htr])] at hl9
                    exact ihi4 hlti4 c ⟨hX, hc400, hc401, hc402, hc403, hc404, (hc405.trans (congrArg (fun z : Nat → Int32 => some ((.inl (gI G, 10, .inl z)) : va_E)) (by unfold flJ; rw [it_s, if_pos htr])))⟩ _ _ _ hP hS hl9
              · skip
                refine lv_aload_n hx hb dL_isPassed_306 rfl (lv_at hl 18 rfl) ?_
                refine lv_iload hx hb dL_isPassed_307 (lv_at hl 2 rfl) ?_
                refine lv_iconst (v := 5) hx hb dL_isPassed_309 (by decide) ?_
                refine g_aft_i (g_runV (As := [.int (nI i4), .int 5]) (rest := []) hx hb hml hown hts (kX7_ofJet_5 l G al k h c gn (mTicks k h n g) i4 hX hlti4) (fcwV 2 hts q560 q534 q535 q148 q477 rfl rfl (by decide +kernel) ⟨(Nat.le_of_ble_eq_true rfl), (Nat.le_of_ble_eq_true rfl)⟩) hE hb0 hP hS (m_recvA hE hP 0 rfl (gX_0 hX) rfl) rfl hl.1 rfl (Nat.le_of_ble_eq_true rfl) dL_isPassed_310 ⟨show 1 + 4 * i1 + 1 + 1 + 1 + 1 + 0 ≤ 21 by omega, show 8 + 28 * i1 + k.1 + k.1 + 2 + 10 + 0 ≤ 148 by omega⟩) hS (fun u H locs hP hS => ?_)
                have hP : mP G al (w2 G al k c gn (mTicks k h n g)) H := hP
                refine f_topi (v := gn (3 + i4) 5) rfl ?_
                refine f_topi (v := gn (3 + i4) 5) rfl ?_
                refine lv_aload hx hb dL_isPassed_313 (lv_at hl 8 rfl) ?_
                refine lv_iload hx hb dL_isPassed_315 (lv_at hl 2 rfl) ?_
                refine m_iald hx hb hE hP 402 rfl ((w2_hi hJ (by decide)).trans hc402) (nI_in (by omega) (by omega)) dL_isPassed_317 ?_
                refine f_topi (v := gi (3 + i4) 5) ((congrArg (arS (fun z => gi (3 + z) 5) k.1) (nI_clamp (by omega))).trans (ar_r _ (by omega))) ?_
                refine lv_icmp_ne (tgt := 366) hx hb dL_isPassed_318 (by decide) (fun h => absurd (hjI.2.2.2.1 hc_14) h) (fun _ => ?_)
                refine lv_aload_n hx hb dL_isPassed_321 rfl (lv_at hl 18 rfl) ?_
                refine lv_iload hx hb dL_isPassed_322 (lv_at hl 2 rfl) ?_
                refine lv_bipush (v := 8) hx hb dL_isPassed_324 (by decide) ?_
                refine g_aft_i (g_runV (As := [.int (nI i4), .int 8]) (rest := []) hx hb hml hown hts (kX7_ofJet_8 l G al k h c gn (mTicks k h n g) i4 hX hlti4) (fcwV 2 hts q560 q534 q535 q148 q477 rfl rfl (by decide +kernel) ⟨(Nat.le_of_ble_eq_true rfl), (Nat.le_of_ble_eq_true rfl)⟩) hE hb0 hP hS (m_recvA hE hP 0 rfl (gX_0 hX) rfl) rfl hl.1 rfl (Nat.le_of_ble_eq_true rfl) dL_isPassed_326 ⟨show 1 + 4 * i1 + 1 + 1 + 1 + 1 + 0 ≤ 21 by omega, show 8 + 28 * i1 + k.1 + k.1 + 2 + 10 + 0 ≤ 148 by omega⟩) hS (fun u H locs hP hS => ?_)
                have hP : mP G al (w2 G al k c gn (mTicks k h n g)) H := hP
                refine f_topi (v := mHt k gn i4) rfl ?_
                refine f_topi (v := mHt k gn i4) rfl ?_
                refine lv_bipush (v := 60) hx hb dL_isPassed_329 (by decide) ?_
                refine lv_icmp_gt (tgt := 366) hx hb dL_isPassed_331 (by decide) (fun h => absurd h hjI.2.2.2.2.1) (fun _ => ?_)
                refine lv_iload hx hb dL_isPassed_334 (lv_at hl 1 rfl) ?_
                refine lv_aload_n hx hb dL_isPassed_336 rfl (lv_at hl 18 rfl) ?_
                refine lv_iload hx hb dL_isPassed_337 (lv_at hl 2 rfl) ?_
                refine lv_bipush (v := 7) hx hb dL_isPassed_339 (by decide) ?_
                refine g_aft_i (g_runV (As := [.int (nI i4), .int 7]) (rest := [.int (A i4)]) hx hb hml hown hts (kX7_ofJet_7 l G al k h c gn (mTicks k h n g) i4 hX hlti4) (fcwV 2 hts q560 q534 q535 q148 q477 rfl rfl (by decide +kernel) ⟨(Nat.le_of_ble_eq_true rfl), (Nat.le_of_ble_eq_true rfl)⟩) hE hb0 hP hS (m_recvA hE hP 0 rfl (gX_0 hX) rfl) rfl hl.1 rfl (Nat.le_of_ble_eq_true rfl) dL_isPassed_341 ⟨show 1 + 4 * i1 + 1 + 1 + 1 + 1 + 0 ≤ 21 by omega, show 8 + 28 * i1 + k.1 + k.1 + 2 + 10 + 0 ≤ 148 by omega⟩) hS (fun u H locs hP hS => ?_)
                have hP : mP G al (w2 G al k c gn (mTicks k h n g)) H := hP
                refine f_topi (v := mFlow k gn i4) rfl ?_
                refine f_topi (v := mFlow k gn i4) rfl ?_
                refine lv_icmp_gt (tgt := 366) hx hb dL_isPassed_344 (by decide) (fun h => absurd h hjI.2.2.2.2.2.1) (fun _ => ?_)
                refine lv_aload_n hx hb dL_isPassed_347 rfl (lv_at hl 18 rfl) ?_
                refine lv_iload hx hb dL_isPassed_348 (lv_at hl 2 rfl) ?_
                refine lv_bipush (v := 9) hx hb dL_isPassed_350 (by decide) ?_
                refine g_aft_i (g_runV (As := [.int (nI i4), .int 9]) (rest := []) hx hb hml hown hts (kX7_ofJet_9 l G al k h c gn (mTicks k h n g) i4 hX hlti4) (fcwV 2 hts q560 q534 q535 q148 q477 rfl rfl (by decide +kernel) ⟨(Nat.le_of_ble_eq_true rfl), (Nat.le_of_ble_eq_true rfl)⟩) hE hb0 hP hS (m_recvA hE hP 0 rfl (gX_0 hX) rfl) rfl hl.1 rfl (Nat.le_of_ble_eq_true rfl) dL_isPassed_352 ⟨show 1 + 4 * i1 + 1 + 1 + 1 + 1 + 0 ≤ 21 by omega, show 8 + 28 * i1 + k.1 + k.1 + 2 + 10 + 0 ≤ 148 by omega⟩) hS (fun u H locs hP hS => ?_)
                have hP : mP G al (w2 G al k c gn (mTicks k h n g)) H := hP
                refine f_topi (v := if bz (gn (3 + i4) 7) = 0 then 0 else 1) rfl ?_
                refine f_topi (v := if bz (gn (3 + i4) 7) = 0 then 0 else 1) rfl ?_
                refine lv_iconst (v := 1) hx hb dL_isPassed_355 (by decide) ?_
                refine lv_icmp_ne (tgt := 368) hx hb dL_isPassed_356 (by decide) (fun hc_20 => ?_) (fun hc_20 => ?_)
                · skip
                  refine lv_aload_n hx hb dL_isPassed_368 rfl (lv_at hl 18 rfl) ?_
                  refine lv_aload_n hx hb dL_isPassed_369 rfl (lv_at hl 18 rfl) ?_
                  refine lv_iload hx hb dL_isPassed_370 (lv_at hl 2 rfl) ?_
                  refine lv_iconst (v := 0) hx hb dL_isPassed_372 (by decide) ?_
                  refine g_aft_i (g_runV (As := [.int (nI i4), .int 0]) (rest := [.ref (al 0)]) hx hb hml hown hts (kX7_ofJet_0 l G al k h c gn (mTicks k h n g) i4 hX hlti4) (fcwV 2 hts q560 q534 q535 q148 q477 rfl rfl (by decide +kernel) ⟨(Nat.le_of_ble_eq_true rfl), (Nat.le_of_ble_eq_true rfl)⟩) hE hb0 hP hS (m_recvA hE hP 0 rfl (gX_0 hX) rfl) rfl hl.1 rfl (Nat.le_of_ble_eq_true rfl) dL_isPassed_373 ⟨show 1 + 4 * i1 + 1 + 1 + 1 + 1 + 0 ≤ 21 by omega, show 8 + 28 * i1 + k.1 + k.1 + 2 + 10 + 0 ≤ 148 by omega⟩) hS (fun u H locs hP hS => ?_)
                  have hP : mP G al (w2 G al k c gn (mTicks k h n g)) H := hP
                  refine f_topi (v := nI (k.2.1 i4)) rfl ?_
                  refine f_topi (v := nI (k.2.1 i4)) rfl ?_
                  refine lv_iconst (v := 4) hx hb dL_isPassed_376 (by decide) ?_
                  refine g_aft_i (g_runV (As := [.int (nI (k.2.1 i4)), .int 4]) (rest := []) hx hb hml hown hts (kX7_ofPump_4 l G al k h c gn (mTicks k h n g) (k.2.1 i4) hX (gF_pp (gX_1 hX) hlti4)) (fcwV 2 hts q563 q531 q532 q148 q466 rfl rfl (by decide +kernel) ⟨(Nat.le_of_ble_eq_true rfl), (Nat.le_of_ble_eq_true rfl)⟩) hE hb0 hP hS (m_recvA hE hP 0 rfl (gX_0 hX) rfl) rfl hl.1 rfl (Nat.le_of_ble_eq_true rfl) dL_isPassed_377 ⟨show 1 + 4 * i1 + 1 + 1 + 1 + 1 + 0 ≤ 21 by omega, show 8 + 28 * i1 + k.1 + k.1 + 2 + 10 + 0 ≤ 148 by omega⟩) hS (fun u H locs hP hS => ?_)
                  have hP : mP G al (w2 G al k c gn (mTicks k h n g)) H := hP
                  refine f_topi (v := if bz (gn (1 + k.2.1 i4) 4) = 0 then 0 else 1) rfl ?_
                  refine f_topi (v := if bz (gn (1 + k.2.1 i4) 4) = 0 then 0 else 1) rfl ?_
                  refine lv_if_ne (tgt := 407) hx hb dL_isPassed_380 (by decide) (fun hc_21 => ?_) (fun hc_21 => ?_)
                  · skip
                    have htr := if01_n hc_21
                    refine lv_iload hx hb dL_isPassed_407 (lv_at hl 3 rfl) ?_
                    refine lv_iload hx hb dL_isPassed_409 (lv_at hl 1 rfl) ?_
                    refine lv_if_ne (tgt := 418) hx hb dL_isPassed_411 (by decide) (fun hc_22 => ?_) (fun hc_22 => ?_)
                    · skip
                      refine lv_iconst (v := 0) hx hb dL_isPassed_418 (by decide) ?_
                      refine lv_iand hx hb dL_isPassed_419 ?_
                      refine lv_istore (lv' := [(15, .int ((seenJ k gn A i4) &&& 0)), (18, .int 0), (17, .int (A i4)), (16, .int (nI i4)), (14, .int (gi 0 9)), (13, .ref (al 405)), (12, .ref (al 404)), (11, .ref (al 403)), (10, .ref (al 402)), (9, .int (nI i1)), (8, .int (if (gn 0 5) < (it (fun i a => if mTicks k h (i + 1) g 0 5 < a then mTicks k h (i + 1) g 0 5 else a) i1 9000) then (gn 0 5) else (it (fun i a => if mTicks k h (i + 1) g 0 5 < a then mTicks k h (i + 1) g 0 5 else a) i1 9000))), (7, .ref (al 401)), (6, .int (mLeast k h g n)), (5, .int (mTicks k h n g 0 8 - g 0 8)), (4, .int (g 0 8)), (3, .int (nI n)), (2, .ref (al 400)), (1, .int (nI k.1)), (0, .ref (al 0))]) hx hb dL_isPassed_420 hl (by decide) rfl (fun ls hl => ?_)
                      refine lv_iinc (v := nI (i4 + 1)) (lv' := [(16, .int (nI (i4 + 1))), (15, .int ((seenJ k gn A i4) &&& 0)), (18, .int 0), (17, .int (A i4)), (14, .int (gi 0 9)), (13, .ref (al 405)), (12, .ref (al 404)), (11, .ref (al 403)), (10, .ref (al 402)), (9, .int (nI i1)), (8, .int (if (gn 0 5) < (it (fun i a => if mTicks k h (i + 1) g 0 5 < a then mTicks k h (i + 1) g 0 5 else a) i1 9000) then (gn 0 5) else (it (fun i a => if mTicks k h (i + 1) g 0 5 < a then mTicks k h (i + 1) g 0 5 else a) i1 9000))), (7, .ref (al 401)), (6, .int (mLeast k h g n)), (5, .int (mTicks k h n g 0 8 - g 0 8)), (4, .int (g 0 8)), (3, .int (nI n)), (2, .ref (al 400)), (1, .int (nI k.1)), (0, .ref (al 0))]) hx hb dL_isPassed_422 hl (k := 3) rfl (f_inc _) (by decide) rfl (fun ls hl => ?_)
                      refine lv_goto (tgt := 216) hx hb dL_isPassed_425 (by decide) ?_
                      have hl9 := lv_sub (l' := [(16, .int (nI (i4 + 1))), (15, .int ((seenJ k gn A i4) &&& 0)), (14, .int (gi 0 9)), (13, .ref (al 405)), (12, .ref (al 404)), (11, .ref (al 403)), (10, .ref (al 402)), (9, .int (nI i1)), (8, .int (if (gn 0 5) < (it (fun i a => if mTicks k h (i + 1) g 0 5 < a then mTicks k h (i + 1) g 0 5 else a) i1 9000) then (gn 0 5) else (it (fun i a => if mTicks k h (i + 1) g 0 5 < a then mTicks k h (i + 1) g 0 5 else a) i1 9000))), (7, .ref (al 401)), (6, .int (mLeast k h g n)), (5, .int (mTicks k h n g 0 8 - g 0 8)), (4, .int (g 0 8)), (3, .int (nI n)), (2, .ref (al 400)), (1, .int (nI k.1)), (0, .ref (al 0))]) hl [0, 1, 4, 5, 6, 7, 8, 9, 10, 11, 12, 13, 14, 15, 16, 17, 18] rfl
                      rw [show ([(16, .int (nI (i4 + 1))), (15, .int ((seenJ k gn A i4) &&& 0)), (14, .int (gi 0 9)), (13, .ref (al 405)), (12, .ref (al 404)), (11, .ref (al 403)), (10, .ref (al 402)), (9, .int (nI i1)), (8, .int (if (gn 0 5) < (it (fun i a => if mTicks k h (i + 1) g 0 5 < a then mTicks k h (i + 1) g 0 5 else a) i1 9000) then (gn 0 5) else (it (fun i a => if mTicks k h (i + 1) g 0 5 < a then mTicks k h (i + 1) g 0 5 else a) i1 9000))), (7, .ref (al 401)), (6, .int (mLeast k h g n)), (5, .int (mTicks k h n g 0 8 - g 0 8)), (4, .int (g 0 8)), (3, .int (nI n)), (2, .ref (al 400)), (1, .int (nI k.1)), (0, .ref (al 0))] : List (Nat × Value)) = [(16, .int (nI (i4 + 1))), (15, .int (seenJ k gn A (i4 + 1))), (14, .int (gi 0 9)), (13, .ref (al 405)), (12, .ref (al 404)), (11, .ref (al 403)), (10, .ref (al 402)), (9, .int (nI i1)), (8, .int (if (gn 0 5) < (it (fun i a => if mTicks k h (i + 1) g 0 5 < a then mTicks k h (i + 1) g 0 5 else a) i1 9000) then (gn 0 5) else (it (fun i a => if mTicks k h (i + 1) g 0 5 < a then mTicks k h (i + 1) g 0 5 else a) i1 9000))), (7, .ref (al 401)), (6, .int (mLeast k h g n)), (5, .int (mTicks k h n g 0 8 - g 0 8)), (4, .int (g 0 8)), (3, .int (nI n)), (2, .ref (al 400)), (1, .int (nI k.1)), (0, .ref (al 0))] from (by unfold seenJ; rw [it_s, if_neg htr, if_neg hc_22])] at hl9
                      exact ihi4 hlti4 c ⟨hX, hc400, hc401, hc402, hc403, hc404, (hc405.trans (congrArg (fun z : Nat → Int32 => some ((.inl (gI G, 10, .inl z)) : va_E)) (by unfold flJ; rw [it_s, if_neg htr])))⟩ _ _ _ hP hS hl9
                    · skip
                      refine lv_iconst (v := 1) hx hb dL_isPassed_414 (by decide) ?_
                      refine lv_goto (tgt := 419) hx hb dL_isPassed_415 (by decide) ?_
                      refine lv_iand hx hb dL_isPassed_419 ?_
                      refine lv_istore (lv' := [(15, .int ((seenJ k gn A i4) &&& 1)), (18, .int 0), (17, .int (A i4)), (16, .int (nI i4)), (14, .int (gi 0 9)), (13, .ref (al 405)), (12, .ref (al 404)), (11, .ref (al 403)), (10, .ref (al 402)), (9, .int (nI i1)), (8, .int (if (gn 0 5) < (it (fun i a => if mTicks k h (i + 1) g 0 5 < a then mTicks k h (i + 1) g 0 5 else a) i1 9000) then (gn 0 5) else (it (fun i a => if mTicks k h (i + 1) g 0 5 < a then mTicks k h (i + 1) g 0 5 else a) i1 9000))), (7, .ref (al 401)), (6, .int (mLeast k h g n)), (5, .int (mTicks k h n g 0 8 - g 0 8)), (4, .int (g 0 8)), (3, .int (nI n)), (2, .ref (al 400)), (1, .int (nI k.1)), (0, .ref (al 0))]) hx hb dL_isPassed_420 hl (by decide) rfl (fun ls hl => ?_)
                      refine lv_iinc (v := nI (i4 + 1)) (lv' := [(16, .int (nI (i4 + 1))), (15, .int ((seenJ k gn A i4) &&& 1)), (18, .int 0), (17, .int (A i4)), (14, .int (gi 0 9)), (13, .ref (al 405)), (12, .ref (al 404)), (11, .ref (al 403)), (10, .ref (al 402)), (9, .int (nI i1)), (8, .int (if (gn 0 5) < (it (fun i a => if mTicks k h (i + 1) g 0 5 < a then mTicks k h (i + 1) g 0 5 else a) i1 9000) then (gn 0 5) else (it (fun i a => if mTicks k h (i + 1) g 0 5 < a then mTicks k h (i + 1) g 0 5 else a) i1 9000))), (7, .ref (al 401)), (6, .int (mLeast k h g n)), (5, .int (mTicks k h n g 0 8 - g 0 8)), (4, .int (g 0 8)), (3, .int (nI n)), (2, .ref (al 400)), (1, .int (nI k.1)), (0, .ref (al 0))]) hx hb dL_isPassed_422 hl (k := 3) rfl (f_inc _) (by decide) rfl (fun ls hl => ?_)
                      refine lv_goto (tgt := 216) hx hb dL_isPassed_425 (by decide) ?_
                      have hl9 := lv_sub (l' := [(16, .int (nI (i4 + 1))), (15, .int ((seenJ k gn A i4) &&& 1)), (14, .int (gi 0 9)), (13, .ref (al 405)), (12, .ref (al 404)), (11, .ref (al 403)), (10, .ref (al 402)), (9, .int (nI i1)), (8, .int (if (gn 0 5) < (it (fun i a => if mTicks k h (i + 1) g 0 5 < a then mTicks k h (i + 1) g 0 5 else a) i1 9000) then (gn 0 5) else (it (fun i a => if mTicks k h (i + 1) g 0 5 < a then mTicks k h (i + 1) g 0 5 else a) i1 9000))), (7, .ref (al 401)), (6, .int (mLeast k h g n)), (5, .int (mTicks k h n g 0 8 - g 0 8)), (4, .int (g 0 8)), (3, .int (nI n)), (2, .ref (al 400)), (1, .int (nI k.1)), (0, .ref (al 0))]) hl [0, 1, 4, 5, 6, 7, 8, 9, 10, 11, 12, 13, 14, 15, 16, 17, 18] rfl
                      rw [show ([(16, .int (nI (i4 + 1))), (15, .int ((seenJ k gn A i4) &&& 1)), (14, .int (gi 0 9)), (13, .ref (al 405)), (12, .ref (al 404)), (11, .ref (al 403)), (10, .ref (al 402)), (9, .int (nI i1)), (8, .int (if (gn 0 5) < (it (fun i a => if mTicks k h (i + 1) g 0 5 < a then mTicks k h (i + 1) g 0 5 else a) i1 9000) then (gn 0 5) else (it (fun i a => if mTicks k h (i + 1) g 0 5 < a then mTicks k h (i + 1) g 0 5 else a) i1 9000))), (7, .ref (al 401)), (6, .int (mLeast k h g n)), (5, .int (mTicks k h n g 0 8 - g 0 8)), (4, .int (g 0 8)), (3, .int (nI n)), (2, .ref (al 400)), (1, .int (nI k.1)), (0, .ref (al 0))] : List (Nat × Value)) = [(16, .int (nI (i4 + 1))), (15, .int (seenJ k gn A (i4 + 1))), (14, .int (gi 0 9)), (13, .ref (al 405)), (12, .ref (al 404)), (11, .ref (al 403)), (10, .ref (al 402)), (9, .int (nI i1)), (8, .int (if (gn 0 5) < (it (fun i a => if mTicks k h (i + 1) g 0 5 < a then mTicks k h (i + 1) g 0 5 else a) i1 9000) then (gn 0 5) else (it (fun i a => if mTicks k h (i + 1) g 0 5 < a then mTicks k h (i + 1) g 0 5 else a) i1 9000))), (7, .ref (al 401)), (6, .int (mLeast k h g n)), (5, .int (mTicks k h n g 0 8 - g 0 8)), (4, .int (g 0 8)), (3, .int (nI n)), (2, .ref (al 400)), (1, .int (nI k.1)), (0, .ref (al 0))] from (by unfold seenJ; rw [it_s, if_neg htr, if_pos hc_22])] at hl9
                      exact ihi4 hlti4 c ⟨hX, hc400, hc401, hc402, hc403, hc404, (hc405.trans (congrArg (fun z : Nat → Int32 => some ((.inl (gI G, 10, .inl z)) : va_E)) (by unfold flJ; rw [it_s, if_neg htr])))⟩ _ _ _ hP hS hl9
                  · skip
                    have htr := if01_0 hc_21
                    refine lv_aload hx hb dL_isPassed_383 (lv_at hl 5 rfl) ?_
                    refine lv_iconst (v := 3) hx hb dL_isPassed_385 (by decide) ?_
                    refine lv_aload_n hx hb dL_isPassed_386 rfl (lv_at hl 18 rfl) ?_
                    refine lv_iload hx hb dL_isPassed_387 (lv_at hl 2 rfl) ?_
                    refine lv_bipush (v := 8) hx hb dL_isPassed_389 (by decide) ?_
                    refine g_aft_i (g_runV (As := [.int (nI i4), .int 8]) (rest := [.int 3, .ref (al 405)]) hx hb hml hown hts (kX7_ofJet_8 l G al k h c gn (mTicks k h n g) i4 hX hlti4) (fcwV 2 hts q560 q534 q535 q148 q477 rfl rfl (by decide +kernel) ⟨(Nat.le_of_ble_eq_true rfl), (Nat.le_of_ble_eq_true rfl)⟩) hE hb0 hP hS (m_recvA hE hP 0 rfl (gX_0 hX) rfl) rfl hl.1 rfl (Nat.le_of_ble_eq_true rfl) dL_isPassed_391 ⟨show 1 + 4 * i1 + 1 + 1 + 1 + 1 + 0 ≤ 21 by omega, show 8 + 28 * i1 + k.1 + k.1 + 2 + 10 + 0 ≤ 148 by omega⟩) hS (fun u H locs hP hS => ?_)
                    have hP : mP G al (w2 G al k c gn (mTicks k h n g)) H := hP
                    refine f_topi (v := mHt k gn i4) rfl ?_
                    refine f_topi (v := mHt k gn i4) rfl ?_
                    refine lv_bipush (v := 10) hx hb dL_isPassed_394 (by decide) ?_
                    refine lv_idiv hx hb dL_isPassed_396 (by decide) ?_
                    refine lv_iadd hx hb dL_isPassed_397 ?_
                    refine lv_dup2_11 hx hb dL_isPassed_398 rfl rfl ?_
                    refine m_iald hx hb hE hP 405 rfl ((w2_hi hJ (by decide)).trans hc405) (ix_e hcf hIn.1 hlti4).2.2 dL_isPassed_399 ?_
                    refine f_topi (v := (flJ k gn A i4 (arF (fun z => mFallIn gi (gi 0 4 + nI z)) 9)) (ixJ k gn i4)) (congrArg (flJ k gn A i4 (arF (fun z => mFallIn gi (gi 0 4 + nI z)) 9)) rfl) ?_
                    refine lv_iload hx hb dL_isPassed_400 (lv_at hl 1 rfl) ?_
                    refine lv_iadd hx hb dL_isPassed_402 ?_
                    refine mX_iast 405 (by decide) (by decide) hX hx hb hE hP hS rfl hc405 (ix_e hcf hIn.1 hlti4).2.2 (x' := ixJ k gn i4) rfl dL_isPassed_403 (fun c H locs hc405 hc9 hX hP hS => ?_)
                    have hc400 := (hc9 400 (by decide)).trans hc400
                    have hc401 := (hc9 401 (by decide)).trans hc401
                    have hc402 := (hc9 402 (by decide)).trans hc402
                    have hc403 := (hc9 403 (by decide)).trans hc403
                    have hc404 := (hc9 404 (by decide)).trans hc404
                    have hP : mP G al (w2 G al k c gn (mTicks k h n g)) H := hP
                    refine lv_goto (tgt := 422) hx hb dL_isPassed_404 (by decide) ?_
                    refine lv_iinc (v := nI (i4 + 1)) (lv' := [(16, .int (nI (i4 + 1))), (18, .int 0), (17, .int (A i4)), (15, .int (seenJ k gn A i4)), (14, .int (gi 0 9)), (13, .ref (al 405)), (12, .ref (al 404)), (11, .ref (al 403)), (10, .ref (al 402)), (9, .int (nI i1)), (8, .int (if (gn 0 5) < (it (fun i a => if mTicks k h (i + 1) g 0 5 < a then mTicks k h (i + 1) g 0 5 else a) i1 9000) then (gn 0 5) else (it (fun i a => if mTicks k h (i + 1) g 0 5 < a then mTicks k h (i + 1) g 0 5 else a) i1 9000))), (7, .ref (al 401)), (6, .int (mLeast k h g n)), (5, .int (mTicks k h n g 0 8 - g 0 8)), (4, .int (g 0 8)), (3, .int (nI n)), (2, .ref (al 400)), (1, .int (nI k.1)), (0, .ref (al 0))]) hx hb dL_isPassed_422 hl (k := 2) rfl (f_inc _) (by decide) rfl (fun ls hl => ?_)
                    refine lv_goto (tgt := 216) hx hb dL_isPassed_425 (by decide) ?_
                    have hl9 := lv_sub (l' := [(16, .int (nI (i4 + 1))), (15, .int (seenJ k gn A i4)), (14, .int (gi 0 9)), (13, .ref (al 405)), (12, .ref (al 404)), (11, .ref (al 403)), (10, .ref (al 402)), (9, .int (nI i1)), (8, .int (if (gn 0 5) < (it (fun i a => if mTicks k h (i + 1) g 0 5 < a then mTicks k h (i + 1) g 0 5 else a) i1 9000) then (gn 0 5) else (it (fun i a => if mTicks k h (i + 1) g 0 5 < a then mTicks k h (i + 1) g 0 5 else a) i1 9000))), (7, .ref (al 401)), (6, .int (mLeast k h g n)), (5, .int (mTicks k h n g 0 8 - g 0 8)), (4, .int (g 0 8)), (3, .int (nI n)), (2, .ref (al 400)), (1, .int (nI k.1)), (0, .ref (al 0))]) hl [0, 3, 4, 5, 6, 7, 8, 9, 10, 11, 12, 13, 14, 15, 16, 17, 18] rfl
                    rw [show ([(16, .int (nI (i4 + 1))), (15, .int (seenJ k gn A i4)), (14, .int (gi 0 9)), (13, .ref (al 405)), (12, .ref (al 404)), (11, .ref (al 403)), (10, .ref (al 402)), (9, .int (nI i1)), (8, .int (if (gn 0 5) < (it (fun i a => if mTicks k h (i + 1) g 0 5 < a then mTicks k h (i + 1) g 0 5 else a) i1 9000) then (gn 0 5) else (it (fun i a => if mTicks k h (i + 1) g 0 5 < a then mTicks k h (i + 1) g 0 5 else a) i1 9000))), (7, .ref (al 401)), (6, .int (mLeast k h g n)), (5, .int (mTicks k h n g 0 8 - g 0 8)), (4, .int (g 0 8)), (3, .int (nI n)), (2, .ref (al 400)), (1, .int (nI k.1)), (0, .ref (al 0))] : List (Nat × Value)) = [(16, .int (nI (i4 + 1))), (15, .int (seenJ k gn A (i4 + 1))), (14, .int (gi 0 9)), (13, .ref (al 405)), (12, .ref (al 404)), (11, .ref (al 403)), (10, .ref (al 402)), (9, .int (nI i1)), (8, .int (if (gn 0 5) < (it (fun i a => if mTicks k h (i + 1) g 0 5 < a then mTicks k h (i + 1) g 0 5 else a) i1 9000) then (gn 0 5) else (it (fun i a => if mTicks k h (i + 1) g 0 5 < a then mTicks k h (i + 1) g 0 5 else a) i1 9000))), (7, .ref (al 401)), (6, .int (mLeast k h g n)), (5, .int (mTicks k h n g 0 8 - g 0 8)), (4, .int (g 0 8)), (3, .int (nI n)), (2, .ref (al 400)), (1, .int (nI k.1)), (0, .ref (al 0))] from (by unfold seenJ; rw [it_s, if_pos htr])] at hl9
                    exact ihi4 hlti4 c ⟨hX, hc400, hc401, hc402, hc403, hc404, (hc405.trans (congrArg (fun z : Nat → Int32 => some ((.inl (gI G, 10, .inl z)) : va_E)) (by unfold flJ; rw [it_s, if_pos htr])))⟩ _ _ _ hP hS hl9
                · skip
                  have hlm := bz_i2 hc_20
                  refine lv_aload_n hx hb dL_isPassed_359 rfl (lv_at hl 16 rfl) ?_
                  refine lv_iload hx hb dL_isPassed_360 (lv_at hl 2 rfl) ?_
                  refine m_zald hx hb hE hP 400 rfl ((w2_hi hJ (by decide)).trans hc400) (nI_in (by omega) (by omega)) dL_isPassed_362 ?_
                  refine f_topi (v := (fun z => bz (lk z)) i4) (congrArg (fun z => bz (lk z)) (nI_clamp (by omega))) ?_
                  refine lv_if_eq (tgt := 368) hx hb dL_isPassed_363 (by decide) (fun _ => ?_) (fun h => absurd (((hlk i4 hlti4).symm.trans (congrArg bz (hLi i4 hlti4).symm)).trans (hjI.2.2.2.2.2.2.1 hlm)) h)
                  refine lv_aload_n hx hb dL_isPassed_368 rfl (lv_at hl 18 rfl) ?_
                  refine lv_aload_n hx hb dL_isPassed_369 rfl (lv_at hl 18 rfl) ?_
                  refine lv_iload hx hb dL_isPassed_370 (lv_at hl 2 rfl) ?_
                  refine lv_iconst (v := 0) hx hb dL_isPassed_372 (by decide) ?_
                  refine g_aft_i (g_runV (As := [.int (nI i4), .int 0]) (rest := [.ref (al 0)]) hx hb hml hown hts (kX7_ofJet_0 l G al k h c gn (mTicks k h n g) i4 hX hlti4) (fcwV 2 hts q560 q534 q535 q148 q477 rfl rfl (by decide +kernel) ⟨(Nat.le_of_ble_eq_true rfl), (Nat.le_of_ble_eq_true rfl)⟩) hE hb0 hP hS (m_recvA hE hP 0 rfl (gX_0 hX) rfl) rfl hl.1 rfl (Nat.le_of_ble_eq_true rfl) dL_isPassed_373 ⟨show 1 + 4 * i1 + 1 + 1 + 1 + 1 + 0 ≤ 21 by omega, show 8 + 28 * i1 + k.1 + k.1 + 2 + 10 + 0 ≤ 148 by omega⟩) hS (fun u H locs hP hS => ?_)
                  have hP : mP G al (w2 G al k c gn (mTicks k h n g)) H := hP
                  refine f_topi (v := nI (k.2.1 i4)) rfl ?_
                  refine f_topi (v := nI (k.2.1 i4)) rfl ?_
                  refine lv_iconst (v := 4) hx hb dL_isPassed_376 (by decide) ?_
                  refine g_aft_i (g_runV (As := [.int (nI (k.2.1 i4)), .int 4]) (rest := []) hx hb hml hown hts (kX7_ofPump_4 l G al k h c gn (mTicks k h n g) (k.2.1 i4) hX (gF_pp (gX_1 hX) hlti4)) (fcwV 2 hts q563 q531 q532 q148 q466 rfl rfl (by decide +kernel) ⟨(Nat.le_of_ble_eq_true rfl), (Nat.le_of_ble_eq_true rfl)⟩) hE hb0 hP hS (m_recvA hE hP 0 rfl (gX_0 hX) rfl) rfl hl.1 rfl (Nat.le_of_ble_eq_true rfl) dL_isPassed_377 ⟨show 1 + 4 * i1 + 1 + 1 + 1 + 1 + 0 ≤ 21 by omega, show 8 + 28 * i1 + k.1 + k.1 + 2 + 10 + 0 ≤ 148 by omega⟩) hS (fun u H locs hP hS => ?_)
                  have hP : mP G al (w2 G al k c gn (mTicks k h n g)) H := hP
                  refine f_topi (v := if bz (gn (1 + k.2.1 i4) 4) = 0 then 0 else 1) rfl ?_
                  refine f_topi (v := if bz (gn (1 + k.2.1 i4) 4) = 0 then 0 else 1) rfl ?_
                  refine lv_if_ne (tgt := 407) hx hb dL_isPassed_380 (by decide) (fun hc_23 => ?_) (fun hc_23 => ?_)
                  · skip
                    have htr := if01_n hc_23
                    refine lv_iload hx hb dL_isPassed_407 (lv_at hl 3 rfl) ?_
                    refine lv_iload hx hb dL_isPassed_409 (lv_at hl 1 rfl) ?_
                    refine lv_if_ne (tgt := 418) hx hb dL_isPassed_411 (by decide) (fun hc_24 => ?_) (fun hc_24 => ?_)
                    · skip
                      refine lv_iconst (v := 0) hx hb dL_isPassed_418 (by decide) ?_
                      refine lv_iand hx hb dL_isPassed_419 ?_
                      refine lv_istore (lv' := [(15, .int ((seenJ k gn A i4) &&& 0)), (18, .int 0), (17, .int (A i4)), (16, .int (nI i4)), (14, .int (gi 0 9)), (13, .ref (al 405)), (12, .ref (al 404)), (11, .ref (al 403)), (10, .ref (al 402)), (9, .int (nI i1)), (8, .int (if (gn 0 5) < (it (fun i a => if mTicks k h (i + 1) g 0 5 < a then mTicks k h (i + 1) g 0 5 else a) i1 9000) then (gn 0 5) else (it (fun i a => if mTicks k h (i + 1) g 0 5 < a then mTicks k h (i + 1) g 0 5 else a) i1 9000))), (7, .ref (al 401)), (6, .int (mLeast k h g n)), (5, .int (mTicks k h n g 0 8 - g 0 8)), (4, .int (g 0 8)), (3, .int (nI n)), (2, .ref (al 400)), (1, .int (nI k.1)), (0, .ref (al 0))]) hx hb dL_isPassed_420 hl (by decide) rfl (fun ls hl => ?_)
                      refine lv_iinc (v := nI (i4 + 1)) (lv' := [(16, .int (nI (i4 + 1))), (15, .int ((seenJ k gn A i4) &&& 0)), (18, .int 0), (17, .int (A i4)), (14, .int (gi 0 9)), (13, .ref (al 405)), (12, .ref (al 404)), (11, .ref (al 403)), (10, .ref (al 402)), (9, .int (nI i1)), (8, .int (if (gn 0 5) < (it (fun i a => if mTicks k h (i + 1) g 0 5 < a then mTicks k h (i + 1) g 0 5 else a) i1 9000) then (gn 0 5) else (it (fun i a => if mTicks k h (i + 1) g 0 5 < a then mTicks k h (i + 1) g 0 5 else a) i1 9000))), (7, .ref (al 401)), (6, .int (mLeast k h g n)), (5, .int (mTicks k h n g 0 8 - g 0 8)), (4, .int (g 0 8)), (3, .int (nI n)), (2, .ref (al 400)), (1, .int (nI k.1)), (0, .ref (al 0))]) hx hb dL_isPassed_422 hl (k := 3) rfl (f_inc _) (by decide) rfl (fun ls hl => ?_)
                      refine lv_goto (tgt := 216) hx hb dL_isPassed_425 (by decide) ?_
                      have hl9 := lv_sub (l' := [(16, .int (nI (i4 + 1))), (15, .int ((seenJ k gn A i4) &&& 0)), (14, .int (gi 0 9)), (13, .ref (al 405)), (12, .ref (al 404)), (11, .ref (al 403)), (10, .ref (al 402)), (9, .int (nI i1)), (8, .int (if (gn 0 5) < (it (fun i a => if mTicks k h (i + 1) g 0 5 < a then mTicks k h (i + 1) g 0 5 else a) i1 9000) then (gn 0 5) else (it (fun i a => if mTicks k h (i + 1) g 0 5 < a then mTicks k h (i + 1) g 0 5 else a) i1 9000))), (7, .ref (al 401)), (6, .int (mLeast k h g n)), (5, .int (mTicks k h n g 0 8 - g 0 8)), (4, .int (g 0 8)), (3, .int (nI n)), (2, .ref (al 400)), (1, .int (nI k.1)), (0, .ref (al 0))]) hl [0, 1, 4, 5, 6, 7, 8, 9, 10, 11, 12, 13, 14, 15, 16, 17, 18] rfl
                      rw [show ([(16, .int (nI (i4 + 1))), (15, .int ((seenJ k gn A i4) &&& 0)), (14, .int (gi 0 9)), (13, .ref (al 405)), (12, .ref (al 404)), (11, .ref (al 403)), (10, .ref (al 402)), (9, .int (nI i1)), (8, .int (if (gn 0 5) < (it (fun i a => if mTicks k h (i + 1) g 0 5 < a then mTicks k h (i + 1) g 0 5 else a) i1 9000) then (gn 0 5) else (it (fun i a => if mTicks k h (i + 1) g 0 5 < a then mTicks k h (i + 1) g 0 5 else a) i1 9000))), (7, .ref (al 401)), (6, .int (mLeast k h g n)), (5, .int (mTicks k h n g 0 8 - g 0 8)), (4, .int (g 0 8)), (3, .int (nI n)), (2, .ref (al 400)), (1, .int (nI k.1)), (0, .ref (al 0))] : List (Nat × Value)) = [(16, .int (nI (i4 + 1))), (15, .int (seenJ k gn A (i4 + 1))), (14, .int (gi 0 9)), (13, .ref (al 405)), (12, .ref (al 404)), (11, .ref (al 403)), (10, .ref (al 402)), (9, .int (nI i1)), (8, .int (if (gn 0 5) < (it (fun i a => if mTicks k h (i + 1) g 0 5 < a then mTicks k h (i + 1) g 0 5 else a) i1 9000) then (gn 0 5) else (it (fun i a => if mTicks k h (i + 1) g 0 5 < a then mTicks k h (i + 1) g 0 5 else a) i1 9000))), (7, .ref (al 401)), (6, .int (mLeast k h g n)), (5, .int (mTicks k h n g 0 8 - g 0 8)), (4, .int (g 0 8)), (3, .int (nI n)), (2, .ref (al 400)), (1, .int (nI k.1)), (0, .ref (al 0))] from (by unfold seenJ; rw [it_s, if_neg htr, if_neg hc_24])] at hl9
                      exact ihi4 hlti4 c ⟨hX, hc400, hc401, hc402, hc403, hc404, (hc405.trans (congrArg (fun z : Nat → Int32 => some ((.inl (gI G, 10, .inl z)) : va_E)) (by unfold flJ; rw [it_s, if_neg htr])))⟩ _ _ _ hP hS hl9
                    · skip
                      refine lv_iconst (v := 1) hx hb dL_isPassed_414 (by decide) ?_
                      refine lv_goto (tgt := 419) hx hb dL_isPassed_415 (by decide) ?_
                      refine lv_iand hx hb dL_isPassed_419 ?_
                      refine lv_istore (lv' := [(15, .int ((seenJ k gn A i4) &&& 1)), (18, .int 0), (17, .int (A i4)), (16, .int (nI i4)), (14, .int (gi 0 9)), (13, .ref (al 405)), (12, .ref (al 404)), (11, .ref (al 403)), (10, .ref (al 402)), (9, .int (nI i1)), (8, .int (if (gn 0 5) < (it (fun i a => if mTicks k h (i + 1) g 0 5 < a then mTicks k h (i + 1) g 0 5 else a) i1 9000) then (gn 0 5) else (it (fun i a => if mTicks k h (i + 1) g 0 5 < a then mTicks k h (i + 1) g 0 5 else a) i1 9000))), (7, .ref (al 401)), (6, .int (mLeast k h g n)), (5, .int (mTicks k h n g 0 8 - g 0 8)), (4, .int (g 0 8)), (3, .int (nI n)), (2, .ref (al 400)), (1, .int (nI k.1)), (0, .ref (al 0))]) hx hb dL_isPassed_420 hl (by decide) rfl (fun ls hl => ?_)
                      refine lv_iinc (v := nI (i4 + 1)) (lv' := [(16, .int (nI (i4 + 1))), (15, .int ((seenJ k gn A i4) &&& 1)), (18, .int 0), (17, .int (A i4)), (14, .int (gi 0 9)), (13, .ref (al 405)), (12, .ref (al 404)), (11, .ref (al 403)), (10, .ref (al 402)), (9, .int (nI i1)), (8, .int (if (gn 0 5) < (it (fun i a => if mTicks k h (i + 1) g 0 5 < a then mTicks k h (i + 1) g 0 5 else a) i1 9000) then (gn 0 5) else (it (fun i a => if mTicks k h (i + 1) g 0 5 < a then mTicks k h (i + 1) g 0 5 else a) i1 9000))), (7, .ref (al 401)), (6, .int (mLeast k h g n)), (5, .int (mTicks k h n g 0 8 - g 0 8)), (4, .int (g 0 8)), (3, .int (nI n)), (2, .ref (al 400)), (1, .int (nI k.1)), (0, .ref (al 0))]) hx hb dL_isPassed_422 hl (k := 3) rfl (f_inc _) (by decide) rfl (fun ls hl => ?_)
                      refine lv_goto (tgt := 216) hx hb dL_isPassed_425 (by decide) ?_
                      have hl9 := lv_sub (l' := [(16, .int (nI (i4 + 1))), (15, .int ((seenJ k gn A i4) &&& 1)), (14, .int (gi 0 9)), (13, .ref (al 405)), (12, .ref (al 404)), (11, .ref (al 403)), (10, .ref (al 402)), (9, .int (nI i1)), (8, .int (if (gn 0 5) < (it (fun i a => if mTicks k h (i + 1) g 0 5 < a then mTicks k h (i + 1) g 0 5 else a) i1 9000) then (gn 0 5) else (it (fun i a => if mTicks k h (i + 1) g 0 5 < a then mTicks k h (i + 1) g 0 5 else a) i1 9000))), (7, .ref (al 401)), (6, .int (mLeast k h g n)), (5, .int (mTicks k h n g 0 8 - g 0 8)), (4, .int (g 0 8)), (3, .int (nI n)), (2, .ref (al 400)), (1, .int (nI k.1)), (0, .ref (al 0))]) hl [0, 1, 4, 5, 6, 7, 8, 9, 10, 11, 12, 13, 14, 15, 16, 17, 18] rfl
                      rw [show ([(16, .int (nI (i4 + 1))), (15, .int ((seenJ k gn A i4) &&& 1)), (14, .int (gi 0 9)), (13, .ref (al 405)), (12, .ref (al 404)), (11, .ref (al 403)), (10, .ref (al 402)), (9, .int (nI i1)), (8, .int (if (gn 0 5) < (it (fun i a => if mTicks k h (i + 1) g 0 5 < a then mTicks k h (i + 1) g 0 5 else a) i1 9000) then (gn 0 5) else (it (fun i a => if mTicks k h (i + 1) g 0 5 < a then mTicks k h (i + 1) g 0 5 else a) i1 9000))), (7, .ref (al 401)), (6, .int (mLeast k h g n)), (5, .int (mTicks k h n g 0 8 - g 0 8)), (4, .int (g 0 8)), (3, .int (nI n)), (2, .ref (al 400)), (1, .int (nI k.1)), (0, .ref (al 0))] : List (Nat × Value)) = [(16, .int (nI (i4 + 1))), (15, .int (seenJ k gn A (i4 + 1))), (14, .int (gi 0 9)), (13, .ref (al 405)), (12, .ref (al 404)), (11, .ref (al 403)), (10, .ref (al 402)), (9, .int (nI i1)), (8, .int (if (gn 0 5) < (it (fun i a => if mTicks k h (i + 1) g 0 5 < a then mTicks k h (i + 1) g 0 5 else a) i1 9000) then (gn 0 5) else (it (fun i a => if mTicks k h (i + 1) g 0 5 < a then mTicks k h (i + 1) g 0 5 else a) i1 9000))), (7, .ref (al 401)), (6, .int (mLeast k h g n)), (5, .int (mTicks k h n g 0 8 - g 0 8)), (4, .int (g 0 8)), (3, .int (nI n)), (2, .ref (al 400)), (1, .int (nI k.1)), (0, .ref (al 0))] from (by unfold seenJ; rw [it_s, if_neg htr, if_pos hc_24])] at hl9
                      exact ihi4 hlti4 c ⟨hX, hc400, hc401, hc402, hc403, hc404, (hc405.trans (congrArg (fun z : Nat → Int32 => some ((.inl (gI G, 10, .inl z)) : va_E)) (by unfold flJ; rw [it_s, if_neg htr])))⟩ _ _ _ hP hS hl9
                  · skip
                    have htr := if01_0 hc_23
                    refine lv_aload hx hb dL_isPassed_383 (lv_at hl 5 rfl) ?_
                    refine lv_iconst (v := 3) hx hb dL_isPassed_385 (by decide) ?_
                    refine lv_aload_n hx hb dL_isPassed_386 rfl (lv_at hl 18 rfl) ?_
                    refine lv_iload hx hb dL_isPassed_387 (lv_at hl 2 rfl) ?_
                    refine lv_bipush (v := 8) hx hb dL_isPassed_389 (by decide) ?_
                    refine g_aft_i (g_runV (As := [.int (nI i4), .int 8]) (rest := [.int 3, .ref (al 405)]) hx hb hml hown hts (kX7_ofJet_8 l G al k h c gn (mTicks k h n g) i4 hX hlti4) (fcwV 2 hts q560 q534 q535 q148 q477 rfl rfl (by decide +kernel) ⟨(Nat.le_of_ble_eq_true rfl), (Nat.le_of_ble_eq_true rfl)⟩) hE hb0 hP hS (m_recvA hE hP 0 rfl (gX_0 hX) rfl) rfl hl.1 rfl (Nat.le_of_ble_eq_true rfl) dL_isPassed_391 ⟨show 1 + 4 * i1 + 1 + 1 + 1 + 1 + 0 ≤ 21 by omega, show 8 + 28 * i1 + k.1 + k.1 + 2 + 10 + 0 ≤ 148 by omega⟩) hS (fun u H locs hP hS => ?_)
                    have hP : mP G al (w2 G al k c gn (mTicks k h n g)) H := hP
                    refine f_topi (v := mHt k gn i4) rfl ?_
                    refine f_topi (v := mHt k gn i4) rfl ?_
                    refine lv_bipush (v := 10) hx hb dL_isPassed_394 (by decide) ?_
                    refine lv_idiv hx hb dL_isPassed_396 (by decide) ?_
                    refine lv_iadd hx hb dL_isPassed_397 ?_
                    refine lv_dup2_11 hx hb dL_isPassed_398 rfl rfl ?_
                    refine m_iald hx hb hE hP 405 rfl ((w2_hi hJ (by decide)).trans hc405) (ix_e hcf hIn.1 hlti4).2.2 dL_isPassed_399 ?_
                    refine f_topi (v := (flJ k gn A i4 (arF (fun z => mFallIn gi (gi 0 4 + nI z)) 9)) (ixJ k gn i4)) (congrArg (flJ k gn A i4 (arF (fun z => mFallIn gi (gi 0 4 + nI z)) 9)) rfl) ?_
                    refine lv_iload hx hb dL_isPassed_400 (lv_at hl 1 rfl) ?_
                    refine lv_iadd hx hb dL_isPassed_402 ?_
                    refine mX_iast 405 (by decide) (by decide) hX hx hb hE hP hS rfl hc405 (ix_e hcf hIn.1 hlti4).2.2 (x' := ixJ k gn i4) rfl dL_isPassed_403 (fun c H locs hc405 hc9 hX hP hS => ?_)
                    have hc400 := (hc9 400 (by decide)).trans hc400
                    have hc401 := (hc9 401 (by decide)).trans hc401
                    have hc402 := (hc9 402 (by decide)).trans hc402
                    have hc403 := (hc9 403 (by decide)).trans hc403
                    have hc404 := (hc9 404 (by decide)).trans hc404
                    have hP : mP G al (w2 G al k c gn (mTicks k h n g)) H := hP
                    refine lv_goto (tgt := 422) hx hb dL_isPassed_404 (by decide) ?_
                    refine lv_iinc (v := nI (i4 + 1)) (lv' := [(16, .int (nI (i4 + 1))), (18, .int 0), (17, .int (A i4)), (15, .int (seenJ k gn A i4)), (14, .int (gi 0 9)), (13, .ref (al 405)), (12, .ref (al 404)), (11, .ref (al 403)), (10, .ref (al 402)), (9, .int (nI i1)), (8, .int (if (gn 0 5) < (it (fun i a => if mTicks k h (i + 1) g 0 5 < a then mTicks k h (i + 1) g 0 5 else a) i1 9000) then (gn 0 5) else (it (fun i a => if mTicks k h (i + 1) g 0 5 < a then mTicks k h (i + 1) g 0 5 else a) i1 9000))), (7, .ref (al 401)), (6, .int (mLeast k h g n)), (5, .int (mTicks k h n g 0 8 - g 0 8)), (4, .int (g 0 8)), (3, .int (nI n)), (2, .ref (al 400)), (1, .int (nI k.1)), (0, .ref (al 0))]) hx hb dL_isPassed_422 hl (k := 2) rfl (f_inc _) (by decide) rfl (fun ls hl => ?_)
                    refine lv_goto (tgt := 216) hx hb dL_isPassed_425 (by decide) ?_
                    have hl9 := lv_sub (l' := [(16, .int (nI (i4 + 1))), (15, .int (seenJ k gn A i4)), (14, .int (gi 0 9)), (13, .ref (al 405)), (12, .ref (al 404)), (11, .ref (al 403)), (10, .ref (al 402)), (9, .int (nI i1)), (8, .int (if (gn 0 5) < (it (fun i a => if mTicks k h (i + 1) g 0 5 < a then mTicks k h (i + 1) g 0 5 else a) i1 9000) then (gn 0 5) else (it (fun i a => if mTicks k h (i + 1) g 0 5 < a then mTicks k h (i + 1) g 0 5 else a) i1 9000))), (7, .ref (al 401)), (6, .int (mLeast k h g n)), (5, .int (mTicks k h n g 0 8 - g 0 8)), (4, .int (g 0 8)), (3, .int (nI n)), (2, .ref (al 400)), (1, .int (nI k.1)), (0, .ref (al 0))]) hl [0, 3, 4, 5, 6, 7, 8, 9, 10, 11, 12, 13, 14, 15, 16, 17, 18] rfl
                    rw [show ([(16, .int (nI (i4 + 1))), (15, .int (seenJ k gn A i4)), (14, .int (gi 0 9)), (13, .ref (al 405)), (12, .ref (al 404)), (11, .ref (al 403)), (10, .ref (al 402)), (9, .int (nI i1)), (8, .int (if (gn 0 5) < (it (fun i a => if mTicks k h (i + 1) g 0 5 < a then mTicks k h (i + 1) g 0 5 else a) i1 9000) then (gn 0 5) else (it (fun i a => if mTicks k h (i + 1) g 0 5 < a then mTicks k h (i + 1) g 0 5 else a) i1 9000))), (7, .ref (al 401)), (6, .int (mLeast k h g n)), (5, .int (mTicks k h n g 0 8 - g 0 8)), (4, .int (g 0 8)), (3, .int (nI n)), (2, .ref (al 400)), (1, .int (nI k.1)), (0, .ref (al 0))] : List (Nat × Value)) = [(16, .int (nI (i4 + 1))), (15, .int (seenJ k gn A (i4 + 1))), (14, .int (gi 0 9)), (13, .ref (al 405)), (12, .ref (al 404)), (11, .ref (al 403)), (10, .ref (al 402)), (9, .int (nI i1)), (8, .int (if (gn 0 5) < (it (fun i a => if mTicks k h (i + 1) g 0 5 < a then mTicks k h (i + 1) g 0 5 else a) i1 9000) then (gn 0 5) else (it (fun i a => if mTicks k h (i + 1) g 0 5 < a then mTicks k h (i + 1) g 0 5 else a) i1 9000))), (7, .ref (al 401)), (6, .int (mLeast k h g n)), (5, .int (mTicks k h n g 0 8 - g 0 8)), (4, .int (g 0 8)), (3, .int (nI n)), (2, .ref (al 400)), (1, .int (nI k.1)), (0, .ref (al 0))] from (by unfold seenJ; rw [it_s, if_pos htr])] at hl9
                    exact ihi4 hlti4 c ⟨hX, hc400, hc401, hc402, hc403, hc404, (hc405.trans (congrArg (fun z : Nat → Int32 => some ((.inl (gI G, 10, .inl z)) : va_E)) (by unfold flJ; rw [it_s, if_pos htr])))⟩ _ _ _ hP hS hl9
            · skip
              have hst := bz_i2 hc_13
              refine lv_iconst (v := 1) hx hb dL_isPassed_250 (by decide) ?_
              refine lv_goto (tgt := 255) hx hb dL_isPassed_251 (by decide) ?_
              refine lv_istore (lv' := [(18, .int 1), (17, .int (A i4)), (16, .int (nI i4)), (15, .int (seenJ k gn A i4)), (14, .int (gi 0 9)), (13, .ref (al 405)), (12, .ref (al 404)), (11, .ref (al 403)), (10, .ref (al 402)), (9, .int (nI i1)), (8, .int (if (gn 0 5) < (it (fun i a => if mTicks k h (i + 1) g 0 5 < a then mTicks k h (i + 1) g 0 5 else a) i1 9000) then (gn 0 5) else (it (fun i a => if mTicks k h (i + 1) g 0 5 < a then mTicks k h (i + 1) g 0 5 else a) i1 9000))), (7, .ref (al 401)), (6, .int (mLeast k h g n)), (5, .int (mTicks k h n g 0 8 - g 0 8)), (4, .int (g 0 8)), (3, .int (nI n)), (2, .ref (al 400)), (1, .int (nI k.1)), (0, .ref (al 0))]) hx hb dL_isPassed_255 hl (by decide) rfl (fun ls hl => ?_)
              refine lv_aload_n hx hb dL_isPassed_257 rfl (lv_at hl 18 rfl) ?_
              refine lv_iload hx hb dL_isPassed_258 (lv_at hl 2 rfl) ?_
              refine lv_iconst (v := 5) hx hb dL_isPassed_260 (by decide) ?_
              refine g_aft_i (g_runV (As := [.int (nI i4), .int 5]) (rest := []) hx hb hml hown hts (kX7_ofJet_5 l G al k h c gn (mTicks k h n g) i4 hX hlti4) (fcwV 2 hts q560 q534 q535 q148 q477 rfl rfl (by decide +kernel) ⟨(Nat.le_of_ble_eq_true rfl), (Nat.le_of_ble_eq_true rfl)⟩) hE hb0 hP hS (m_recvA hE hP 0 rfl (gX_0 hX) rfl) rfl hl.1 rfl (Nat.le_of_ble_eq_true rfl) dL_isPassed_261 ⟨show 1 + 4 * i1 + 1 + 1 + 1 + 1 + 0 ≤ 21 by omega, show 8 + 28 * i1 + k.1 + k.1 + 2 + 10 + 0 ≤ 148 by omega⟩) hS (fun u H locs hP hS => ?_)
              have hP : mP G al (w2 G al k c gn (mTicks k h n g)) H := hP
              refine f_topi (v := gn (3 + i4) 5) rfl ?_
              refine f_topi (v := gn (3 + i4) 5) rfl ?_
              refine lv_aload hx hb dL_isPassed_264 (lv_at hl 8 rfl) ?_
              refine lv_iload hx hb dL_isPassed_266 (lv_at hl 2 rfl) ?_
              refine m_iald hx hb hE hP 402 rfl ((w2_hi hJ (by decide)).trans hc402) (nI_in (by omega) (by omega)) dL_isPassed_268 ?_
              refine f_topi (v := gi (3 + i4) 5) ((congrArg (arS (fun z => gi (3 + z) 5) k.1) (nI_clamp (by omega))).trans (ar_r _ (by omega))) ?_
              refine lv_isub hx hb dL_isPassed_269 ?_
              refine va_mabs hx hb (hml.trans hl.1.symm) hown (hts _ q566) (hts _ q567) (hts _ q87) (hts _ q568) (Nat.le_of_ble_eq_true rfl) (Nat.le_of_ble_eq_true rfl) (show 1 + 4 * i1 + 1 + 1 + 1 + 1 ≤ 21 by omega) (show 8 + 28 * i1 + k.1 + k.1 + 2 + 10 ≤ 148 by omega) dL_isPassed_270 ?_
              refine lv_iload hx hb dL_isPassed_273 (lv_at hl 0 rfl) ?_
              refine lv_if_eq (tgt := 282) hx hb dL_isPassed_275 (by decide) (fun h => absurd h (by decide)) (fun _ => ?_)
              refine lv_iconst (v := 0) hx hb dL_isPassed_278 (by decide) ?_
              refine lv_goto (tgt := 283) hx hb dL_isPassed_279 (by decide) ?_
              refine lv_icmp_gt (tgt := 366) hx hb dL_isPassed_283 (by decide) (fun h => absurd h (hjI.2.1 hst)) (fun _ => ?_)
              refine lv_iload hx hb dL_isPassed_286 (lv_at hl 0 rfl) ?_
              refine lv_if_ne (tgt := 321) hx hb dL_isPassed_288 (by decide) (fun _ => ?_) (fun h => absurd h (by decide))
              refine lv_aload_n hx hb dL_isPassed_321 rfl (lv_at hl 18 rfl) ?_
              refine lv_iload hx hb dL_isPassed_322 (lv_at hl 2 rfl) ?_
              refine lv_bipush (v := 8) hx hb dL_isPassed_324 (by decide) ?_
              refine g_aft_i (g_runV (As := [.int (nI i4), .int 8]) (rest := []) hx hb hml hown hts (kX7_ofJet_8 l G al k h c gn (mTicks k h n g) i4 hX hlti4) (fcwV 2 hts q560 q534 q535 q148 q477 rfl rfl (by decide +kernel) ⟨(Nat.le_of_ble_eq_true rfl), (Nat.le_of_ble_eq_true rfl)⟩) hE hb0 hP hS (m_recvA hE hP 0 rfl (gX_0 hX) rfl) rfl hl.1 rfl (Nat.le_of_ble_eq_true rfl) dL_isPassed_326 ⟨show 1 + 4 * i1 + 1 + 1 + 1 + 1 + 0 ≤ 21 by omega, show 8 + 28 * i1 + k.1 + k.1 + 2 + 10 + 0 ≤ 148 by omega⟩) hS (fun u H locs hP hS => ?_)
              have hP : mP G al (w2 G al k c gn (mTicks k h n g)) H := hP
              refine f_topi (v := mHt k gn i4) rfl ?_
              refine f_topi (v := mHt k gn i4) rfl ?_
              refine lv_bipush (v := 60) hx hb dL_isPassed_329 (by decide) ?_
              refine lv_icmp_gt (tgt := 366) hx hb dL_isPassed_331 (by decide) (fun h => absurd h hjI.2.2.2.2.1) (fun _ => ?_)
              refine lv_iload hx hb dL_isPassed_334 (lv_at hl 1 rfl) ?_
              refine lv_aload_n hx hb dL_isPassed_336 rfl (lv_at hl 18 rfl) ?_
              refine lv_iload hx hb dL_isPassed_337 (lv_at hl 2 rfl) ?_
              refine lv_bipush (v := 7) hx hb dL_isPassed_339 (by decide) ?_
              refine g_aft_i (g_runV (As := [.int (nI i4), .int 7]) (rest := [.int (A i4)]) hx hb hml hown hts (kX7_ofJet_7 l G al k h c gn (mTicks k h n g) i4 hX hlti4) (fcwV 2 hts q560 q534 q535 q148 q477 rfl rfl (by decide +kernel) ⟨(Nat.le_of_ble_eq_true rfl), (Nat.le_of_ble_eq_true rfl)⟩) hE hb0 hP hS (m_recvA hE hP 0 rfl (gX_0 hX) rfl) rfl hl.1 rfl (Nat.le_of_ble_eq_true rfl) dL_isPassed_341 ⟨show 1 + 4 * i1 + 1 + 1 + 1 + 1 + 0 ≤ 21 by omega, show 8 + 28 * i1 + k.1 + k.1 + 2 + 10 + 0 ≤ 148 by omega⟩) hS (fun u H locs hP hS => ?_)
              have hP : mP G al (w2 G al k c gn (mTicks k h n g)) H := hP
              refine f_topi (v := mFlow k gn i4) rfl ?_
              refine f_topi (v := mFlow k gn i4) rfl ?_
              refine lv_icmp_gt (tgt := 366) hx hb dL_isPassed_344 (by decide) (fun h => absurd h hjI.2.2.2.2.2.1) (fun _ => ?_)
              refine lv_aload_n hx hb dL_isPassed_347 rfl (lv_at hl 18 rfl) ?_
              refine lv_iload hx hb dL_isPassed_348 (lv_at hl 2 rfl) ?_
              refine lv_bipush (v := 9) hx hb dL_isPassed_350 (by decide) ?_
              refine g_aft_i (g_runV (As := [.int (nI i4), .int 9]) (rest := []) hx hb hml hown hts (kX7_ofJet_9 l G al k h c gn (mTicks k h n g) i4 hX hlti4) (fcwV 2 hts q560 q534 q535 q148 q477 rfl rfl (by decide +kernel) ⟨(Nat.le_of_ble_eq_true rfl), (Nat.le_of_ble_eq_true rfl)⟩) hE hb0 hP hS (m_recvA hE hP 0 rfl (gX_0 hX) rfl) rfl hl.1 rfl (Nat.le_of_ble_eq_true rfl) dL_isPassed_352 ⟨show 1 + 4 * i1 + 1 + 1 + 1 + 1 + 0 ≤ 21 by omega, show 8 + 28 * i1 + k.1 + k.1 + 2 + 10 + 0 ≤ 148 by omega⟩) hS (fun u H locs hP hS => ?_)
              have hP : mP G al (w2 G al k c gn (mTicks k h n g)) H := hP
              refine f_topi (v := if bz (gn (3 + i4) 7) = 0 then 0 else 1) rfl ?_
              refine f_topi (v := if bz (gn (3 + i4) 7) = 0 then 0 else 1) rfl ?_
              refine lv_iconst (v := 1) hx hb dL_isPassed_355 (by decide) ?_
              refine lv_icmp_ne (tgt := 368) hx hb dL_isPassed_356 (by decide) (fun hc_25 => ?_) (fun hc_25 => ?_)
              · skip
                refine lv_aload_n hx hb dL_isPassed_368 rfl (lv_at hl 18 rfl) ?_
                refine lv_aload_n hx hb dL_isPassed_369 rfl (lv_at hl 18 rfl) ?_
                refine lv_iload hx hb dL_isPassed_370 (lv_at hl 2 rfl) ?_
                refine lv_iconst (v := 0) hx hb dL_isPassed_372 (by decide) ?_
                refine g_aft_i (g_runV (As := [.int (nI i4), .int 0]) (rest := [.ref (al 0)]) hx hb hml hown hts (kX7_ofJet_0 l G al k h c gn (mTicks k h n g) i4 hX hlti4) (fcwV 2 hts q560 q534 q535 q148 q477 rfl rfl (by decide +kernel) ⟨(Nat.le_of_ble_eq_true rfl), (Nat.le_of_ble_eq_true rfl)⟩) hE hb0 hP hS (m_recvA hE hP 0 rfl (gX_0 hX) rfl) rfl hl.1 rfl (Nat.le_of_ble_eq_true rfl) dL_isPassed_373 ⟨show 1 + 4 * i1 + 1 + 1 + 1 + 1 + 0 ≤ 21 by omega, show 8 + 28 * i1 + k.1 + k.1 + 2 + 10 + 0 ≤ 148 by omega⟩) hS (fun u H locs hP hS => ?_)
                have hP : mP G al (w2 G al k c gn (mTicks k h n g)) H := hP
                refine f_topi (v := nI (k.2.1 i4)) rfl ?_
                refine f_topi (v := nI (k.2.1 i4)) rfl ?_
                refine lv_iconst (v := 4) hx hb dL_isPassed_376 (by decide) ?_
                refine g_aft_i (g_runV (As := [.int (nI (k.2.1 i4)), .int 4]) (rest := []) hx hb hml hown hts (kX7_ofPump_4 l G al k h c gn (mTicks k h n g) (k.2.1 i4) hX (gF_pp (gX_1 hX) hlti4)) (fcwV 2 hts q563 q531 q532 q148 q466 rfl rfl (by decide +kernel) ⟨(Nat.le_of_ble_eq_true rfl), (Nat.le_of_ble_eq_true rfl)⟩) hE hb0 hP hS (m_recvA hE hP 0 rfl (gX_0 hX) rfl) rfl hl.1 rfl (Nat.le_of_ble_eq_true rfl) dL_isPassed_377 ⟨show 1 + 4 * i1 + 1 + 1 + 1 + 1 + 0 ≤ 21 by omega, show 8 + 28 * i1 + k.1 + k.1 + 2 + 10 + 0 ≤ 148 by omega⟩) hS (fun u H locs hP hS => ?_)
                have hP : mP G al (w2 G al k c gn (mTicks k h n g)) H := hP
                refine f_topi (v := if bz (gn (1 + k.2.1 i4) 4) = 0 then 0 else 1) rfl ?_
                refine f_topi (v := if bz (gn (1 + k.2.1 i4) 4) = 0 then 0 else 1) rfl ?_
                refine lv_if_ne (tgt := 407) hx hb dL_isPassed_380 (by decide) (fun hc_26 => ?_) (fun hc_26 => ?_)
                · skip
                  have htr := if01_n hc_26
                  refine lv_iload hx hb dL_isPassed_407 (lv_at hl 3 rfl) ?_
                  refine lv_iload hx hb dL_isPassed_409 (lv_at hl 1 rfl) ?_
                  refine lv_if_ne (tgt := 418) hx hb dL_isPassed_411 (by decide) (fun hc_27 => ?_) (fun hc_27 => ?_)
                  · skip
                    refine lv_iconst (v := 0) hx hb dL_isPassed_418 (by decide) ?_
                    refine lv_iand hx hb dL_isPassed_419 ?_
                    refine lv_istore (lv' := [(15, .int ((seenJ k gn A i4) &&& 0)), (18, .int 1), (17, .int (A i4)), (16, .int (nI i4)), (14, .int (gi 0 9)), (13, .ref (al 405)), (12, .ref (al 404)), (11, .ref (al 403)), (10, .ref (al 402)), (9, .int (nI i1)), (8, .int (if (gn 0 5) < (it (fun i a => if mTicks k h (i + 1) g 0 5 < a then mTicks k h (i + 1) g 0 5 else a) i1 9000) then (gn 0 5) else (it (fun i a => if mTicks k h (i + 1) g 0 5 < a then mTicks k h (i + 1) g 0 5 else a) i1 9000))), (7, .ref (al 401)), (6, .int (mLeast k h g n)), (5, .int (mTicks k h n g 0 8 - g 0 8)), (4, .int (g 0 8)), (3, .int (nI n)), (2, .ref (al 400)), (1, .int (nI k.1)), (0, .ref (al 0))]) hx hb dL_isPassed_420 hl (by decide) rfl (fun ls hl => ?_)
                    refine lv_iinc (v := nI (i4 + 1)) (lv' := [(16, .int (nI (i4 + 1))), (15, .int ((seenJ k gn A i4) &&& 0)), (18, .int 1), (17, .int (A i4)), (14, .int (gi 0 9)), (13, .ref (al 405)), (12, .ref (al 404)), (11, .ref (al 403)), (10, .ref (al 402)), (9, .int (nI i1)), (8, .int (if (gn 0 5) < (it (fun i a => if mTicks k h (i + 1) g 0 5 < a then mTicks k h (i + 1) g 0 5 else a) i1 9000) then (gn 0 5) else (it (fun i a => if mTicks k h (i + 1) g 0 5 < a then mTicks k h (i + 1) g 0 5 else a) i1 9000))), (7, .ref (al 401)), (6, .int (mLeast k h g n)), (5, .int (mTicks k h n g 0 8 - g 0 8)), (4, .int (g 0 8)), (3, .int (nI n)), (2, .ref (al 400)), (1, .int (nI k.1)), (0, .ref (al 0))]) hx hb dL_isPassed_422 hl (k := 3) rfl (f_inc _) (by decide) rfl (fun ls hl => ?_)
                    refine lv_goto (tgt := 216) hx hb dL_isPassed_425 (by decide) ?_
                    have hl9 := lv_sub (l' := [(16, .int (nI (i4 + 1))), (15, .int ((seenJ k gn A i4) &&& 0)), (14, .int (gi 0 9)), (13, .ref (al 405)), (12, .ref (al 404)), (11, .ref (al 403)), (10, .ref (al 402)), (9, .int (nI i1)), (8, .int (if (gn 0 5) < (it (fun i a => if mTicks k h (i + 1) g 0 5 < a then mTicks k h (i + 1) g 0 5 else a) i1 9000) then (gn 0 5) else (it (fun i a => if mTicks k h (i + 1) g 0 5 < a then mTicks k h (i + 1) g 0 5 else a) i1 9000))), (7, .ref (al 401)), (6, .int (mLeast k h g n)), (5, .int (mTicks k h n g 0 8 - g 0 8)), (4, .int (g 0 8)), (3, .int (nI n)), (2, .ref (al 400)), (1, .int (nI k.1)), (0, .ref (al 0))]) hl [0, 1, 4, 5, 6, 7, 8, 9, 10, 11, 12, 13, 14, 15, 16, 17, 18] rfl
                    rw [show ([(16, .int (nI (i4 + 1))), (15, .int ((seenJ k gn A i4) &&& 0)), (14, .int (gi 0 9)), (13, .ref (al 405)), (12, .ref (al 404)), (11, .ref (al 403)), (10, .ref (al 402)), (9, .int (nI i1)), (8, .int (if (gn 0 5) < (it (fun i a => if mTicks k h (i + 1) g 0 5 < a then mTicks k h (i + 1) g 0 5 else a) i1 9000) then (gn 0 5) else (it (fun i a => if mTicks k h (i + 1) g 0 5 < a then mTicks k h (i + 1) g 0 5 else a) i1 9000))), (7, .ref (al 401)), (6, .int (mLeast k h g n)), (5, .int (mTicks k h n g 0 8 - g 0 8)), (4, .int (g 0 8)), (3, .int (nI n)), (2, .ref (al 400)), (1, .int (nI k.1)), (0, .ref (al 0))] : List (Nat × Value)) = [(16, .int (nI (i4 + 1))), (15, .int (seenJ k gn A (i4 + 1))), (14, .int (gi 0 9)), (13, .ref (al 405)), (12, .ref (al 404)), (11, .ref (al 403)), (10, .ref (al 402)), (9, .int (nI i1)), (8, .int (if (gn 0 5) < (it (fun i a => if mTicks k h (i + 1) g 0 5 < a then mTicks k h (i + 1) g 0 5 else a) i1 9000) then (gn 0 5) else (it (fun i a => if mTicks k h (i + 1) g 0 5 < a then mTicks k h (i + 1) g 0 5 else a) i1 9000))), (7, .ref (al 401)), (6, .int (mLeast k h g n)), (5, .int (mTicks k h n g 0 8 - g 0 8)), (4, .int (g 0 8)), (3, .int (nI n)), (2, .ref (al 400)), (1, .int (nI k.1)), (0, .ref (al 0))] from (by unfold seenJ; rw [it_s, if_neg htr, if_neg hc_27])] at hl9
                    exact ihi4 hlti4 c ⟨hX, hc400, hc401, hc402, hc403, hc404, (hc405.trans (congrArg (fun z : Nat → Int32 => some ((.inl (gI G, 10, .inl z)) : va_E)) (by unfold flJ; rw [it_s, if_neg htr])))⟩ _ _ _ hP hS hl9
                  · skip
                    refine lv_iconst (v := 1) hx hb dL_isPassed_414 (by decide) ?_
                    refine lv_goto (tgt := 419) hx hb dL_isPassed_415 (by decide) ?_
                    refine lv_iand hx hb dL_isPassed_419 ?_
                    refine lv_istore (lv' := [(15, .int ((seenJ k gn A i4) &&& 1)), (18, .int 1), (17, .int (A i4)), (16, .int (nI i4)), (14, .int (gi 0 9)), (13, .ref (al 405)), (12, .ref (al 404)), (11, .ref (al 403)), (10, .ref (al 402)), (9, .int (nI i1)), (8, .int (if (gn 0 5) < (it (fun i a => if mTicks k h (i + 1) g 0 5 < a then mTicks k h (i + 1) g 0 5 else a) i1 9000) then (gn 0 5) else (it (fun i a => if mTicks k h (i + 1) g 0 5 < a then mTicks k h (i + 1) g 0 5 else a) i1 9000))), (7, .ref (al 401)), (6, .int (mLeast k h g n)), (5, .int (mTicks k h n g 0 8 - g 0 8)), (4, .int (g 0 8)), (3, .int (nI n)), (2, .ref (al 400)), (1, .int (nI k.1)), (0, .ref (al 0))]) hx hb dL_isPassed_420 hl (by decide) rfl (fun ls hl => ?_)
                    refine lv_iinc (v := nI (i4 + 1)) (lv' := [(16, .int (nI (i4 + 1))), (15, .int ((seenJ k gn A i4) &&& 1)), (18, .int 1), (17, .int (A i4)), (14, .int (gi 0 9)), (13, .ref (al 405)), (12, .ref (al 404)), (11, .ref (al 403)), (10, .ref (al 402)), (9, .int (nI i1)), (8, .int (if (gn 0 5) < (it (fun i a => if mTicks k h (i + 1) g 0 5 < a then mTicks k h (i + 1) g 0 5 else a) i1 9000) then (gn 0 5) else (it (fun i a => if mTicks k h (i + 1) g 0 5 < a then mTicks k h (i + 1) g 0 5 else a) i1 9000))), (7, .ref (al 401)), (6, .int (mLeast k h g n)), (5, .int (mTicks k h n g 0 8 - g 0 8)), (4, .int (g 0 8)), (3, .int (nI n)), (2, .ref (al 400)), (1, .int (nI k.1)), (0, .ref (al 0))]) hx hb dL_isPassed_422 hl (k := 3) rfl (f_inc _) (by decide) rfl (fun ls hl => ?_)
                    refine lv_goto (tgt := 216) hx hb dL_isPassed_425 (by decide) ?_
                    have hl9 := lv_sub (l' := [(16, .int (nI (i4 + 1))), (15, .int ((seenJ k gn A i4) &&& 1)), (14, .int (gi 0 9)), (13, .ref (al 405)), (12, .ref (al 404)), (11, .ref (al 403)), (10, .ref (al 402)), (9, .int (nI i1)), (8, .int (if (gn 0 5) < (it (fun i a => if mTicks k h (i + 1) g 0 5 < a then mTicks k h (i + 1) g 0 5 else a) i1 9000) then (gn 0 5) else (it (fun i a => if mTicks k h (i + 1) g 0 5 < a then mTicks k h (i + 1) g 0 5 else a) i1 9000))), (7, .ref (al 401)), (6, .int (mLeast k h g n)), (5, .int (mTicks k h n g 0 8 - g 0 8)), (4, .int (g 0 8)), (3, .int (nI n)), (2, .ref (al 400)), (1, .int (nI k.1)), (0, .ref (al 0))]) hl [0, 1, 4, 5, 6, 7, 8, 9, 10, 11, 12, 13, 14, 15, 16, 17, 18] rfl
                    rw [show ([(16, .int (nI (i4 + 1))), (15, .int ((seenJ k gn A i4) &&& 1)), (14, .int (gi 0 9)), (13, .ref (al 405)), (12, .ref (al 404)), (11, .ref (al 403)), (10, .ref (al 402)), (9, .int (nI i1)), (8, .int (if (gn 0 5) < (it (fun i a => if mTicks k h (i + 1) g 0 5 < a then mTicks k h (i + 1) g 0 5 else a) i1 9000) then (gn 0 5) else (it (fun i a => if mTicks k h (i + 1) g 0 5 < a then mTicks k h (i + 1) g 0 5 else a) i1 9000))), (7, .ref (al 401)), (6, .int (mLeast k h g n)), (5, .int (mTicks k h n g 0 8 - g 0 8)), (4, .int (g 0 8)), (3, .int (nI n)), (2, .ref (al 400)), (1, .int (nI k.1)), (0, .ref (al 0))] : List (Nat × Value)) = [(16, .int (nI (i4 + 1))), (15, .int (seenJ k gn A (i4 + 1))), (14, .int (gi 0 9)), (13, .ref (al 405)), (12, .ref (al 404)), (11, .ref (al 403)), (10, .ref (al 402)), (9, .int (nI i1)), (8, .int (if (gn 0 5) < (it (fun i a => if mTicks k h (i + 1) g 0 5 < a then mTicks k h (i + 1) g 0 5 else a) i1 9000) then (gn 0 5) else (it (fun i a => if mTicks k h (i + 1) g 0 5 < a then mTicks k h (i + 1) g 0 5 else a) i1 9000))), (7, .ref (al 401)), (6, .int (mLeast k h g n)), (5, .int (mTicks k h n g 0 8 - g 0 8)), (4, .int (g 0 8)), (3, .int (nI n)), (2, .ref (al 400)), (1, .int (nI k.1)), (0, .ref (al 0))] from (by unfold seenJ; rw [it_s, if_neg htr, if_pos hc_27])] at hl9
                    exact ihi4 hlti4 c ⟨hX, hc400, hc401, hc402, hc403, hc404, (hc405.trans (congrArg (fun z : Nat → Int32 => some ((.inl (gI G, 10, .inl z)) : va_E)) (by unfold flJ; rw [it_s, if_neg htr])))⟩ _ _ _ hP hS hl9
                · skip
                  have htr := if01_0 hc_26
                  refine lv_aload hx hb dL_isPassed_383 (lv_at hl 5 rfl) ?_
                  refine lv_iconst (v := 3) hx hb dL_isPassed_385 (by decide) ?_
                  refine lv_aload_n hx hb dL_isPassed_386 rfl (lv_at hl 18 rfl) ?_
                  refine lv_iload hx hb dL_isPassed_387 (lv_at hl 2 rfl) ?_
                  refine lv_bipush (v := 8) hx hb dL_isPassed_389 (by decide) ?_
                  refine g_aft_i (g_runV (As := [.int (nI i4), .int 8]) (rest := [.int 3, .ref (al 405)]) hx hb hml hown hts (kX7_ofJet_8 l G al k h c gn (mTicks k h n g) i4 hX hlti4) (fcwV 2 hts q560 q534 q535 q148 q477 rfl rfl (by decide +kernel) ⟨(Nat.le_of_ble_eq_true rfl), (Nat.le_of_ble_eq_true rfl)⟩) hE hb0 hP hS (m_recvA hE hP 0 rfl (gX_0 hX) rfl) rfl hl.1 rfl (Nat.le_of_ble_eq_true rfl) dL_isPassed_391 ⟨show 1 + 4 * i1 + 1 + 1 + 1 + 1 + 0 ≤ 21 by omega, show 8 + 28 * i1 + k.1 + k.1 + 2 + 10 + 0 ≤ 148 by omega⟩) hS (fun u H locs hP hS => ?_)
                  have hP : mP G al (w2 G al k c gn (mTicks k h n g)) H := hP
                  refine f_topi (v := mHt k gn i4) rfl ?_
                  refine f_topi (v := mHt k gn i4) rfl ?_
                  refine lv_bipush (v := 10) hx hb dL_isPassed_394 (by decide) ?_
                  refine lv_idiv hx hb dL_isPassed_396 (by decide) ?_
                  refine lv_iadd hx hb dL_isPassed_397 ?_
                  refine lv_dup2_11 hx hb dL_isPassed_398 rfl rfl ?_
                  refine m_iald hx hb hE hP 405 rfl ((w2_hi hJ (by decide)).trans hc405) (ix_e hcf hIn.1 hlti4).2.2 dL_isPassed_399 ?_
                  refine f_topi (v := (flJ k gn A i4 (arF (fun z => mFallIn gi (gi 0 4 + nI z)) 9)) (ixJ k gn i4)) (congrArg (flJ k gn A i4 (arF (fun z => mFallIn gi (gi 0 4 + nI z)) 9)) rfl) ?_
                  refine lv_iload hx hb dL_isPassed_400 (lv_at hl 1 rfl) ?_
                  refine lv_iadd hx hb dL_isPassed_402 ?_
                  refine mX_iast 405 (by decide) (by decide) hX hx hb hE hP hS rfl hc405 (ix_e hcf hIn.1 hlti4).2.2 (x' := ixJ k gn i4) rfl dL_isPassed_403 (fun c H locs hc405 hc9 hX hP hS => ?_)
                  have hc400 := (hc9 400 (by decide)).trans hc400
                  have hc401 := (hc9 401 (by decide)).trans hc401
                  have hc402 := (hc9 402 (by decide)).trans hc402
                  have hc403 := (hc9 403 (by decide)).trans hc403
                  have hc404 := (hc9 404 (by decide)).trans hc404
                  have hP : mP G al (w2 G al k c gn (mTicks k h n g)) H := hP
                  refine lv_goto (tgt := 422) hx hb dL_isPassed_404 (by decide) ?_
                  refine lv_iinc (v := nI (i4 + 1)) (lv' := [(16, .int (nI (i4 + 1))), (18, .int 1), (17, .int (A i4)), (15, .int (seenJ k gn A i4)), (14, .int (gi 0 9)), (13, .ref (al 405)), (12, .ref (al 404)), (11, .ref (al 403)), (10, .ref (al 402)), (9, .int (nI i1)), (8, .int (if (gn 0 5) < (it (fun i a => if mTicks k h (i + 1) g 0 5 < a then mTicks k h (i + 1) g 0 5 else a) i1 9000) then (gn 0 5) else (it (fun i a => if mTicks k h (i + 1) g 0 5 < a then mTicks k h (i + 1) g 0 5 else a) i1 9000))), (7, .ref (al 401)), (6, .int (mLeast k h g n)), (5, .int (mTicks k h n g 0 8 - g 0 8)), (4, .int (g 0 8)), (3, .int (nI n)), (2, .ref (al 400)), (1, .int (nI k.1)), (0, .ref (al 0))]) hx hb dL_isPassed_422 hl (k := 2) rfl (f_inc _) (by decide) rfl (fun ls hl => ?_)
                  refine lv_goto (tgt := 216) hx hb dL_isPassed_425 (by decide) ?_
                  have hl9 := lv_sub (l' := [(16, .int (nI (i4 + 1))), (15, .int (seenJ k gn A i4)), (14, .int (gi 0 9)), (13, .ref (al 405)), (12, .ref (al 404)), (11, .ref (al 403)), (10, .ref (al 402)), (9, .int (nI i1)), (8, .int (if (gn 0 5) < (it (fun i a => if mTicks k h (i + 1) g 0 5 < a then mTicks k h (i + 1) g 0 5 else a) i1 9000) then (gn 0 5) else (it (fun i a => if mTicks k h (i + 1) g 0 5 < a then mTicks k h (i + 1) g 0 5 else a) i1 9000))), (7, .ref (al 401)), (6, .int (mLeast k h g n)), (5, .int (mTicks k h n g 0 8 - g 0 8)), (4, .int (g 0 8)), (3, .int (nI n)), (2, .ref (al 400)), (1, .int (nI k.1)), (0, .ref (al 0))]) hl [0, 3, 4, 5, 6, 7, 8, 9, 10, 11, 12, 13, 14, 15, 16, 17, 18] rfl
                  rw [show ([(16, .int (nI (i4 + 1))), (15, .int (seenJ k gn A i4)), (14, .int (gi 0 9)), (13, .ref (al 405)), (12, .ref (al 404)), (11, .ref (al 403)), (10, .ref (al 402)), (9, .int (nI i1)), (8, .int (if (gn 0 5) < (it (fun i a => if mTicks k h (i + 1) g 0 5 < a then mTicks k h (i + 1) g 0 5 else a) i1 9000) then (gn 0 5) else (it (fun i a => if mTicks k h (i + 1) g 0 5 < a then mTicks k h (i + 1) g 0 5 else a) i1 9000))), (7, .ref (al 401)), (6, .int (mLeast k h g n)), (5, .int (mTicks k h n g 0 8 - g 0 8)), (4, .int (g 0 8)), (3, .int (nI n)), (2, .ref (al 400)), (1, .int (nI k.1)), (0, .ref (al 0))] : List (Nat × Value)) = [(16, .int (nI (i4 + 1))), (15, .int (seenJ k gn A (i4 + 1))), (14, .int (gi 0 9)), (13, .ref (al 405)), (12, .ref (al 404)), (11, .ref (al 403)), (10, .ref (al 402)), (9, .int (nI i1)), (8, .int (if (gn 0 5) < (it (fun i a => if mTicks k h (i + 1) g 0 5 < a then mTicks k h (i + 1) g 0 5 else a) i1 9000) then (gn 0 5) else (it (fun i a => if mTicks k h (i + 1) g 0 5 < a then mTicks k h (i + 1) g 0 5 else a) i1 9000))), (7, .ref (al 401)), (6, .int (mLeast k h g n)), (5, .int (mTicks k h n g 0 8 - g 0 8)), (4, .int (g 0 8)), (3, .int (nI n)), (2, .ref (al 400)), (1, .int (nI k.1)), (0, .ref (al 0))] from (by unfold seenJ; rw [it_s, if_pos htr])] at hl9
                  exact ihi4 hlti4 c ⟨hX, hc400, hc401, hc402, hc403, hc404, (hc405.trans (congrArg (fun z : Nat → Int32 => some ((.inl (gI G, 10, .inl z)) : va_E)) (by unfold flJ; rw [it_s, if_pos htr])))⟩ _ _ _ hP hS hl9
              · skip
                have hlm := bz_i2 hc_25
                refine lv_aload_n hx hb dL_isPassed_359 rfl (lv_at hl 16 rfl) ?_
                refine lv_iload hx hb dL_isPassed_360 (lv_at hl 2 rfl) ?_
                refine m_zald hx hb hE hP 400 rfl ((w2_hi hJ (by decide)).trans hc400) (nI_in (by omega) (by omega)) dL_isPassed_362 ?_
                refine f_topi (v := (fun z => bz (lk z)) i4) (congrArg (fun z => bz (lk z)) (nI_clamp (by omega))) ?_
                refine lv_if_eq (tgt := 368) hx hb dL_isPassed_363 (by decide) (fun _ => ?_) (fun h => absurd (((hlk i4 hlti4).symm.trans (congrArg bz (hLi i4 hlti4).symm)).trans (hjI.2.2.2.2.2.2.1 hlm)) h)
                refine lv_aload_n hx hb dL_isPassed_368 rfl (lv_at hl 18 rfl) ?_
                refine lv_aload_n hx hb dL_isPassed_369 rfl (lv_at hl 18 rfl) ?_
                refine lv_iload hx hb dL_isPassed_370 (lv_at hl 2 rfl) ?_
                refine lv_iconst (v := 0) hx hb dL_isPassed_372 (by decide) ?_
                refine g_aft_i (g_runV (As := [.int (nI i4), .int 0]) (rest := [.ref (al 0)]) hx hb hml hown hts (kX7_ofJet_0 l G al k h c gn (mTicks k h n g) i4 hX hlti4) (fcwV 2 hts q560 q534 q535 q148 q477 rfl rfl (by decide +kernel) ⟨(Nat.le_of_ble_eq_true rfl), (Nat.le_of_ble_eq_true rfl)⟩) hE hb0 hP hS (m_recvA hE hP 0 rfl (gX_0 hX) rfl) rfl hl.1 rfl (Nat.le_of_ble_eq_true rfl) dL_isPassed_373 ⟨show 1 + 4 * i1 + 1 + 1 + 1 + 1 + 0 ≤ 21 by omega, show 8 + 28 * i1 + k.1 + k.1 + 2 + 10 + 0 ≤ 148 by omega⟩) hS (fun u H locs hP hS => ?_)
                have hP : mP G al (w2 G al k c gn (mTicks k h n g)) H := hP
                refine f_topi (v := nI (k.2.1 i4)) rfl ?_
                refine f_topi (v := nI (k.2.1 i4)) rfl ?_
                refine lv_iconst (v := 4) hx hb dL_isPassed_376 (by decide) ?_
                refine g_aft_i (g_runV (As := [.int (nI (k.2.1 i4)), .int 4]) (rest := []) hx hb hml hown hts (kX7_ofPump_4 l G al k h c gn (mTicks k h n g) (k.2.1 i4) hX (gF_pp (gX_1 hX) hlti4)) (fcwV 2 hts q563 q531 q532 q148 q466 rfl rfl (by decide +kernel) ⟨(Nat.le_of_ble_eq_true rfl), (Nat.le_of_ble_eq_true rfl)⟩) hE hb0 hP hS (m_recvA hE hP 0 rfl (gX_0 hX) rfl) rfl hl.1 rfl (Nat.le_of_ble_eq_true rfl) dL_isPassed_377 ⟨show 1 + 4 * i1 + 1 + 1 + 1 + 1 + 0 ≤ 21 by omega, show 8 + 28 * i1 + k.1 + k.1 + 2 + 10 + 0 ≤ 148 by omega⟩) hS (fun u H locs hP hS => ?_)
                have hP : mP G al (w2 G al k c gn (mTicks k h n g)) H := hP
                refine f_topi (v := if bz (gn (1 + k.2.1 i4) 4) = 0 then 0 else 1) rfl ?_
                refine f_topi (v := if bz (gn (1 + k.2.1 i4) 4) = 0 then 0 else 1) rfl ?_
                refine lv_if_ne (tgt := 407) hx hb dL_isPassed_380 (by decide) (fun hc_28 => ?_) (fun hc_28 => ?_)
                · skip
                  have htr := if01_n hc_28
                  refine lv_iload hx hb dL_isPassed_407 (lv_at hl 3 rfl) ?_
                  refine lv_iload hx hb dL_isPassed_409 (lv_at hl 1 rfl) ?_
                  refine lv_if_ne (tgt := 418) hx hb dL_isPassed_411 (by decide) (fun hc_29 => ?_) (fun hc_29 => ?_)
                  · skip
                    refine lv_iconst (v := 0) hx hb dL_isPassed_418 (by decide) ?_
                    refine lv_iand hx hb dL_isPassed_419 ?_
                    refine lv_istore (lv' := [(15, .int ((seenJ k gn A i4) &&& 0)), (18, .int 1), (17, .int (A i4)), (16, .int (nI i4)), (14, .int (gi 0 9)), (13, .ref (al 405)), (12, .ref (al 404)), (11, .ref (al 403)), (10, .ref (al 402)), (9, .int (nI i1)), (8, .int (if (gn 0 5) < (it (fun i a => if mTicks k h (i + 1) g 0 5 < a then mTicks k h (i + 1) g 0 5 else a) i1 9000) then (gn 0 5) else (it (fun i a => if mTicks k h (i + 1) g 0 5 < a then mTicks k h (i + 1) g 0 5 else a) i1 9000))), (7, .ref (al 401)), (6, .int (mLeast k h g n)), (5, .int (mTicks k h n g 0 8 - g 0 8)), (4, .int (g 0 8)), (3, .int (nI n)), (2, .ref (al 400)), (1, .int (nI k.1)), (0, .ref (al 0))]) hx hb dL_isPassed_420 hl (by decide) rfl (fun ls hl => ?_)
                    refine lv_iinc (v := nI (i4 + 1)) (lv' := [(16, .int (nI (i4 + 1))), (15, .int ((seenJ k gn A i4) &&& 0)), (18, .int 1), (17, .int (A i4)), (14, .int (gi 0 9)), (13, .ref (al 405)), (12, .ref (al 404)), (11, .ref (al 403)), (10, .ref (al 402)), (9, .int (nI i1)), (8, .int (if (gn 0 5) < (it (fun i a => if mTicks k h (i + 1) g 0 5 < a then mTicks k h (i + 1) g 0 5 else a) i1 9000) then (gn 0 5) else (it (fun i a => if mTicks k h (i + 1) g 0 5 < a then mTicks k h (i + 1) g 0 5 else a) i1 9000))), (7, .ref (al 401)), (6, .int (mLeast k h g n)), (5, .int (mTicks k h n g 0 8 - g 0 8)), (4, .int (g 0 8)), (3, .int (nI n)), (2, .ref (al 400)), (1, .int (nI k.1)), (0, .ref (al 0))]) hx hb dL_isPassed_422 hl (k := 3) rfl (f_inc _) (by decide) rfl (fun ls hl => ?_)
                    refine lv_goto (tgt := 216) hx hb dL_isPassed_425 (by decide) ?_
                    have hl9 := lv_sub (l' := [(16, .int (nI (i4 + 1))), (15, .int ((seenJ k gn A i4) &&& 0)), (14, .int (gi 0 9)), (13, .ref (al 405)), (12, .ref (al 404)), (11, .ref (al 403)), (10, .ref (al 402)), (9, .int (nI i1)), (8, .int (if (gn 0 5) < (it (fun i a => if mTicks k h (i + 1) g 0 5 < a then mTicks k h (i + 1) g 0 5 else a) i1 9000) then (gn 0 5) else (it (fun i a => if mTicks k h (i + 1) g 0 5 < a then mTicks k h (i + 1) g 0 5 else a) i1 9000))), (7, .ref (al 401)), (6, .int (mLeast k h g n)), (5, .int (mTicks k h n g 0 8 - g 0 8)), (4, .int (g 0 8)), (3, .int (nI n)), (2, .ref (al 400)), (1, .int (nI k.1)), (0, .ref (al 0))]) hl [0, 1, 4, 5, 6, 7, 8, 9, 10, 11, 12, 13, 14, 15, 16, 17, 18] rfl
                    rw [show ([(16, .int (nI (i4 + 1))), (15, .int ((seenJ k gn A i4) &&& 0)), (14, .int (gi 0 9)), (13, .ref (al 405)), (12, .ref (al 404)), (11, .ref (al 403)), (10, .ref (al 402)), (9, .int (nI i1)), (8, .int (if (gn 0 5) < (it (fun i a => if mTicks k h (i + 1) g 0 5 < a then mTicks k h (i + 1) g 0 5 else a) i1 9000) then (gn 0 5) else (it (fun i a => if mTicks k h (i + 1) g 0 5 < a then mTicks k h (i + 1) g 0 5 else a) i1 9000))), (7, .ref (al 401)), (6, .int (mLeast k h g n)), (5, .int (mTicks k h n g 0 8 - g 0 8)), (4, .int (g 0 8)), (3, .int (nI n)), (2, .ref (al 400)), (1, .int (nI k.1)), (0, .ref (al 0))] : List (Nat × Value)) = [(16, .int (nI (i4 + 1))), (15, .int (seenJ k gn A (i4 + 1))), (14, .int (gi 0 9)), (13, .ref (al 405)), (12, .ref (al 404)), (11, .ref (al 403)), (10, .ref (al 402)), (9, .int (nI i1)), (8, .int (if (gn 0 5) < (it (fun i a => if mTicks k h (i + 1) g 0 5 < a then mTicks k h (i + 1) g 0 5 else a) i1 9000) then (gn 0 5) else (it (fun i a => if mTicks k h (i + 1) g 0 5 < a then mTicks k h (i + 1) g 0 5 else a) i1 9000))), (7, .ref (al 401)), (6, .int (mLeast k h g n)), (5, .int (mTicks k h n g 0 8 - g 0 8)), (4, .int (g 0 8)), (3, .int (nI n)), (2, .ref (al 400)), (1, .int (nI k.1)), (0, .ref (al 0))] from (by unfold seenJ; rw [it_s, if_neg htr, if_neg hc_29])] at hl9
                    exact ihi4 hlti4 c ⟨hX, hc400, hc401, hc402, hc403, hc404, (hc405.trans (congrArg (fun z : Nat → Int32 => some ((.inl (gI G, 10, .inl z)) : va_E)) (by unfold flJ; rw [it_s, if_neg htr])))⟩ _ _ _ hP hS hl9
                  · skip
                    refine lv_iconst (v := 1) hx hb dL_isPassed_414 (by decide) ?_
                    refine lv_goto (tgt := 419) hx hb dL_isPassed_415 (by decide) ?_
                    refine lv_iand hx hb dL_isPassed_419 ?_
                    refine lv_istore (lv' := [(15, .int ((seenJ k gn A i4) &&& 1)), (18, .int 1), (17, .int (A i4)), (16, .int (nI i4)), (14, .int (gi 0 9)), (13, .ref (al 405)), (12, .ref (al 404)), (11, .ref (al 403)), (10, .ref (al 402)), (9, .int (nI i1)), (8, .int (if (gn 0 5) < (it (fun i a => if mTicks k h (i + 1) g 0 5 < a then mTicks k h (i + 1) g 0 5 else a) i1 9000) then (gn 0 5) else (it (fun i a => if mTicks k h (i + 1) g 0 5 < a then mTicks k h (i + 1) g 0 5 else a) i1 9000))), (7, .ref (al 401)), (6, .int (mLeast k h g n)), (5, .int (mTicks k h n g 0 8 - g 0 8)), (4, .int (g 0 8)), (3, .int (nI n)), (2, .ref (al 400)), (1, .int (nI k.1)), (0, .ref (al 0))]) hx hb dL_isPassed_420 hl (by decide) rfl (fun ls hl => ?_)
                    refine lv_iinc (v := nI (i4 + 1)) (lv' := [(16, .int (nI (i4 + 1))), (15, .int ((seenJ k gn A i4) &&& 1)), (18, .int 1), (17, .int (A i4)), (14, .int (gi 0 9)), (13, .ref (al 405)), (12, .ref (al 404)), (11, .ref (al 403)), (10, .ref (al 402)), (9, .int (nI i1)), (8, .int (if (gn 0 5) < (it (fun i a => if mTicks k h (i + 1) g 0 5 < a then mTicks k h (i + 1) g 0 5 else a) i1 9000) then (gn 0 5) else (it (fun i a => if mTicks k h (i + 1) g 0 5 < a then mTicks k h (i + 1) g 0 5 else a) i1 9000))), (7, .ref (al 401)), (6, .int (mLeast k h g n)), (5, .int (mTicks k h n g 0 8 - g 0 8)), (4, .int (g 0 8)), (3, .int (nI n)), (2, .ref (al 400)), (1, .int (nI k.1)), (0, .ref (al 0))]) hx hb dL_isPassed_422 hl (k := 3) rfl (f_inc _) (by decide) rfl (fun ls hl => ?_)
                    refine lv_goto (tgt := 216) hx hb dL_isPassed_425 (by decide) ?_
                    have hl9 := lv_sub (l' := [(16, .int (nI (i4 + 1))), (15, .int ((seenJ k gn A i4) &&& 1)), (14, .int (gi 0 9)), (13, .ref (al 405)), (12, .ref (al 404)), (11, .ref (al 403)), (10, .ref (al 402)), (9, .int (nI i1)), (8, .int (if (gn 0 5) < (it (fun i a => if mTicks k h (i + 1) g 0 5 < a then mTicks k h (i + 1) g 0 5 else a) i1 9000) then (gn 0 5) else (it (fun i a => if mTicks k h (i + 1) g 0 5 < a then mTicks k h (i + 1) g 0 5 else a) i1 9000))), (7, .ref (al 401)), (6, .int (mLeast k h g n)), (5, .int (mTicks k h n g 0 8 - g 0 8)), (4, .int (g 0 8)), (3, .int (nI n)), (2, .ref (al 400)), (1, .int (nI k.1)), (0, .ref (al 0))]) hl [0, 1, 4, 5, 6, 7, 8, 9, 10, 11, 12, 13, 14, 15, 16, 17, 18] rfl
                    rw [show ([(16, .int (nI (i4 + 1))), (15, .int ((seenJ k gn A i4) &&& 1)), (14, .int (gi 0 9)), (13, .ref (al 405)), (12, .ref (al 404)), (11, .ref (al 403)), (10, .ref (al 402)), (9, .int (nI i1)), (8, .int (if (gn 0 5) < (it (fun i a => if mTicks k h (i + 1) g 0 5 < a then mTicks k h (i + 1) g 0 5 else a) i1 9000) then (gn 0 5) else (it (fun i a => if mTicks k h (i + 1) g 0 5 < a then mTicks k h (i + 1) g 0 5 else a) i1 9000))), (7, .ref (al 401)), (6, .int (mLeast k h g n)), (5, .int (mTicks k h n g 0 8 - g 0 8)), (4, .int (g 0 8)), (3, .int (nI n)), (2, .ref (al 400)), (1, .int (nI k.1)), (0, .ref (al 0))] : List (Nat × Value)) = [(16, .int (nI (i4 + 1))), (15, .int (seenJ k gn A (i4 + 1))), (14, .int (gi 0 9)), (13, .ref (al 405)), (12, .ref (al 404)), (11, .ref (al 403)), (10, .ref (al 402)), (9, .int (nI i1)), (8, .int (if (gn 0 5) < (it (fun i a => if mTicks k h (i + 1) g 0 5 < a then mTicks k h (i + 1) g 0 5 else a) i1 9000) then (gn 0 5) else (it (fun i a => if mTicks k h (i + 1) g 0 5 < a then mTicks k h (i + 1) g 0 5 else a) i1 9000))), (7, .ref (al 401)), (6, .int (mLeast k h g n)), (5, .int (mTicks k h n g 0 8 - g 0 8)), (4, .int (g 0 8)), (3, .int (nI n)), (2, .ref (al 400)), (1, .int (nI k.1)), (0, .ref (al 0))] from (by unfold seenJ; rw [it_s, if_neg htr, if_pos hc_29])] at hl9
                    exact ihi4 hlti4 c ⟨hX, hc400, hc401, hc402, hc403, hc404, (hc405.trans (congrArg (fun z : Nat → Int32 => some ((.inl (gI G, 10, .inl z)) : va_E)) (by unfold flJ; rw [it_s, if_neg htr])))⟩ _ _ _ hP hS hl9
                · skip
                  have htr := if01_0 hc_28
                  refine lv_aload hx hb dL_isPassed_383 (lv_at hl 5 rfl) ?_
                  refine lv_iconst (v := 3) hx hb dL_isPassed_385 (by decide) ?_
                  refine lv_aload_n hx hb dL_isPassed_386 rfl (lv_at hl 18 rfl) ?_
                  refine lv_iload hx hb dL_isPassed_387 (lv_at hl 2 rfl) ?_
                  refine lv_bipush (v := 8) hx hb dL_isPassed_389 (by decide) ?_
                  refine g_aft_i (g_runV (As := [.int (nI i4), .int 8]) (rest := [.int 3, .ref (al 405)]) hx hb hml hown hts (kX7_ofJet_8 l G al k h c gn (mTicks k h n g) i4 hX hlti4) (fcwV 2 hts q560 q534 q535 q148 q477 rfl rfl (by decide +kernel) ⟨(Nat.le_of_ble_eq_true rfl), (Nat.le_of_ble_eq_true rfl)⟩) hE hb0 hP hS (m_recvA hE hP 0 rfl (gX_0 hX) rfl) rfl hl.1 rfl (Nat.le_of_ble_eq_true rfl) dL_isPassed_391 ⟨show 1 + 4 * i1 + 1 + 1 + 1 + 1 + 0 ≤ 21 by omega, show 8 + 28 * i1 + k.1 + k.1 + 2 + 10 + 0 ≤ 148 by omega⟩) hS (fun u H locs hP hS => ?_)
                  have hP : mP G al (w2 G al k c gn (mTicks k h n g)) H := hP
                  refine f_topi (v := mHt k gn i4) rfl ?_
                  refine f_topi (v := mHt k gn i4) rfl ?_
                  refine lv_bipush (v := 10) hx hb dL_isPassed_394 (by decide) ?_
                  refine lv_idiv hx hb dL_isPassed_396 (by decide) ?_
                  refine lv_iadd hx hb dL_isPassed_397 ?_
                  refine lv_dup2_11 hx hb dL_isPassed_398 rfl rfl ?_
                  refine m_iald hx hb hE hP 405 rfl ((w2_hi hJ (by decide)).trans hc405) (ix_e hcf hIn.1 hlti4).2.2 dL_isPassed_399 ?_
                  refine f_topi (v := (flJ k gn A i4 (arF (fun z => mFallIn gi (gi 0 4 + nI z)) 9)) (ixJ k gn i4)) (congrArg (flJ k gn A i4 (arF (fun z => mFallIn gi (gi 0 4 + nI z)) 9)) rfl) ?_
                  refine lv_iload hx hb dL_isPassed_400 (lv_at hl 1 rfl) ?_
                  refine lv_iadd hx hb dL_isPassed_402 ?_
                  refine mX_iast 405 (by decide) (by decide) hX hx hb hE hP hS rfl hc405 (ix_e hcf hIn.1 hlti4).2.2 (x' := ixJ k gn i4) rfl dL_isPassed_403 (fun c H locs hc405 hc9 hX hP hS => ?_)
                  have hc400 := (hc9 400 (by decide)).trans hc400
                  have hc401 := (hc9 401 (by decide)).trans hc401
                  have hc402 := (hc9 402 (by decide)).trans hc402
                  have hc403 := (hc9 403 (by decide)).trans hc403
                  have hc404 := (hc9 404 (by decide)).trans hc404
                  have hP : mP G al (w2 G al k c gn (mTicks k h n g)) H := hP
                  refine lv_goto (tgt := 422) hx hb dL_isPassed_404 (by decide) ?_
                  refine lv_iinc (v := nI (i4 + 1)) (lv' := [(16, .int (nI (i4 + 1))), (18, .int 1), (17, .int (A i4)), (15, .int (seenJ k gn A i4)), (14, .int (gi 0 9)), (13, .ref (al 405)), (12, .ref (al 404)), (11, .ref (al 403)), (10, .ref (al 402)), (9, .int (nI i1)), (8, .int (if (gn 0 5) < (it (fun i a => if mTicks k h (i + 1) g 0 5 < a then mTicks k h (i + 1) g 0 5 else a) i1 9000) then (gn 0 5) else (it (fun i a => if mTicks k h (i + 1) g 0 5 < a then mTicks k h (i + 1) g 0 5 else a) i1 9000))), (7, .ref (al 401)), (6, .int (mLeast k h g n)), (5, .int (mTicks k h n g 0 8 - g 0 8)), (4, .int (g 0 8)), (3, .int (nI n)), (2, .ref (al 400)), (1, .int (nI k.1)), (0, .ref (al 0))]) hx hb dL_isPassed_422 hl (k := 2) rfl (f_inc _) (by decide) rfl (fun ls hl => ?_)
                  refine lv_goto (tgt := 216) hx hb dL_isPassed_425 (by decide) ?_
                  have hl9 := lv_sub (l' := [(16, .int (nI (i4 + 1))), (15, .int (seenJ k gn A i4)), (14, .int (gi 0 9)), (13, .ref (al 405)), (12, .ref (al 404)), (11, .ref (al 403)), (10, .ref (al 402)), (9, .int (nI i1)), (8, .int (if (gn 0 5) < (it (fun i a => if mTicks k h (i + 1) g 0 5 < a then mTicks k h (i + 1) g 0 5 else a) i1 9000) then (gn 0 5) else (it (fun i a => if mTicks k h (i + 1) g 0 5 < a then mTicks k h (i + 1) g 0 5 else a) i1 9000))), (7, .ref (al 401)), (6, .int (mLeast k h g n)), (5, .int (mTicks k h n g 0 8 - g 0 8)), (4, .int (g 0 8)), (3, .int (nI n)), (2, .ref (al 400)), (1, .int (nI k.1)), (0, .ref (al 0))]) hl [0, 3, 4, 5, 6, 7, 8, 9, 10, 11, 12, 13, 14, 15, 16, 17, 18] rfl
                  rw [show ([(16, .int (nI (i4 + 1))), (15, .int (seenJ k gn A i4)), (14, .int (gi 0 9)), (13, .ref (al 405)), (12, .ref (al 404)), (11, .ref (al 403)), (10, .ref (al 402)), (9, .int (nI i1)), (8, .int (if (gn 0 5) < (it (fun i a => if mTicks k h (i + 1) g 0 5 < a then mTicks k h (i + 1) g 0 5 else a) i1 9000) then (gn 0 5) else (it (fun i a => if mTicks k h (i + 1) g 0 5 < a then mTicks k h (i + 1) g 0 5 else a) i1 9000))), (7, .ref (al 401)), (6, .int (mLeast k h g n)), (5, .int (mTicks k h n g 0 8 - g 0 8)), (4, .int (g 0 8)), (3, .int (nI n)), (2, .ref (al 400)), (1, .int (nI k.1)), (0, .ref (al 0))] : List (Nat × Value)) = [(16, .int (nI (i4 + 1))), (15, .int (seenJ k gn A (i4 + 1))), (14, .int (gi 0 9)), (13, .ref (al 405)), (12, .ref (al 404)), (11, .ref (al 403)), (10, .ref (al 402)), (9, .int (nI i1)), (8, .int (if (gn 0 5) < (it (fun i a => if mTicks k h (i + 1) g 0 5 < a then mTicks k h (i + 1) g 0 5 else a) i1 9000) then (gn 0 5) else (it (fun i a => if mTicks k h (i + 1) g 0 5 < a then mTicks k h (i + 1) g 0 5 else a) i1 9000))), (7, .ref (al 401)), (6, .int (mLeast k h g n)), (5, .int (mTicks k h n g 0 8 - g 0 8)), (4, .int (g 0 8)), (3, .int (nI n)), (2, .ref (al 400)), (1, .int (nI k.1)), (0, .ref (al 0))] from (by unfold seenJ; rw [it_s, if_pos htr])] at hl9
                  exact ihi4 hlti4 c ⟨hX, hc400, hc401, hc402, hc403, hc404, (hc405.trans (congrArg (fun z : Nat → Int32 => some ((.inl (gI G, 10, .inl z)) : va_E)) (by unfold flJ; rw [it_s, if_pos htr])))⟩ _ _ _ hP hS hl9
        · skip
          have hlti3 : i3 < 8 := Nat.lt_of_not_le (fun q => hc_5 (nI_le (a := 9) (by omega) (by omega)))
          refine lv_aload hx hb dL_isPassed_159 (lv_at hl 1 rfl) ?_
          refine lv_iload hx hb dL_isPassed_161 (lv_at hl 0 rfl) ?_
          refine lv_aload_n hx hb dL_isPassed_163 rfl (lv_at hl 14 rfl) ?_
          refine lv_iload hx hb dL_isPassed_164 (lv_at hl 0 rfl) ?_
          refine g_aft_i (g_runV (As := [.int (nI (i3 + 1))]) (rest := [.int (nI (i3 + 1)), .ref (al 405)]) hx hb hml hown hts (kX7_falls l G al k h c gi (mTicks k h n g) (i3 + 1) hX (by omega) (by omega)) (fcwV 1 hts q571 q543 q544 q148 q478 rfl rfl (by decide +kernel) ⟨(Nat.le_of_ble_eq_true rfl), (Nat.le_of_ble_eq_true rfl)⟩) hE hb0 hP hS (m_recvA hE hP 0 rfl (gX_0 hX) rfl) rfl hl.1 rfl (Nat.le_of_ble_eq_true rfl) dL_isPassed_166 ⟨show 1 + 4 * i1 + 1 + 1 + 1 + 1 + 0 ≤ 21 by omega, show 8 + 28 * i1 + k.1 + k.1 + 2 + 10 + 0 ≤ 148 by omega⟩) hS (fun u H locs hP hS => ?_)
          have hP : mP G al (w2 G al k c gi (mTicks k h n g)) H := hP
          refine f_topi (v := mFallIn gi (gi 0 4 + nI (i3 + 1))) rfl ?_
          refine mX_iast 405 (by decide) (by decide) hX hx hb hE hP hS rfl hc405 (nI_in (by omega) (by omega)) (x' := i3 + 1) (nI_clamp (by omega)) dL_isPassed_169 (fun c H locs hc405 hc9 hX hP hS => ?_)
          have hc400 := (hc9 400 (by decide)).trans hc400
          have hc401 := (hc9 401 (by decide)).trans hc401
          have hc402 := (hc9 402 (by decide)).trans hc402
          have hc403 := (hc9 403 (by decide)).trans hc403
          have hc404 := (hc9 404 (by decide)).trans hc404
          have hP : mP G al (w2 G al k c gi (mTicks k h n g)) H := hP
          refine lv_iinc (v := nI ((i3 + 1) + 1)) (lv' := [(14, .int (nI ((i3 + 1) + 1))), (13, .ref (al 405)), (12, .ref (al 404)), (11, .ref (al 403)), (10, .ref (al 402)), (9, .int (nI i1)), (8, .int (it (fun i a => if mTicks k h (i + 1) g 0 5 < a then mTicks k h (i + 1) g 0 5 else a) i1 9000)), (7, .ref (al 401)), (6, .int (mLeast k h g n)), (5, .int (mTicks k h n g 0 8 - g 0 8)), (4, .int (g 0 8)), (3, .int (nI n)), (2, .ref (al 400)), (1, .int (nI k.1)), (0, .ref (al 0))]) hx hb dL_isPassed_170 hl (k := 0) rfl (f_inc _) (by decide) rfl (fun ls hl => ?_)
          refine lv_goto (tgt := 152) hx hb dL_isPassed_173 (by decide) ?_
          exact ihi3 hlti3 c ⟨hX, hc400, hc401, hc402, hc403, hc404, (hc405.trans (congrArg (fun z : Nat → Int32 => some ((.inl (gI G, 10, .inl z)) : va_E)) (af_s (fun z => mFallIn gi (gi 0 4 + nI z)) i3)))⟩ _ _ _ hP hS (lv_sub hl [0, 1, 2, 3, 4, 5, 6, 7, 8, 9, 10, 11, 12, 13, 14] rfl)
      · skip
        have hlti2 : i2 < k.1 := Nat.lt_of_not_le (fun q => hc_4 (nI_le q (by omega)))
        refine lv_aload hx hb dL_isPassed_112 (lv_at hl 3 rfl) ?_
        refine lv_iload hx hb dL_isPassed_114 (lv_at hl 0 rfl) ?_
        refine lv_aload_n hx hb dL_isPassed_116 rfl (lv_at hl 13 rfl) ?_
        refine lv_iload hx hb dL_isPassed_117 (lv_at hl 0 rfl) ?_
        refine lv_iconst (v := 5) hx hb dL_isPassed_119 (by decide) ?_
        refine g_aft_i (g_runV (As := [.int (nI i2), .int 5]) (rest := [.int (nI i2), .ref (al 402)]) hx hb hml hown hts (kX7_ofJet_5 l G al k h c gi (mTicks k h n g) i2 hX hlti2) (fcwV 2 hts q560 q534 q535 q148 q477 rfl rfl (by decide +kernel) ⟨(Nat.le_of_ble_eq_true rfl), (Nat.le_of_ble_eq_true rfl)⟩) hE hb0 hP hS (m_recvA hE hP 0 rfl (gX_0 hX) rfl) rfl hl.1 rfl (Nat.le_of_ble_eq_true rfl) dL_isPassed_120 ⟨show 1 + 4 * i1 + 1 + 1 + 1 + 0 ≤ 21 by omega, show 8 + 28 * i1 + k.1 + k.1 + 2 + 0 ≤ 148 by omega⟩) hS (fun u H locs hP hS => ?_)
        have hP : mP G al (w2 G al k c gi (mTicks k h n g)) H := hP
        refine f_topi (v := gi (3 + i2) 5) rfl ?_
        refine f_topi (v := gi (3 + i2) 5) rfl ?_
        refine mX_iast 402 (by decide) (by decide) hX hx hb hE hP hS rfl hc402 (nI_in (by omega) (by omega)) (x' := i2) (nI_clamp (by omega)) dL_isPassed_123 (fun c H locs hc402 hc9 hX hP hS => ?_)
        have hc400 := (hc9 400 (by decide)).trans hc400
        have hc401 := (hc9 401 (by decide)).trans hc401
        have hc403 := (hc9 403 (by decide)).trans hc403
        have hc404 := (hc9 404 (by decide)).trans hc404
        have hP : mP G al (w2 G al k c gi (mTicks k h n g)) H := hP
        refine lv_aload hx hb dL_isPassed_124 (lv_at hl 2 rfl) ?_
        refine lv_iload hx hb dL_isPassed_126 (lv_at hl 0 rfl) ?_
        refine lv_aload_n hx hb dL_isPassed_128 rfl (lv_at hl 13 rfl) ?_
        refine lv_iload hx hb dL_isPassed_129 (lv_at hl 0 rfl) ?_
        refine lv_bipush (v := 10) hx hb dL_isPassed_131 (by decide) ?_
        refine g_aft_i (g_runV (As := [.int (nI i2), .int 10]) (rest := [.int (nI i2), .ref (al 403)]) hx hb hml hown hts (kX7_ofJet_10 l G al k h c gi (mTicks k h n g) i2 hX hlti2) (fcwV 2 hts q560 q534 q535 q148 q477 rfl rfl (by decide +kernel) ⟨(Nat.le_of_ble_eq_true rfl), (Nat.le_of_ble_eq_true rfl)⟩) hE hb0 hP hS (m_recvA hE hP 0 rfl (gX_0 hX) rfl) rfl hl.1 rfl (Nat.le_of_ble_eq_true rfl) dL_isPassed_133 ⟨show 1 + 4 * i1 + 1 + 1 + 1 + 0 ≤ 21 by omega, show 8 + 28 * i1 + k.1 + k.1 + 2 + 0 ≤ 148 by omega⟩) hS (fun u H locs hP hS => ?_)
        have hP : mP G al (w2 G al k c gi (mTicks k h n g)) H := hP
        refine f_topi (v := gi (3 + i2) 9) rfl ?_
        refine f_topi (v := gi (3 + i2) 9) rfl ?_
        refine mX_iast 403 (by decide) (by decide) hX hx hb hE hP hS rfl hc403 (nI_in (by omega) (by omega)) (x' := i2) (nI_clamp (by omega)) dL_isPassed_136 (fun c H locs hc403 hc9 hX hP hS => ?_)
        have hc400 := (hc9 400 (by decide)).trans hc400
        have hc401 := (hc9 401 (by decide)).trans hc401
        have hc402 := (hc9 402 (by decide)).trans hc402
        have hc404 := (hc9 404 (by decide)).trans hc404
        have hP : mP G al (w2 G al k c gi (mTicks k h n g)) H := hP
        refine lv_iinc (v := nI (i2 + 1)) (lv' := [(13, .int (nI (i2 + 1))), (12, .ref (al 404)), (11, .ref (al 403)), (10, .ref (al 402)), (9, .int (nI i1)), (8, .int (it (fun i a => if mTicks k h (i + 1) g 0 5 < a then mTicks k h (i + 1) g 0 5 else a) i1 9000)), (7, .ref (al 401)), (6, .int (mLeast k h g n)), (5, .int (mTicks k h n g 0 8 - g 0 8)), (4, .int (g 0 8)), (3, .int (nI n)), (2, .ref (al 400)), (1, .int (nI k.1)), (0, .ref (al 0))]) hx hb dL_isPassed_137 hl (k := 0) rfl (f_inc _) (by decide) rfl (fun ls hl => ?_)
        refine lv_goto (tgt := 106) hx hb dL_isPassed_140 (by decide) ?_
        exact ihi2 hlti2 c ⟨hX, hc400, hc401, (hc402.trans (congrArg (fun z : Nat → Int32 => some ((.inl (gI G, k.1, .inl z)) : va_E)) (ar_s (fun z => gi (3 + z) 5) i2))), (hc403.trans (congrArg (fun z : Nat → Int32 => some ((.inl (gI G, k.1, .inl z)) : va_E)) (ar_s (fun z => gi (3 + z) 9) i2))), hc404⟩ _ _ _ hP hS (lv_sub hl [0, 1, 2, 3, 4, 5, 6, 7, 8, 9, 10, 11, 12, 13] rfl)
  · skip
    have hlti0 : i0 < k.1 := Nat.lt_of_not_le (fun q => hc_1 (nI_le q (by omega)))
    refine lv_aload hx hb dL_isPassed_38 (lv_at hl 1 rfl) ?_
    refine lv_iload hx hb dL_isPassed_40 (lv_at hl 0 rfl) ?_
    refine lv_aload_n hx hb dL_isPassed_42 rfl (lv_at hl 8 rfl) ?_
    refine lv_iload hx hb dL_isPassed_43 (lv_at hl 0 rfl) ?_
    refine lv_iload_n hx hb dL_isPassed_45 rfl (lv_at hl 5 rfl) ?_
    refine g_aft_i (g_runV (As := [.int (nI i0), .int (nI n)]) (rest := [.int (nI i0), .ref (al 401)]) hx hb hml hown hts (kX7_heightIn l G al k h c g (mTicks k h n g) i0 n hX hlti0 hn1 (by omega)) (fcwV 2 hts q570 q537 q538 q148 q510 rfl rfl (by decide +kernel) ⟨(Nat.le_of_ble_eq_true rfl), (Nat.le_of_ble_eq_true rfl)⟩) hE hb0 hP hS (m_recvA hE hP 0 rfl (gX_0 hX) rfl) rfl hl.1 rfl (Nat.le_of_ble_eq_true rfl) dL_isPassed_46 ⟨show 1 + 0 ≤ 21 by omega, show 0 + k.1 + 0 ≤ 148 by omega⟩) hS (fun u H locs hP hS => ?_)
    have hP : mP G al (w2 G al k c g (mTicks k h n g)) H := hP
    refine f_topi (v := mHt k (mTicks k h n g) i0) rfl ?_
    refine mX_iast 401 (by decide) (by decide) hX hx hb hE hP hS rfl hc401 (nI_in (by omega) (by omega)) (x' := i0) (nI_clamp (by omega)) dL_isPassed_49 (fun c H locs hc401 hc9 hX hP hS => ?_)
    have hc400 := (hc9 400 (by decide)).trans hc400
    have hP : mP G al (w2 G al k c g (mTicks k h n g)) H := hP
    refine lv_iinc (v := nI (i0 + 1)) (lv' := [(8, .int (nI (i0 + 1))), (7, .ref (al 401)), (6, .int (mLeast k h g n)), (5, .int (mTicks k h n g 0 8 - g 0 8)), (4, .int (g 0 8)), (3, .int (nI n)), (2, .ref (al 400)), (1, .int (nI k.1)), (0, .ref (al 0))]) hx hb dL_isPassed_50 hl (k := 0) rfl (f_inc _) (by decide) rfl (fun ls hl => ?_)
    refine lv_goto (tgt := 32) hx hb dL_isPassed_53 (by decide) ?_
    exact ihi0 hlti0 c ⟨hX, hc400, (hc401.trans (congrArg (fun z : Nat → Int32 => some ((.inl (gI G, k.1, .inl z)) : va_E)) (ar_s (fun z => mHt k (mTicks k h n g) z) i0)))⟩ _ _ _ hP hS (lv_sub hl [0, 1, 2, 3, 4, 5, 6, 7, 8] rfl)
