theorem kX7_ofPump_n (l : Launch) (G : gT) (al : Nat → Nat) (k : gC) (h : gK) (c : mC) (g : St) (t : St) (p : Nat) (i : Nat) (hX : gX G al k h c) (hp : p < 2) (hi : i < 7) : Met l yX7_ofPump (fW yX7_ofPump cX7_ofPump 4 (some .int)) { frames := 8, cells := 0, slots := 0, locals := 320 } (gPre G al (w2 G al k c g t) [.ref (al 0), .int (nI p), .int (nI i)]) (gQi (S := Unit) G (fun _ => mOfP k g p i) (fun _ => al) (fun _ => w2 G al k c g t)) 0 0 (gA G) := by
  match i, hi with
  | 0, _ => exact kX7_ofPump_0 l G al k h c g t p hX hp
  | 1, _ => exact kX7_ofPump_1 l G al k h c g t p hX hp
  | 2, _ => exact kX7_ofPump_2 l G al k h c g t p hX hp
  | 3, _ => exact kX7_ofPump_3 l G al k h c g t p hX hp
  | 4, _ => exact kX7_ofPump_4 l G al k h c g t p hX hp
  | 5, _ => exact kX7_ofPump_5 l G al k h c g t p hX hp
  | 6, _ => exact kX7_ofPump_6 l G al k h c g t p hX hp
  | n + 7, hi => exact absurd hi (by omega)
theorem kX7_ofJet_n (l : Launch) (G : gT) (al : Nat → Nat) (k : gC) (h : gK) (c : mC) (g : St) (t : St) (j : Nat) (i : Nat) (hX : gX G al k h c) (hj : j < k.1) (hi : i < 12) : Met l yX7_ofJet (fW yX7_ofJet cX7_ofJet 4 (some .int)) { frames := 8, cells := 0, slots := 0, locals := 320 } (gPre G al (w2 G al k c g t) [.ref (al 0), .int (nI j), .int (nI i)]) (gQi (S := Unit) G (fun _ => mOfJ k g j i) (fun _ => al) (fun _ => w2 G al k c g t)) 0 0 (gA G) := by
  match i, hi with
  | 0, _ => exact kX7_ofJet_0 l G al k h c g t j hX hj
  | 1, _ => exact kX7_ofJet_1 l G al k h c g t j hX hj
  | 2, _ => exact kX7_ofJet_2 l G al k h c g t j hX hj
  | 3, _ => exact kX7_ofJet_3 l G al k h c g t j hX hj
  | 4, _ => exact kX7_ofJet_4 l G al k h c g t j hX hj
  | 5, _ => exact kX7_ofJet_5 l G al k h c g t j hX hj
  | 6, _ => exact kX7_ofJet_6 l G al k h c g t j hX hj
  | 7, _ => exact kX7_ofJet_7 l G al k h c g t j hX hj
  | 8, _ => exact kX7_ofJet_8 l G al k h c g t j hX hj
  | 9, _ => exact kX7_ofJet_9 l G al k h c g t j hX hj
  | 10, _ => exact kX7_ofJet_10 l G al k h c g t j hX hj
  | 11, _ => exact kX7_ofJet_11 l G al k h c g t j hX hj
  | n + 12, hi => exact absurd hi (by omega)
theorem kX7_many_n (l : Launch) (G : gT) (al : Nat → Nat) (k : gC) (h : gK) (c : mC) (g : St) (t : St) (i : Nat) (hX : gX G al k h c) (hi : i < 16) : Met l yX7_many (fW yX7_many cX7_many 2 (some .int)) { frames := 8, cells := 0, slots := 0, locals := 320 } (gPre G al (w2 G al k c g t) [.ref (al 0), .int (nI i)]) (gQi (S := Unit) G (fun _ => mMany k h g i) (fun _ => al) (fun _ => w2 G al k c g t)) 0 0 (gA G) := by
  match i, hi with
  | 0, _ => exact kX7_many_0 l G al k h c g t hX
  | 1, _ => exact kX7_many_1 l G al k h c g t hX
  | 2, _ => exact kX7_many_2 l G al k h c g t hX
  | 3, _ => exact kX7_many_3 l G al k h c g t hX
  | 4, _ => exact kX7_many_4 l G al k h c g t hX
  | 5, _ => exact kX7_many_5 l G al k h c g t hX
  | 6, _ => exact kX7_many_6 l G al k h c g t hX
  | 7, _ => exact kX7_many_7 l G al k h c g t hX
  | 8, _ => exact kX7_many_8 l G al k h c g t hX
  | 9, _ => exact kX7_many_9 l G al k h c g t hX
  | 10, _ => exact kX7_many_10 l G al k h c g t hX
  | 11, _ => exact kX7_many_11 l G al k h c g t hX
  | 12, _ => exact kX7_many_12 l G al k h c g t hX
  | 13, _ => exact kX7_many_13 l G al k h c g t hX
  | 14, _ => exact kX7_many_14 l G al k h c g t hX
  | 15, _ => exact kX7_many_15 l G al k h c g t hX
  | n + 16, hi => exact absurd hi (by omega)
set_option maxHeartbeats 4000000 in
set_option maxRecDepth 100000 in
theorem kX7_digest (l : Launch) (G : gT) (al : Nat → Nat) (k : gC) (h : gK) (c : mC) (g : St) (t : St) (hX : gX G al k h c) : Met l yX7_digest (fW yX7_digest cX7_digest 5 (some .long)) { frames := 9, cells := 0, slots := 0, locals := 343 } (gPre G al (w2 G al k c g t) [.ref (al 0)]) (gQl (S := St) G (fun u => mDig k h g) (fun u => al) (fun u => w2 G al k c g u)) 0 0 (gA G) := by
  refine Met.ofW (cc := cX7_digest) (maxL := 5) (ret := (some .long)) (by decide) rfl ?_
  intro pz ez s m args below meth c₀ s₁ Bo hml hv
  obtain ⟨rfl, hb0, hP, hE⟩ := hv
  have hx := Bo.exec
  have hb := Bo.bytes
  have hr := Bo.returns
  have hts0 := atoms_spec (ws := (fW yX7_digest cX7_digest 5 (some .long))) Bo.pre
  have hts : ∀ w ∈ fA, w.before _ s = true := fun w h => hts0 w (List.mem_cons_of_mem _ h)
  have hown : s.vm.findClass RX7 = some m.cls := findClass_of_methodNamed Bo.named
  have hlocks := Bo.notSynchronized
  have hl := lv_entry ([.ref (al 0)]) (n := 5) (Nat.le_of_ble_eq_true rfl)
  rw [lg_entry_eq]
  generalize (lg_sl ([.ref (al 0)]) ++ List.replicate (5 - (lg_sl ([.ref (al 0)])).length) Slot.unset).toArray = ls at hl ⊢
  have hl : lv_has ls 5 [(0, .ref (al 0))] := hl
  have hJ := gX_J hX
  have hN : h.1 ≤ 20 := (gX_3 hX).2.1
  refine g_start hP (fun H hP hS => ?_)
  refine lv_ldc2 hx hb hown (hts _ q525) dX7_digest_0 ?_
  refine lv_lstore_n (lv' := [(1, .long 9115), (0, .ref (al 0))]) hx hb dX7_digest_3 rfl hl (by decide) rfl (fun ls hl => ?_)
  refine lv_iconst (v := 0) hx hb dX7_digest_4 (by decide) ?_
  refine lv_istore_n (lv' := [(3, .int 0), (1, .long 9115), (0, .ref (al 0))]) hx hb dX7_digest_5 rfl hl (by decide) rfl (fun ls hl => ?_)
  refine g_loop (al := al) (N := 16) (nL := 5) (Wi := fun i1 => w2 G al k c g t) (Li := fun i1 => [(3, .int (nI i1)), (1, .long (it (fun i d => mD d (mMany k h g i)) i1 9115)), (0, .ref (al 0))]) hP hS (lv_sub hl [0, 1, 2] rfl) (fun i1 hii1 ihi1 H locs ls hP hS hl => ?_)
  have hP : mP G al (w2 G al k c g t) H := hP
  have hl : lv_has ls 5 [(3, .int (nI i1)), (1, .long (it (fun i d => mD d (mMany k h g i)) i1 9115)), (0, .ref (al 0))] := hl
  refine lv_iload_n hx hb dX7_digest_6 rfl (lv_at hl 0 rfl) ?_
  refine lv_bipush (v := 15) hx hb dX7_digest_7 (by decide) ?_
  refine lv_icmp_gt (tgt := 31) hx hb dX7_digest_9 (by decide) (fun hc_1 => ?_) (fun hc_1 => ?_)
  · skip
    have hgei1 : 16 ≤ i1 := (nI_ltI (a := 15) (by omega) (by omega)).mp hc_1
    obtain rfl : 16 = i1 := Nat.le_antisymm hgei1 hii1
    have hP : mP G al (w2 G al k c g t) H := hP
    have hl : lv_has ls 5 [(3, .int (nI 16)), (1, .long (it (fun i d => mD d (mMany k h g i)) 16 9115)), (0, .ref (al 0))] := hl
    refine lv_iconst (v := 0) hx hb dX7_digest_31 (by decide) ?_
    refine lv_istore_n (lv' := [(3, .int 0), (1, .long (it (fun i d => mD d (mMany k h g i)) 16 9115)), (0, .ref (al 0))]) hx hb dX7_digest_32 rfl hl (by decide) rfl (fun ls hl => ?_)
    obtain ⟨d1, hd1⟩ : ∃ z : Int64, z = it (fun i d => mD d (mMany k h g i)) 16 9115 := ⟨_, rfl⟩
    rw [← hd1] at hl
    refine g_loop (al := al) (N := 2) (nL := 5) (Wi := fun i2 => w2 G al k c g t) (Li := fun i2 => [(3, .int (nI i2)), (1, .long (it (fun p d => it (fun i d => mD d (mOfP k g p i)) 7 d) i2 d1)), (0, .ref (al 0))]) hP hS (lv_sub hl [0, 1, 2] rfl) (fun i2 hii2 ihi2 H locs ls hP hS hl => ?_)
    have hP : mP G al (w2 G al k c g t) H := hP
    have hl : lv_has ls 5 [(3, .int (nI i2)), (1, .long (it (fun p d => it (fun i d => mD d (mOfP k g p i)) 7 d) i2 d1)), (0, .ref (al 0))] := hl
    refine lv_iload_n hx hb dX7_digest_33 rfl (lv_at hl 0 rfl) ?_
    refine lv_aload_n hx hb dX7_digest_34 rfl (lv_at hl 2 rfl) ?_
    refine m_get (C := RX7) (T := TX7) (N := 3) (ci := 8) (v := .ref (al 100)) hx hb hts uX7 hown hE hP 0 rfl (gX_0 hX) rfl 1 (by decide) (hts _ q368) (fun _ h9 => h9) rfl dX7_digest_35 ?_
    refine m_get (C := RX5) (T := TX5) (N := 15) (ci := 6) (v := .ref (al (100 + 1))) hx hb hts uX5 hown hE hP 100 rfl ((congrFun (w2_c hJ) _).trans ov_s) rfl 0 (by decide) (hts _ q377) (fun _ h9 => h9) rfl dX7_digest_38 ?_
    refine g_aft_i (g_runV (As := []) (rest := [.int (nI i2)]) hx hb hml hown hts (kJx4a65c_size_8abf5 l G al (w2 G al k c g t) (100 + 1) (100 + 2) 2 (fun p => 100 + 11 + p) ((w2_c (G := G) (al := al) (c := c) (g := g) (t := t) hJ) ▸ (gF_p (gF_o2 (gX_1 hX))) : gLs G al (w2 G al k c g t) (100 + 1) (100 + 2) 2 (fun p => 100 + 11 + p))) (fcwV 0 hts q380 q53 q54 q50 q34 rfl rfl (by decide +kernel) ⟨(Nat.le_of_ble_eq_true rfl), (Nat.le_of_ble_eq_true rfl)⟩) hE hb0 hP hS (m_recvL hE hP ((w2_c (G := G) (al := al) (c := c) (g := g) (t := t) hJ) ▸ (gF_p (gF_o2 (gX_1 hX))) : gLs G al (w2 G al k c g t) (100 + 1) (100 + 2) 2 (fun p => 100 + 11 + p)) rfl) rfl hl.1 rfl (Nat.le_of_ble_eq_true rfl) dX7_digest_41 ⟨(Nat.le_of_ble_eq_true rfl), (Nat.le_of_ble_eq_true rfl)⟩) hS (fun u H locs hP hS => ?_)
    refine f_topi (v := nI 2) rfl ?_
    refine lv_icmp_ge (tgt := 84) hx hb dX7_digest_44 (by decide) (fun hc_2 => ?_) (fun hc_2 => ?_)
    · skip
      have hgei2 : 2 ≤ i2 := (nI_leI (a := 2) (by omega) (by omega)).mp hc_2
      obtain rfl : 2 = i2 := Nat.le_antisymm hgei2 hii2
      have hP : mP G al (w2 G al k c g t) H := hP
      have hl : lv_has ls 5 [(3, .int (nI 2)), (1, .long (it (fun p d => it (fun i d => mD d (mOfP k g p i)) 7 d) 2 d1)), (0, .ref (al 0))] := hl
      refine lv_iconst (v := 0) hx hb dX7_digest_84 (by decide) ?_
      refine lv_istore_n (lv' := [(3, .int 0), (1, .long (it (fun p d => it (fun i d => mD d (mOfP k g p i)) 7 d) 2 d1)), (0, .ref (al 0))]) hx hb dX7_digest_85 rfl hl (by decide) rfl (fun ls hl => ?_)
      obtain ⟨d2, hd2⟩ : ∃ z : Int64, z = it (fun p d => it (fun i d => mD d (mOfP k g p i)) 7 d) 2 d1 := ⟨_, rfl⟩
      rw [← hd2] at hl
      refine g_loopE (U := St) (Ai := fun _ _ => al) (N := k.1) (nL := 5) (Wi := fun i3 tv => w2 G al k c g tv) (Li := fun i3 tv => [(3, .int (nI i3)), (1, .long (it (fun j d => mDgJ k h g j d) i3 d2)), (0, .ref (al 0))]) (ce := fun _ => 0) (sl := fun _ => 0) (fun _ _ => True) t trivial hP hS (lv_sub hl [0, 1, 2] rfl) rfl rfl (fun i3 tv hii3 _ ihi3 H locs ls hP hS hl => ?_)
      have hP : mP G al (w2 G al k c g tv) H := hP
      have hl : lv_has ls 5 [(3, .int (nI i3)), (1, .long (it (fun j d => mDgJ k h g j d) i3 d2)), (0, .ref (al 0))] := hl
      refine lv_iload_n hx hb dX7_digest_86 rfl (lv_at hl 0 rfl) ?_
      refine lv_aload_n hx hb dX7_digest_87 rfl (lv_at hl 2 rfl) ?_
      refine m_get (C := RX7) (T := TX7) (N := 3) (ci := 8) (v := .ref (al 100)) hx hb hts uX7 hown hE hP 0 rfl (gX_0 hX) rfl 1 (by decide) (hts _ q368) (fun _ h9 => h9) rfl dX7_digest_88 ?_
      refine m_get (C := RX5) (T := TX5) (N := 15) (ci := 6) (v := .ref (al (100 + 3))) hx hb hts uX5 hown hE hP 100 rfl ((congrFun (w2_c hJ) _).trans ov_s) rfl 1 (by decide) (hts _ q390) (fun _ h9 => h9) rfl dX7_digest_91 ?_
      refine g_aft_i (g_runV (As := []) (rest := [.int (nI i3)]) hx hb hml hown hts (kJx4a65c_size_8abf5 l G al (w2 G al k c g tv) (100 + 3) (100 + 4) k.1 (fun j => 100 + 20 + j) ((w2_c (G := G) (al := al) (c := c) (g := g) (t := tv) hJ) ▸ (gF_j (gF_o2 (gX_1 hX))) : gLs G al (w2 G al k c g tv) (100 + 3) (100 + 4) k.1 (fun j => 100 + 20 + j))) (fcwV 0 hts q380 q53 q54 q50 q34 rfl rfl (by decide +kernel) ⟨(Nat.le_of_ble_eq_true rfl), (Nat.le_of_ble_eq_true rfl)⟩) hE hb0 hP hS (m_recvL hE hP ((w2_c (G := G) (al := al) (c := c) (g := g) (t := tv) hJ) ▸ (gF_j (gF_o2 (gX_1 hX))) : gLs G al (w2 G al k c g tv) (100 + 3) (100 + 4) k.1 (fun j => 100 + 20 + j)) rfl) rfl hl.1 rfl (Nat.le_of_ble_eq_true rfl) dX7_digest_94 ⟨(Nat.le_of_ble_eq_true rfl), (Nat.le_of_ble_eq_true rfl)⟩) hS (fun u H locs hP hS => ?_)
      refine f_topi (v := nI k.1) rfl ?_
      refine lv_icmp_ge (tgt := 181) hx hb dX7_digest_97 (by decide) (fun hc_3 => ?_) (fun hc_3 => ?_)
      · skip
        have hgei3 : k.1 ≤ i3 := (nI_leI (by omega) (by omega)).mp hc_3
        obtain rfl : k.1 = i3 := Nat.le_antisymm hgei3 hii3
        have hP : mP G al (w2 G al k c g tv) H := hP
        have hl : lv_has ls 5 [(3, .int (nI k.1)), (1, .long (it (fun j d => mDgJ k h g j d) k.1 d2)), (0, .ref (al 0))] := hl
        refine lv_iconst (v := 1) hx hb dX7_digest_181 (by decide) ?_
        refine lv_istore_n (lv' := [(3, .int 1), (1, .long (it (fun j d => mDgJ k h g j d) k.1 d2)), (0, .ref (al 0))]) hx hb dX7_digest_182 rfl hl (by decide) rfl (fun ls hl => ?_)
        obtain ⟨d3, hd3⟩ : ∃ z : Int64, z = it (fun j d => mDgJ k h g j d) k.1 d2 := ⟨_, rfl⟩
        rw [← hd3] at hl
        refine g_loop (al := al) (N := 8) (nL := 5) (Wi := fun i4 => w2 G al k c g tv) (Li := fun i4 => [(3, .int (nI (i4 + 1))), (1, .long (it (fun i d => mD d (mFallIn g (g 0 4 + nI (i + 1)))) i4 d3)), (0, .ref (al 0))]) hP hS (lv_sub hl [0, 1, 2] rfl) (fun i4 hii4 ihi4 H locs ls hP hS hl => ?_)
        have hP : mP G al (w2 G al k c g tv) H := hP
        have hl : lv_has ls 5 [(3, .int (nI (i4 + 1))), (1, .long (it (fun i d => mD d (mFallIn g (g 0 4 + nI (i + 1)))) i4 d3)), (0, .ref (al 0))] := hl
        refine lv_iload_n hx hb dX7_digest_183 rfl (lv_at hl 0 rfl) ?_
        refine lv_bipush (v := 8) hx hb dX7_digest_184 (by decide) ?_
        refine lv_icmp_gt (tgt := 208) hx hb dX7_digest_186 (by decide) (fun hc_4 => ?_) (fun hc_4 => ?_)
        · skip
          have hgei4 : 8 ≤ i4 := by have := (nI_ltI (a := 8) (by omega) (by omega)).mp hc_4; omega
          obtain rfl : 8 = i4 := Nat.le_antisymm hgei4 hii4
          have hP : mP G al (w2 G al k c g tv) H := hP
          have hl : lv_has ls 5 [(3, .int (nI (8 + 1))), (1, .long (it (fun i d => mD d (mFallIn g (g 0 4 + nI (i + 1)))) 8 d3)), (0, .ref (al 0))] := hl
          refine lv_iconst (v := 0) hx hb dX7_digest_208 (by decide) ?_
          refine lv_istore_n (lv' := [(3, .int 0), (1, .long (it (fun i d => mD d (mFallIn g (g 0 4 + nI (i + 1)))) 8 d3)), (0, .ref (al 0))]) hx hb dX7_digest_209 rfl hl (by decide) rfl (fun ls hl => ?_)
          obtain ⟨d4, hd4⟩ : ∃ z : Int64, z = it (fun i d => mD d (mFallIn g (g 0 4 + nI (i + 1)))) 8 d3 := ⟨_, rfl⟩
          rw [← hd4] at hl
          refine g_loop (al := al) (N := h.1) (nL := 5) (Wi := fun i7 => w2 G al k c g tv) (Li := fun i7 => [(3, .int (nI i7)), (1, .long (it (fun i d => mD d (mOpen h i (g 0 4))) i7 d4)), (0, .ref (al 0))]) hP hS (lv_sub hl [0, 1, 2] rfl) (fun i7 hii7 ihi7 H locs ls hP hS hl => ?_)
          have hP : mP G al (w2 G al k c g tv) H := hP
          have hl : lv_has ls 5 [(3, .int (nI i7)), (1, .long (it (fun i d => mD d (mOpen h i (g 0 4))) i7 d4)), (0, .ref (al 0))] := hl
          refine lv_iload_n hx hb dX7_digest_210 rfl (lv_at hl 0 rfl) ?_
          refine lv_aload_n hx hb dX7_digest_211 rfl (lv_at hl 2 rfl) ?_
          refine m_get (C := RX7) (T := TX7) (N := 3) (ci := 8) (v := .ref (al 100)) hx hb hts uX7 hown hE hP 0 rfl (gX_0 hX) rfl 1 (by decide) (hts _ q368) (fun _ h9 => h9) rfl dX7_digest_212 ?_
          refine m_get (C := RX5) (T := TX5) (N := 15) (ci := 6) (v := .ref (al (100 + 5))) hx hb hts uX5 hown hE hP 100 rfl ((congrFun (w2_c hJ) _).trans ov_s) rfl 2 (by decide) (hts _ q446) (fun _ h9 => h9) rfl dX7_digest_215 ?_
          refine g_aft_i (g_runV (As := []) (rest := [.int (nI i7)]) hx hb hml hown hts (kJx4a65c_size_8abf5 l G al (w2 G al k c g tv) (100 + 5) (100 + 6) h.1 (fun i => 300 + 3 * i) ((w2_c (G := G) (al := al) (c := c) (g := g) (t := tv) hJ) ▸ (gH_ov (gH_o2 (gX_3 hX) hJ) (Or.inl rfl) hJ).1 : gLs G al (w2 G al k c g tv) (100 + 5) (100 + 6) h.1 (fun i => 300 + 3 * i))) (fcwV 0 hts q380 q53 q54 q50 q34 rfl rfl (by decide +kernel) ⟨(Nat.le_of_ble_eq_true rfl), (Nat.le_of_ble_eq_true rfl)⟩) hE hb0 hP hS (m_recvL hE hP ((w2_c (G := G) (al := al) (c := c) (g := g) (t := tv) hJ) ▸ (gH_ov (gH_o2 (gX_3 hX) hJ) (Or.inl rfl) hJ).1 : gLs G al (w2 G al k c g tv) (100 + 5) (100 + 6) h.1 (fun i => 300 + 3 * i)) rfl) rfl hl.1 rfl (Nat.le_of_ble_eq_true rfl) dX7_digest_218 ⟨(Nat.le_of_ble_eq_true rfl), (Nat.le_of_ble_eq_true rfl)⟩) hS (fun u H locs hP hS => ?_)
          refine f_topi (v := nI h.1) rfl ?_
          refine lv_icmp_ge (tgt := 243) hx hb dX7_digest_221 (by decide) (fun hc_5 => ?_) (fun hc_5 => ?_)
          · skip
            have hgei7 : h.1 ≤ i7 := (nI_leI (by omega) (by omega)).mp hc_5
            obtain rfl : h.1 = i7 := Nat.le_antisymm hgei7 hii7
            have hP : mP G al (w2 G al k c g tv) H := hP
            have hl : lv_has ls 5 [(3, .int (nI h.1)), (1, .long (it (fun i d => mD d (mOpen h i (g 0 4))) h.1 d4)), (0, .ref (al 0))] := hl
            refine lv_lload_n hx hb dX7_digest_243 rfl (lv_at hl 1 rfl) ?_
            refine lv_ldc2 hx hb hown (hts _ q526) dX7_digest_244 ?_
            refine lv_lmul hx hb dX7_digest_247 ?_
            refine lv_aload_n hx hb dX7_digest_248 rfl (lv_at hl 2 rfl) ?_
            refine lv_bipush (v := 12) hx hb dX7_digest_249 (by decide) ?_
            refine lv_iconst (v := 0) hx hb dX7_digest_251 (by decide) ?_
            refine g_aft_i (g_runV (As := [.int 12, .int 0]) (rest := [.long ((it (fun i d => mD d (mOpen h i (g 0 4))) h.1 d4) * 31)]) hx hb hml hown hts (kX7_would_0 l G al k h c g tv 12 hX (by decide) (by decide)) (fcwV 2 hts q548 q549 q550 q148 q524 rfl rfl (by decide +kernel) ⟨(Nat.le_of_ble_eq_true rfl), (Nat.le_of_ble_eq_true rfl)⟩) hE hb0 hP hS (m_recvA hE hP 0 rfl (gX_0 hX) rfl) rfl hl.1 rfl (Nat.le_of_ble_eq_true rfl) dX7_digest_252 ⟨(Nat.le_of_ble_eq_true rfl), (Nat.le_of_ble_eq_true rfl)⟩) hS (fun u H locs hP hS => ?_)
            have hP : mP G al (w2 G al k c g (mTicks k h 12 g)) H := hP
            refine f_topi (v := mWould k h g 12 0) rfl ?_
            refine lv_i2l (v := (mWould k h g 12 0).toInt64) hx hb dX7_digest_255 rfl ?_
            refine lv_ladd hx hb dX7_digest_256 ?_
            refine lv_lstore_n (lv' := [(1, .long (((it (fun i d => mD d (mOpen h i (g 0 4))) h.1 d4) * 31) + ((mWould k h g 12 0).toInt64))), (3, .int (nI h.1)), (0, .ref (al 0))]) hx hb dX7_digest_257 rfl hl (by decide) rfl (fun ls hl => ?_)
            refine lv_lload_n hx hb dX7_digest_258 rfl (lv_at hl 0 rfl) ?_
            refine lv_ldc2 hx hb hown (hts _ q526) dX7_digest_259 ?_
            refine lv_lmul hx hb dX7_digest_262 ?_
            refine lv_aload_n hx hb dX7_digest_263 rfl (lv_at hl 2 rfl) ?_
            refine lv_bipush (v := 12) hx hb dX7_digest_264 (by decide) ?_
            refine lv_iconst (v := 1) hx hb dX7_digest_266 (by decide) ?_
            refine g_aft_i (g_runV (As := [.int 12, .int 1]) (rest := [.long ((((it (fun i d => mD d (mOpen h i (g 0 4))) h.1 d4) * 31) + ((mWould k h g 12 0).toInt64)) * 31)]) hx hb hml hown hts (kX7_would_1 l G al k h c g (mTicks k h 12 g) 12 hX (by decide) (by decide)) (fcwV 2 hts q548 q549 q550 q148 q524 rfl rfl (by decide +kernel) ⟨(Nat.le_of_ble_eq_true rfl), (Nat.le_of_ble_eq_true rfl)⟩) hE hb0 hP hS (m_recvA hE hP 0 rfl (gX_0 hX) rfl) rfl hl.1 rfl (Nat.le_of_ble_eq_true rfl) dX7_digest_267 ⟨(Nat.le_of_ble_eq_true rfl), (Nat.le_of_ble_eq_true rfl)⟩) hS (fun u H locs hP hS => ?_)
            have hP : mP G al (w2 G al k c g (mTicks k h 12 g)) H := hP
            refine f_topi (v := mWould k h g 12 1) rfl ?_
            refine lv_i2l (v := (mWould k h g 12 1).toInt64) hx hb dX7_digest_270 rfl ?_
            refine lv_ladd hx hb dX7_digest_271 ?_
            refine lv_lstore_n (lv' := [(1, .long (((((it (fun i d => mD d (mOpen h i (g 0 4))) h.1 d4) * 31) + ((mWould k h g 12 0).toInt64)) * 31) + ((mWould k h g 12 1).toInt64))), (3, .int (nI h.1)), (0, .ref (al 0))]) hx hb dX7_digest_272 rfl hl (by decide) rfl (fun ls hl => ?_)
            refine lv_lload_n hx hb dX7_digest_273 rfl (lv_at hl 0 rfl) ?_
            refine W.widen (k := 0) (n := 0) (Nat.le_of_ble_eq_true rfl) (Nat.le_of_ble_eq_true rfl) ?_
            exact W.lret (v := ((((it (fun i d => mD d (mOpen h i (g 0 4))) h.1 d4) * 31) + ((mWould k h g 12 0).toInt64)) * 31) + ((mWould k h g 12 1).toInt64)) hx hb hr (fun tz htz hW => ⟨⟨((((it (fun i d => mD d (mOpen h i (g 0 4))) h.1 d4) * 31) + ((mWould k h g 12 0).toInt64)) * 31) + ((mWould k h g 12 1).toInt64), mTicks k h 12 g, rfl, (by unfold mDig mDg5 mDg4 mDg3 mDg2 mDg1; rw [hd4, hd3, hd2, hd1]), g_end htz hP⟩, hS.F htz⟩) hS.2.2 dX7_digest_274
          · skip
            have hlti7 : i7 < h.1 := Nat.lt_of_not_le (fun q => hc_5 (nI_le q (by omega)))
            refine lv_lload_n hx hb dX7_digest_224 rfl (lv_at hl 1 rfl) ?_
            refine lv_ldc2 hx hb hown (hts _ q526) dX7_digest_225 ?_
            refine lv_lmul hx hb dX7_digest_228 ?_
            refine lv_aload_n hx hb dX7_digest_229 rfl (lv_at hl 2 rfl) ?_
            refine lv_iload_n hx hb dX7_digest_230 rfl (lv_at hl 0 rfl) ?_
            refine g_aft_i (g_runV (As := [.int (nI i7)]) (rest := [.long ((it (fun i d => mD d (mOpen h i (g 0 4))) i7 d4) * 31)]) hx hb hml hown hts (kX7_open l G al k h c g tv i7 hX hlti7) (fcwV 1 hts q545 q546 q547 q148 q485 rfl rfl (by decide +kernel) ⟨(Nat.le_of_ble_eq_true rfl), (Nat.le_of_ble_eq_true rfl)⟩) hE hb0 hP hS (m_recvA hE hP 0 rfl (gX_0 hX) rfl) rfl hl.1 rfl (Nat.le_of_ble_eq_true rfl) dX7_digest_231 ⟨(Nat.le_of_ble_eq_true rfl), (Nat.le_of_ble_eq_true rfl)⟩) hS (fun u H locs hP hS => ?_)
            have hP : mP G al (w2 G al k c g tv) H := hP
            refine f_topi (v := mOpen h i7 (g 0 4)) rfl ?_
            refine lv_i2l (v := (mOpen h i7 (g 0 4)).toInt64) hx hb dX7_digest_234 rfl ?_
            refine lv_ladd hx hb dX7_digest_235 ?_
            refine lv_lstore_n (lv' := [(1, .long (((it (fun i d => mD d (mOpen h i (g 0 4))) i7 d4) * 31) + ((mOpen h i7 (g 0 4)).toInt64))), (3, .int (nI i7)), (0, .ref (al 0))]) hx hb dX7_digest_236 rfl hl (by decide) rfl (fun ls hl => ?_)
            refine lv_iinc (v := nI (i7 + 1)) (lv' := [(3, .int (nI (i7 + 1))), (1, .long (((it (fun i d => mD d (mOpen h i (g 0 4))) i7 d4) * 31) + ((mOpen h i7 (g 0 4)).toInt64))), (0, .ref (al 0))]) hx hb dX7_digest_237 hl (k := 1) rfl (f_inc _) (by decide) rfl (fun ls hl => ?_)
            refine lv_goto (tgt := 210) hx hb dX7_digest_240 (by decide) ?_
            have hl9 := lv_sub (l' := [(3, .int (nI (i7 + 1))), (1, .long (((it (fun i d => mD d (mOpen h i (g 0 4))) i7 d4) * 31) + ((mOpen h i7 (g 0 4)).toInt64))), (0, .ref (al 0))]) hl [0, 1, 2] rfl
            rw [show ([(3, .int (nI (i7 + 1))), (1, .long (((it (fun i d => mD d (mOpen h i (g 0 4))) i7 d4) * 31) + ((mOpen h i7 (g 0 4)).toInt64))), (0, .ref (al 0))] : List (Nat × Value)) = [(3, .int (nI (i7 + 1))), (1, .long (it (fun i d => mD d (mOpen h i (g 0 4))) (i7 + 1) d4)), (0, .ref (al 0))] from (by first | rfl | (simp only [it_s]; done) | (simp only [it_s]; rfl))] at hl9
            exact ihi7 hlti7 _ _ _ hP hS hl9
        · skip
          have hlti4 : i4 < 8 := Nat.lt_of_not_le (fun q => hc_4 (nI_lt (a := 8) (by omega) (by omega)))
          refine lv_lload_n hx hb dX7_digest_189 rfl (lv_at hl 1 rfl) ?_
          refine lv_ldc2 hx hb hown (hts _ q526) dX7_digest_190 ?_
          refine lv_lmul hx hb dX7_digest_193 ?_
          refine lv_aload_n hx hb dX7_digest_194 rfl (lv_at hl 2 rfl) ?_
          refine lv_iload_n hx hb dX7_digest_195 rfl (lv_at hl 0 rfl) ?_
          refine g_aft_i (g_runV (As := [.int (nI (i4 + 1))]) (rest := [.long ((it (fun i d => mD d (mFallIn g (g 0 4 + nI (i + 1)))) i4 d3) * 31)]) hx hb hml hown hts (kX7_falls l G al k h c g tv (i4 + 1) hX (by omega) (by omega)) (fcwV 1 hts q542 q543 q544 q148 q478 rfl rfl (by decide +kernel) ⟨(Nat.le_of_ble_eq_true rfl), (Nat.le_of_ble_eq_true rfl)⟩) hE hb0 hP hS (m_recvA hE hP 0 rfl (gX_0 hX) rfl) rfl hl.1 rfl (Nat.le_of_ble_eq_true rfl) dX7_digest_196 ⟨(Nat.le_of_ble_eq_true rfl), (Nat.le_of_ble_eq_true rfl)⟩) hS (fun u H locs hP hS => ?_)
          have hP : mP G al (w2 G al k c g tv) H := hP
          refine f_topi (v := mFallIn g (g 0 4 + nI (i4 + 1))) rfl ?_
          refine lv_i2l (v := (mFallIn g (g 0 4 + nI (i4 + 1))).toInt64) hx hb dX7_digest_199 rfl ?_
          refine lv_ladd hx hb dX7_digest_200 ?_
          refine lv_lstore_n (lv' := [(1, .long (((it (fun i d => mD d (mFallIn g (g 0 4 + nI (i + 1)))) i4 d3) * 31) + ((mFallIn g (g 0 4 + nI (i4 + 1))).toInt64))), (3, .int (nI (i4 + 1))), (0, .ref (al 0))]) hx hb dX7_digest_201 rfl hl (by decide) rfl (fun ls hl => ?_)
          refine lv_iinc (v := nI ((i4 + 1) + 1)) (lv' := [(3, .int (nI ((i4 + 1) + 1))), (1, .long (((it (fun i d => mD d (mFallIn g (g 0 4 + nI (i + 1)))) i4 d3) * 31) + ((mFallIn g (g 0 4 + nI (i4 + 1))).toInt64))), (0, .ref (al 0))]) hx hb dX7_digest_202 hl (k := 1) rfl (f_inc _) (by decide) rfl (fun ls hl => ?_)
          refine lv_goto (tgt := 183) hx hb dX7_digest_205 (by decide) ?_
          have hl9 := lv_sub (l' := [(3, .int (nI ((i4 + 1) + 1))), (1, .long (((it (fun i d => mD d (mFallIn g (g 0 4 + nI (i + 1)))) i4 d3) * 31) + ((mFallIn g (g 0 4 + nI (i4 + 1))).toInt64))), (0, .ref (al 0))]) hl [0, 1, 2] rfl
          rw [show ([(3, .int (nI ((i4 + 1) + 1))), (1, .long (((it (fun i d => mD d (mFallIn g (g 0 4 + nI (i + 1)))) i4 d3) * 31) + ((mFallIn g (g 0 4 + nI (i4 + 1))).toInt64))), (0, .ref (al 0))] : List (Nat × Value)) = [(3, .int (nI ((i4 + 1) + 1))), (1, .long (it (fun i d => mD d (mFallIn g (g 0 4 + nI (i + 1)))) (i4 + 1) d3)), (0, .ref (al 0))] from (by first | rfl | (simp only [it_s]; done) | (simp only [it_s]; rfl))] at hl9
          exact ihi4 hlti4 _ _ _ hP hS hl9
      · skip
        have hlti3 : i3 < k.1 := Nat.lt_of_not_le (fun q => hc_3 (nI_le q (by omega)))
        refine lv_iconst (v := 0) hx hb dX7_digest_100 (by decide) ?_
        refine lv_istore (lv' := [(4, .int 0), (3, .int (nI i3)), (1, .long (it (fun j d => mDgJ k h g j d) i3 d2)), (0, .ref (al 0))]) hx hb dX7_digest_101 hl (by decide) rfl (fun ls hl => ?_)
        obtain ⟨d6, hd6⟩ : ∃ z : Int64, z = it (fun j d => mDgJ k h g j d) i3 d2 := ⟨_, rfl⟩
        rw [← hd6] at hl
        refine g_loop (al := al) (N := 12) (nL := 5) (Wi := fun i6 => w2 G al k c g tv) (Li := fun i6 => [(4, .int (nI i6)), (3, .int (nI i3)), (1, .long (it (fun i d => mD d (mOfJ k g i3 i)) i6 d6)), (0, .ref (al 0))]) hP hS (lv_sub hl [0, 1, 2, 3] rfl) (fun i6 hii6 ihi6 H locs ls hP hS hl => ?_)
        have hP : mP G al (w2 G al k c g tv) H := hP
        have hl : lv_has ls 5 [(4, .int (nI i6)), (3, .int (nI i3)), (1, .long (it (fun i d => mD d (mOfJ k g i3 i)) i6 d6)), (0, .ref (al 0))] := hl
        refine lv_iload hx hb dX7_digest_103 (lv_at hl 0 rfl) ?_
        refine lv_bipush (v := 11) hx hb dX7_digest_105 (by decide) ?_
        refine lv_icmp_gt (tgt := 131) hx hb dX7_digest_107 (by decide) (fun hc_6 => ?_) (fun hc_6 => ?_)
        · skip
          have hgei6 : 12 ≤ i6 := (nI_ltI (a := 11) (by omega) (by omega)).mp hc_6
          obtain rfl : 12 = i6 := Nat.le_antisymm hgei6 hii6
          have hP : mP G al (w2 G al k c g tv) H := hP
          have hl : lv_has ls 5 [(4, .int (nI 12)), (3, .int (nI i3)), (1, .long (it (fun i d => mD d (mOfJ k g i3 i)) 12 d6)), (0, .ref (al 0))] := hl
          refine lv_lload_n hx hb dX7_digest_131 rfl (lv_at hl 2 rfl) ?_
          refine lv_ldc2 hx hb hown (hts _ q526) dX7_digest_132 ?_
          refine lv_lmul hx hb dX7_digest_135 ?_
          refine lv_aload_n hx hb dX7_digest_136 rfl (lv_at hl 3 rfl) ?_
          refine lv_iload_n hx hb dX7_digest_137 rfl (lv_at hl 1 rfl) ?_
          refine lv_iconst (v := 5) hx hb dX7_digest_138 (by decide) ?_
          refine g_aft_i (g_runV (As := [.int (nI i3), .int 5]) (rest := [.long ((it (fun i d => mD d (mOfJ k g i3 i)) 12 d6) * 31)]) hx hb hml hown hts (kX7_heightIn l G al k h c g tv i3 5 hX hlti3 (by decide) (by decide)) (fcwV 2 hts q536 q537 q538 q148 q510 rfl rfl (by decide +kernel) ⟨(Nat.le_of_ble_eq_true rfl), (Nat.le_of_ble_eq_true rfl)⟩) hE hb0 hP hS (m_recvA hE hP 0 rfl (gX_0 hX) rfl) rfl hl.1 rfl (Nat.le_of_ble_eq_true rfl) dX7_digest_139 ⟨(Nat.le_of_ble_eq_true rfl), (Nat.le_of_ble_eq_true rfl)⟩) hS (fun u H locs hP hS => ?_)
          have hP : mP G al (w2 G al k c g (mTicks k h 5 g)) H := hP
          refine f_topi (v := mHt k (mTicks k h 5 g) i3) rfl ?_
          refine lv_i2l (v := (mHt k (mTicks k h 5 g) i3).toInt64) hx hb dX7_digest_142 rfl ?_
          refine lv_ladd hx hb dX7_digest_143 ?_
          refine lv_lstore_n (lv' := [(1, .long (((it (fun i d => mD d (mOfJ k g i3 i)) 12 d6) * 31) + ((mHt k (mTicks k h 5 g) i3).toInt64))), (4, .int (nI 12)), (3, .int (nI i3)), (0, .ref (al 0))]) hx hb dX7_digest_144 rfl hl (by decide) rfl (fun ls hl => ?_)
          refine lv_lload_n hx hb dX7_digest_145 rfl (lv_at hl 0 rfl) ?_
          refine lv_ldc2 hx hb hown (hts _ q526) dX7_digest_146 ?_
          refine lv_lmul hx hb dX7_digest_149 ?_
          refine lv_aload_n hx hb dX7_digest_150 rfl (lv_at hl 3 rfl) ?_
          refine lv_iload_n hx hb dX7_digest_151 rfl (lv_at hl 2 rfl) ?_
          refine lv_bipush (v := 20) hx hb dX7_digest_152 (by decide) ?_
          refine g_aft_i (g_runV (As := [.int (nI i3), .int 20]) (rest := [.long ((((it (fun i d => mD d (mOfJ k g i3 i)) 12 d6) * 31) + ((mHt k (mTicks k h 5 g) i3).toInt64)) * 31)]) hx hb hml hown hts (kX7_settingFor l G al k h c g (mTicks k h 5 g) i3 20 hX hlti3 (by decide) (by decide)) (fcwV 2 hts q517 q518 q519 q148 q516 rfl rfl (by decide +kernel) ⟨(Nat.le_of_ble_eq_true rfl), (Nat.le_of_ble_eq_true rfl)⟩) hE hb0 hP hS (m_recvA hE hP 0 rfl (gX_0 hX) rfl) rfl hl.1 rfl (Nat.le_of_ble_eq_true rfl) dX7_digest_154 ⟨(Nat.le_of_ble_eq_true rfl), (Nat.le_of_ble_eq_true rfl)⟩) hS (fun u H locs hP hS => ?_)
          have hP : mP G al (w2 G al k c g (mTicks k h 5 g)) H := hP
          refine f_topi (v := mSFor k g i3 20) rfl ?_
          refine lv_i2l (v := (mSFor k g i3 20).toInt64) hx hb dX7_digest_157 rfl ?_
          refine lv_ladd hx hb dX7_digest_158 ?_
          refine lv_lstore_n (lv' := [(1, .long (((((it (fun i d => mD d (mOfJ k g i3 i)) 12 d6) * 31) + ((mHt k (mTicks k h 5 g) i3).toInt64)) * 31) + ((mSFor k g i3 20).toInt64))), (4, .int (nI 12)), (3, .int (nI i3)), (0, .ref (al 0))]) hx hb dX7_digest_159 rfl hl (by decide) rfl (fun ls hl => ?_)
          refine lv_lload_n hx hb dX7_digest_160 rfl (lv_at hl 0 rfl) ?_
          refine lv_ldc2 hx hb hown (hts _ q526) dX7_digest_161 ?_
          refine lv_lmul hx hb dX7_digest_164 ?_
          refine lv_aload_n hx hb dX7_digest_165 rfl (lv_at hl 3 rfl) ?_
          refine lv_iload_n hx hb dX7_digest_166 rfl (lv_at hl 2 rfl) ?_
          refine lv_bipush (v := 20) hx hb dX7_digest_167 (by decide) ?_
          refine g_aft_i (g_runV (As := [.int (nI i3), .int 20]) (rest := [.long ((((((it (fun i d => mD d (mOfJ k g i3 i)) 12 d6) * 31) + ((mHt k (mTicks k h 5 g) i3).toInt64)) * 31) + ((mSFor k g i3 20).toInt64)) * 31)]) hx hb hml hown hts (kX7_leadFor l G al k h c g (mTicks k h 5 g) i3 20 hX hlti3 (by decide) (by decide)) (fcwV 2 hts q539 q540 q541 q148 q523 rfl rfl (by decide +kernel) ⟨(Nat.le_of_ble_eq_true rfl), (Nat.le_of_ble_eq_true rfl)⟩) hE hb0 hP hS (m_recvA hE hP 0 rfl (gX_0 hX) rfl) rfl hl.1 rfl (Nat.le_of_ble_eq_true rfl) dX7_digest_169 ⟨(Nat.le_of_ble_eq_true rfl), (Nat.le_of_ble_eq_true rfl)⟩) hS (fun u_7 H locs hP hS => ?_)
          have hP : mP G al (w2 G al k c g u_7) H := hP
          refine f_topi (v := mLFor k h g i3 20) rfl ?_
          refine lv_i2l (v := (mLFor k h g i3 20).toInt64) hx hb dX7_digest_172 rfl ?_
          refine lv_ladd hx hb dX7_digest_173 ?_
          refine lv_lstore_n (lv' := [(1, .long (((((((it (fun i d => mD d (mOfJ k g i3 i)) 12 d6) * 31) + ((mHt k (mTicks k h 5 g) i3).toInt64)) * 31) + ((mSFor k g i3 20).toInt64)) * 31) + ((mLFor k h g i3 20).toInt64))), (4, .int (nI 12)), (3, .int (nI i3)), (0, .ref (al 0))]) hx hb dX7_digest_174 rfl hl (by decide) rfl (fun ls hl => ?_)
          refine lv_iinc (v := nI (i3 + 1)) (lv' := [(3, .int (nI (i3 + 1))), (1, .long (((((((it (fun i d => mD d (mOfJ k g i3 i)) 12 d6) * 31) + ((mHt k (mTicks k h 5 g) i3).toInt64)) * 31) + ((mSFor k g i3 20).toInt64)) * 31) + ((mLFor k h g i3 20).toInt64))), (4, .int (nI 12)), (0, .ref (al 0))]) hx hb dX7_digest_175 hl (k := 2) rfl (f_inc _) (by decide) rfl (fun ls hl => ?_)
          refine lv_goto (tgt := 86) hx hb dX7_digest_178 (by decide) ?_
          have hl9 := lv_sub (l' := [(3, .int (nI (i3 + 1))), (1, .long (((((((it (fun i d => mD d (mOfJ k g i3 i)) 12 d6) * 31) + ((mHt k (mTicks k h 5 g) i3).toInt64)) * 31) + ((mSFor k g i3 20).toInt64)) * 31) + ((mLFor k h g i3 20).toInt64))), (0, .ref (al 0))]) hl [0, 1, 3] rfl
          rw [show ([(3, .int (nI (i3 + 1))), (1, .long (((((((it (fun i d => mD d (mOfJ k g i3 i)) 12 d6) * 31) + ((mHt k (mTicks k h 5 g) i3).toInt64)) * 31) + ((mSFor k g i3 20).toInt64)) * 31) + ((mLFor k h g i3 20).toInt64))), (0, .ref (al 0))] : List (Nat × Value)) = [(3, .int (nI (i3 + 1))), (1, .long (it (fun j d => mDgJ k h g j d) (i3 + 1) d2)), (0, .ref (al 0))] from (by rw [it_s _ i3 _, hd6]; rfl)] at hl9
          exact ihi3 hlti3 u_7 trivial _ _ _ hP hS hl9
        · skip
          have hlti6 : i6 < 12 := Nat.lt_of_not_le (fun q => hc_6 (nI_lt (a := 11) q (by omega)))
          refine lv_lload_n hx hb dX7_digest_110 rfl (lv_at hl 2 rfl) ?_
          refine lv_ldc2 hx hb hown (hts _ q526) dX7_digest_111 ?_
          refine lv_lmul hx hb dX7_digest_114 ?_
          refine lv_aload_n hx hb dX7_digest_115 rfl (lv_at hl 3 rfl) ?_
          refine lv_iload_n hx hb dX7_digest_116 rfl (lv_at hl 1 rfl) ?_
          refine lv_iload hx hb dX7_digest_117 (lv_at hl 0 rfl) ?_
          refine g_aft_i (g_runV (As := [.int (nI i3), .int (nI i6)]) (rest := [.long ((it (fun i d => mD d (mOfJ k g i3 i)) i6 d6) * 31)]) hx hb hml hown hts (kX7_ofJet_n l G al k h c g tv i3 i6 hX hlti3 hlti6) (fcwV 2 hts q533 q534 q535 q148 q477 rfl rfl (by decide +kernel) ⟨(Nat.le_of_ble_eq_true rfl), (Nat.le_of_ble_eq_true rfl)⟩) hE hb0 hP hS (m_recvA hE hP 0 rfl (gX_0 hX) rfl) rfl hl.1 rfl (Nat.le_of_ble_eq_true rfl) dX7_digest_119 ⟨(Nat.le_of_ble_eq_true rfl), (Nat.le_of_ble_eq_true rfl)⟩) hS (fun u H locs hP hS => ?_)
          have hP : mP G al (w2 G al k c g tv) H := hP
          refine f_topi (v := mOfJ k g i3 i6) rfl ?_
          refine lv_i2l (v := (mOfJ k g i3 i6).toInt64) hx hb dX7_digest_122 rfl ?_
          refine lv_ladd hx hb dX7_digest_123 ?_
          refine lv_lstore_n (lv' := [(1, .long (((it (fun i d => mD d (mOfJ k g i3 i)) i6 d6) * 31) + ((mOfJ k g i3 i6).toInt64))), (4, .int (nI i6)), (3, .int (nI i3)), (0, .ref (al 0))]) hx hb dX7_digest_124 rfl hl (by decide) rfl (fun ls hl => ?_)
          refine lv_iinc (v := nI (i6 + 1)) (lv' := [(4, .int (nI (i6 + 1))), (1, .long (((it (fun i d => mD d (mOfJ k g i3 i)) i6 d6) * 31) + ((mOfJ k g i3 i6).toInt64))), (3, .int (nI i3)), (0, .ref (al 0))]) hx hb dX7_digest_125 hl (k := 1) rfl (f_inc _) (by decide) rfl (fun ls hl => ?_)
          refine lv_goto (tgt := 103) hx hb dX7_digest_128 (by decide) ?_
          have hl9 := lv_sub (l' := [(4, .int (nI (i6 + 1))), (3, .int (nI i3)), (1, .long (((it (fun i d => mD d (mOfJ k g i3 i)) i6 d6) * 31) + ((mOfJ k g i3 i6).toInt64))), (0, .ref (al 0))]) hl [0, 2, 1, 3] rfl
          rw [show ([(4, .int (nI (i6 + 1))), (3, .int (nI i3)), (1, .long (((it (fun i d => mD d (mOfJ k g i3 i)) i6 d6) * 31) + ((mOfJ k g i3 i6).toInt64))), (0, .ref (al 0))] : List (Nat × Value)) = [(4, .int (nI (i6 + 1))), (3, .int (nI i3)), (1, .long (it (fun i d => mD d (mOfJ k g i3 i)) (i6 + 1) d6)), (0, .ref (al 0))] from (by first | rfl | (simp only [it_s]; done) | (simp only [it_s]; rfl))] at hl9
          exact ihi6 hlti6 _ _ _ hP hS hl9
    · skip
      have hlti2 : i2 < 2 := Nat.lt_of_not_le (fun q => hc_2 (nI_le (a := 2) q (by omega)))
      refine lv_iconst (v := 0) hx hb dX7_digest_47 (by decide) ?_
      refine lv_istore (lv' := [(4, .int 0), (3, .int (nI i2)), (1, .long (it (fun p d => it (fun i d => mD d (mOfP k g p i)) 7 d) i2 d1)), (0, .ref (al 0))]) hx hb dX7_digest_48 hl (by decide) rfl (fun ls hl => ?_)
      obtain ⟨d5, hd5⟩ : ∃ z : Int64, z = it (fun p d => it (fun i d => mD d (mOfP k g p i)) 7 d) i2 d1 := ⟨_, rfl⟩
      rw [← hd5] at hl
      refine g_loop (al := al) (N := 7) (nL := 5) (Wi := fun i5 => w2 G al k c g t) (Li := fun i5 => [(4, .int (nI i5)), (3, .int (nI i2)), (1, .long (it (fun i d => mD d (mOfP k g i2 i)) i5 d5)), (0, .ref (al 0))]) hP hS (lv_sub hl [0, 1, 2, 3] rfl) (fun i5 hii5 ihi5 H locs ls hP hS hl => ?_)
      have hP : mP G al (w2 G al k c g t) H := hP
      have hl : lv_has ls 5 [(4, .int (nI i5)), (3, .int (nI i2)), (1, .long (it (fun i d => mD d (mOfP k g i2 i)) i5 d5)), (0, .ref (al 0))] := hl
      refine lv_iload hx hb dX7_digest_50 (lv_at hl 0 rfl) ?_
      refine lv_bipush (v := 6) hx hb dX7_digest_52 (by decide) ?_
      refine lv_icmp_gt (tgt := 78) hx hb dX7_digest_54 (by decide) (fun hc_8 => ?_) (fun hc_8 => ?_)
      · skip
        have hgei5 : 7 ≤ i5 := (nI_ltI (a := 6) (by omega) (by omega)).mp hc_8
        obtain rfl : 7 = i5 := Nat.le_antisymm hgei5 hii5
        have hP : mP G al (w2 G al k c g t) H := hP
        have hl : lv_has ls 5 [(4, .int (nI 7)), (3, .int (nI i2)), (1, .long (it (fun i d => mD d (mOfP k g i2 i)) 7 d5)), (0, .ref (al 0))] := hl
        refine lv_iinc (v := nI (i2 + 1)) (lv' := [(3, .int (nI (i2 + 1))), (4, .int (nI 7)), (1, .long (it (fun i d => mD d (mOfP k g i2 i)) 7 d5)), (0, .ref (al 0))]) hx hb dX7_digest_78 hl (k := 1) rfl (f_inc _) (by decide) rfl (fun ls hl => ?_)
        refine lv_goto (tgt := 33) hx hb dX7_digest_81 (by decide) ?_
        have hl9 := lv_sub (l' := [(3, .int (nI (i2 + 1))), (1, .long (it (fun i d => mD d (mOfP k g i2 i)) 7 d5)), (0, .ref (al 0))]) hl [0, 2, 3] rfl
        rw [show ([(3, .int (nI (i2 + 1))), (1, .long (it (fun i d => mD d (mOfP k g i2 i)) 7 d5)), (0, .ref (al 0))] : List (Nat × Value)) = [(3, .int (nI (i2 + 1))), (1, .long (it (fun p d => it (fun i d => mD d (mOfP k g p i)) 7 d) (i2 + 1) d1)), (0, .ref (al 0))] from (by rw [it_s _ i2 _, hd5])] at hl9
        exact ihi2 hlti2 _ _ _ hP hS hl9
      · skip
        have hlti5 : i5 < 7 := Nat.lt_of_not_le (fun q => hc_8 (nI_lt (a := 6) q (by omega)))
        refine lv_lload_n hx hb dX7_digest_57 rfl (lv_at hl 2 rfl) ?_
        refine lv_ldc2 hx hb hown (hts _ q526) dX7_digest_58 ?_
        refine lv_lmul hx hb dX7_digest_61 ?_
        refine lv_aload_n hx hb dX7_digest_62 rfl (lv_at hl 3 rfl) ?_
        refine lv_iload_n hx hb dX7_digest_63 rfl (lv_at hl 1 rfl) ?_
        refine lv_iload hx hb dX7_digest_64 (lv_at hl 0 rfl) ?_
        refine g_aft_i (g_runV (As := [.int (nI i2), .int (nI i5)]) (rest := [.long ((it (fun i d => mD d (mOfP k g i2 i)) i5 d5) * 31)]) hx hb hml hown hts (kX7_ofPump_n l G al k h c g t i2 i5 hX hlti2 hlti5) (fcwV 2 hts q530 q531 q532 q148 q466 rfl rfl (by decide +kernel) ⟨(Nat.le_of_ble_eq_true rfl), (Nat.le_of_ble_eq_true rfl)⟩) hE hb0 hP hS (m_recvA hE hP 0 rfl (gX_0 hX) rfl) rfl hl.1 rfl (Nat.le_of_ble_eq_true rfl) dX7_digest_66 ⟨(Nat.le_of_ble_eq_true rfl), (Nat.le_of_ble_eq_true rfl)⟩) hS (fun u H locs hP hS => ?_)
        have hP : mP G al (w2 G al k c g t) H := hP
        refine f_topi (v := mOfP k g i2 i5) rfl ?_
        refine lv_i2l (v := (mOfP k g i2 i5).toInt64) hx hb dX7_digest_69 rfl ?_
        refine lv_ladd hx hb dX7_digest_70 ?_
        refine lv_lstore_n (lv' := [(1, .long (((it (fun i d => mD d (mOfP k g i2 i)) i5 d5) * 31) + ((mOfP k g i2 i5).toInt64))), (4, .int (nI i5)), (3, .int (nI i2)), (0, .ref (al 0))]) hx hb dX7_digest_71 rfl hl (by decide) rfl (fun ls hl => ?_)
        refine lv_iinc (v := nI (i5 + 1)) (lv' := [(4, .int (nI (i5 + 1))), (1, .long (((it (fun i d => mD d (mOfP k g i2 i)) i5 d5) * 31) + ((mOfP k g i2 i5).toInt64))), (3, .int (nI i2)), (0, .ref (al 0))]) hx hb dX7_digest_72 hl (k := 1) rfl (f_inc _) (by decide) rfl (fun ls hl => ?_)
        refine lv_goto (tgt := 50) hx hb dX7_digest_75 (by decide) ?_
        have hl9 := lv_sub (l' := [(4, .int (nI (i5 + 1))), (3, .int (nI i2)), (1, .long (((it (fun i d => mD d (mOfP k g i2 i)) i5 d5) * 31) + ((mOfP k g i2 i5).toInt64))), (0, .ref (al 0))]) hl [0, 2, 1, 3] rfl
        rw [show ([(4, .int (nI (i5 + 1))), (3, .int (nI i2)), (1, .long (((it (fun i d => mD d (mOfP k g i2 i)) i5 d5) * 31) + ((mOfP k g i2 i5).toInt64))), (0, .ref (al 0))] : List (Nat × Value)) = [(4, .int (nI (i5 + 1))), (3, .int (nI i2)), (1, .long (it (fun i d => mD d (mOfP k g i2 i)) (i5 + 1) d5)), (0, .ref (al 0))] from (by first | rfl | (simp only [it_s]; done) | (simp only [it_s]; rfl))] at hl9
        exact ihi5 hlti5 _ _ _ hP hS hl9
  · skip
    have hlti1 : i1 < 16 := Nat.lt_of_not_le (fun q => hc_1 (nI_lt (a := 15) q (by omega)))
    refine lv_lload_n hx hb dX7_digest_12 rfl (lv_at hl 1 rfl) ?_
    refine lv_ldc2 hx hb hown (hts _ q526) dX7_digest_13 ?_
    refine lv_lmul hx hb dX7_digest_16 ?_
    refine lv_aload_n hx hb dX7_digest_17 rfl (lv_at hl 2 rfl) ?_
    refine lv_iload_n hx hb dX7_digest_18 rfl (lv_at hl 0 rfl) ?_
    refine g_aft_i (g_runV (As := [.int (nI i1)]) (rest := [.long ((it (fun i d => mD d (mMany k h g i)) i1 9115) * 31)]) hx hb hml hown hts (kX7_many_n l G al k h c g t i1 hX hlti1) (fcwV 1 hts q527 q528 q529 q148 q499 rfl rfl (by decide +kernel) ⟨(Nat.le_of_ble_eq_true rfl), (Nat.le_of_ble_eq_true rfl)⟩) hE hb0 hP hS (m_recvA hE hP 0 rfl (gX_0 hX) rfl) rfl hl.1 rfl (Nat.le_of_ble_eq_true rfl) dX7_digest_19 ⟨(Nat.le_of_ble_eq_true rfl), (Nat.le_of_ble_eq_true rfl)⟩) hS (fun u H locs hP hS => ?_)
    have hP : mP G al (w2 G al k c g t) H := hP
    refine f_topi (v := mMany k h g i1) rfl ?_
    refine lv_i2l (v := (mMany k h g i1).toInt64) hx hb dX7_digest_22 rfl ?_
    refine lv_ladd hx hb dX7_digest_23 ?_
    refine lv_lstore_n (lv' := [(1, .long (((it (fun i d => mD d (mMany k h g i)) i1 9115) * 31) + ((mMany k h g i1).toInt64))), (3, .int (nI i1)), (0, .ref (al 0))]) hx hb dX7_digest_24 rfl hl (by decide) rfl (fun ls hl => ?_)
    refine lv_iinc (v := nI (i1 + 1)) (lv' := [(3, .int (nI (i1 + 1))), (1, .long (((it (fun i d => mD d (mMany k h g i)) i1 9115) * 31) + ((mMany k h g i1).toInt64))), (0, .ref (al 0))]) hx hb dX7_digest_25 hl (k := 1) rfl (f_inc _) (by decide) rfl (fun ls hl => ?_)
    refine lv_goto (tgt := 6) hx hb dX7_digest_28 (by decide) ?_
    have hl9 := lv_sub (l' := [(3, .int (nI (i1 + 1))), (1, .long (((it (fun i d => mD d (mMany k h g i)) i1 9115) * 31) + ((mMany k h g i1).toInt64))), (0, .ref (al 0))]) hl [0, 1, 2] rfl
    rw [show ([(3, .int (nI (i1 + 1))), (1, .long (((it (fun i d => mD d (mMany k h g i)) i1 9115) * 31) + ((mMany k h g i1).toInt64))), (0, .ref (al 0))] : List (Nat × Value)) = [(3, .int (nI (i1 + 1))), (1, .long (it (fun i d => mD d (mMany k h g i)) (i1 + 1) 9115)), (0, .ref (al 0))] from (by first | rfl | (simp only [it_s]; done) | (simp only [it_s]; rfl))] at hl9
    exact ihi1 hlti1 _ _ _ hP hS hl9
