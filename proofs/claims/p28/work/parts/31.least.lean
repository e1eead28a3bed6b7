set_option maxHeartbeats 4000000 in
set_option maxRecDepth 100000 in
theorem kL_isLeast (l : Launch) (G : gT) (al : Nat → Nat) (k : gC) (h : gK) (c : mC) (g : St) (t : St) (j : Nat) (a : Nat) (x : Nat) (hX : gX G al k h c) (hj : j < k.1) (ha : a < 1000) (hx1 : 1 ≤ x) (hx2 : x ≤ 60) (hcf : cfg k) (hrw : rowsOK k g) : Met l yL_isLeast (fW yL_isLeast cL_isLeast 9 (some .boolean)) { frames := 9, cells := 0, slots := 0, locals := 343 } (gPre G al (w2 G al k c g t) [.ref (al 0), .int (nI j), .int (nI a), .int (nI x)]) (gQi (S := St) G (fun u => 1) (fun u => al) (fun u => w2 G al k c g u)) 0 0 (gA G) := by
  refine Met.ofW (cc := cL_isLeast) (maxL := 9) (ret := (some .boolean)) (by decide) rfl ?_
  intro pz ez s m args below meth c₀ s₁ Bo hml hv
  obtain ⟨rfl, hb0, hP, hE⟩ := hv
  have hx := Bo.exec
  have hb := Bo.bytes
  have hr := Bo.returns
  have hts0 := atoms_spec (ws := (fW yL_isLeast cL_isLeast 9 (some .boolean))) Bo.pre
  have hts : ∀ w ∈ fA, w.before _ s = true := fun w h => hts0 w (List.mem_cons_of_mem _ h)
  have hown : s.vm.findClass RL = some m.cls := findClass_of_methodNamed Bo.named
  have hlocks := Bo.notSynchronized
  have hl := lv_entry ([.ref (al 0), .int (nI j), .int (nI a), .int (nI x)]) (n := 9) (Nat.le_of_ble_eq_true rfl)
  rw [lg_entry_eq]
  generalize (lg_sl ([.ref (al 0), .int (nI j), .int (nI a), .int (nI x)]) ++ List.replicate (9 - (lg_sl ([.ref (al 0), .int (nI j), .int (nI a), .int (nI x)])).length) Slot.unset).toArray = ls at hl ⊢
  have hl : lv_has ls 9 [(0, .ref (al 0)), (1, .int (nI j)), (2, .int (nI a)), (3, .int (nI x))] := hl
  have hJ := gX_J hX
  have hLI := least_I (h := h) hcf hrw hj hx1 hx2
  refine g_start hP (fun H hP hS => ?_)
  refine lv_aload_n hx hb dL_isLeast_0 rfl (lv_at hl 0 rfl) ?_
  refine lv_iload_n hx hb dL_isLeast_1 rfl (lv_at hl 1 rfl) ?_
  refine lv_iload_n hx hb dL_isLeast_2 rfl (lv_at hl 3 rfl) ?_
  refine g_aft_i (g_runV (As := [.int (nI j), .int (nI x)]) (rest := []) hx hb hml hown hts (kX7_settingFor l G al k h c g t j (nI x) hX hj (nI_nlt (b := 1) (by omega) (by omega)) (nI_le (b := 60) (by omega) (by omega))) (fcwV 2 hts q559 q518 q519 q148 q516 rfl rfl (by decide +kernel) ⟨(Nat.le_of_ble_eq_true rfl), (Nat.le_of_ble_eq_true rfl)⟩) hE hb0 hP hS (m_recvA hE hP 0 rfl (gX_0 hX) rfl) rfl hl.1 rfl (Nat.le_of_ble_eq_true rfl) dL_isLeast_3 ⟨(Nat.le_of_ble_eq_true rfl), (Nat.le_of_ble_eq_true rfl)⟩) hS (fun u H locs hP hS => ?_)
  have hP : mP G al (w2 G al k c g t) H := hP
  refine f_topi (v := mSFor k g j (nI x)) rfl ?_
  refine lv_istore (lv' := [(4, .int (mSFor k g j (nI x))), (0, .ref (al 0)), (1, .int (nI j)), (2, .int (nI a)), (3, .int (nI x))]) hx hb dL_isLeast_6 hl (by decide) rfl (fun ls hl => ?_)
  refine lv_aload_n hx hb dL_isLeast_8 rfl (lv_at hl 1 rfl) ?_
  refine lv_iload_n hx hb dL_isLeast_9 rfl (lv_at hl 2 rfl) ?_
  refine lv_iconst (v := 0) hx hb dL_isLeast_10 (by decide) ?_
  refine g_aft_i (g_runV (As := [.int (nI j), .int 0]) (rest := []) hx hb hml hown hts (kX7_ofJet_0 l G al k h c g t j hX hj) (fcwV 2 hts q560 q534 q535 q148 q477 rfl rfl (by decide +kernel) ⟨(Nat.le_of_ble_eq_true rfl), (Nat.le_of_ble_eq_true rfl)⟩) hE hb0 hP hS (m_recvA hE hP 0 rfl (gX_0 hX) rfl) rfl hl.1 rfl (Nat.le_of_ble_eq_true rfl) dL_isLeast_11 ⟨(Nat.le_of_ble_eq_true rfl), (Nat.le_of_ble_eq_true rfl)⟩) hS (fun u H locs hP hS => ?_)
  have hP : mP G al (w2 G al k c g t) H := hP
  refine f_topi (v := nI (k.2.1 j)) rfl ?_
  refine f_topi (v := nI (k.2.1 j)) rfl ?_
  refine lv_istore (lv' := [(5, .int (nI (k.2.1 j))), (4, .int (mSFor k g j (nI x))), (0, .ref (al 0)), (1, .int (nI j)), (2, .int (nI a)), (3, .int (nI x))]) hx hb dL_isLeast_14 hl (by decide) rfl (fun ls hl => ?_)
  refine lv_iload hx hb dL_isLeast_16 (lv_at hl 1 rfl) ?_
  refine lv_if_ge (tgt := 37) hx hb dL_isLeast_18 (by decide) (fun hc_1 => ?_) (fun hc_1 => ?_)
  · skip
    refine lv_bipush (v := 20) hx hb dL_isLeast_37 (by decide) ?_
    refine lv_istore (lv' := [(6, .int 20), (5, .int (nI (k.2.1 j))), (4, .int (mSFor k g j (nI x))), (0, .ref (al 0)), (1, .int (nI j)), (2, .int (nI a)), (3, .int (nI x))]) hx hb dL_isLeast_39 hl (by decide) rfl (fun ls hl => ?_)
    refine lv_iconst (v := 0) hx hb dL_isLeast_41 (by decide) ?_
    refine lv_istore (lv' := [(7, .int 0), (6, .int 20), (5, .int (nI (k.2.1 j))), (4, .int (mSFor k g j (nI x))), (0, .ref (al 0)), (1, .int (nI j)), (2, .int (nI a)), (3, .int (nI x))]) hx hb dL_isLeast_42 hl (by decide) rfl (fun ls hl => ?_)
    refine g_loop (al := al) (N := k.1) (nL := 9) (Wi := fun i1 => w2 G al k c g t) (Li := fun i1 => [(7, .int (nI i1)), (6, .int (lFl k g (k.2.1 j) i1)), (5, .int (nI (k.2.1 j))), (4, .int (mSFor k g j (nI x))), (3, .int (nI x)), (2, .int (nI a)), (1, .int (nI j)), (0, .ref (al 0))]) hP hS (lv_sub hl [0, 1, 2, 3, 7, 6, 5, 4] rfl) (fun i1 hii1 ihi1 H locs ls hP hS hl => ?_)
    have hP : mP G al (w2 G al k c g t) H := hP
    have hl : lv_has ls 9 [(7, .int (nI i1)), (6, .int (lFl k g (k.2.1 j) i1)), (5, .int (nI (k.2.1 j))), (4, .int (mSFor k g j (nI x))), (3, .int (nI x)), (2, .int (nI a)), (1, .int (nI j)), (0, .ref (al 0))] := hl
    refine lv_iload hx hb dL_isLeast_44 (lv_at hl 0 rfl) ?_
    refine lv_aload_n hx hb dL_isLeast_46 rfl (lv_at hl 7 rfl) ?_
    refine lv_iconst (v := 2) hx hb dL_isLeast_47 (by decide) ?_
    refine g_aft_i (g_runV (As := [.int 2]) (rest := [.int (nI i1)]) hx hb hml hown hts (kX7_many_2 l G al k h c g t hX) (fcwV 1 hts q562 q528 q529 q148 q499 rfl rfl (by decide +kernel) ⟨(Nat.le_of_ble_eq_true rfl), (Nat.le_of_ble_eq_true rfl)⟩) hE hb0 hP hS (m_recvA hE hP 0 rfl (gX_0 hX) rfl) rfl hl.1 rfl (Nat.le_of_ble_eq_true rfl) dL_isLeast_48 ⟨(Nat.le_of_ble_eq_true rfl), (Nat.le_of_ble_eq_true rfl)⟩) hS (fun u H locs hP hS => ?_)
    have hP : mP G al (w2 G al k c g t) H := hP
    refine f_topi (v := nI k.1) rfl ?_
    refine f_topi (v := nI k.1) rfl ?_
    refine lv_icmp_ge (tgt := 96) hx hb dL_isLeast_51 (by decide) (fun hc_2 => ?_) (fun hc_2 => ?_)
    · skip
      have hgei1 : k.1 ≤ i1 := (nI_leI (by omega) (by omega)).mp hc_2
      obtain rfl : k.1 = i1 := Nat.le_antisymm hgei1 hii1
      have hP : mP G al (w2 G al k c g t) H := hP
      have hl : lv_has ls 9 [(7, .int (nI k.1)), (6, .int (lFl k g (k.2.1 j) k.1)), (5, .int (nI (k.2.1 j))), (4, .int (mSFor k g j (nI x))), (3, .int (nI x)), (2, .int (nI a)), (1, .int (nI j)), (0, .ref (al 0))] := hl
      refine lv_aload_n hx hb dL_isLeast_96 rfl (lv_at hl 7 rfl) ?_
      refine lv_iload_n hx hb dL_isLeast_97 rfl (lv_at hl 6 rfl) ?_
      refine lv_bipush (v := 8) hx hb dL_isLeast_98 (by decide) ?_
      refine g_aft_i (g_runV (As := [.int (nI j), .int 8]) (rest := []) hx hb hml hown hts (kX7_ofJet_8 l G al k h c g t j hX hj) (fcwV 2 hts q560 q534 q535 q148 q477 rfl rfl (by decide +kernel) ⟨(Nat.le_of_ble_eq_true rfl), (Nat.le_of_ble_eq_true rfl)⟩) hE hb0 hP hS (m_recvA hE hP 0 rfl (gX_0 hX) rfl) rfl hl.1 rfl (Nat.le_of_ble_eq_true rfl) dL_isLeast_100 ⟨(Nat.le_of_ble_eq_true rfl), (Nat.le_of_ble_eq_true rfl)⟩) hS (fun u H locs hP hS => ?_)
      have hP : mP G al (w2 G al k c g t) H := hP
      refine f_topi (v := mHt k g j) rfl ?_
      refine f_topi (v := mHt k g j) rfl ?_
      refine lv_iload_n hx hb dL_isLeast_103 rfl (lv_at hl 4 rfl) ?_
      refine lv_icmp_lt (tgt := 111) hx hb dL_isLeast_104 (by decide) (fun hc_3 => ?_) (fun hc_3 => ?_)
      · skip
        refine lv_iconst (v := 0) hx hb dL_isLeast_111 (by decide) ?_
        refine lv_istore (lv' := [(7, .int 0), (6, .int (lFl k g (k.2.1 j) k.1)), (5, .int (nI (k.2.1 j))), (4, .int (mSFor k g j (nI x))), (3, .int (nI x)), (2, .int (nI a)), (1, .int (nI j)), (0, .ref (al 0))]) hx hb dL_isLeast_112 hl (by decide) rfl (fun ls hl => ?_)
        refine lv_aload_n hx hb dL_isLeast_114 rfl (lv_at hl 7 rfl) ?_
        refine lv_iload hx hb dL_isLeast_115 (lv_at hl 2 rfl) ?_
        refine lv_iconst (v := 4) hx hb dL_isLeast_117 (by decide) ?_
        refine g_aft_i (g_runV (As := [.int (nI (k.2.1 j)), .int 4]) (rest := []) hx hb hml hown hts (kX7_ofPump_4 l G al k h c g t (k.2.1 j) hX (gF_pp (gX_1 hX) hj)) (fcwV 2 hts q563 q531 q532 q148 q466 rfl rfl (by decide +kernel) ⟨(Nat.le_of_ble_eq_true rfl), (Nat.le_of_ble_eq_true rfl)⟩) hE hb0 hP hS (m_recvA hE hP 0 rfl (gX_0 hX) rfl) rfl hl.1 rfl (Nat.le_of_ble_eq_true rfl) dL_isLeast_118 ⟨(Nat.le_of_ble_eq_true rfl), (Nat.le_of_ble_eq_true rfl)⟩) hS (fun u H locs hP hS => ?_)
        have hP : mP G al (w2 G al k c g t) H := hP
        refine f_topi (v := if bz (g (1 + k.2.1 j) 4) = 0 then 0 else 1) rfl ?_
        refine f_topi (v := if bz (g (1 + k.2.1 j) 4) = 0 then 0 else 1) rfl ?_
        refine lv_iconst (v := 1) hx hb dL_isLeast_121 (by decide) ?_
        refine lv_icmp_ne (tgt := 129) hx hb dL_isLeast_122 (by decide) (fun hc_4 => ?_) (fun hc_4 => ?_)
        · skip
          have htr := bz_i1 hc_4
          refine lv_iconst (v := 0) hx hb dL_isLeast_129 (by decide) ?_
          refine lv_istore (lv' := [(8, .int 0), (7, .int 0), (6, .int (lFl k g (k.2.1 j) k.1)), (5, .int (nI (k.2.1 j))), (4, .int (mSFor k g j (nI x))), (3, .int (nI x)), (2, .int (nI a)), (1, .int (nI j)), (0, .ref (al 0))]) hx hb dL_isLeast_130 hl (by decide) rfl (fun ls hl => ?_)
          refine lv_iload hx hb dL_isLeast_132 (lv_at hl 4 rfl) ?_
          refine lv_if_le (tgt := 237) hx hb dL_isLeast_134 (by decide) (fun h => absurd h (hLI.2 hc_1).1) (fun _ => ?_)
          refine lv_aload_n hx hb dL_isLeast_137 rfl (lv_at hl 8 rfl) ?_
          refine lv_iload hx hb dL_isLeast_138 (lv_at hl 3 rfl) ?_
          refine lv_iconst (v := 0) hx hb dL_isLeast_140 (by decide) ?_
          refine g_aft_i (g_runV (As := [.int (nI (k.2.1 j)), .int 0]) (rest := []) hx hb hml hown hts (kX7_ofPump_0 l G al k h c g t (k.2.1 j) hX (gF_pp (gX_1 hX) hj)) (fcwV 2 hts q563 q531 q532 q148 q466 rfl rfl (by decide +kernel) ⟨(Nat.le_of_ble_eq_true rfl), (Nat.le_of_ble_eq_true rfl)⟩) hE hb0 hP hS (m_recvA hE hP 0 rfl (gX_0 hX) rfl) rfl hl.1 rfl (Nat.le_of_ble_eq_true rfl) dL_isLeast_141 ⟨(Nat.le_of_ble_eq_true rfl), (Nat.le_of_ble_eq_true rfl)⟩) hS (fun u H locs hP hS => ?_)
          have hP : mP G al (w2 G al k c g t) H := hP
          refine f_topi (v := k.2.2 (1 + k.2.1 j) 1) rfl ?_
          refine f_topi (v := k.2.2 (1 + k.2.1 j) 1) rfl ?_
          refine lv_bipush (v := 10) hx hb dL_isLeast_144 (by decide) ?_
          refine lv_imul hx hb dL_isLeast_146 ?_
          refine lv_iload hx hb dL_isLeast_147 (lv_at hl 4 rfl) ?_
          refine lv_imul hx hb dL_isLeast_149 ?_
          refine lv_iload hx hb dL_isLeast_150 (lv_at hl 2 rfl) ?_
          refine lv_idiv hx hb dL_isLeast_152 (hLI.2 hc_1).2.2.2.1 ?_
          refine lv_aload_n hx hb dL_isLeast_153 rfl (lv_at hl 8 rfl) ?_
          refine lv_iload_n hx hb dL_isLeast_154 rfl (lv_at hl 7 rfl) ?_
          refine lv_iconst (v := 4) hx hb dL_isLeast_155 (by decide) ?_
          refine g_aft_i (g_runV (As := [.int (nI j), .int 4]) (rest := [.int ((((k.2.2 (1 + k.2.1 j) 1) * 10) * (mSFor k g j (nI x))) / (lFl k g (k.2.1 j) k.1))]) hx hb hml hown hts (kX7_ofJet_4 l G al k h c g t j hX hj) (fcwV 2 hts q560 q534 q535 q148 q477 rfl rfl (by decide +kernel) ⟨(Nat.le_of_ble_eq_true rfl), (Nat.le_of_ble_eq_true rfl)⟩) hE hb0 hP hS (m_recvA hE hP 0 rfl (gX_0 hX) rfl) rfl hl.1 rfl (Nat.le_of_ble_eq_true rfl) dL_isLeast_156 ⟨(Nat.le_of_ble_eq_true rfl), (Nat.le_of_ble_eq_true rfl)⟩) hS (fun u H locs hP hS => ?_)
          have hP : mP G al (w2 G al k c g t) H := hP
          refine f_topi (v := g (3 + j) 4) rfl ?_
          refine f_topi (v := g (3 + j) 4) rfl ?_
          refine lv_imul hx hb dL_isLeast_159 ?_
          refine lv_iconst (v := 4) hx hb dL_isLeast_160 (by decide) ?_
          refine lv_idiv hx hb dL_isLeast_161 (by decide) ?_
          refine lv_iload_n hx hb dL_isLeast_162 rfl (lv_at hl 5 rfl) ?_
          refine lv_icmp_lt (tgt := 237) hx hb dL_isLeast_163 (by decide) (fun h => absurd h (hLI.2 hc_1).2.1) (fun _ => ?_)
          refine lv_aload_n hx hb dL_isLeast_166 rfl (lv_at hl 8 rfl) ?_
          refine lv_iload hx hb dL_isLeast_167 (lv_at hl 3 rfl) ?_
          refine lv_iconst (v := 0) hx hb dL_isLeast_169 (by decide) ?_
          refine g_aft_i (g_runV (As := [.int (nI (k.2.1 j)), .int 0]) (rest := []) hx hb hml hown hts (kX7_ofPump_0 l G al k h c g t (k.2.1 j) hX (gF_pp (gX_1 hX) hj)) (fcwV 2 hts q563 q531 q532 q148 q466 rfl rfl (by decide +kernel) ⟨(Nat.le_of_ble_eq_true rfl), (Nat.le_of_ble_eq_true rfl)⟩) hE hb0 hP hS (m_recvA hE hP 0 rfl (gX_0 hX) rfl) rfl hl.1 rfl (Nat.le_of_ble_eq_true rfl) dL_isLeast_170 ⟨(Nat.le_of_ble_eq_true rfl), (Nat.le_of_ble_eq_true rfl)⟩) hS (fun u H locs hP hS => ?_)
          have hP : mP G al (w2 G al k c g t) H := hP
          refine f_topi (v := k.2.2 (1 + k.2.1 j) 1) rfl ?_
          refine f_topi (v := k.2.2 (1 + k.2.1 j) 1) rfl ?_
          refine lv_bipush (v := 10) hx hb dL_isLeast_173 (by decide) ?_
          refine lv_imul hx hb dL_isLeast_175 ?_
          refine lv_iload hx hb dL_isLeast_176 (lv_at hl 4 rfl) ?_
          refine lv_iconst (v := 1) hx hb dL_isLeast_178 (by decide) ?_
          refine lv_isub hx hb dL_isLeast_179 ?_
          refine lv_imul hx hb dL_isLeast_180 ?_
          refine lv_iload hx hb dL_isLeast_181 (lv_at hl 2 rfl) ?_
          refine lv_idiv hx hb dL_isLeast_183 (hLI.2 hc_1).2.2.2.1 ?_
          refine lv_aload_n hx hb dL_isLeast_184 rfl (lv_at hl 8 rfl) ?_
          refine lv_iload_n hx hb dL_isLeast_185 rfl (lv_at hl 7 rfl) ?_
          refine lv_iconst (v := 4) hx hb dL_isLeast_186 (by decide) ?_
          refine g_aft_i (g_runV (As := [.int (nI j), .int 4]) (rest := [.int ((((k.2.2 (1 + k.2.1 j) 1) * 10) * ((mSFor k g j (nI x)) - 1)) / (lFl k g (k.2.1 j) k.1))]) hx hb hml hown hts (kX7_ofJet_4 l G al k h c g t j hX hj) (fcwV 2 hts q560 q534 q535 q148 q477 rfl rfl (by decide +kernel) ⟨(Nat.le_of_ble_eq_true rfl), (Nat.le_of_ble_eq_true rfl)⟩) hE hb0 hP hS (m_recvA hE hP 0 rfl (gX_0 hX) rfl) rfl hl.1 rfl (Nat.le_of_ble_eq_true rfl) dL_isLeast_187 ⟨(Nat.le_of_ble_eq_true rfl), (Nat.le_of_ble_eq_true rfl)⟩) hS (fun u H locs hP hS => ?_)
          have hP : mP G al (w2 G al k c g t) H := hP
          refine f_topi (v := g (3 + j) 4) rfl ?_
          refine f_topi (v := g (3 + j) 4) rfl ?_
          refine lv_imul hx hb dL_isLeast_190 ?_
          refine lv_iconst (v := 4) hx hb dL_isLeast_191 (by decide) ?_
          refine lv_idiv hx hb dL_isLeast_192 (by decide) ?_
          refine lv_iload_n hx hb dL_isLeast_193 rfl (lv_at hl 5 rfl) ?_
          refine lv_icmp_ge (tgt := 237) hx hb dL_isLeast_194 (by decide) (fun h => absurd h (hLI.2 hc_1).2.2.1) (fun _ => ?_)
          refine lv_aload_n hx hb dL_isLeast_197 rfl (lv_at hl 8 rfl) ?_
          refine lv_iload_n hx hb dL_isLeast_198 rfl (lv_at hl 7 rfl) ?_
          refine lv_iload_n hx hb dL_isLeast_199 rfl (lv_at hl 5 rfl) ?_
          refine g_aft_i (g_runV (As := [.int (nI j), .int (nI x)]) (rest := []) hx hb hml hown hts (kX7_leadFor l G al k h c g t j (nI x) hX hj (nI_nlt (b := 1) (by omega) (by omega)) (nI_le (b := 60) (by omega) (by omega))) (fcwV 2 hts q561 q540 q541 q148 q523 rfl rfl (by decide +kernel) ⟨(Nat.le_of_ble_eq_true rfl), (Nat.le_of_ble_eq_true rfl)⟩) hE hb0 hP hS (m_recvA hE hP 0 rfl (gX_0 hX) rfl) rfl hl.1 rfl (Nat.le_of_ble_eq_true rfl) dL_isLeast_200 ⟨(Nat.le_of_ble_eq_true rfl), (Nat.le_of_ble_eq_true rfl)⟩) hS (fun u_5 H locs hP hS => ?_)
          have hP : mP G al (w2 G al k c g u_5) H := hP
          refine f_topi (v := mLFor k h g j (nI x)) rfl ?_
          refine lv_if_ne (tgt := 210) hx hb dL_isLeast_203 (by decide) (fun _ => ?_) (fun h => absurd h ((hLI.2 hc_1).2.2.2.2.2 (fun q => Int32.not_lt.mpr q.1 hc_3)))
          refine lv_iconst (v := 0) hx hb dL_isLeast_210 (by decide) ?_
          refine lv_iload hx hb dL_isLeast_211 (lv_at hl 1 rfl) ?_
          refine lv_if_eq (tgt := 225) hx hb dL_isLeast_213 (by decide) (fun _ => ?_) (fun h => absurd (by decide) h)
          refine lv_iconst (v := 0) hx hb dL_isLeast_225 (by decide) ?_
          refine lv_icmp_ne (tgt := 237) hx hb dL_isLeast_226 (by decide) (fun h => absurd (by decide) h) (fun _ => ?_)
          refine lv_iload_n hx hb dL_isLeast_229 rfl (lv_at hl 6 rfl) ?_
          refine lv_if_lt (tgt := 237) hx hb dL_isLeast_230 (by decide) (fun h => absurd h (nI_pos (by omega))) (fun _ => ?_)
          refine lv_iconst (v := 1) hx hb dL_isLeast_233 (by decide) ?_
          refine lv_goto (tgt := 238) hx hb dL_isLeast_234 (by decide) ?_
          refine W.widen (k := 0) (n := 0) (Nat.le_of_ble_eq_true rfl) (Nat.le_of_ble_eq_true rfl) ?_
          exact W.zret (v := 1) hx hb hr (by decide) (fun tz htz hW => ⟨⟨1, u_5, rfl, rfl, g_end htz hP⟩, hS.F htz⟩) hS.2.2 dL_isLeast_238
        · skip
          have htr := bz_i2 hc_4
          refine lv_iconst (v := 1) hx hb dL_isLeast_125 (by decide) ?_
          refine lv_goto (tgt := 130) hx hb dL_isLeast_126 (by decide) ?_
          refine lv_istore (lv' := [(8, .int 1), (7, .int 0), (6, .int (lFl k g (k.2.1 j) k.1)), (5, .int (nI (k.2.1 j))), (4, .int (mSFor k g j (nI x))), (3, .int (nI x)), (2, .int (nI a)), (1, .int (nI j)), (0, .ref (al 0))]) hx hb dL_isLeast_130 hl (by decide) rfl (fun ls hl => ?_)
          refine lv_iload hx hb dL_isLeast_132 (lv_at hl 4 rfl) ?_
          refine lv_if_le (tgt := 237) hx hb dL_isLeast_134 (by decide) (fun h => absurd h (hLI.2 hc_1).1) (fun _ => ?_)
          refine lv_aload_n hx hb dL_isLeast_137 rfl (lv_at hl 8 rfl) ?_
          refine lv_iload hx hb dL_isLeast_138 (lv_at hl 3 rfl) ?_
          refine lv_iconst (v := 0) hx hb dL_isLeast_140 (by decide) ?_
          refine g_aft_i (g_runV (As := [.int (nI (k.2.1 j)), .int 0]) (rest := []) hx hb hml hown hts (kX7_ofPump_0 l G al k h c g t (k.2.1 j) hX (gF_pp (gX_1 hX) hj)) (fcwV 2 hts q563 q531 q532 q148 q466 rfl rfl (by decide +kernel) ⟨(Nat.le_of_ble_eq_true rfl), (Nat.le_of_ble_eq_true rfl)⟩) hE hb0 hP hS (m_recvA hE hP 0 rfl (gX_0 hX) rfl) rfl hl.1 rfl (Nat.le_of_ble_eq_true rfl) dL_isLeast_141 ⟨(Nat.le_of_ble_eq_true rfl), (Nat.le_of_ble_eq_true rfl)⟩) hS (fun u H locs hP hS => ?_)
          have hP : mP G al (w2 G al k c g t) H := hP
          refine f_topi (v := k.2.2 (1 + k.2.1 j) 1) rfl ?_
          refine f_topi (v := k.2.2 (1 + k.2.1 j) 1) rfl ?_
          refine lv_bipush (v := 10) hx hb dL_isLeast_144 (by decide) ?_
          refine lv_imul hx hb dL_isLeast_146 ?_
          refine lv_iload hx hb dL_isLeast_147 (lv_at hl 4 rfl) ?_
          refine lv_imul hx hb dL_isLeast_149 ?_
          refine lv_iload hx hb dL_isLeast_150 (lv_at hl 2 rfl) ?_
          refine lv_idiv hx hb dL_isLeast_152 (hLI.2 hc_1).2.2.2.1 ?_
          refine lv_aload_n hx hb dL_isLeast_153 rfl (lv_at hl 8 rfl) ?_
          refine lv_iload_n hx hb dL_isLeast_154 rfl (lv_at hl 7 rfl) ?_
          refine lv_iconst (v := 4) hx hb dL_isLeast_155 (by decide) ?_
          refine g_aft_i (g_runV (As := [.int (nI j), .int 4]) (rest := [.int ((((k.2.2 (1 + k.2.1 j) 1) * 10) * (mSFor k g j (nI x))) / (lFl k g (k.2.1 j) k.1))]) hx hb hml hown hts (kX7_ofJet_4 l G al k h c g t j hX hj) (fcwV 2 hts q560 q534 q535 q148 q477 rfl rfl (by decide +kernel) ⟨(Nat.le_of_ble_eq_true rfl), (Nat.le_of_ble_eq_true rfl)⟩) hE hb0 hP hS (m_recvA hE hP 0 rfl (gX_0 hX) rfl) rfl hl.1 rfl (Nat.le_of_ble_eq_true rfl) dL_isLeast_156 ⟨(Nat.le_of_ble_eq_true rfl), (Nat.le_of_ble_eq_true rfl)⟩) hS (fun u H locs hP hS => ?_)
          have hP : mP G al (w2 G al k c g t) H := hP
          refine f_topi (v := g (3 + j) 4) rfl ?_
          refine f_topi (v := g (3 + j) 4) rfl ?_
          refine lv_imul hx hb dL_isLeast_159 ?_
          refine lv_iconst (v := 4) hx hb dL_isLeast_160 (by decide) ?_
          refine lv_idiv hx hb dL_isLeast_161 (by decide) ?_
          refine lv_iload_n hx hb dL_isLeast_162 rfl (lv_at hl 5 rfl) ?_
          refine lv_icmp_lt (tgt := 237) hx hb dL_isLeast_163 (by decide) (fun h => absurd h (hLI.2 hc_1).2.1) (fun _ => ?_)
          refine lv_aload_n hx hb dL_isLeast_166 rfl (lv_at hl 8 rfl) ?_
          refine lv_iload hx hb dL_isLeast_167 (lv_at hl 3 rfl) ?_
          refine lv_iconst (v := 0) hx hb dL_isLeast_169 (by decide) ?_
          refine g_aft_i (g_runV (As := [.int (nI (k.2.1 j)), .int 0]) (rest := []) hx hb hml hown hts (kX7_ofPump_0 l G al k h c g t (k.2.1 j) hX (gF_pp (gX_1 hX) hj)) (fcwV 2 hts q563 q531 q532 q148 q466 rfl rfl (by decide +kernel) ⟨(Nat.le_of_ble_eq_true rfl), (Nat.le_of_ble_eq_true rfl)⟩) hE hb0 hP hS (m_recvA hE hP 0 rfl (gX_0 hX) rfl) rfl hl.1 rfl (Nat.le_of_ble_eq_true rfl) dL_isLeast_170 ⟨(Nat.le_of_ble_eq_true rfl), (Nat.le_of_ble_eq_true rfl)⟩) hS (fun u H locs hP hS => ?_)
          have hP : mP G al (w2 G al k c g t) H := hP
          refine f_topi (v := k.2.2 (1 + k.2.1 j) 1) rfl ?_
          refine f_topi (v := k.2.2 (1 + k.2.1 j) 1) rfl ?_
          refine lv_bipush (v := 10) hx hb dL_isLeast_173 (by decide) ?_
          refine lv_imul hx hb dL_isLeast_175 ?_
          refine lv_iload hx hb dL_isLeast_176 (lv_at hl 4 rfl) ?_
          refine lv_iconst (v := 1) hx hb dL_isLeast_178 (by decide) ?_
          refine lv_isub hx hb dL_isLeast_179 ?_
          refine lv_imul hx hb dL_isLeast_180 ?_
          refine lv_iload hx hb dL_isLeast_181 (lv_at hl 2 rfl) ?_
          refine lv_idiv hx hb dL_isLeast_183 (hLI.2 hc_1).2.2.2.1 ?_
          refine lv_aload_n hx hb dL_isLeast_184 rfl (lv_at hl 8 rfl) ?_
          refine lv_iload_n hx hb dL_isLeast_185 rfl (lv_at hl 7 rfl) ?_
          refine lv_iconst (v := 4) hx hb dL_isLeast_186 (by decide) ?_
          refine g_aft_i (g_runV (As := [.int (nI j), .int 4]) (rest := [.int ((((k.2.2 (1 + k.2.1 j) 1) * 10) * ((mSFor k g j (nI x)) - 1)) / (lFl k g (k.2.1 j) k.1))]) hx hb hml hown hts (kX7_ofJet_4 l G al k h c g t j hX hj) (fcwV 2 hts q560 q534 q535 q148 q477 rfl rfl (by decide +kernel) ⟨(Nat.le_of_ble_eq_true rfl), (Nat.le_of_ble_eq_true rfl)⟩) hE hb0 hP hS (m_recvA hE hP 0 rfl (gX_0 hX) rfl) rfl hl.1 rfl (Nat.le_of_ble_eq_true rfl) dL_isLeast_187 ⟨(Nat.le_of_ble_eq_true rfl), (Nat.le_of_ble_eq_true rfl)⟩) hS (fun u H locs hP hS => ?_)
          have hP : mP G al (w2 G al k c g t) H := hP
          refine f_topi (v := g (3 + j) 4) rfl ?_
          refine f_topi (v := g (3 + j) 4) rfl ?_
          refine lv_imul hx hb dL_isLeast_190 ?_
          refine lv_iconst (v := 4) hx hb dL_isLeast_191 (by decide) ?_
          refine lv_idiv hx hb dL_isLeast_192 (by decide) ?_
          refine lv_iload_n hx hb dL_isLeast_193 rfl (lv_at hl 5 rfl) ?_
          refine lv_icmp_ge (tgt := 237) hx hb dL_isLeast_194 (by decide) (fun h => absurd h (hLI.2 hc_1).2.2.1) (fun _ => ?_)
          refine lv_aload_n hx hb dL_isLeast_197 rfl (lv_at hl 8 rfl) ?_
          refine lv_iload_n hx hb dL_isLeast_198 rfl (lv_at hl 7 rfl) ?_
          refine lv_iload_n hx hb dL_isLeast_199 rfl (lv_at hl 5 rfl) ?_
          refine g_aft_i (g_runV (As := [.int (nI j), .int (nI x)]) (rest := []) hx hb hml hown hts (kX7_leadFor l G al k h c g t j (nI x) hX hj (nI_nlt (b := 1) (by omega) (by omega)) (nI_le (b := 60) (by omega) (by omega))) (fcwV 2 hts q561 q540 q541 q148 q523 rfl rfl (by decide +kernel) ⟨(Nat.le_of_ble_eq_true rfl), (Nat.le_of_ble_eq_true rfl)⟩) hE hb0 hP hS (m_recvA hE hP 0 rfl (gX_0 hX) rfl) rfl hl.1 rfl (Nat.le_of_ble_eq_true rfl) dL_isLeast_200 ⟨(Nat.le_of_ble_eq_true rfl), (Nat.le_of_ble_eq_true rfl)⟩) hS (fun u_6 H locs hP hS => ?_)
          have hP : mP G al (w2 G al k c g u_6) H := hP
          refine f_topi (v := mLFor k h g j (nI x)) rfl ?_
          refine lv_if_ne (tgt := 210) hx hb dL_isLeast_203 (by decide) (fun _ => ?_) (fun h => absurd h ((hLI.2 hc_1).2.2.2.2.2 (fun q => Int32.not_lt.mpr q.1 hc_3)))
          refine lv_iconst (v := 0) hx hb dL_isLeast_210 (by decide) ?_
          refine lv_iload hx hb dL_isLeast_211 (lv_at hl 1 rfl) ?_
          refine lv_if_eq (tgt := 225) hx hb dL_isLeast_213 (by decide) (fun _ => ?_) (fun h => absurd (by decide) h)
          refine lv_iconst (v := 0) hx hb dL_isLeast_225 (by decide) ?_
          refine lv_icmp_ne (tgt := 237) hx hb dL_isLeast_226 (by decide) (fun h => absurd (by decide) h) (fun _ => ?_)
          refine lv_iload_n hx hb dL_isLeast_229 rfl (lv_at hl 6 rfl) ?_
          refine lv_if_lt (tgt := 237) hx hb dL_isLeast_230 (by decide) (fun h => absurd h (nI_pos (by omega))) (fun _ => ?_)
          refine lv_iconst (v := 1) hx hb dL_isLeast_233 (by decide) ?_
          refine lv_goto (tgt := 238) hx hb dL_isLeast_234 (by decide) ?_
          refine W.widen (k := 0) (n := 0) (Nat.le_of_ble_eq_true rfl) (Nat.le_of_ble_eq_true rfl) ?_
          exact W.zret (v := 1) hx hb hr (by decide) (fun tz htz hW => ⟨⟨1, u_6, rfl, rfl, g_end htz hP⟩, hS.F htz⟩) hS.2.2 dL_isLeast_238
      · skip
        refine lv_iconst (v := 1) hx hb dL_isLeast_107 (by decide) ?_
        refine lv_goto (tgt := 112) hx hb dL_isLeast_108 (by decide) ?_
        refine lv_istore (lv' := [(7, .int 1), (6, .int (lFl k g (k.2.1 j) k.1)), (5, .int (nI (k.2.1 j))), (4, .int (mSFor k g j (nI x))), (3, .int (nI x)), (2, .int (nI a)), (1, .int (nI j)), (0, .ref (al 0))]) hx hb dL_isLeast_112 hl (by decide) rfl (fun ls hl => ?_)
        refine lv_aload_n hx hb dL_isLeast_114 rfl (lv_at hl 7 rfl) ?_
        refine lv_iload hx hb dL_isLeast_115 (lv_at hl 2 rfl) ?_
        refine lv_iconst (v := 4) hx hb dL_isLeast_117 (by decide) ?_
        refine g_aft_i (g_runV (As := [.int (nI (k.2.1 j)), .int 4]) (rest := []) hx hb hml hown hts (kX7_ofPump_4 l G al k h c g t (k.2.1 j) hX (gF_pp (gX_1 hX) hj)) (fcwV 2 hts q563 q531 q532 q148 q466 rfl rfl (by decide +kernel) ⟨(Nat.le_of_ble_eq_true rfl), (Nat.le_of_ble_eq_true rfl)⟩) hE hb0 hP hS (m_recvA hE hP 0 rfl (gX_0 hX) rfl) rfl hl.1 rfl (Nat.le_of_ble_eq_true rfl) dL_isLeast_118 ⟨(Nat.le_of_ble_eq_true rfl), (Nat.le_of_ble_eq_true rfl)⟩) hS (fun u H locs hP hS => ?_)
        have hP : mP G al (w2 G al k c g t) H := hP
        refine f_topi (v := if bz (g (1 + k.2.1 j) 4) = 0 then 0 else 1) rfl ?_
        refine f_topi (v := if bz (g (1 + k.2.1 j) 4) = 0 then 0 else 1) rfl ?_
        refine lv_iconst (v := 1) hx hb dL_isLeast_121 (by decide) ?_
        refine lv_icmp_ne (tgt := 129) hx hb dL_isLeast_122 (by decide) (fun hc_7 => ?_) (fun hc_7 => ?_)
        · skip
          have htr := bz_i1 hc_7
          refine lv_iconst (v := 0) hx hb dL_isLeast_129 (by decide) ?_
          refine lv_istore (lv' := [(8, .int 0), (7, .int 1), (6, .int (lFl k g (k.2.1 j) k.1)), (5, .int (nI (k.2.1 j))), (4, .int (mSFor k g j (nI x))), (3, .int (nI x)), (2, .int (nI a)), (1, .int (nI j)), (0, .ref (al 0))]) hx hb dL_isLeast_130 hl (by decide) rfl (fun ls hl => ?_)
          refine lv_iload hx hb dL_isLeast_132 (lv_at hl 4 rfl) ?_
          refine lv_if_le (tgt := 237) hx hb dL_isLeast_134 (by decide) (fun h => absurd h (hLI.2 hc_1).1) (fun _ => ?_)
          refine lv_aload_n hx hb dL_isLeast_137 rfl (lv_at hl 8 rfl) ?_
          refine lv_iload hx hb dL_isLeast_138 (lv_at hl 3 rfl) ?_
          refine lv_iconst (v := 0) hx hb dL_isLeast_140 (by decide) ?_
          refine g_aft_i (g_runV (As := [.int (nI (k.2.1 j)), .int 0]) (rest := []) hx hb hml hown hts (kX7_ofPump_0 l G al k h c g t (k.2.1 j) hX (gF_pp (gX_1 hX) hj)) (fcwV 2 hts q563 q531 q532 q148 q466 rfl rfl (by decide +kernel) ⟨(Nat.le_of_ble_eq_true rfl), (Nat.le_of_ble_eq_true rfl)⟩) hE hb0 hP hS (m_recvA hE hP 0 rfl (gX_0 hX) rfl) rfl hl.1 rfl (Nat.le_of_ble_eq_true rfl) dL_isLeast_141 ⟨(Nat.le_of_ble_eq_true rfl), (Nat.le_of_ble_eq_true rfl)⟩) hS (fun u H locs hP hS => ?_)
          have hP : mP G al (w2 G al k c g t) H := hP
          refine f_topi (v := k.2.2 (1 + k.2.1 j) 1) rfl ?_
          refine f_topi (v := k.2.2 (1 + k.2.1 j) 1) rfl ?_
          refine lv_bipush (v := 10) hx hb dL_isLeast_144 (by decide) ?_
          refine lv_imul hx hb dL_isLeast_146 ?_
          refine lv_iload hx hb dL_isLeast_147 (lv_at hl 4 rfl) ?_
          refine lv_imul hx hb dL_isLeast_149 ?_
          refine lv_iload hx hb dL_isLeast_150 (lv_at hl 2 rfl) ?_
          refine lv_idiv hx hb dL_isLeast_152 (hLI.2 hc_1).2.2.2.1 ?_
          refine lv_aload_n hx hb dL_isLeast_153 rfl (lv_at hl 8 rfl) ?_
          refine lv_iload_n hx hb dL_isLeast_154 rfl (lv_at hl 7 rfl) ?_
          refine lv_iconst (v := 4) hx hb dL_isLeast_155 (by decide) ?_
          refine g_aft_i (g_runV (As := [.int (nI j), .int 4]) (rest := [.int ((((k.2.2 (1 + k.2.1 j) 1) * 10) * (mSFor k g j (nI x))) / (lFl k g (k.2.1 j) k.1))]) hx hb hml hown hts (kX7_ofJet_4 l G al k h c g t j hX hj) (fcwV 2 hts q560 q534 q535 q148 q477 rfl rfl (by decide +kernel) ⟨(Nat.le_of_ble_eq_true rfl), (Nat.le_of_ble_eq_true rfl)⟩) hE hb0 hP hS (m_recvA hE hP 0 rfl (gX_0 hX) rfl) rfl hl.1 rfl (Nat.le_of_ble_eq_true rfl) dL_isLeast_156 ⟨(Nat.le_of_ble_eq_true rfl), (Nat.le_of_ble_eq_true rfl)⟩) hS (fun u H locs hP hS => ?_)
          have hP : mP G al (w2 G al k c g t) H := hP
          refine f_topi (v := g (3 + j) 4) rfl ?_
          refine f_topi (v := g (3 + j) 4) rfl ?_
          refine lv_imul hx hb dL_isLeast_159 ?_
          refine lv_iconst (v := 4) hx hb dL_isLeast_160 (by decide) ?_
          refine lv_idiv hx hb dL_isLeast_161 (by decide) ?_
          refine lv_iload_n hx hb dL_isLeast_162 rfl (lv_at hl 5 rfl) ?_
          refine lv_icmp_lt (tgt := 237) hx hb dL_isLeast_163 (by decide) (fun h => absurd h (hLI.2 hc_1).2.1) (fun _ => ?_)
          refine lv_aload_n hx hb dL_isLeast_166 rfl (lv_at hl 8 rfl) ?_
          refine lv_iload hx hb dL_isLeast_167 (lv_at hl 3 rfl) ?_
          refine lv_iconst (v := 0) hx hb dL_isLeast_169 (by decide) ?_
          refine g_aft_i (g_runV (As := [.int (nI (k.2.1 j)), .int 0]) (rest := []) hx hb hml hown hts (kX7_ofPump_0 l G al k h c g t (k.2.1 j) hX (gF_pp (gX_1 hX) hj)) (fcwV 2 hts q563 q531 q532 q148 q466 rfl rfl (by decide +kernel) ⟨(Nat.le_of_ble_eq_true rfl), (Nat.le_of_ble_eq_true rfl)⟩) hE hb0 hP hS (m_recvA hE hP 0 rfl (gX_0 hX) rfl) rfl hl.1 rfl (Nat.le_of_ble_eq_true rfl) dL_isLeast_170 ⟨(Nat.le_of_ble_eq_true rfl), (Nat.le_of_ble_eq_true rfl)⟩) hS (fun u H locs hP hS => ?_)
          have hP : mP G al (w2 G al k c g t) H := hP
          refine f_topi (v := k.2.2 (1 + k.2.1 j) 1) rfl ?_
          refine f_topi (v := k.2.2 (1 + k.2.1 j) 1) rfl ?_
          refine lv_bipush (v := 10) hx hb dL_isLeast_173 (by decide) ?_
          refine lv_imul hx hb dL_isLeast_175 ?_
          refine lv_iload hx hb dL_isLeast_176 (lv_at hl 4 rfl) ?_
          refine lv_iconst (v := 1) hx hb dL_isLeast_178 (by decide) ?_
          refine lv_isub hx hb dL_isLeast_179 ?_
          refine lv_imul hx hb dL_isLeast_180 ?_
          refine lv_iload hx hb dL_isLeast_181 (lv_at hl 2 rfl) ?_
          refine lv_idiv hx hb dL_isLeast_183 (hLI.2 hc_1).2.2.2.1 ?_
          refine lv_aload_n hx hb dL_isLeast_184 rfl (lv_at hl 8 rfl) ?_
          refine lv_iload_n hx hb dL_isLeast_185 rfl (lv_at hl 7 rfl) ?_
          refine lv_iconst (v := 4) hx hb dL_isLeast_186 (by decide) ?_
          refine g_aft_i (g_runV (As := [.int (nI j), .int 4]) (rest := [.int ((((k.2.2 (1 + k.2.1 j) 1) * 10) * ((mSFor k g j (nI x)) - 1)) / (lFl k g (k.2.1 j) k.1))]) hx hb hml hown hts (kX7_ofJet_4 l G al k h c g t j hX hj) (fcwV 2 hts q560 q534 q535 q148 q477 rfl rfl (by decide +kernel) ⟨(Nat.le_of_ble_eq_true rfl), (Nat.le_of_ble_eq_true rfl)⟩) hE hb0 hP hS (m_recvA hE hP 0 rfl (gX_0 hX) rfl) rfl hl.1 rfl (Nat.le_of_ble_eq_true rfl) dL_isLeast_187 ⟨(Nat.le_of_ble_eq_true rfl), (Nat.le_of_ble_eq_true rfl)⟩) hS (fun u H locs hP hS => ?_)
          have hP : mP G al (w2 G al k c g t) H := hP
          refine f_topi (v := g (3 + j) 4) rfl ?_
          refine f_topi (v := g (3 + j) 4) rfl ?_
          refine lv_imul hx hb dL_isLeast_190 ?_
          refine lv_iconst (v := 4) hx hb dL_isLeast_191 (by decide) ?_
          refine lv_idiv hx hb dL_isLeast_192 (by decide) ?_
          refine lv_iload_n hx hb dL_isLeast_193 rfl (lv_at hl 5 rfl) ?_
          refine lv_icmp_ge (tgt := 237) hx hb dL_isLeast_194 (by decide) (fun h => absurd h (hLI.2 hc_1).2.2.1) (fun _ => ?_)
          refine lv_aload_n hx hb dL_isLeast_197 rfl (lv_at hl 8 rfl) ?_
          refine lv_iload_n hx hb dL_isLeast_198 rfl (lv_at hl 7 rfl) ?_
          refine lv_iload_n hx hb dL_isLeast_199 rfl (lv_at hl 5 rfl) ?_
          refine g_aft_i (g_runV (As := [.int (nI j), .int (nI x)]) (rest := []) hx hb hml hown hts (kX7_leadFor l G al k h c g t j (nI x) hX hj (nI_nlt (b := 1) (by omega) (by omega)) (nI_le (b := 60) (by omega) (by omega))) (fcwV 2 hts q561 q540 q541 q148 q523 rfl rfl (by decide +kernel) ⟨(Nat.le_of_ble_eq_true rfl), (Nat.le_of_ble_eq_true rfl)⟩) hE hb0 hP hS (m_recvA hE hP 0 rfl (gX_0 hX) rfl) rfl hl.1 rfl (Nat.le_of_ble_eq_true rfl) dL_isLeast_200 ⟨(Nat.le_of_ble_eq_true rfl), (Nat.le_of_ble_eq_true rfl)⟩) hS (fun u_8 H locs hP hS => ?_)
          have hP : mP G al (w2 G al k c g u_8) H := hP
          refine f_topi (v := mLFor k h g j (nI x)) rfl ?_
          refine lv_if_ne (tgt := 210) hx hb dL_isLeast_203 (by decide) (fun h => absurd ((hLI.2 hc_1).2.2.2.2.1 (Int32.not_lt.mp hc_3) htr) h) (fun _ => ?_)
          refine lv_iconst (v := 1) hx hb dL_isLeast_206 (by decide) ?_
          refine lv_goto (tgt := 211) hx hb dL_isLeast_207 (by decide) ?_
          refine lv_iload hx hb dL_isLeast_211 (lv_at hl 1 rfl) ?_
          refine lv_if_eq (tgt := 225) hx hb dL_isLeast_213 (by decide) (fun h => absurd h (by decide)) (fun _ => ?_)
          refine lv_iload hx hb dL_isLeast_216 (lv_at hl 0 rfl) ?_
          refine lv_if_ne (tgt := 225) hx hb dL_isLeast_218 (by decide) (fun h => absurd (by decide) h) (fun _ => ?_)
          refine lv_iconst (v := 1) hx hb dL_isLeast_221 (by decide) ?_
          refine lv_goto (tgt := 226) hx hb dL_isLeast_222 (by decide) ?_
          refine lv_icmp_ne (tgt := 237) hx hb dL_isLeast_226 (by decide) (fun h => absurd (by decide) h) (fun _ => ?_)
          refine lv_iload_n hx hb dL_isLeast_229 rfl (lv_at hl 6 rfl) ?_
          refine lv_if_lt (tgt := 237) hx hb dL_isLeast_230 (by decide) (fun h => absurd h (nI_pos (by omega))) (fun _ => ?_)
          refine lv_iconst (v := 1) hx hb dL_isLeast_233 (by decide) ?_
          refine lv_goto (tgt := 238) hx hb dL_isLeast_234 (by decide) ?_
          refine W.widen (k := 0) (n := 0) (Nat.le_of_ble_eq_true rfl) (Nat.le_of_ble_eq_true rfl) ?_
          exact W.zret (v := 1) hx hb hr (by decide) (fun tz htz hW => ⟨⟨1, u_8, rfl, rfl, g_end htz hP⟩, hS.F htz⟩) hS.2.2 dL_isLeast_238
        · skip
          have htr := bz_i2 hc_7
          refine lv_iconst (v := 1) hx hb dL_isLeast_125 (by decide) ?_
          refine lv_goto (tgt := 130) hx hb dL_isLeast_126 (by decide) ?_
          refine lv_istore (lv' := [(8, .int 1), (7, .int 1), (6, .int (lFl k g (k.2.1 j) k.1)), (5, .int (nI (k.2.1 j))), (4, .int (mSFor k g j (nI x))), (3, .int (nI x)), (2, .int (nI a)), (1, .int (nI j)), (0, .ref (al 0))]) hx hb dL_isLeast_130 hl (by decide) rfl (fun ls hl => ?_)
          refine lv_iload hx hb dL_isLeast_132 (lv_at hl 4 rfl) ?_
          refine lv_if_le (tgt := 237) hx hb dL_isLeast_134 (by decide) (fun h => absurd h (hLI.2 hc_1).1) (fun _ => ?_)
          refine lv_aload_n hx hb dL_isLeast_137 rfl (lv_at hl 8 rfl) ?_
          refine lv_iload hx hb dL_isLeast_138 (lv_at hl 3 rfl) ?_
          refine lv_iconst (v := 0) hx hb dL_isLeast_140 (by decide) ?_
          refine g_aft_i (g_runV (As := [.int (nI (k.2.1 j)), .int 0]) (rest := []) hx hb hml hown hts (kX7_ofPump_0 l G al k h c g t (k.2.1 j) hX (gF_pp (gX_1 hX) hj)) (fcwV 2 hts q563 q531 q532 q148 q466 rfl rfl (by decide +kernel) ⟨(Nat.le_of_ble_eq_true rfl), (Nat.le_of_ble_eq_true rfl)⟩) hE hb0 hP hS (m_recvA hE hP 0 rfl (gX_0 hX) rfl) rfl hl.1 rfl (Nat.le_of_ble_eq_true rfl) dL_isLeast_141 ⟨(Nat.le_of_ble_eq_true rfl), (Nat.le_of_ble_eq_true rfl)⟩) hS (fun u H locs hP hS => ?_)
          have hP : mP G al (w2 G al k c g t) H := hP
          refine f_topi (v := k.2.2 (1 + k.2.1 j) 1) rfl ?_
          refine f_topi (v := k.2.2 (1 + k.2.1 j) 1) rfl ?_
          refine lv_bipush (v := 10) hx hb dL_isLeast_144 (by decide) ?_
          refine lv_imul hx hb dL_isLeast_146 ?_
          refine lv_iload hx hb dL_isLeast_147 (lv_at hl 4 rfl) ?_
          refine lv_imul hx hb dL_isLeast_149 ?_
          refine lv_iload hx hb dL_isLeast_150 (lv_at hl 2 rfl) ?_
          refine lv_idiv hx hb dL_isLeast_152 (hLI.2 hc_1).2.2.2.1 ?_
          refine lv_aload_n hx hb dL_isLeast_153 rfl (lv_at hl 8 rfl) ?_
          refine lv_iload_n hx hb dL_isLeast_154 rfl (lv_at hl 7 rfl) ?_
          refine lv_iconst (v := 4) hx hb dL_isLeast_155 (by decide) ?_
          refine g_aft_i (g_runV (As := [.int (nI j), .int 4]) (rest := [.int ((((k.2.2 (1 + k.2.1 j) 1) * 10) * (mSFor k g j (nI x))) / (lFl k g (k.2.1 j) k.1))]) hx hb hml hown hts (kX7_ofJet_4 l G al k h c g t j hX hj) (fcwV 2 hts q560 q534 q535 q148 q477 rfl rfl (by decide +kernel) ⟨(Nat.le_of_ble_eq_true rfl), (Nat.le_of_ble_eq_true rfl)⟩) hE hb0 hP hS (m_recvA hE hP 0 rfl (gX_0 hX) rfl) rfl hl.1 rfl (Nat.le_of_ble_eq_true rfl) dL_isLeast_156 ⟨(Nat.le_of_ble_eq_true rfl), (Nat.le_of_ble_eq_true rfl)⟩) hS (fun u H locs hP hS => ?_)
          have hP : mP G al (w2 G al k c g t) H := hP
          refine f_topi (v := g (3 + j) 4) rfl ?_
          refine f_topi (v := g (3 + j) 4) rfl ?_
          refine lv_imul hx hb dL_isLeast_159 ?_
          refine lv_iconst (v := 4) hx hb dL_isLeast_160 (by decide) ?_
          refine lv_idiv hx hb dL_isLeast_161 (by decide) ?_
          refine lv_iload_n hx hb dL_isLeast_162 rfl (lv_at hl 5 rfl) ?_
          refine lv_icmp_lt (tgt := 237) hx hb dL_isLeast_163 (by decide) (fun h => absurd h (hLI.2 hc_1).2.1) (fun _ => ?_)
          refine lv_aload_n hx hb dL_isLeast_166 rfl (lv_at hl 8 rfl) ?_
          refine lv_iload hx hb dL_isLeast_167 (lv_at hl 3 rfl) ?_
          refine lv_iconst (v := 0) hx hb dL_isLeast_169 (by decide) ?_
          refine g_aft_i (g_runV (As := [.int (nI (k.2.1 j)), .int 0]) (rest := []) hx hb hml hown hts (kX7_ofPump_0 l G al k h c g t (k.2.1 j) hX (gF_pp (gX_1 hX) hj)) (fcwV 2 hts q563 q531 q532 q148 q466 rfl rfl (by decide +kernel) ⟨(Nat.le_of_ble_eq_true rfl), (Nat.le_of_ble_eq_true rfl)⟩) hE hb0 hP hS (m_recvA hE hP 0 rfl (gX_0 hX) rfl) rfl hl.1 rfl (Nat.le_of_ble_eq_true rfl) dL_isLeast_170 ⟨(Nat.le_of_ble_eq_true rfl), (Nat.le_of_ble_eq_true rfl)⟩) hS (fun u H locs hP hS => ?_)
          have hP : mP G al (w2 G al k c g t) H := hP
          refine f_topi (v := k.2.2 (1 + k.2.1 j) 1) rfl ?_
          refine f_topi (v := k.2.2 (1 + k.2.1 j) 1) rfl ?_
          refine lv_bipush (v := 10) hx hb dL_isLeast_173 (by decide) ?_
          refine lv_imul hx hb dL_isLeast_175 ?_
          refine lv_iload hx hb dL_isLeast_176 (lv_at hl 4 rfl) ?_
          refine lv_iconst (v := 1) hx hb dL_isLeast_178 (by decide) ?_
          refine lv_isub hx hb dL_isLeast_179 ?_
          refine lv_imul hx hb dL_isLeast_180 ?_
          refine lv_iload hx hb dL_isLeast_181 (lv_at hl 2 rfl) ?_
          refine lv_idiv hx hb dL_isLeast_183 (hLI.2 hc_1).2.2.2.1 ?_
          refine lv_aload_n hx hb dL_isLeast_184 rfl (lv_at hl 8 rfl) ?_
          refine lv_iload_n hx hb dL_isLeast_185 rfl (lv_at hl 7 rfl) ?_
          refine lv_iconst (v := 4) hx hb dL_isLeast_186 (by decide) ?_
          refine g_aft_i (g_runV (As := [.int (nI j), .int 4]) (rest := [.int ((((k.2.2 (1 + k.2.1 j) 1) * 10) * ((mSFor k g j (nI x)) - 1)) / (lFl k g (k.2.1 j) k.1))]) hx hb hml hown hts (kX7_ofJet_4 l G al k h c g t j hX hj) (fcwV 2 hts q560 q534 q535 q148 q477 rfl rfl (by decide +kernel) ⟨(Nat.le_of_ble_eq_true rfl), (Nat.le_of_ble_eq_true rfl)⟩) hE hb0 hP hS (m_recvA hE hP 0 rfl (gX_0 hX) rfl) rfl hl.1 rfl (Nat.le_of_ble_eq_true rfl) dL_isLeast_187 ⟨(Nat.le_of_ble_eq_true rfl), (Nat.le_of_ble_eq_true rfl)⟩) hS (fun u H locs hP hS => ?_)
          have hP : mP G al (w2 G al k c g t) H := hP
          refine f_topi (v := g (3 + j) 4) rfl ?_
          refine f_topi (v := g (3 + j) 4) rfl ?_
          refine lv_imul hx hb dL_isLeast_190 ?_
          refine lv_iconst (v := 4) hx hb dL_isLeast_191 (by decide) ?_
          refine lv_idiv hx hb dL_isLeast_192 (by decide) ?_
          refine lv_iload_n hx hb dL_isLeast_193 rfl (lv_at hl 5 rfl) ?_
          refine lv_icmp_ge (tgt := 237) hx hb dL_isLeast_194 (by decide) (fun h => absurd h (hLI.2 hc_1).2.2.1) (fun _ => ?_)
          refine lv_aload_n hx hb dL_isLeast_197 rfl (lv_at hl 8 rfl) ?_
          refine lv_iload_n hx hb dL_isLeast_198 rfl (lv_at hl 7 rfl) ?_
          refine lv_iload_n hx hb dL_isLeast_199 rfl (lv_at hl 5 rfl) ?_
          refine g_aft_i (g_runV (As := [.int (nI j), .int (nI x)]) (rest := []) hx hb hml hown hts (kX7_leadFor l G al k h c g t j (nI x) hX hj (nI_nlt (b := 1) (by omega) (by omega)) (nI_le (b := 60) (by omega) (by omega))) (fcwV 2 hts q561 q540 q541 q148 q523 rfl rfl (by decide +kernel) ⟨(Nat.le_of_ble_eq_true rfl), (Nat.le_of_ble_eq_true rfl)⟩) hE hb0 hP hS (m_recvA hE hP 0 rfl (gX_0 hX) rfl) rfl hl.1 rfl (Nat.le_of_ble_eq_true rfl) dL_isLeast_200 ⟨(Nat.le_of_ble_eq_true rfl), (Nat.le_of_ble_eq_true rfl)⟩) hS (fun u_9 H locs hP hS => ?_)
          have hP : mP G al (w2 G al k c g u_9) H := hP
          refine f_topi (v := mLFor k h g j (nI x)) rfl ?_
          refine lv_if_ne (tgt := 210) hx hb dL_isLeast_203 (by decide) (fun _ => ?_) (fun h => absurd h ((hLI.2 hc_1).2.2.2.2.2 (fun q => htr q.2)))
          refine lv_iconst (v := 0) hx hb dL_isLeast_210 (by decide) ?_
          refine lv_iload hx hb dL_isLeast_211 (lv_at hl 1 rfl) ?_
          refine lv_if_eq (tgt := 225) hx hb dL_isLeast_213 (by decide) (fun h => absurd h (by decide)) (fun _ => ?_)
          refine lv_iload hx hb dL_isLeast_216 (lv_at hl 0 rfl) ?_
          refine lv_if_ne (tgt := 225) hx hb dL_isLeast_218 (by decide) (fun _ => ?_) (fun h => absurd h (by decide))
          refine lv_iconst (v := 0) hx hb dL_isLeast_225 (by decide) ?_
          refine lv_icmp_ne (tgt := 237) hx hb dL_isLeast_226 (by decide) (fun h => absurd (by decide) h) (fun _ => ?_)
          refine lv_iload_n hx hb dL_isLeast_229 rfl (lv_at hl 6 rfl) ?_
          refine lv_if_lt (tgt := 237) hx hb dL_isLeast_230 (by decide) (fun h => absurd h (nI_pos (by omega))) (fun _ => ?_)
          refine lv_iconst (v := 1) hx hb dL_isLeast_233 (by decide) ?_
          refine lv_goto (tgt := 238) hx hb dL_isLeast_234 (by decide) ?_
          refine W.widen (k := 0) (n := 0) (Nat.le_of_ble_eq_true rfl) (Nat.le_of_ble_eq_true rfl) ?_
          exact W.zret (v := 1) hx hb hr (by decide) (fun tz htz hW => ⟨⟨1, u_9, rfl, rfl, g_end htz hP⟩, hS.F htz⟩) hS.2.2 dL_isLeast_238
    · skip
      have hlti1 : i1 < k.1 := Nat.lt_of_not_le (fun q => hc_2 (nI_le q (by omega)))
      refine lv_iload hx hb dL_isLeast_54 (lv_at hl 1 rfl) ?_
      refine lv_aload_n hx hb dL_isLeast_56 rfl (lv_at hl 7 rfl) ?_
      refine lv_iload hx hb dL_isLeast_57 (lv_at hl 0 rfl) ?_
      refine lv_iconst (v := 0) hx hb dL_isLeast_59 (by decide) ?_
      refine g_aft_i (g_runV (As := [.int (nI i1), .int 0]) (rest := [.int (lFl k g (k.2.1 j) i1)]) hx hb hml hown hts (kX7_ofJet_0 l G al k h c g t i1 hX hlti1) (fcwV 2 hts q560 q534 q535 q148 q477 rfl rfl (by decide +kernel) ⟨(Nat.le_of_ble_eq_true rfl), (Nat.le_of_ble_eq_true rfl)⟩) hE hb0 hP hS (m_recvA hE hP 0 rfl (gX_0 hX) rfl) rfl hl.1 rfl (Nat.le_of_ble_eq_true rfl) dL_isLeast_60 ⟨(Nat.le_of_ble_eq_true rfl), (Nat.le_of_ble_eq_true rfl)⟩) hS (fun u H locs hP hS => ?_)
      have hP : mP G al (w2 G al k c g t) H := hP
      refine f_topi (v := nI (k.2.1 i1)) rfl ?_
      refine f_topi (v := nI (k.2.1 i1)) rfl ?_
      refine lv_iload hx hb dL_isLeast_63 (lv_at hl 2 rfl) ?_
      refine lv_icmp_ne (tgt := 86) hx hb dL_isLeast_65 (by decide) (fun hc_10 => ?_) (fun hc_10 => ?_)
      · skip
        have hp1 := gF_pp (gX_1 hX) hlti1
        have hp2 := gF_pp (gX_1 hX) hj
        have hc_10' : ¬ k.2.1 i1 = k.2.1 j := fun q => hc_10 (by rw [q])
        refine lv_iconst (v := 0) hx hb dL_isLeast_86 (by decide) ?_
        refine lv_iadd hx hb dL_isLeast_87 ?_
        refine lv_istore (lv' := [(6, .int ((lFl k g (k.2.1 j) i1) + 0)), (7, .int (nI i1)), (5, .int (nI (k.2.1 j))), (4, .int (mSFor k g j (nI x))), (3, .int (nI x)), (2, .int (nI a)), (1, .int (nI j)), (0, .ref (al 0))]) hx hb dL_isLeast_88 hl (by decide) rfl (fun ls hl => ?_)
        refine lv_iinc (v := nI (i1 + 1)) (lv' := [(7, .int (nI (i1 + 1))), (6, .int ((lFl k g (k.2.1 j) i1) + 0)), (5, .int (nI (k.2.1 j))), (4, .int (mSFor k g j (nI x))), (3, .int (nI x)), (2, .int (nI a)), (1, .int (nI j)), (0, .ref (al 0))]) hx hb dL_isLeast_90 hl (k := 1) rfl (f_inc _) (by decide) rfl (fun ls hl => ?_)
        refine lv_goto (tgt := 44) hx hb dL_isLeast_93 (by decide) ?_
        have hl9 := lv_sub (l' := [(7, .int (nI (i1 + 1))), (6, .int ((lFl k g (k.2.1 j) i1) + 0)), (5, .int (nI (k.2.1 j))), (4, .int (mSFor k g j (nI x))), (3, .int (nI x)), (2, .int (nI a)), (1, .int (nI j)), (0, .ref (al 0))]) hl [0, 1, 2, 3, 4, 5, 6, 7] rfl
        rw [show ([(7, .int (nI (i1 + 1))), (6, .int ((lFl k g (k.2.1 j) i1) + 0)), (5, .int (nI (k.2.1 j))), (4, .int (mSFor k g j (nI x))), (3, .int (nI x)), (2, .int (nI a)), (1, .int (nI j)), (0, .ref (al 0))] : List (Nat × Value)) = [(7, .int (nI (i1 + 1))), (6, .int (lFl k g (k.2.1 j) (i1 + 1))), (5, .int (nI (k.2.1 j))), (4, .int (mSFor k g j (nI x))), (3, .int (nI x)), (2, .int (nI a)), (1, .int (nI j)), (0, .ref (al 0))] from (by unfold lFl; rw [it_s, if_neg hc_10'])] at hl9
        exact ihi1 hlti1 _ _ _ hP hS hl9
      · skip
        have hp1 := gF_pp (gX_1 hX) hlti1
        have hp2 := gF_pp (gX_1 hX) hj
        have hc_10' : k.2.1 i1 = k.2.1 j := (nI_eq (by omega) (by omega)).mp hc_10
        refine lv_aload_n hx hb dL_isLeast_68 rfl (lv_at hl 7 rfl) ?_
        refine lv_iload hx hb dL_isLeast_69 (lv_at hl 0 rfl) ?_
        refine lv_iconst (v := 2) hx hb dL_isLeast_71 (by decide) ?_
        refine g_aft_i (g_runV (As := [.int (nI i1), .int 2]) (rest := [.int (lFl k g (k.2.1 j) i1)]) hx hb hml hown hts (kX7_ofJet_2 l G al k h c g t i1 hX hlti1) (fcwV 2 hts q560 q534 q535 q148 q477 rfl rfl (by decide +kernel) ⟨(Nat.le_of_ble_eq_true rfl), (Nat.le_of_ble_eq_true rfl)⟩) hE hb0 hP hS (m_recvA hE hP 0 rfl (gX_0 hX) rfl) rfl hl.1 rfl (Nat.le_of_ble_eq_true rfl) dL_isLeast_72 ⟨(Nat.le_of_ble_eq_true rfl), (Nat.le_of_ble_eq_true rfl)⟩) hS (fun u H locs hP hS => ?_)
        have hP : mP G al (w2 G al k c g t) H := hP
        refine f_topi (v := k.2.2 (3 + i1) 2) rfl ?_
        refine f_topi (v := k.2.2 (3 + i1) 2) rfl ?_
        refine lv_aload_n hx hb dL_isLeast_75 rfl (lv_at hl 7 rfl) ?_
        refine lv_iload hx hb dL_isLeast_76 (lv_at hl 0 rfl) ?_
        refine lv_iconst (v := 4) hx hb dL_isLeast_78 (by decide) ?_
        refine g_aft_i (g_runV (As := [.int (nI i1), .int 4]) (rest := [.int (k.2.2 (3 + i1) 2), .int (lFl k g (k.2.1 j) i1)]) hx hb hml hown hts (kX7_ofJet_4 l G al k h c g t i1 hX hlti1) (fcwV 2 hts q560 q534 q535 q148 q477 rfl rfl (by decide +kernel) ⟨(Nat.le_of_ble_eq_true rfl), (Nat.le_of_ble_eq_true rfl)⟩) hE hb0 hP hS (m_recvA hE hP 0 rfl (gX_0 hX) rfl) rfl hl.1 rfl (Nat.le_of_ble_eq_true rfl) dL_isLeast_79 ⟨(Nat.le_of_ble_eq_true rfl), (Nat.le_of_ble_eq_true rfl)⟩) hS (fun u H locs hP hS => ?_)
        have hP : mP G al (w2 G al k c g t) H := hP
        refine f_topi (v := g (3 + i1) 4) rfl ?_
        refine f_topi (v := g (3 + i1) 4) rfl ?_
        refine lv_imul hx hb dL_isLeast_82 ?_
        refine lv_goto (tgt := 87) hx hb dL_isLeast_83 (by decide) ?_
        refine lv_iadd hx hb dL_isLeast_87 ?_
        refine lv_istore (lv' := [(6, .int ((lFl k g (k.2.1 j) i1) + ((k.2.2 (3 + i1) 2) * (g (3 + i1) 4)))), (7, .int (nI i1)), (5, .int (nI (k.2.1 j))), (4, .int (mSFor k g j (nI x))), (3, .int (nI x)), (2, .int (nI a)), (1, .int (nI j)), (0, .ref (al 0))]) hx hb dL_isLeast_88 hl (by decide) rfl (fun ls hl => ?_)
        refine lv_iinc (v := nI (i1 + 1)) (lv' := [(7, .int (nI (i1 + 1))), (6, .int ((lFl k g (k.2.1 j) i1) + ((k.2.2 (3 + i1) 2) * (g (3 + i1) 4)))), (5, .int (nI (k.2.1 j))), (4, .int (mSFor k g j (nI x))), (3, .int (nI x)), (2, .int (nI a)), (1, .int (nI j)), (0, .ref (al 0))]) hx hb dL_isLeast_90 hl (k := 1) rfl (f_inc _) (by decide) rfl (fun ls hl => ?_)
        refine lv_goto (tgt := 44) hx hb dL_isLeast_93 (by decide) ?_
        have hl9 := lv_sub (l' := [(7, .int (nI (i1 + 1))), (6, .int ((lFl k g (k.2.1 j) i1) + ((k.2.2 (3 + i1) 2) * (g (3 + i1) 4)))), (5, .int (nI (k.2.1 j))), (4, .int (mSFor k g j (nI x))), (3, .int (nI x)), (2, .int (nI a)), (1, .int (nI j)), (0, .ref (al 0))]) hl [0, 1, 2, 3, 4, 5, 6, 7] rfl
        rw [show ([(7, .int (nI (i1 + 1))), (6, .int ((lFl k g (k.2.1 j) i1) + ((k.2.2 (3 + i1) 2) * (g (3 + i1) 4)))), (5, .int (nI (k.2.1 j))), (4, .int (mSFor k g j (nI x))), (3, .int (nI x)), (2, .int (nI a)), (1, .int (nI j)), (0, .ref (al 0))] : List (Nat × Value)) = [(7, .int (nI (i1 + 1))), (6, .int (lFl k g (k.2.1 j) (i1 + 1))), (5, .int (nI (k.2.1 j))), (4, .int (mSFor k g j (nI x))), (3, .int (nI x)), (2, .int (nI a)), (1, .int (nI j)), (0, .ref (al 0))] from (by unfold lFl; rw [it_s, if_pos hc_10'])] at hl9
        exact ihi1 hlti1 _ _ _ hP hS hl9
  · skip
    refine lv_aload_n hx hb dL_isLeast_21 rfl (lv_at hl 2 rfl) ?_
    refine lv_iload_n hx hb dL_isLeast_22 rfl (lv_at hl 3 rfl) ?_
    refine lv_iload_n hx hb dL_isLeast_23 rfl (lv_at hl 5 rfl) ?_
    refine g_aft_i (g_runV (As := [.int (nI j), .int (nI x)]) (rest := []) hx hb hml hown hts (kX7_leadFor l G al k h c g t j (nI x) hX hj (nI_nlt (b := 1) (by omega) (by omega)) (nI_le (b := 60) (by omega) (by omega))) (fcwV 2 hts q561 q540 q541 q148 q523 rfl rfl (by decide +kernel) ⟨(Nat.le_of_ble_eq_true rfl), (Nat.le_of_ble_eq_true rfl)⟩) hE hb0 hP hS (m_recvA hE hP 0 rfl (gX_0 hX) rfl) rfl hl.1 rfl (Nat.le_of_ble_eq_true rfl) dL_isLeast_24 ⟨(Nat.le_of_ble_eq_true rfl), (Nat.le_of_ble_eq_true rfl)⟩) hS (fun u_11 H locs hP hS => ?_)
    have hP : mP G al (w2 G al k c g u_11) H := hP
    refine f_topi (v := mLFor k h g j (nI x)) rfl ?_
    refine lv_iconst (v := (-1)) hx hb dL_isLeast_27 (by decide) ?_
    refine lv_icmp_ne (tgt := 35) hx hb dL_isLeast_28 (by decide) (fun h => absurd (hLI.1 hc_1) h) (fun _ => ?_)
    refine lv_iconst (v := 1) hx hb dL_isLeast_31 (by decide) ?_
    refine lv_goto (tgt := 36) hx hb dL_isLeast_32 (by decide) ?_
    refine W.widen (k := 0) (n := 0) (Nat.le_of_ble_eq_true rfl) (Nat.le_of_ble_eq_true rfl) ?_
    exact W.zret (v := 1) hx hb hr (by decide) (fun tz htz hW => ⟨⟨1, u_11, rfl, rfl, g_end htz hP⟩, hS.F htz⟩) hS.2.2 dL_isLeast_36
