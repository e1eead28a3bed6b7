/-! THE LAW on a script of at most one call -/
theorem f_xs {xs : Nat → Int32} {k : Nat} {i v : Int32} (h : i.toNatClampNeg = k ∧ xs k = v) : xs i.toNatClampNeg = v := by rw [h.1]; exact h.2
theorem f_cmp0 (x : Int64) : lg_cmp x x = 0 := by
  unfold lg_cmp
  rw [if_neg (show ¬ x > x from Int64.lt_irrefl), if_pos rfl]
theorem f_and31 (x : Int32) : ∃ k : Nat, k < 32 ∧ x &&& 31 = nI k := by
  refine ⟨(x.toBitVec &&& 31#32).toNat, ?_, ?_⟩
  · rw [BitVec.toNat_and]
    exact Nat.lt_of_le_of_lt Nat.and_le_right (by decide)
  · apply Int32.toBitVec_inj.1
    show x.toBitVec &&& 31#32 = BitVec.ofNat 32 (x.toBitVec &&& 31#32).toNat
    simp
def fLC (p : Program) (l : Launch) (s : State) (m : MethodId) (meth : Method) (c : Code) (b : Nat) (xs : Nat → Int32) (D : va_G) (cI cO cL : ClassId) (E M : Nat) (A : Nat → Prop) : Prop :=
  p.tables.exec = Jvm.exec ∧ c.code = cL_law ∧ meth.sig.returnType = ret ∧ c.maxLocals = 9 ∧ s.vm.findClass RL = some m.cls ∧ (∀ w ∈ fA, w.before #[Value.ref b] s = true) ∧ va_X b 5 xs s s.heap ∧ b < s.heap.size ∧ meth.locks = false ∧ l.stackTraces = false ∧ fE D cI cO cL E M A s s.heap ∧ (∀ q, s.heap.size ≤ q → A q) ∧ (∀ q, A q → s.heap.size ≤ q)
set_option maxHeartbeats 4000000 in
set_option maxRecDepth 100000 in
theorem law_end {p : Program} {l : Launch} {e : Env} {s : State} {m : MethodId} {below : List Frame} {meth : Method} {c : Code} {b : Nat} {xs : Nat → Int32} {D : va_G} {cI cO cL : ClassId} {E M : Nat} {A : Nat → Prop} (C : fLC p l s m meth c b xs D cI cO cL E M A) {H : Heap} {locs : List Loc} {ls : Array Slot} (hS : va_S A s.heap H locs) (hl : lv_has ls 9 [(4, .int 0), (0, .ref b)]) : W p l e room_1 s m #[Value.ref b] below meth c H locs 3000 30000 (lw_Z below #[Value.ref b] s) (F0 m 1758 ls []) := by
  obtain ⟨hx, hb, hr, hml, hown, hts, hX, hbl, hlocks, hl9, hE, hA, hA2⟩ := id C
  have hbA : ¬ A b := fun h => absurd (hA2 b h) (Nat.not_le.mpr hbl)
  refine lv_iinc (v := 5) (lv' := [(4, .int 5), (0, .ref b)]) hx hb dL_law_1758 hl (k := 0) rfl (by decide) (by decide) rfl (fun ls hl => ?_)
  refine lv_goto (tgt := 23) hx hb dL_law_1761 (by decide) ?_
  refine lv_iload hx hb dL_law_23 (lv_at hl 0 rfl) ?_
  refine lv_aload_n hx hb dL_law_25 rfl (lv_at hl 1 rfl) ?_
  refine va_slen hx hb hX hbl hbA hS dL_law_26 ?_
  refine f_topi (v := 5) (by decide) ?_
  refine lv_iconst (v := 5) hx hb dL_law_27 (by decide) ?_
  refine f_isub (v := 0) hx hb dL_law_28 (by decide) ?_
  refine lv_icmp_gt (tgt := 1764) hx hb dL_law_29 (by decide) (fun _ => ?_) (fun h => absurd (by decide) h)
  refine lv_iconst (v := 1) hx hb dL_law_1764 (by decide) ?_
  refine W.widen (k := room_1.cells) (n := room_1.slots) (Nat.le_of_ble_eq_true rfl) (Nat.le_of_ble_eq_true rfl) ?_
  refine va_forget (fun q h => hA2 _ (hS.2.2 q h)) ?_
  exact lw_ret (d0 := s.drawn) (Drawn.sameBut.refl s.drawn lw_cs) hx hb hr hlocks dL_law_1765
set_option maxHeartbeats 4000000 in
set_option maxRecDepth 100000 in
theorem law_pump_ok {p : Program} {l : Launch} {e : Env} {s : State} {m : MethodId} {below : List Frame} {meth : Method} {c : Code} {b : Nat} {xs : Nat → Int32} {D : va_G} {cI cO cL : ClassId} {E M : Nat} {A : Nat → Prop} (C : fLC p l s m meth c b xs D cI cO cL E M A) {h f sh sp sj sc sa i1 i2 i3 tsh tsp tsj tsc tsa ti1 ti2 ti3 o zb zbp zbj zbc zba fg out : Nat} (p0 : Int32) (hs1 : (1 : Int32).toNatClampNeg = 1 ∧ xs 1 = p0) (h1 : ¬ p0 < 10) (h2 : ¬ 60 < p0) {H : Heap} {locs : List Loc} {ls : Array Slot} (hP : va_P D vwCl [(h, .inr (8, [.ref f, .ref sh, .ref tsh])), (f, .inr (0, [.int 0, .ref E, .int 0])), (sh, .inr (6, [.ref sp, .ref sj, .ref sc, .ref sa, .int 0, .int 3000, .int 0, .int 0, .int 0, .int 0, .int 0, .int 0, .int 0, .int 0, .int 0])), (sp, .inr (0, [.int 0, .ref E, .int 0])), (sj, .inr (0, [.int 0, .ref E, .int 0])), (sc, .inr (0, [.int 0, .ref E, .int 0])), (sa, .inr (1, [.ref i1, .ref i2, .ref i3])), (i1, .inl (cI, 9, .inl (fun _ => 0))), (i2, .inl (cI, 9, .inl (fun _ => 0))), (i3, .inl (cI, 9, .inl (fun _ => 0))), (tsh, .inr (6, [.ref tsp, .ref tsj, .ref tsc, .ref tsa, .int 0, .int 3000, .int 0, .int 0, .int 0, .int 0, .int 0, .int 0, .int 0, .int 0, .int 0])), (tsp, .inr (0, [.int 0, .ref E, .int 0])), (tsj, .inr (0, [.int 0, .ref E, .int 0])), (tsc, .inr (0, [.int 0, .ref E, .int 0])), (tsa, .inr (1, [.ref ti1, .ref ti2, .ref ti3])), (ti1, .inl (cI, 9, .inl (fun _ => 0))), (ti2, .inl (cI, 9, .inl (fun _ => 0))), (ti3, .inl (cI, 9, .inl (fun _ => 0))), (o, .inr (13, [.int 0, .ref zb, .ref fg])), (zb, .inr (9, [.int 0, .int 3000, .int 0, .int 0, .int 0, .ref zbp, .ref zbj, .ref zbc, .ref zba, .int 0, .int 0, .int 0, .int 0, .int 0, .int 0])), (zbp, .inr (0, [.int 0, .ref E, .int 0])), (zbj, .inr (0, [.int 0, .ref E, .int 0])), (zbc, .inr (0, [.int 0, .ref E, .int 0])), (zba, .inr (0, [.int 0, .ref E, .int 0])), (fg, .inr (0, [.int 0, .ref E, .int 0])), (out, .inl (cL, 1, .inr (.inl (fun _ => 0))))] H) (hD : va_D A [(h, .inr (8, [.ref f, .ref sh, .ref tsh])), (f, .inr (0, [.int 0, .ref E, .int 0])), (sh, .inr (6, [.ref sp, .ref sj, .ref sc, .ref sa, .int 0, .int 3000, .int 0, .int 0, .int 0, .int 0, .int 0, .int 0, .int 0, .int 0, .int 0])), (sp, .inr (0, [.int 0, .ref E, .int 0])), (sj, .inr (0, [.int 0, .ref E, .int 0])), (sc, .inr (0, [.int 0, .ref E, .int 0])), (sa, .inr (1, [.ref i1, .ref i2, .ref i3])), (i1, .inl (cI, 9, .inl (fun _ => 0))), (i2, .inl (cI, 9, .inl (fun _ => 0))), (i3, .inl (cI, 9, .inl (fun _ => 0))), (tsh, .inr (6, [.ref tsp, .ref tsj, .ref tsc, .ref tsa, .int 0, .int 3000, .int 0, .int 0, .int 0, .int 0, .int 0, .int 0, .int 0, .int 0, .int 0])), (tsp, .inr (0, [.int 0, .ref E, .int 0])), (tsj, .inr (0, [.int 0, .ref E, .int 0])), (tsc, .inr (0, [.int 0, .ref E, .int 0])), (tsa, .inr (1, [.ref ti1, .ref ti2, .ref ti3])), (ti1, .inl (cI, 9, .inl (fun _ => 0))), (ti2, .inl (cI, 9, .inl (fun _ => 0))), (ti3, .inl (cI, 9, .inl (fun _ => 0))), (o, .inr (13, [.int 0, .ref zb, .ref fg])), (zb, .inr (9, [.int 0, .int 3000, .int 0, .int 0, .int 0, .ref zbp, .ref zbj, .ref zbc, .ref zba, .int 0, .int 0, .int 0, .int 0, .int 0, .int 0])), (zbp, .inr (0, [.int 0, .ref E, .int 0])), (zbj, .inr (0, [.int 0, .ref E, .int 0])), (zbc, .inr (0, [.int 0, .ref E, .int 0])), (zba, .inr (0, [.int 0, .ref E, .int 0])), (fg, .inr (0, [.int 0, .ref E, .int 0])), (out, .inl (cL, 1, .inr (.inl (fun _ => 0))))]) (hS : va_S A s.heap H locs) (hl : lv_has ls 9 [(4, .int 0), (3, .ref out), (2, .ref o), (1, .ref h), (0, .ref b)]) : W p l e room_1 s m #[Value.ref b] below meth c H locs 26 148 (lw_Z below #[Value.ref b] s) (F0 m 152 ls []) := by
  obtain ⟨hx, hb, hr, hml, hown, hts, hX, hbl, hlocks, hl9, hE, hA, hA2⟩ := id C
  have hbA : ¬ A b := fun h => absurd (hA2 b h) (Nat.not_le.mpr hbl)
  refine lv_aload_n hx hb dL_law_152 rfl (lv_at hl 3 rfl) ?_
  refine lv_aload_n hx hb dL_law_153 rfl (lv_at hl 4 rfl) ?_
  refine lv_iload hx hb dL_law_154 (lv_at hl 0 rfl) ?_
  refine lv_iconst (v := 1) hx hb dL_law_156 (by decide) ?_
  refine f_iadd (v := 1) hx hb dL_law_157 (by decide) ?_
  refine va_sld hx hb hX hbl hbA hS (by unfold vp_in; decide) dL_law_158 ?_
  refine f_topi (v := p0) (f_xs hs1) ?_
  refine lv_aload_n hx hb dL_law_159 rfl (lv_at hl 1 rfl) ?_
  refine f_aft_i (wr := [(o, .inr (13, [.int 0, .ref zb, .ref fg])), (zb, .inr (9, [.int 0, .int 3000, .int 0, .int 0, .int 0, .ref zbp, .ref zbj, .ref zbc, .ref zba, .int 0, .int 0, .int 0, .int 0, .int 0, .int 0])), (zbp, .inr (0, [.int 0, .ref E, .int 0])), (zbj, .inr (0, [.int 0, .ref E, .int 0])), (zbc, .inr (0, [.int 0, .ref E, .int 0])), (zba, .inr (0, [.int 0, .ref E, .int 0])), (fg, .inr (0, [.int 0, .ref E, .int 0]))]) (f_runSW (As := [.ref h, .int p0, .ref out]) (rest := []) hx hb hml hown hts (kL_pump_ok l D cI cO cL E M h f sh sp sj sc sa i1 i2 i3 tsh tsp tsj tsc tsa ti1 ti2 ti3 out p0 h1 h2 H.size) (fcwSW 3 hts q78 q79 q80 q81 rfl rfl (by decide +kernel) ⟨(Nat.le_of_ble_eq_true rfl), (Nat.le_of_ble_eq_true rfl)⟩) hE hP hD hS hA [0, 1, 2, 3, 4, 5, 6, 7, 8, 9, 10, 11, 12, 13, 14, 15, 16, 17, 25] rfl (by decide) rfl hl.1 rfl (Nat.le_of_ble_eq_true rfl) dL_law_160 ⟨(Nat.le_of_ble_eq_true rfl), (Nat.le_of_ble_eq_true rfl)⟩) hP hD hS hA [0, 1, 2, 3, 4, 5, 6, 7, 8, 9, 10, 11, 12, 13, 14, 15, 16, 17, 25] [18, 19, 20, 21, 22, 23, 24] rfl rfl (by decide) (by decide) (fun r u H locs hr0 hP hD hS => ?_)
  subst hr0
  have hP : va_P D vwCl [(o, .inr (13, [.int 0, .ref zb, .ref fg])), (zb, .inr (9, [.int 0, .int 3000, .int 0, .int 0, .int 0, .ref zbp, .ref zbj, .ref zbc, .ref zba, .int 0, .int 0, .int 0, .int 0, .int 0, .int 0])), (zbp, .inr (0, [.int 0, .ref E, .int 0])), (zbj, .inr (0, [.int 0, .ref E, .int 0])), (zbc, .inr (0, [.int 0, .ref E, .int 0])), (zba, .inr (0, [.int 0, .ref E, .int 0])), (fg, .inr (0, [.int 0, .ref E, .int 0])), (out, .inl (cL, 1, .inr (.inl (fun _ => 0))))] H := hP
  have hD : va_D A [(o, .inr (13, [.int 0, .ref zb, .ref fg])), (zb, .inr (9, [.int 0, .int 3000, .int 0, .int 0, .int 0, .ref zbp, .ref zbj, .ref zbc, .ref zba, .int 0, .int 0, .int 0, .int 0, .int 0, .int 0])), (zbp, .inr (0, [.int 0, .ref E, .int 0])), (zbj, .inr (0, [.int 0, .ref E, .int 0])), (zbc, .inr (0, [.int 0, .ref E, .int 0])), (zba, .inr (0, [.int 0, .ref E, .int 0])), (fg, .inr (0, [.int 0, .ref E, .int 0])), (out, .inl (cL, 1, .inr (.inl (fun _ => 0))))] := hD
  refine lv_istore (lv' := [(5, .int 0), (4, .int 0), (3, .ref out), (2, .ref o), (1, .ref h), (0, .ref b)]) hx hb dL_law_163 hl (by decide) rfl (fun ls hl => ?_)
  refine lv_aload_n hx hb dL_law_165 rfl (lv_at hl 3 rfl) ?_
  refine lv_aload_n hx hb dL_law_166 rfl (lv_at hl 5 rfl) ?_
  refine lv_iload hx hb dL_law_167 (lv_at hl 1 rfl) ?_
  refine lv_iconst (v := 1) hx hb dL_law_169 (by decide) ?_
  refine f_iadd (v := 1) hx hb dL_law_170 (by decide) ?_
  refine va_sld hx hb hX hbl hbA hS (by unfold vp_in; decide) dL_law_171 ?_
  refine f_topi (v := p0) (f_xs hs1) ?_
  refine f_aft_i (wr := [(out, .inl (cL, 1, .inr (.inl (fun _ => 0))))]) (f_runV (As := [.int p0]) (rest := []) hx hb hml hown hts (kX12_pump_ok l D cI cO cL E M o zb zbp zbj zbc zba fg p0 h1 h2 H.size) (fcwV 1 hts q159 q160 q161 q5 q162 rfl rfl (by decide +kernel) ⟨(Nat.le_of_ble_eq_true rfl), (Nat.le_of_ble_eq_true rfl)⟩) hE hP hD hS hA [0, 1, 2, 3, 4, 5, 6] rfl (by decide) (q0 := 0) (ci := 13) rfl rfl rfl rfl hl.1 rfl (Nat.le_of_ble_eq_true rfl) dL_law_172 ⟨(Nat.le_of_ble_eq_true rfl), (Nat.le_of_ble_eq_true rfl)⟩) hP hD hS hA [0, 1, 2, 3, 4, 5, 6] [7] rfl rfl (by decide) (by decide) (fun r u H locs hr0 hP hD hS => ?_)
  subst hr0
  have hP : va_P D vwCl [(out, .inl (cL, 1, .inr (.inl (fun _ => 0)))), (o, .inr (13, [.int 0, .ref zb, .ref fg]))] H := hP
  have hD : va_D A [(out, .inl (cL, 1, .inr (.inl (fun _ => 0)))), (o, .inr (13, [.int 0, .ref zb, .ref fg]))] := hD
  refine lv_istore (lv' := [(6, .int 0), (5, .int 0), (4, .int 0), (3, .ref out), (2, .ref o), (1, .ref h), (0, .ref b)]) hx hb dL_law_175 hl (by decide) rfl (fun ls hl => ?_)
  refine lv_aload_n hx hb dL_law_177 rfl (lv_at hl 4 rfl) ?_
  refine f_aft_i (wr := [(out, .inl (cL, 1, .inr (.inl (fun _ => 0))))]) (f_runV (As := []) (rest := []) hx hb hml hown hts (kX12_thrown l D cI cO cL E M o zb fg 0 H.size) (fcwV 0 hts q186 q187 q188 q5 q189 rfl rfl (by decide +kernel) ⟨(Nat.le_of_ble_eq_true rfl), (Nat.le_of_ble_eq_true rfl)⟩) hE hP hD hS hA [1] rfl (by decide) (q0 := 1) (ci := 13) rfl rfl rfl rfl hl.1 rfl (Nat.le_of_ble_eq_true rfl) dL_law_178 ⟨(Nat.le_of_ble_eq_true rfl), (Nat.le_of_ble_eq_true rfl)⟩) hP hD hS hA [1] [0] rfl rfl (by decide) (by decide) (fun r u H locs hr0 hP hD hS => ?_)
  subst hr0
  have hP : va_P D vwCl [(out, .inl (cL, 1, .inr (.inl (fun _ => 0)))), (o, .inr (13, [.int 0, .ref zb, .ref fg]))] H := hP
  have hD : va_D A [(out, .inl (cL, 1, .inr (.inl (fun _ => 0)))), (o, .inr (13, [.int 0, .ref zb, .ref fg]))] := hD
  refine lv_iload hx hb dL_law_181 (lv_at hl 1 rfl) ?_
  refine lv_icmp_eq (tgt := 188) hx hb dL_law_183 (by decide) (fun _ => ?_) (fun h => absurd (by decide) h)
  refine lv_iload hx hb dL_law_188 (lv_at hl 1 rfl) ?_
  refine lv_if_ne (tgt := 205) hx hb dL_law_190 (by decide) (fun h => absurd h (by decide)) (fun _ => ?_)
  refine lv_aload_n hx hb dL_law_193 rfl (lv_at hl 3 rfl) ?_
  refine lv_iconst (v := 0) hx hb dL_law_194 (by decide) ?_
  refine va_lald hx hb hE.1.1 hP 0 2 rfl rfl (by unfold vp_in; decide) dL_law_195 ?_
  refine f_topl (v := 0) (rfl) ?_
  refine lv_iload hx hb dL_law_196 (lv_at hl 0 rfl) ?_
  refine lv_i2l (v := 0) hx hb dL_law_198 (by decide) ?_
  refine W.lcmp hx hb dL_law_199 ?_
  refine f_topi (v := 0) (f_cmp0 _) ?_
  refine lv_if_eq (tgt := 205) hx hb dL_law_200 (by decide) (fun _ => ?_) (fun h => absurd (by decide) h)
  refine lv_goto (tgt := 1758) hx hb dL_law_205 (by decide) ?_
  refine W.widen (k := 3000) (n := 30000) (Nat.le_of_ble_eq_true rfl) (Nat.le_of_ble_eq_true rfl) ?_
  exact law_end C hS (lv_sub hl [2, 6] rfl)
set_option maxHeartbeats 4000000 in
set_option maxRecDepth 100000 in
theorem law_pump_a {p : Program} {l : Launch} {e : Env} {s : State} {m : MethodId} {below : List Frame} {meth : Method} {c : Code} {b : Nat} {xs : Nat → Int32} {D : va_G} {cI cO cL : ClassId} {E M : Nat} {A : Nat → Prop} (C : fLC p l s m meth c b xs D cI cO cL E M A) {h f sh sp sj sc sa i1 i2 i3 tsh tsp tsj tsc tsa ti1 ti2 ti3 o zb zbp zbj zbc zba fg out : Nat} (p0 : Int32) (hs1 : (1 : Int32).toNatClampNeg = 1 ∧ xs 1 = p0) (h1 : p0 < 10) {H : Heap} {locs : List Loc} {ls : Array Slot} (hP : va_P D vwCl [(h, .inr (8, [.ref f, .ref sh, .ref tsh])), (f, .inr (0, [.int 0, .ref E, .int 0])), (sh, .inr (6, [.ref sp, .ref sj, .ref sc, .ref sa, .int 0, .int 3000, .int 0, .int 0, .int 0, .int 0, .int 0, .int 0, .int 0, .int 0, .int 0])), (sp, .inr (0, [.int 0, .ref E, .int 0])), (sj, .inr (0, [.int 0, .ref E, .int 0])), (sc, .inr (0, [.int 0, .ref E, .int 0])), (sa, .inr (1, [.ref i1, .ref i2, .ref i3])), (i1, .inl (cI, 9, .inl (fun _ => 0))), (i2, .inl (cI, 9, .inl (fun _ => 0))), (i3, .inl (cI, 9, .inl (fun _ => 0))), (tsh, .inr (6, [.ref tsp, .ref tsj, .ref tsc, .ref tsa, .int 0, .int 3000, .int 0, .int 0, .int 0, .int 0, .int 0, .int 0, .int 0, .int 0, .int 0])), (tsp, .inr (0, [.int 0, .ref E, .int 0])), (tsj, .inr (0, [.int 0, .ref E, .int 0])), (tsc, .inr (0, [.int 0, .ref E, .int 0])), (tsa, .inr (1, [.ref ti1, .ref ti2, .ref ti3])), (ti1, .inl (cI, 9, .inl (fun _ => 0))), (ti2, .inl (cI, 9, .inl (fun _ => 0))), (ti3, .inl (cI, 9, .inl (fun _ => 0))), (o, .inr (13, [.int 0, .ref zb, .ref fg])), (zb, .inr (9, [.int 0, .int 3000, .int 0, .int 0, .int 0, .ref zbp, .ref zbj, .ref zbc, .ref zba, .int 0, .int 0, .int 0, .int 0, .int 0, .int 0])), (zbp, .inr (0, [.int 0, .ref E, .int 0])), (zbj, .inr (0, [.int 0, .ref E, .int 0])), (zbc, .inr (0, [.int 0, .ref E, .int 0])), (zba, .inr (0, [.int 0, .ref E, .int 0])), (fg, .inr (0, [.int 0, .ref E, .int 0])), (out, .inl (cL, 1, .inr (.inl (fun _ => 0))))] H) (hD : va_D A [(h, .inr (8, [.ref f, .ref sh, .ref tsh])), (f, .inr (0, [.int 0, .ref E, .int 0])), (sh, .inr (6, [.ref sp, .ref sj, .ref sc, .ref sa, .int 0, .int 3000, .int 0, .int 0, .int 0, .int 0, .int 0, .int 0, .int 0, .int 0, .int 0])), (sp, .inr (0, [.int 0, .ref E, .int 0])), (sj, .inr (0, [.int 0, .ref E, .int 0])), (sc, .inr (0, [.int 0, .ref E, .int 0])), (sa, .inr (1, [.ref i1, .ref i2, .ref i3])), (i1, .inl (cI, 9, .inl (fun _ => 0))), (i2, .inl (cI, 9, .inl (fun _ => 0))), (i3, .inl (cI, 9, .inl (fun _ => 0))), (tsh, .inr (6, [.ref tsp, .ref tsj, .ref tsc, .ref tsa, .int 0, .int 3000, .int 0, .int 0, .int 0, .int 0, .int 0, .int 0, .int 0, .int 0, .int 0])), (tsp, .inr (0, [.int 0, .ref E, .int 0])), (tsj, .inr (0, [.int 0, .ref E, .int 0])), (tsc, .inr (0, [.int 0, .ref E, .int 0])), (tsa, .inr (1, [.ref ti1, .ref ti2, .ref ti3])), (ti1, .inl (cI, 9, .inl (fun _ => 0))), (ti2, .inl (cI, 9, .inl (fun _ => 0))), (ti3, .inl (cI, 9, .inl (fun _ => 0))), (o, .inr (13, [.int 0, .ref zb, .ref fg])), (zb, .inr (9, [.int 0, .int 3000, .int 0, .int 0, .int 0, .ref zbp, .ref zbj, .ref zbc, .ref zba, .int 0, .int 0, .int 0, .int 0, .int 0, .int 0])), (zbp, .inr (0, [.int 0, .ref E, .int 0])), (zbj, .inr (0, [.int 0, .ref E, .int 0])), (zbc, .inr (0, [.int 0, .ref E, .int 0])), (zba, .inr (0, [.int 0, .ref E, .int 0])), (fg, .inr (0, [.int 0, .ref E, .int 0])), (out, .inl (cL, 1, .inr (.inl (fun _ => 0))))]) (hS : va_S A s.heap H locs) (hl : lv_has ls 9 [(4, .int 0), (3, .ref out), (2, .ref o), (1, .ref h), (0, .ref b)]) : W p l e room_1 s m #[Value.ref b] below meth c H locs 26 148 (lw_Z below #[Value.ref b] s) (F0 m 152 ls []) := by
  obtain ⟨hx, hb, hr, hml, hown, hts, hX, hbl, hlocks, hl9, hE, hA, hA2⟩ := id C
  have hbA : ¬ A b := fun h => absurd (hA2 b h) (Nat.not_le.mpr hbl)
  refine lv_aload_n hx hb dL_law_152 rfl (lv_at hl 3 rfl) ?_
  refine lv_aload_n hx hb dL_law_153 rfl (lv_at hl 4 rfl) ?_
  refine lv_iload hx hb dL_law_154 (lv_at hl 0 rfl) ?_
  refine lv_iconst (v := 1) hx hb dL_law_156 (by decide) ?_
  refine f_iadd (v := 1) hx hb dL_law_157 (by decide) ?_
  refine va_sld hx hb hX hbl hbA hS (by unfold vp_in; decide) dL_law_158 ?_
  refine f_topi (v := p0) (f_xs hs1) ?_
  refine lv_aload_n hx hb dL_law_159 rfl (lv_at hl 1 rfl) ?_
  refine f_aft_i (wr := [(o, .inr (13, [.int 0, .ref zb, .ref fg])), (zb, .inr (9, [.int 0, .int 3000, .int 0, .int 0, .int 0, .ref zbp, .ref zbj, .ref zbc, .ref zba, .int 0, .int 0, .int 0, .int 0, .int 0, .int 0])), (zbp, .inr (0, [.int 0, .ref E, .int 0])), (zbj, .inr (0, [.int 0, .ref E, .int 0])), (zbc, .inr (0, [.int 0, .ref E, .int 0])), (zba, .inr (0, [.int 0, .ref E, .int 0])), (fg, .inr (0, [.int 0, .ref E, .int 0]))]) (f_runSW (As := [.ref h, .int p0, .ref out]) (rest := []) hx hb hml hown hts (kL_pump_a l hl9 D cI cO cL E M h f sh sp sj sc sa i1 i2 i3 tsh tsp tsj tsc tsa ti1 ti2 ti3 out p0 h1 H.size) (fcwSW 3 hts q78 q79 q80 q81 rfl rfl (by decide +kernel) ⟨(Nat.le_of_ble_eq_true rfl), (Nat.le_of_ble_eq_true rfl)⟩) hE hP hD hS hA [0, 1, 2, 3, 4, 5, 6, 7, 8, 9, 10, 11, 12, 13, 14, 15, 16, 17, 25] rfl (by decide) rfl hl.1 rfl (Nat.le_of_ble_eq_true rfl) dL_law_160 ⟨(Nat.le_of_ble_eq_true rfl), (Nat.le_of_ble_eq_true rfl)⟩) hP hD hS hA [0, 1, 2, 3, 4, 5, 6, 7, 8, 9, 10, 11, 12, 13, 14, 15, 16, 17, 25] [18, 19, 20, 21, 22, 23, 24] rfl rfl (by decide) (by decide) (fun r u H locs hr0 hP hD hS => ?_)
  subst hr0
  have hP : va_P D vwCl [(o, .inr (13, [.int 0, .ref zb, .ref fg])), (zb, .inr (9, [.int 0, .int 3000, .int 0, .int 0, .int 0, .ref zbp, .ref zbj, .ref zbc, .ref zba, .int 0, .int 0, .int 0, .int 0, .int 0, .int 0])), (zbp, .inr (0, [.int 0, .ref E, .int 0])), (zbj, .inr (0, [.int 0, .ref E, .int 0])), (zbc, .inr (0, [.int 0, .ref E, .int 0])), (zba, .inr (0, [.int 0, .ref E, .int 0])), (fg, .inr (0, [.int 0, .ref E, .int 0]))] H := hP
  have hD : va_D A [(o, .inr (13, [.int 0, .ref zb, .ref fg])), (zb, .inr (9, [.int 0, .int 3000, .int 0, .int 0, .int 0, .ref zbp, .ref zbj, .ref zbc, .ref zba, .int 0, .int 0, .int 0, .int 0, .int 0, .int 0])), (zbp, .inr (0, [.int 0, .ref E, .int 0])), (zbj, .inr (0, [.int 0, .ref E, .int 0])), (zbc, .inr (0, [.int 0, .ref E, .int 0])), (zba, .inr (0, [.int 0, .ref E, .int 0])), (fg, .inr (0, [.int 0, .ref E, .int 0]))] := hD
  refine lv_istore (lv' := [(5, .int 1), (4, .int 0), (3, .ref out), (2, .ref o), (1, .ref h), (0, .ref b)]) hx hb dL_law_163 hl (by decide) rfl (fun ls hl => ?_)
  refine lv_aload_n hx hb dL_law_165 rfl (lv_at hl 3 rfl) ?_
  refine lv_aload_n hx hb dL_law_166 rfl (lv_at hl 5 rfl) ?_
  refine lv_iload hx hb dL_law_167 (lv_at hl 1 rfl) ?_
  refine lv_iconst (v := 1) hx hb dL_law_169 (by decide) ?_
  refine f_iadd (v := 1) hx hb dL_law_170 (by decide) ?_
  refine va_sld hx hb hX hbl hbA hS (by unfold vp_in; decide) dL_law_171 ?_
  refine f_topi (v := p0) (f_xs hs1) ?_
  refine f_aft_i (wr := []) (f_runV (As := [.int p0]) (rest := []) hx hb hml hown hts (kX12_pump_a l D cI cO cL E M o zb zbp zbj zbc zba fg p0 h1 H.size) (fcwV 1 hts q159 q160 q161 q5 q162 rfl rfl (by decide +kernel) ⟨(Nat.le_of_ble_eq_true rfl), (Nat.le_of_ble_eq_true rfl)⟩) hE hP hD hS hA [0, 1, 2, 3, 4, 5, 6] rfl (by decide) (q0 := 0) (ci := 13) rfl rfl rfl rfl hl.1 rfl (Nat.le_of_ble_eq_true rfl) dL_law_172 ⟨(Nat.le_of_ble_eq_true rfl), (Nat.le_of_ble_eq_true rfl)⟩) hP hD hS hA [0, 1, 2, 3, 4, 5, 6] [] rfl rfl (by decide) (by decide) (fun r u H locs hr0 hP hD hS => ?_)
  subst hr0
  have hP : va_P D vwCl [(o, .inr (13, [.int 1, .ref zb, .ref fg]))] H := hP
  have hD : va_D A [(o, .inr (13, [.int 1, .ref zb, .ref fg]))] := hD
  refine lv_istore (lv' := [(6, .int 0), (5, .int 1), (4, .int 0), (3, .ref out), (2, .ref o), (1, .ref h), (0, .ref b)]) hx hb dL_law_175 hl (by decide) rfl (fun ls hl => ?_)
  refine lv_aload_n hx hb dL_law_177 rfl (lv_at hl 4 rfl) ?_
  refine f_aft_i (wr := []) (f_runV (As := []) (rest := []) hx hb hml hown hts (kX12_thrown l D cI cO cL E M o zb fg 1 H.size) (fcwV 0 hts q186 q187 q188 q5 q189 rfl rfl (by decide +kernel) ⟨(Nat.le_of_ble_eq_true rfl), (Nat.le_of_ble_eq_true rfl)⟩) hE hP hD hS hA [0] rfl (by decide) (q0 := 0) (ci := 13) rfl rfl rfl rfl hl.1 rfl (Nat.le_of_ble_eq_true rfl) dL_law_178 ⟨(Nat.le_of_ble_eq_true rfl), (Nat.le_of_ble_eq_true rfl)⟩) hP hD hS hA [0] [] rfl rfl (by decide) (by decide) (fun r u H locs hr0 hP hD hS => ?_)
  subst hr0
  have hP : va_P D vwCl [(o, .inr (13, [.int 1, .ref zb, .ref fg]))] H := hP
  have hD : va_D A [(o, .inr (13, [.int 1, .ref zb, .ref fg]))] := hD
  refine lv_iload hx hb dL_law_181 (lv_at hl 1 rfl) ?_
  refine lv_icmp_eq (tgt := 188) hx hb dL_law_183 (by decide) (fun _ => ?_) (fun h => absurd (by decide) h)
  refine lv_iload hx hb dL_law_188 (lv_at hl 1 rfl) ?_
  refine lv_if_ne (tgt := 205) hx hb dL_law_190 (by decide) (fun _ => ?_) (fun h => absurd h (by decide))
  refine lv_goto (tgt := 1758) hx hb dL_law_205 (by decide) ?_
  refine W.widen (k := 3000) (n := 30000) (Nat.le_of_ble_eq_true rfl) (Nat.le_of_ble_eq_true rfl) ?_
  exact law_end C hS (lv_sub hl [2, 6] rfl)
set_option maxHeartbeats 4000000 in
set_option maxRecDepth 100000 in
theorem law_pump_b {p : Program} {l : Launch} {e : Env} {s : State} {m : MethodId} {below : List Frame} {meth : Method} {c : Code} {b : Nat} {xs : Nat → Int32} {D : va_G} {cI cO cL : ClassId} {E M : Nat} {A : Nat → Prop} (C : fLC p l s m meth c b xs D cI cO cL E M A) {h f sh sp sj sc sa i1 i2 i3 tsh tsp tsj tsc tsa ti1 ti2 ti3 o zb zbp zbj zbc zba fg out : Nat} (p0 : Int32) (hs1 : (1 : Int32).toNatClampNeg = 1 ∧ xs 1 = p0) (h1 : ¬ p0 < 10) (h2 : 60 < p0) {H : Heap} {locs : List Loc} {ls : Array Slot} (hP : va_P D vwCl [(h, .inr (8, [.ref f, .ref sh, .ref tsh])), (f, .inr (0, [.int 0, .ref E, .int 0])), (sh, .inr (6, [.ref sp, .ref sj, .ref sc, .ref sa, .int 0, .int 3000, .int 0, .int 0, .int 0, .int 0, .int 0, .int 0, .int 0, .int 0, .int 0])), (sp, .inr (0, [.int 0, .ref E, .int 0])), (sj, .inr (0, [.int 0, .ref E, .int 0])), (sc, .inr (0, [.int 0, .ref E, .int 0])), (sa, .inr (1, [.ref i1, .ref i2, .ref i3])), (i1, .inl (cI, 9, .inl (fun _ => 0))), (i2, .inl (cI, 9, .inl (fun _ => 0))), (i3, .inl (cI, 9, .inl (fun _ => 0))), (tsh, .inr (6, [.ref tsp, .ref tsj, .ref tsc, .ref tsa, .int 0, .int 3000, .int 0, .int 0, .int 0, .int 0, .int 0, .int 0, .int 0, .int 0, .int 0])), (tsp, .inr (0, [.int 0, .ref E, .int 0])), (tsj, .inr (0, [.int 0, .ref E, .int 0])), (tsc, .inr (0, [.int 0, .ref E, .int 0])), (tsa, .inr (1, [.ref ti1, .ref ti2, .ref ti3])), (ti1, .inl (cI, 9, .inl (fun _ => 0))), (ti2, .inl (cI, 9, .inl (fun _ => 0))), (ti3, .inl (cI, 9, .inl (fun _ => 0))), (o, .inr (13, [.int 0, .ref zb, .ref fg])), (zb, .inr (9, [.int 0, .int 3000, .int 0, .int 0, .int 0, .ref zbp, .ref zbj, .ref zbc, .ref zba, .int 0, .int 0, .int 0, .int 0, .int 0, .int 0])), (zbp, .inr (0, [.int 0, .ref E, .int 0])), (zbj, .inr (0, [.int 0, .ref E, .int 0])), (zbc, .inr (0, [.int 0, .ref E, .int 0])), (zba, .inr (0, [.int 0, .ref E, .int 0])), (fg, .inr (0, [.int 0, .ref E, .int 0])), (out, .inl (cL, 1, .inr (.inl (fun _ => 0))))] H) (hD : va_D A [(h, .inr (8, [.ref f, .ref sh, .ref tsh])), (f, .inr (0, [.int 0, .ref E, .int 0])), (sh, .inr (6, [.ref sp, .ref sj, .ref sc, .ref sa, .int 0, .int 3000, .int 0, .int 0, .int 0, .int 0, .int 0, .int 0, .int 0, .int 0, .int 0])), (sp, .inr (0, [.int 0, .ref E, .int 0])), (sj, .inr (0, [.int 0, .ref E, .int 0])), (sc, .inr (0, [.int 0, .ref E, .int 0])), (sa, .inr (1, [.ref i1, .ref i2, .ref i3])), (i1, .inl (cI, 9, .inl (fun _ => 0))), (i2, .inl (cI, 9, .inl (fun _ => 0))), (i3, .inl (cI, 9, .inl (fun _ => 0))), (tsh, .inr (6, [.ref tsp, .ref tsj, .ref tsc, .ref tsa, .int 0, .int 3000, .int 0, .int 0, .int 0, .int 0, .int 0, .int 0, .int 0, .int 0, .int 0])), (tsp, .inr (0, [.int 0, .ref E, .int 0])), (tsj, .inr (0, [.int 0, .ref E, .int 0])), (tsc, .inr (0, [.int 0, .ref E, .int 0])), (tsa, .inr (1, [.ref ti1, .ref ti2, .ref ti3])), (ti1, .inl (cI, 9, .inl (fun _ => 0))), (ti2, .inl (cI, 9, .inl (fun _ => 0))), (ti3, .inl (cI, 9, .inl (fun _ => 0))), (o, .inr (13, [.int 0, .ref zb, .ref fg])), (zb, .inr (9, [.int 0, .int 3000, .int 0, .int 0, .int 0, .ref zbp, .ref zbj, .ref zbc, .ref zba, .int 0, .int 0, .int 0, .int 0, .int 0, .int 0])), (zbp, .inr (0, [.int 0, .ref E, .int 0])), (zbj, .inr (0, [.int 0, .ref E, .int 0])), (zbc, .inr (0, [.int 0, .ref E, .int 0])), (zba, .inr (0, [.int 0, .ref E, .int 0])), (fg, .inr (0, [.int 0, .ref E, .int 0])), (out, .inl (cL, 1, .inr (.inl (fun _ => 0))))]) (hS : va_S A s.heap H locs) (hl : lv_has ls 9 [(4, .int 0), (3, .ref out), (2, .ref o), (1, .ref h), (0, .ref b)]) : W p l e room_1 s m #[Value.ref b] below meth c H locs 26 148 (lw_Z below #[Value.ref b] s) (F0 m 152 ls []) := by
  obtain ⟨hx, hb, hr, hml, hown, hts, hX, hbl, hlocks, hl9, hE, hA, hA2⟩ := id C
  have hbA : ¬ A b := fun h => absurd (hA2 b h) (Nat.not_le.mpr hbl)
  refine lv_aload_n hx hb dL_law_152 rfl (lv_at hl 3 rfl) ?_
  refine lv_aload_n hx hb dL_law_153 rfl (lv_at hl 4 rfl) ?_
  refine lv_iload hx hb dL_law_154 (lv_at hl 0 rfl) ?_
  refine lv_iconst (v := 1) hx hb dL_law_156 (by decide) ?_
  refine f_iadd (v := 1) hx hb dL_law_157 (by decide) ?_
  refine va_sld hx hb hX hbl hbA hS (by unfold vp_in; decide) dL_law_158 ?_
  refine f_topi (v := p0) (f_xs hs1) ?_
  refine lv_aload_n hx hb dL_law_159 rfl (lv_at hl 1 rfl) ?_
  refine f_aft_i (wr := [(o, .inr (13, [.int 0, .ref zb, .ref fg])), (zb, .inr (9, [.int 0, .int 3000, .int 0, .int 0, .int 0, .ref zbp, .ref zbj, .ref zbc, .ref zba, .int 0, .int 0, .int 0, .int 0, .int 0, .int 0])), (zbp, .inr (0, [.int 0, .ref E, .int 0])), (zbj, .inr (0, [.int 0, .ref E, .int 0])), (zbc, .inr (0, [.int 0, .ref E, .int 0])), (zba, .inr (0, [.int 0, .ref E, .int 0])), (fg, .inr (0, [.int 0, .ref E, .int 0]))]) (f_runSW (As := [.ref h, .int p0, .ref out]) (rest := []) hx hb hml hown hts (kL_pump_b l hl9 D cI cO cL E M h f sh sp sj sc sa i1 i2 i3 tsh tsp tsj tsc tsa ti1 ti2 ti3 out p0 h1 h2 H.size) (fcwSW 3 hts q78 q79 q80 q81 rfl rfl (by decide +kernel) ⟨(Nat.le_of_ble_eq_true rfl), (Nat.le_of_ble_eq_true rfl)⟩) hE hP hD hS hA [0, 1, 2, 3, 4, 5, 6, 7, 8, 9, 10, 11, 12, 13, 14, 15, 16, 17, 25] rfl (by decide) rfl hl.1 rfl (Nat.le_of_ble_eq_true rfl) dL_law_160 ⟨(Nat.le_of_ble_eq_true rfl), (Nat.le_of_ble_eq_true rfl)⟩) hP hD hS hA [0, 1, 2, 3, 4, 5, 6, 7, 8, 9, 10, 11, 12, 13, 14, 15, 16, 17, 25] [18, 19, 20, 21, 22, 23, 24] rfl rfl (by decide) (by decide) (fun r u H locs hr0 hP hD hS => ?_)
  subst hr0
  have hP : va_P D vwCl [(o, .inr (13, [.int 0, .ref zb, .ref fg])), (zb, .inr (9, [.int 0, .int 3000, .int 0, .int 0, .int 0, .ref zbp, .ref zbj, .ref zbc, .ref zba, .int 0, .int 0, .int 0, .int 0, .int 0, .int 0])), (zbp, .inr (0, [.int 0, .ref E, .int 0])), (zbj, .inr (0, [.int 0, .ref E, .int 0])), (zbc, .inr (0, [.int 0, .ref E, .int 0])), (zba, .inr (0, [.int 0, .ref E, .int 0])), (fg, .inr (0, [.int 0, .ref E, .int 0]))] H := hP
  have hD : va_D A [(o, .inr (13, [.int 0, .ref zb, .ref fg])), (zb, .inr (9, [.int 0, .int 3000, .int 0, .int 0, .int 0, .ref zbp, .ref zbj, .ref zbc, .ref zba, .int 0, .int 0, .int 0, .int 0, .int 0, .int 0])), (zbp, .inr (0, [.int 0, .ref E, .int 0])), (zbj, .inr (0, [.int 0, .ref E, .int 0])), (zbc, .inr (0, [.int 0, .ref E, .int 0])), (zba, .inr (0, [.int 0, .ref E, .int 0])), (fg, .inr (0, [.int 0, .ref E, .int 0]))] := hD
  refine lv_istore (lv' := [(5, .int 1), (4, .int 0), (3, .ref out), (2, .ref o), (1, .ref h), (0, .ref b)]) hx hb dL_law_163 hl (by decide) rfl (fun ls hl => ?_)
  refine lv_aload_n hx hb dL_law_165 rfl (lv_at hl 3 rfl) ?_
  refine lv_aload_n hx hb dL_law_166 rfl (lv_at hl 5 rfl) ?_
  refine lv_iload hx hb dL_law_167 (lv_at hl 1 rfl) ?_
  refine lv_iconst (v := 1) hx hb dL_law_169 (by decide) ?_
  refine f_iadd (v := 1) hx hb dL_law_170 (by decide) ?_
  refine va_sld hx hb hX hbl hbA hS (by unfold vp_in; decide) dL_law_171 ?_
  refine f_topi (v := p0) (f_xs hs1) ?_
  refine f_aft_i (wr := []) (f_runV (As := [.int p0]) (rest := []) hx hb hml hown hts (kX12_pump_b l D cI cO cL E M o zb zbp zbj zbc zba fg p0 h1 h2 H.size) (fcwV 1 hts q159 q160 q161 q5 q162 rfl rfl (by decide +kernel) ⟨(Nat.le_of_ble_eq_true rfl), (Nat.le_of_ble_eq_true rfl)⟩) hE hP hD hS hA [0, 1, 2, 3, 4, 5, 6] rfl (by decide) (q0 := 0) (ci := 13) rfl rfl rfl rfl hl.1 rfl (Nat.le_of_ble_eq_true rfl) dL_law_172 ⟨(Nat.le_of_ble_eq_true rfl), (Nat.le_of_ble_eq_true rfl)⟩) hP hD hS hA [0, 1, 2, 3, 4, 5, 6] [] rfl rfl (by decide) (by decide) (fun r u H locs hr0 hP hD hS => ?_)
  subst hr0
  have hP : va_P D vwCl [(o, .inr (13, [.int 1, .ref zb, .ref fg]))] H := hP
  have hD : va_D A [(o, .inr (13, [.int 1, .ref zb, .ref fg]))] := hD
  refine lv_istore (lv' := [(6, .int 0), (5, .int 1), (4, .int 0), (3, .ref out), (2, .ref o), (1, .ref h), (0, .ref b)]) hx hb dL_law_175 hl (by decide) rfl (fun ls hl => ?_)
  refine lv_aload_n hx hb dL_law_177 rfl (lv_at hl 4 rfl) ?_
  refine f_aft_i (wr := []) (f_runV (As := []) (rest := []) hx hb hml hown hts (kX12_thrown l D cI cO cL E M o zb fg 1 H.size) (fcwV 0 hts q186 q187 q188 q5 q189 rfl rfl (by decide +kernel) ⟨(Nat.le_of_ble_eq_true rfl), (Nat.le_of_ble_eq_true rfl)⟩) hE hP hD hS hA [0] rfl (by decide) (q0 := 0) (ci := 13) rfl rfl rfl rfl hl.1 rfl (Nat.le_of_ble_eq_true rfl) dL_law_178 ⟨(Nat.le_of_ble_eq_true rfl), (Nat.le_of_ble_eq_true rfl)⟩) hP hD hS hA [0] [] rfl rfl (by decide) (by decide) (fun r u H locs hr0 hP hD hS => ?_)
  subst hr0
  have hP : va_P D vwCl [(o, .inr (13, [.int 1, .ref zb, .ref fg]))] H := hP
  have hD : va_D A [(o, .inr (13, [.int 1, .ref zb, .ref fg]))] := hD
  refine lv_iload hx hb dL_law_181 (lv_at hl 1 rfl) ?_
  refine lv_icmp_eq (tgt := 188) hx hb dL_law_183 (by decide) (fun _ => ?_) (fun h => absurd (by decide) h)
  refine lv_iload hx hb dL_law_188 (lv_at hl 1 rfl) ?_
  refine lv_if_ne (tgt := 205) hx hb dL_law_190 (by decide) (fun _ => ?_) (fun h => absurd h (by decide))
  refine lv_goto (tgt := 1758) hx hb dL_law_205 (by decide) ?_
  refine W.widen (k := 3000) (n := 30000) (Nat.le_of_ble_eq_true rfl) (Nat.le_of_ble_eq_true rfl) ?_
  exact law_end C hS (lv_sub hl [2, 6] rfl)
set_option maxHeartbeats 4000000 in
set_option maxRecDepth 100000 in
theorem law_jet {p : Program} {l : Launch} {e : Env} {s : State} {m : MethodId} {below : List Frame} {meth : Method} {c : Code} {b : Nat} {xs : Nat → Int32} {D : va_G} {cI cO cL : ClassId} {E M : Nat} {A : Nat → Prop} (C : fLC p l s m meth c b xs D cI cO cL E M A) {h f sh sp sj sc sa i1 i2 i3 tsh tsp tsj tsc tsa ti1 ti2 ti3 o zb zbp zbj zbc zba fg out : Nat} (p0 : Int32) (p1 : Int32) (p2 : Int32) (p3 : Int32) (hs1 : (1 : Int32).toNatClampNeg = 1 ∧ xs 1 = p0) (hs2 : (2 : Int32).toNatClampNeg = 2 ∧ xs 2 = p1) (hs3 : (3 : Int32).toNatClampNeg = 3 ∧ xs 3 = p2) (hs4 : (4 : Int32).toNatClampNeg = 4 ∧ xs 4 = p3)  {H : Heap} {locs : List Loc} {ls : Array Slot} (hP : va_P D vwCl [(h, .inr (8, [.ref f, .ref sh, .ref tsh])), (f, .inr (0, [.int 0, .ref E, .int 0])), (sh, .inr (6, [.ref sp, .ref sj, .ref sc, .ref sa, .int 0, .int 3000, .int 0, .int 0, .int 0, .int 0, .int 0, .int 0, .int 0, .int 0, .int 0])), (sp, .inr (0, [.int 0, .ref E, .int 0])), (sj, .inr (0, [.int 0, .ref E, .int 0])), (sc, .inr (0, [.int 0, .ref E, .int 0])), (sa, .inr (1, [.ref i1, .ref i2, .ref i3])), (i1, .inl (cI, 9, .inl (fun _ => 0))), (i2, .inl (cI, 9, .inl (fun _ => 0))), (i3, .inl (cI, 9, .inl (fun _ => 0))), (tsh, .inr (6, [.ref tsp, .ref tsj, .ref tsc, .ref tsa, .int 0, .int 3000, .int 0, .int 0, .int 0, .int 0, .int 0, .int 0, .int 0, .int 0, .int 0])), (tsp, .inr (0, [.int 0, .ref E, .int 0])), (tsj, .inr (0, [.int 0, .ref E, .int 0])), (tsc, .inr (0, [.int 0, .ref E, .int 0])), (tsa, .inr (1, [.ref ti1, .ref ti2, .ref ti3])), (ti1, .inl (cI, 9, .inl (fun _ => 0))), (ti2, .inl (cI, 9, .inl (fun _ => 0))), (ti3, .inl (cI, 9, .inl (fun _ => 0))), (o, .inr (13, [.int 0, .ref zb, .ref fg])), (zb, .inr (9, [.int 0, .int 3000, .int 0, .int 0, .int 0, .ref zbp, .ref zbj, .ref zbc, .ref zba, .int 0, .int 0, .int 0, .int 0, .int 0, .int 0])), (zbp, .inr (0, [.int 0, .ref E, .int 0])), (zbj, .inr (0, [.int 0, .ref E, .int 0])), (zbc, .inr (0, [.int 0, .ref E, .int 0])), (zba, .inr (0, [.int 0, .ref E, .int 0])), (fg, .inr (0, [.int 0, .ref E, .int 0])), (out, .inl (cL, 1, .inr (.inl (fun _ => 0))))] H) (hD : va_D A [(h, .inr (8, [.ref f, .ref sh, .ref tsh])), (f, .inr (0, [.int 0, .ref E, .int 0])), (sh, .inr (6, [.ref sp, .ref sj, .ref sc, .ref sa, .int 0, .int 3000, .int 0, .int 0, .int 0, .int 0, .int 0, .int 0, .int 0, .int 0, .int 0])), (sp, .inr (0, [.int 0, .ref E, .int 0])), (sj, .inr (0, [.int 0, .ref E, .int 0])), (sc, .inr (0, [.int 0, .ref E, .int 0])), (sa, .inr (1, [.ref i1, .ref i2, .ref i3])), (i1, .inl (cI, 9, .inl (fun _ => 0))), (i2, .inl (cI, 9, .inl (fun _ => 0))), (i3, .inl (cI, 9, .inl (fun _ => 0))), (tsh, .inr (6, [.ref tsp, .ref tsj, .ref tsc, .ref tsa, .int 0, .int 3000, .int 0, .int 0, .int 0, .int 0, .int 0, .int 0, .int 0, .int 0, .int 0])), (tsp, .inr (0, [.int 0, .ref E, .int 0])), (tsj, .inr (0, [.int 0, .ref E, .int 0])), (tsc, .inr (0, [.int 0, .ref E, .int 0])), (tsa, .inr (1, [.ref ti1, .ref ti2, .ref ti3])), (ti1, .inl (cI, 9, .inl (fun _ => 0))), (ti2, .inl (cI, 9, .inl (fun _ => 0))), (ti3, .inl (cI, 9, .inl (fun _ => 0))), (o, .inr (13, [.int 0, .ref zb, .ref fg])), (zb, .inr (9, [.int 0, .int 3000, .int 0, .int 0, .int 0, .ref zbp, .ref zbj, .ref zbc, .ref zba, .int 0, .int 0, .int 0, .int 0, .int 0, .int 0])), (zbp, .inr (0, [.int 0, .ref E, .int 0])), (zbj, .inr (0, [.int 0, .ref E, .int 0])), (zbc, .inr (0, [.int 0, .ref E, .int 0])), (zba, .inr (0, [.int 0, .ref E, .int 0])), (fg, .inr (0, [.int 0, .ref E, .int 0])), (out, .inl (cL, 1, .inr (.inl (fun _ => 0))))]) (hS : va_S A s.heap H locs) (hl : lv_has ls 9 [(4, .int 0), (3, .ref out), (2, .ref o), (1, .ref h), (0, .ref b)]) : W p l e room_1 s m #[Value.ref b] below meth c H locs 26 148 (lw_Z below #[Value.ref b] s) (F0 m 208 ls []) := by
  obtain ⟨hx, hb, hr, hml, hown, hts, hX, hbl, hlocks, hl9, hE, hA, hA2⟩ := id C
  have hbA : ¬ A b := fun h => absurd (hA2 b h) (Nat.not_le.mpr hbl)
  refine lv_aload_n hx hb dL_law_208 rfl (lv_at hl 3 rfl) ?_
  refine lv_aload_n hx hb dL_law_209 rfl (lv_at hl 4 rfl) ?_
  refine lv_iload hx hb dL_law_210 (lv_at hl 0 rfl) ?_
  refine lv_iconst (v := 1) hx hb dL_law_212 (by decide) ?_
  refine f_iadd (v := 1) hx hb dL_law_213 (by decide) ?_
  refine va_sld hx hb hX hbl hbA hS (by unfold vp_in; decide) dL_law_214 ?_
  refine f_topi (v := p0) (f_xs hs1) ?_
  refine lv_aload_n hx hb dL_law_215 rfl (lv_at hl 4 rfl) ?_
  refine lv_iload hx hb dL_law_216 (lv_at hl 0 rfl) ?_
  refine lv_iconst (v := 2) hx hb dL_law_218 (by decide) ?_
  refine f_iadd (v := 2) hx hb dL_law_219 (by decide) ?_
  refine va_sld hx hb hX hbl hbA hS (by unfold vp_in; decide) dL_law_220 ?_
  refine f_topi (v := p1) (f_xs hs2) ?_
  refine lv_aload_n hx hb dL_law_221 rfl (lv_at hl 4 rfl) ?_
  refine lv_iload hx hb dL_law_222 (lv_at hl 0 rfl) ?_
  refine lv_iconst (v := 3) hx hb dL_law_224 (by decide) ?_
  refine f_iadd (v := 3) hx hb dL_law_225 (by decide) ?_
  refine va_sld hx hb hX hbl hbA hS (by unfold vp_in; decide) dL_law_226 ?_
  refine f_topi (v := p2) (f_xs hs3) ?_
  refine lv_aload_n hx hb dL_law_227 rfl (lv_at hl 4 rfl) ?_
  refine lv_iload hx hb dL_law_228 (lv_at hl 0 rfl) ?_
  refine lv_iconst (v := 4) hx hb dL_law_230 (by decide) ?_
  refine f_iadd (v := 4) hx hb dL_law_231 (by decide) ?_
  refine va_sld hx hb hX hbl hbA hS (by unfold vp_in; decide) dL_law_232 ?_
  refine f_topi (v := p3) (f_xs hs4) ?_
  refine lv_aload_n hx hb dL_law_233 rfl (lv_at hl 1 rfl) ?_
  refine f_aft_i (wr := [(o, .inr (13, [.int 0, .ref zb, .ref fg])), (zb, .inr (9, [.int 0, .int 3000, .int 0, .int 0, .int 0, .ref zbp, .ref zbj, .ref zbc, .ref zba, .int 0, .int 0, .int 0, .int 0, .int 0, .int 0])), (zbp, .inr (0, [.int 0, .ref E, .int 0])), (zbj, .inr (0, [.int 0, .ref E, .int 0])), (zbc, .inr (0, [.int 0, .ref E, .int 0])), (zba, .inr (0, [.int 0, .ref E, .int 0])), (fg, .inr (0, [.int 0, .ref E, .int 0]))]) (f_runSW (As := [.ref h, .int p0, .int p1, .int p2, .int p3, .ref out]) (rest := []) hx hb hml hown hts (kL_jet l hl9 D cI cO cL E M h f sh sp sj sc sa i1 i2 i3 tsh tsp tsj tsc tsa ti1 ti2 ti3 out p0 p1 p2 p3 H.size) (fcwSW 6 hts q190 q191 q80 q192 rfl rfl (by decide +kernel) ⟨(Nat.le_of_ble_eq_true rfl), (Nat.le_of_ble_eq_true rfl)⟩) hE hP hD hS hA [0, 1, 2, 3, 4, 5, 6, 7, 8, 9, 10, 11, 12, 13, 14, 15, 16, 17, 25] rfl (by decide) rfl hl.1 rfl (Nat.le_of_ble_eq_true rfl) dL_law_234 ⟨(Nat.le_of_ble_eq_true rfl), (Nat.le_of_ble_eq_true rfl)⟩) hP hD hS hA [0, 1, 2, 3, 4, 5, 6, 7, 8, 9, 10, 11, 12, 13, 14, 15, 16, 17, 25] [18, 19, 20, 21, 22, 23, 24] rfl rfl (by decide) (by decide) (fun r u H locs hr0 hP hD hS => ?_)
  subst hr0
  have hP : va_P D vwCl [(o, .inr (13, [.int 0, .ref zb, .ref fg])), (zb, .inr (9, [.int 0, .int 3000, .int 0, .int 0, .int 0, .ref zbp, .ref zbj, .ref zbc, .ref zba, .int 0, .int 0, .int 0, .int 0, .int 0, .int 0])), (zbp, .inr (0, [.int 0, .ref E, .int 0])), (zbj, .inr (0, [.int 0, .ref E, .int 0])), (zbc, .inr (0, [.int 0, .ref E, .int 0])), (zba, .inr (0, [.int 0, .ref E, .int 0])), (fg, .inr (0, [.int 0, .ref E, .int 0]))] H := hP
  have hD : va_D A [(o, .inr (13, [.int 0, .ref zb, .ref fg])), (zb, .inr (9, [.int 0, .int 3000, .int 0, .int 0, .int 0, .ref zbp, .ref zbj, .ref zbc, .ref zba, .int 0, .int 0, .int 0, .int 0, .int 0, .int 0])), (zbp, .inr (0, [.int 0, .ref E, .int 0])), (zbj, .inr (0, [.int 0, .ref E, .int 0])), (zbc, .inr (0, [.int 0, .ref E, .int 0])), (zba, .inr (0, [.int 0, .ref E, .int 0])), (fg, .inr (0, [.int 0, .ref E, .int 0]))] := hD
  refine lv_istore (lv' := [(5, .int 1), (4, .int 0), (3, .ref out), (2, .ref o), (1, .ref h), (0, .ref b)]) hx hb dL_law_237 hl (by decide) rfl (fun ls hl => ?_)
  refine lv_aload_n hx hb dL_law_239 rfl (lv_at hl 3 rfl) ?_
  refine lv_aload_n hx hb dL_law_240 rfl (lv_at hl 5 rfl) ?_
  refine lv_iload hx hb dL_law_241 (lv_at hl 1 rfl) ?_
  refine lv_iconst (v := 1) hx hb dL_law_243 (by decide) ?_
  refine f_iadd (v := 1) hx hb dL_law_244 (by decide) ?_
  refine va_sld hx hb hX hbl hbA hS (by unfold vp_in; decide) dL_law_245 ?_
  refine f_topi (v := p0) (f_xs hs1) ?_
  refine lv_aload_n hx hb dL_law_246 rfl (lv_at hl 5 rfl) ?_
  refine lv_iload hx hb dL_law_247 (lv_at hl 1 rfl) ?_
  refine lv_iconst (v := 2) hx hb dL_law_249 (by decide) ?_
  refine f_iadd (v := 2) hx hb dL_law_250 (by decide) ?_
  refine va_sld hx hb hX hbl hbA hS (by unfold vp_in; decide) dL_law_251 ?_
  refine f_topi (v := p1) (f_xs hs2) ?_
  refine lv_aload_n hx hb dL_law_252 rfl (lv_at hl 5 rfl) ?_
  refine lv_iload hx hb dL_law_253 (lv_at hl 1 rfl) ?_
  refine lv_iconst (v := 3) hx hb dL_law_255 (by decide) ?_
  refine f_iadd (v := 3) hx hb dL_law_256 (by decide) ?_
  refine va_sld hx hb hX hbl hbA hS (by unfold vp_in; decide) dL_law_257 ?_
  refine f_topi (v := p2) (f_xs hs3) ?_
  refine lv_aload_n hx hb dL_law_258 rfl (lv_at hl 5 rfl) ?_
  refine lv_iload hx hb dL_law_259 (lv_at hl 1 rfl) ?_
  refine lv_iconst (v := 4) hx hb dL_law_261 (by decide) ?_
  refine f_iadd (v := 4) hx hb dL_law_262 (by decide) ?_
  refine va_sld hx hb hX hbl hbA hS (by unfold vp_in; decide) dL_law_263 ?_
  refine f_topi (v := p3) (f_xs hs4) ?_
  refine f_aft_i (wr := []) (f_runV (As := [.int p0, .int p1, .int p2, .int p3]) (rest := []) hx hb hml hown hts (kX12_jet l D cI cO cL E M o zb zbp zbj zbc zba fg p0 p1 p2 p3 H.size) (fcwV 4 hts q241 q242 q243 q5 q244 rfl rfl (by decide +kernel) ⟨(Nat.le_of_ble_eq_true rfl), (Nat.le_of_ble_eq_true rfl)⟩) hE hP hD hS hA [0, 1, 2, 3, 4, 5, 6] rfl (by decide) (q0 := 0) (ci := 13) rfl rfl rfl rfl hl.1 rfl (Nat.le_of_ble_eq_true rfl) dL_law_264 ⟨(Nat.le_of_ble_eq_true rfl), (Nat.le_of_ble_eq_true rfl)⟩) hP hD hS hA [0, 1, 2, 3, 4, 5, 6] [] rfl rfl (by decide) (by decide) (fun r u H locs hr0 hP hD hS => ?_)
  subst hr0
  have hP : va_P D vwCl [(o, .inr (13, [.int 1, .ref zb, .ref fg]))] H := hP
  have hD : va_D A [(o, .inr (13, [.int 1, .ref zb, .ref fg]))] := hD
  refine lv_istore (lv' := [(6, .int 0), (5, .int 1), (4, .int 0), (3, .ref out), (2, .ref o), (1, .ref h), (0, .ref b)]) hx hb dL_law_267 hl (by decide) rfl (fun ls hl => ?_)
  refine lv_aload_n hx hb dL_law_269 rfl (lv_at hl 4 rfl) ?_
  refine f_aft_i (wr := []) (f_runV (As := []) (rest := []) hx hb hml hown hts (kX12_thrown l D cI cO cL E M o zb fg 1 H.size) (fcwV 0 hts q186 q187 q188 q5 q189 rfl rfl (by decide +kernel) ⟨(Nat.le_of_ble_eq_true rfl), (Nat.le_of_ble_eq_true rfl)⟩) hE hP hD hS hA [0] rfl (by decide) (q0 := 0) (ci := 13) rfl rfl rfl rfl hl.1 rfl (Nat.le_of_ble_eq_true rfl) dL_law_270 ⟨(Nat.le_of_ble_eq_true rfl), (Nat.le_of_ble_eq_true rfl)⟩) hP hD hS hA [0] [] rfl rfl (by decide) (by decide) (fun r u H locs hr0 hP hD hS => ?_)
  subst hr0
  have hP : va_P D vwCl [(o, .inr (13, [.int 1, .ref zb, .ref fg]))] H := hP
  have hD : va_D A [(o, .inr (13, [.int 1, .ref zb, .ref fg]))] := hD
  refine lv_iload hx hb dL_law_273 (lv_at hl 1 rfl) ?_
  refine lv_icmp_eq (tgt := 280) hx hb dL_law_275 (by decide) (fun _ => ?_) (fun h => absurd (by decide) h)
  refine lv_iload hx hb dL_law_280 (lv_at hl 1 rfl) ?_
  refine lv_if_ne (tgt := 297) hx hb dL_law_282 (by decide) (fun _ => ?_) (fun h => absurd h (by decide))
  refine lv_goto (tgt := 1758) hx hb dL_law_297 (by decide) ?_
  refine W.widen (k := 3000) (n := 30000) (Nat.le_of_ble_eq_true rfl) (Nat.le_of_ble_eq_true rfl) ?_
  exact law_end C hS (lv_sub hl [2, 6] rfl)
set_option maxHeartbeats 4000000 in
set_option maxRecDepth 100000 in
theorem law_setting {p : Program} {l : Launch} {e : Env} {s : State} {m : MethodId} {below : List Frame} {meth : Method} {c : Code} {b : Nat} {xs : Nat → Int32} {D : va_G} {cI cO cL : ClassId} {E M : Nat} {A : Nat → Prop} (C : fLC p l s m meth c b xs D cI cO cL E M A) {h f sh sp sj sc sa i1 i2 i3 tsh tsp tsj tsc tsa ti1 ti2 ti3 o zb zbp zbj zbc zba fg out : Nat} (p0 : Int32) (p1 : Int32) (hs1 : (1 : Int32).toNatClampNeg = 1 ∧ xs 1 = p0) (hs2 : (2 : Int32).toNatClampNeg = 2 ∧ xs 2 = p1)  {H : Heap} {locs : List Loc} {ls : Array Slot} (hP : va_P D vwCl [(h, .inr (8, [.ref f, .ref sh, .ref tsh])), (f, .inr (0, [.int 0, .ref E, .int 0])), (sh, .inr (6, [.ref sp, .ref sj, .ref sc, .ref sa, .int 0, .int 3000, .int 0, .int 0, .int 0, .int 0, .int 0, .int 0, .int 0, .int 0, .int 0])), (sp, .inr (0, [.int 0, .ref E, .int 0])), (sj, .inr (0, [.int 0, .ref E, .int 0])), (sc, .inr (0, [.int 0, .ref E, .int 0])), (sa, .inr (1, [.ref i1, .ref i2, .ref i3])), (i1, .inl (cI, 9, .inl (fun _ => 0))), (i2, .inl (cI, 9, .inl (fun _ => 0))), (i3, .inl (cI, 9, .inl (fun _ => 0))), (tsh, .inr (6, [.ref tsp, .ref tsj, .ref tsc, .ref tsa, .int 0, .int 3000, .int 0, .int 0, .int 0, .int 0, .int 0, .int 0, .int 0, .int 0, .int 0])), (tsp, .inr (0, [.int 0, .ref E, .int 0])), (tsj, .inr (0, [.int 0, .ref E, .int 0])), (tsc, .inr (0, [.int 0, .ref E, .int 0])), (tsa, .inr (1, [.ref ti1, .ref ti2, .ref ti3])), (ti1, .inl (cI, 9, .inl (fun _ => 0))), (ti2, .inl (cI, 9, .inl (fun _ => 0))), (ti3, .inl (cI, 9, .inl (fun _ => 0))), (o, .inr (13, [.int 0, .ref zb, .ref fg])), (zb, .inr (9, [.int 0, .int 3000, .int 0, .int 0, .int 0, .ref zbp, .ref zbj, .ref zbc, .ref zba, .int 0, .int 0, .int 0, .int 0, .int 0, .int 0])), (zbp, .inr (0, [.int 0, .ref E, .int 0])), (zbj, .inr (0, [.int 0, .ref E, .int 0])), (zbc, .inr (0, [.int 0, .ref E, .int 0])), (zba, .inr (0, [.int 0, .ref E, .int 0])), (fg, .inr (0, [.int 0, .ref E, .int 0])), (out, .inl (cL, 1, .inr (.inl (fun _ => 0))))] H) (hD : va_D A [(h, .inr (8, [.ref f, .ref sh, .ref tsh])), (f, .inr (0, [.int 0, .ref E, .int 0])), (sh, .inr (6, [.ref sp, .ref sj, .ref sc, .ref sa, .int 0, .int 3000, .int 0, .int 0, .int 0, .int 0, .int 0, .int 0, .int 0, .int 0, .int 0])), (sp, .inr (0, [.int 0, .ref E, .int 0])), (sj, .inr (0, [.int 0, .ref E, .int 0])), (sc, .inr (0, [.int 0, .ref E, .int 0])), (sa, .inr (1, [.ref i1, .ref i2, .ref i3])), (i1, .inl (cI, 9, .inl (fun _ => 0))), (i2, .inl (cI, 9, .inl (fun _ => 0))), (i3, .inl (cI, 9, .inl (fun _ => 0))), (tsh, .inr (6, [.ref tsp, .ref tsj, .ref tsc, .ref tsa, .int 0, .int 3000, .int 0, .int 0, .int 0, .int 0, .int 0, .int 0, .int 0, .int 0, .int 0])), (tsp, .inr (0, [.int 0, .ref E, .int 0])), (tsj, .inr (0, [.int 0, .ref E, .int 0])), (tsc, .inr (0, [.int 0, .ref E, .int 0])), (tsa, .inr (1, [.ref ti1, .ref ti2, .ref ti3])), (ti1, .inl (cI, 9, .inl (fun _ => 0))), (ti2, .inl (cI, 9, .inl (fun _ => 0))), (ti3, .inl (cI, 9, .inl (fun _ => 0))), (o, .inr (13, [.int 0, .ref zb, .ref fg])), (zb, .inr (9, [.int 0, .int 3000, .int 0, .int 0, .int 0, .ref zbp, .ref zbj, .ref zbc, .ref zba, .int 0, .int 0, .int 0, .int 0, .int 0, .int 0])), (zbp, .inr (0, [.int 0, .ref E, .int 0])), (zbj, .inr (0, [.int 0, .ref E, .int 0])), (zbc, .inr (0, [.int 0, .ref E, .int 0])), (zba, .inr (0, [.int 0, .ref E, .int 0])), (fg, .inr (0, [.int 0, .ref E, .int 0])), (out, .inl (cL, 1, .inr (.inl (fun _ => 0))))]) (hS : va_S A s.heap H locs) (hl : lv_has ls 9 [(4, .int 0), (3, .ref out), (2, .ref o), (1, .ref h), (0, .ref b)]) : W p l e room_1 s m #[Value.ref b] below meth c H locs 26 148 (lw_Z below #[Value.ref b] s) (F0 m 572 ls []) := by
  obtain ⟨hx, hb, hr, hml, hown, hts, hX, hbl, hlocks, hl9, hE, hA, hA2⟩ := id C
  have hbA : ¬ A b := fun h => absurd (hA2 b h) (Nat.not_le.mpr hbl)
  refine lv_aload_n hx hb dL_law_572 rfl (lv_at hl 3 rfl) ?_
  refine lv_aload_n hx hb dL_law_573 rfl (lv_at hl 4 rfl) ?_
  refine lv_iload hx hb dL_law_574 (lv_at hl 0 rfl) ?_
  refine lv_iconst (v := 1) hx hb dL_law_576 (by decide) ?_
  refine f_iadd (v := 1) hx hb dL_law_577 (by decide) ?_
  refine va_sld hx hb hX hbl hbA hS (by unfold vp_in; decide) dL_law_578 ?_
  refine f_topi (v := p0) (f_xs hs1) ?_
  refine lv_aload_n hx hb dL_law_579 rfl (lv_at hl 4 rfl) ?_
  refine lv_iload hx hb dL_law_580 (lv_at hl 0 rfl) ?_
  refine lv_iconst (v := 2) hx hb dL_law_582 (by decide) ?_
  refine f_iadd (v := 2) hx hb dL_law_583 (by decide) ?_
  refine va_sld hx hb hX hbl hbA hS (by unfold vp_in; decide) dL_law_584 ?_
  refine f_topi (v := p1) (f_xs hs2) ?_
  refine lv_aload_n hx hb dL_law_585 rfl (lv_at hl 1 rfl) ?_
  refine f_aft_i (wr := [(o, .inr (13, [.int 0, .ref zb, .ref fg])), (zb, .inr (9, [.int 0, .int 3000, .int 0, .int 0, .int 0, .ref zbp, .ref zbj, .ref zbc, .ref zba, .int 0, .int 0, .int 0, .int 0, .int 0, .int 0])), (zbp, .inr (0, [.int 0, .ref E, .int 0])), (zbj, .inr (0, [.int 0, .ref E, .int 0])), (zbc, .inr (0, [.int 0, .ref E, .int 0])), (zba, .inr (0, [.int 0, .ref E, .int 0])), (fg, .inr (0, [.int 0, .ref E, .int 0]))]) (f_runSW (As := [.ref h, .int p0, .int p1, .ref out]) (rest := []) hx hb hml hown hts (kL_setting l hl9 D cI cO cL E M h f sh sp sj sc sa i1 i2 i3 tsh tsp tsj tsc tsa ti1 ti2 ti3 out p0 p1 H.size) (fcwSW 4 hts q357 q358 q80 q359 rfl rfl (by decide +kernel) ⟨(Nat.le_of_ble_eq_true rfl), (Nat.le_of_ble_eq_true rfl)⟩) hE hP hD hS hA [0, 1, 2, 3, 4, 5, 6, 7, 8, 9, 10, 11, 12, 13, 14, 15, 16, 17, 25] rfl (by decide) rfl hl.1 rfl (Nat.le_of_ble_eq_true rfl) dL_law_586 ⟨(Nat.le_of_ble_eq_true rfl), (Nat.le_of_ble_eq_true rfl)⟩) hP hD hS hA [0, 1, 2, 3, 4, 5, 6, 7, 8, 9, 10, 11, 12, 13, 14, 15, 16, 17, 25] [18, 19, 20, 21, 22, 23, 24] rfl rfl (by decide) (by decide) (fun r u H locs hr0 hP hD hS => ?_)
  subst hr0
  have hP : va_P D vwCl [(o, .inr (13, [.int 0, .ref zb, .ref fg])), (zb, .inr (9, [.int 0, .int 3000, .int 0, .int 0, .int 0, .ref zbp, .ref zbj, .ref zbc, .ref zba, .int 0, .int 0, .int 0, .int 0, .int 0, .int 0])), (zbp, .inr (0, [.int 0, .ref E, .int 0])), (zbj, .inr (0, [.int 0, .ref E, .int 0])), (zbc, .inr (0, [.int 0, .ref E, .int 0])), (zba, .inr (0, [.int 0, .ref E, .int 0])), (fg, .inr (0, [.int 0, .ref E, .int 0]))] H := hP
  have hD : va_D A [(o, .inr (13, [.int 0, .ref zb, .ref fg])), (zb, .inr (9, [.int 0, .int 3000, .int 0, .int 0, .int 0, .ref zbp, .ref zbj, .ref zbc, .ref zba, .int 0, .int 0, .int 0, .int 0, .int 0, .int 0])), (zbp, .inr (0, [.int 0, .ref E, .int 0])), (zbj, .inr (0, [.int 0, .ref E, .int 0])), (zbc, .inr (0, [.int 0, .ref E, .int 0])), (zba, .inr (0, [.int 0, .ref E, .int 0])), (fg, .inr (0, [.int 0, .ref E, .int 0]))] := hD
  refine lv_istore (lv' := [(5, .int 1), (4, .int 0), (3, .ref out), (2, .ref o), (1, .ref h), (0, .ref b)]) hx hb dL_law_589 hl (by decide) rfl (fun ls hl => ?_)
  refine lv_aload_n hx hb dL_law_591 rfl (lv_at hl 3 rfl) ?_
  refine lv_aload_n hx hb dL_law_592 rfl (lv_at hl 5 rfl) ?_
  refine lv_iload hx hb dL_law_593 (lv_at hl 1 rfl) ?_
  refine lv_iconst (v := 1) hx hb dL_law_595 (by decide) ?_
  refine f_iadd (v := 1) hx hb dL_law_596 (by decide) ?_
  refine va_sld hx hb hX hbl hbA hS (by unfold vp_in; decide) dL_law_597 ?_
  refine f_topi (v := p0) (f_xs hs1) ?_
  refine lv_aload_n hx hb dL_law_598 rfl (lv_at hl 5 rfl) ?_
  refine lv_iload hx hb dL_law_599 (lv_at hl 1 rfl) ?_
  refine lv_iconst (v := 2) hx hb dL_law_601 (by decide) ?_
  refine f_iadd (v := 2) hx hb dL_law_602 (by decide) ?_
  refine va_sld hx hb hX hbl hbA hS (by unfold vp_in; decide) dL_law_603 ?_
  refine f_topi (v := p1) (f_xs hs2) ?_
  refine f_aft_i (wr := []) (f_runV (As := [.int p0, .int p1]) (rest := []) hx hb hml hown hts (kX12_setting l D cI cO cL E M o zb zbp zbj zbc zba fg p0 p1 H.size) (fcwV 2 hts q372 q373 q374 q5 q375 rfl rfl (by decide +kernel) ⟨(Nat.le_of_ble_eq_true rfl), (Nat.le_of_ble_eq_true rfl)⟩) hE hP hD hS hA [0, 1, 2, 3, 4, 5, 6] rfl (by decide) (q0 := 0) (ci := 13) rfl rfl rfl rfl hl.1 rfl (Nat.le_of_ble_eq_true rfl) dL_law_604 ⟨(Nat.le_of_ble_eq_true rfl), (Nat.le_of_ble_eq_true rfl)⟩) hP hD hS hA [0, 1, 2, 3, 4, 5, 6] [] rfl rfl (by decide) (by decide) (fun r u H locs hr0 hP hD hS => ?_)
  subst hr0
  have hP : va_P D vwCl [(o, .inr (13, [.int 1, .ref zb, .ref fg]))] H := hP
  have hD : va_D A [(o, .inr (13, [.int 1, .ref zb, .ref fg]))] := hD
  refine lv_istore (lv' := [(6, .int 0), (5, .int 1), (4, .int 0), (3, .ref out), (2, .ref o), (1, .ref h), (0, .ref b)]) hx hb dL_law_607 hl (by decide) rfl (fun ls hl => ?_)
  refine lv_aload_n hx hb dL_law_609 rfl (lv_at hl 4 rfl) ?_
  refine f_aft_i (wr := []) (f_runV (As := []) (rest := []) hx hb hml hown hts (kX12_thrown l D cI cO cL E M o zb fg 1 H.size) (fcwV 0 hts q186 q187 q188 q5 q189 rfl rfl (by decide +kernel) ⟨(Nat.le_of_ble_eq_true rfl), (Nat.le_of_ble_eq_true rfl)⟩) hE hP hD hS hA [0] rfl (by decide) (q0 := 0) (ci := 13) rfl rfl rfl rfl hl.1 rfl (Nat.le_of_ble_eq_true rfl) dL_law_610 ⟨(Nat.le_of_ble_eq_true rfl), (Nat.le_of_ble_eq_true rfl)⟩) hP hD hS hA [0] [] rfl rfl (by decide) (by decide) (fun r u H locs hr0 hP hD hS => ?_)
  subst hr0
  have hP : va_P D vwCl [(o, .inr (13, [.int 1, .ref zb, .ref fg]))] H := hP
  have hD : va_D A [(o, .inr (13, [.int 1, .ref zb, .ref fg]))] := hD
  refine lv_iload hx hb dL_law_613 (lv_at hl 1 rfl) ?_
  refine lv_icmp_eq (tgt := 620) hx hb dL_law_615 (by decide) (fun _ => ?_) (fun h => absurd (by decide) h)
  refine lv_iload hx hb dL_law_620 (lv_at hl 1 rfl) ?_
  refine lv_if_ne (tgt := 637) hx hb dL_law_622 (by decide) (fun _ => ?_) (fun h => absurd h (by decide))
  refine lv_goto (tgt := 1758) hx hb dL_law_637 (by decide) ?_
  refine W.widen (k := 3000) (n := 30000) (Nat.le_of_ble_eq_true rfl) (Nat.le_of_ble_eq_true rfl) ?_
  exact law_end C hS (lv_sub hl [2, 6] rfl)
set_option maxHeartbeats 4000000 in
set_option maxRecDepth 100000 in
theorem law_reset {p : Program} {l : Launch} {e : Env} {s : State} {m : MethodId} {below : List Frame} {meth : Method} {c : Code} {b : Nat} {xs : Nat → Int32} {D : va_G} {cI cO cL : ClassId} {E M : Nat} {A : Nat → Prop} (C : fLC p l s m meth c b xs D cI cO cL E M A) {h f sh sp sj sc sa i1 i2 i3 tsh tsp tsj tsc tsa ti1 ti2 ti3 o zb zbp zbj zbc zba fg out : Nat} (p0 : Int32) (hs1 : (1 : Int32).toNatClampNeg = 1 ∧ xs 1 = p0)  {H : Heap} {locs : List Loc} {ls : Array Slot} (hP : va_P D vwCl [(h, .inr (8, [.ref f, .ref sh, .ref tsh])), (f, .inr (0, [.int 0, .ref E, .int 0])), (sh, .inr (6, [.ref sp, .ref sj, .ref sc, .ref sa, .int 0, .int 3000, .int 0, .int 0, .int 0, .int 0, .int 0, .int 0, .int 0, .int 0, .int 0])), (sp, .inr (0, [.int 0, .ref E, .int 0])), (sj, .inr (0, [.int 0, .ref E, .int 0])), (sc, .inr (0, [.int 0, .ref E, .int 0])), (sa, .inr (1, [.ref i1, .ref i2, .ref i3])), (i1, .inl (cI, 9, .inl (fun _ => 0))), (i2, .inl (cI, 9, .inl (fun _ => 0))), (i3, .inl (cI, 9, .inl (fun _ => 0))), (tsh, .inr (6, [.ref tsp, .ref tsj, .ref tsc, .ref tsa, .int 0, .int 3000, .int 0, .int 0, .int 0, .int 0, .int 0, .int 0, .int 0, .int 0, .int 0])), (tsp, .inr (0, [.int 0, .ref E, .int 0])), (tsj, .inr (0, [.int 0, .ref E, .int 0])), (tsc, .inr (0, [.int 0, .ref E, .int 0])), (tsa, .inr (1, [.ref ti1, .ref ti2, .ref ti3])), (ti1, .inl (cI, 9, .inl (fun _ => 0))), (ti2, .inl (cI, 9, .inl (fun _ => 0))), (ti3, .inl (cI, 9, .inl (fun _ => 0))), (o, .inr (13, [.int 0, .ref zb, .ref fg])), (zb, .inr (9, [.int 0, .int 3000, .int 0, .int 0, .int 0, .ref zbp, .ref zbj, .ref zbc, .ref zba, .int 0, .int 0, .int 0, .int 0, .int 0, .int 0])), (zbp, .inr (0, [.int 0, .ref E, .int 0])), (zbj, .inr (0, [.int 0, .ref E, .int 0])), (zbc, .inr (0, [.int 0, .ref E, .int 0])), (zba, .inr (0, [.int 0, .ref E, .int 0])), (fg, .inr (0, [.int 0, .ref E, .int 0])), (out, .inl (cL, 1, .inr (.inl (fun _ => 0))))] H) (hD : va_D A [(h, .inr (8, [.ref f, .ref sh, .ref tsh])), (f, .inr (0, [.int 0, .ref E, .int 0])), (sh, .inr (6, [.ref sp, .ref sj, .ref sc, .ref sa, .int 0, .int 3000, .int 0, .int 0, .int 0, .int 0, .int 0, .int 0, .int 0, .int 0, .int 0])), (sp, .inr (0, [.int 0, .ref E, .int 0])), (sj, .inr (0, [.int 0, .ref E, .int 0])), (sc, .inr (0, [.int 0, .ref E, .int 0])), (sa, .inr (1, [.ref i1, .ref i2, .ref i3])), (i1, .inl (cI, 9, .inl (fun _ => 0))), (i2, .inl (cI, 9, .inl (fun _ => 0))), (i3, .inl (cI, 9, .inl (fun _ => 0))), (tsh, .inr (6, [.ref tsp, .ref tsj, .ref tsc, .ref tsa, .int 0, .int 3000, .int 0, .int 0, .int 0, .int 0, .int 0, .int 0, .int 0, .int 0, .int 0])), (tsp, .inr (0, [.int 0, .ref E, .int 0])), (tsj, .inr (0, [.int 0, .ref E, .int 0])), (tsc, .inr (0, [.int 0, .ref E, .int 0])), (tsa, .inr (1, [.ref ti1, .ref ti2, .ref ti3])), (ti1, .inl (cI, 9, .inl (fun _ => 0))), (ti2, .inl (cI, 9, .inl (fun _ => 0))), (ti3, .inl (cI, 9, .inl (fun _ => 0))), (o, .inr (13, [.int 0, .ref zb, .ref fg])), (zb, .inr (9, [.int 0, .int 3000, .int 0, .int 0, .int 0, .ref zbp, .ref zbj, .ref zbc, .ref zba, .int 0, .int 0, .int 0, .int 0, .int 0, .int 0])), (zbp, .inr (0, [.int 0, .ref E, .int 0])), (zbj, .inr (0, [.int 0, .ref E, .int 0])), (zbc, .inr (0, [.int 0, .ref E, .int 0])), (zba, .inr (0, [.int 0, .ref E, .int 0])), (fg, .inr (0, [.int 0, .ref E, .int 0])), (out, .inl (cL, 1, .inr (.inl (fun _ => 0))))]) (hS : va_S A s.heap H locs) (hl : lv_has ls 9 [(4, .int 0), (3, .ref out), (2, .ref o), (1, .ref h), (0, .ref b)]) : W p l e room_1 s m #[Value.ref b] below meth c H locs 26 148 (lw_Z below #[Value.ref b] s) (F0 m 640 ls []) := by
  obtain ⟨hx, hb, hr, hml, hown, hts, hX, hbl, hlocks, hl9, hE, hA, hA2⟩ := id C
  have hbA : ¬ A b := fun h => absurd (hA2 b h) (Nat.not_le.mpr hbl)
  refine lv_aload_n hx hb dL_law_640 rfl (lv_at hl 3 rfl) ?_
  refine lv_aload_n hx hb dL_law_641 rfl (lv_at hl 4 rfl) ?_
  refine lv_iload hx hb dL_law_642 (lv_at hl 0 rfl) ?_
  refine lv_iconst (v := 1) hx hb dL_law_644 (by decide) ?_
  refine f_iadd (v := 1) hx hb dL_law_645 (by decide) ?_
  refine va_sld hx hb hX hbl hbA hS (by unfold vp_in; decide) dL_law_646 ?_
  refine f_topi (v := p0) (f_xs hs1) ?_
  refine lv_aload_n hx hb dL_law_647 rfl (lv_at hl 1 rfl) ?_
  refine f_aft_i (wr := [(o, .inr (13, [.int 0, .ref zb, .ref fg])), (zb, .inr (9, [.int 0, .int 3000, .int 0, .int 0, .int 0, .ref zbp, .ref zbj, .ref zbc, .ref zba, .int 0, .int 0, .int 0, .int 0, .int 0, .int 0])), (zbp, .inr (0, [.int 0, .ref E, .int 0])), (zbj, .inr (0, [.int 0, .ref E, .int 0])), (zbc, .inr (0, [.int 0, .ref E, .int 0])), (zba, .inr (0, [.int 0, .ref E, .int 0])), (fg, .inr (0, [.int 0, .ref E, .int 0]))]) (f_runSW (As := [.ref h, .int p0, .ref out]) (rest := []) hx hb hml hown hts (kL_reset l hl9 D cI cO cL E M h f sh sp sj sc sa i1 i2 i3 tsh tsp tsj tsc tsa ti1 ti2 ti3 out p0 H.size) (fcwSW 3 hts q379 q380 q80 q381 rfl rfl (by decide +kernel) ⟨(Nat.le_of_ble_eq_true rfl), (Nat.le_of_ble_eq_true rfl)⟩) hE hP hD hS hA [0, 1, 2, 3, 4, 5, 6, 7, 8, 9, 10, 11, 12, 13, 14, 15, 16, 17, 25] rfl (by decide) rfl hl.1 rfl (Nat.le_of_ble_eq_true rfl) dL_law_648 ⟨(Nat.le_of_ble_eq_true rfl), (Nat.le_of_ble_eq_true rfl)⟩) hP hD hS hA [0, 1, 2, 3, 4, 5, 6, 7, 8, 9, 10, 11, 12, 13, 14, 15, 16, 17, 25] [18, 19, 20, 21, 22, 23, 24] rfl rfl (by decide) (by decide) (fun r u H locs hr0 hP hD hS => ?_)
  subst hr0
  have hP : va_P D vwCl [(o, .inr (13, [.int 0, .ref zb, .ref fg])), (zb, .inr (9, [.int 0, .int 3000, .int 0, .int 0, .int 0, .ref zbp, .ref zbj, .ref zbc, .ref zba, .int 0, .int 0, .int 0, .int 0, .int 0, .int 0])), (zbp, .inr (0, [.int 0, .ref E, .int 0])), (zbj, .inr (0, [.int 0, .ref E, .int 0])), (zbc, .inr (0, [.int 0, .ref E, .int 0])), (zba, .inr (0, [.int 0, .ref E, .int 0])), (fg, .inr (0, [.int 0, .ref E, .int 0]))] H := hP
  have hD : va_D A [(o, .inr (13, [.int 0, .ref zb, .ref fg])), (zb, .inr (9, [.int 0, .int 3000, .int 0, .int 0, .int 0, .ref zbp, .ref zbj, .ref zbc, .ref zba, .int 0, .int 0, .int 0, .int 0, .int 0, .int 0])), (zbp, .inr (0, [.int 0, .ref E, .int 0])), (zbj, .inr (0, [.int 0, .ref E, .int 0])), (zbc, .inr (0, [.int 0, .ref E, .int 0])), (zba, .inr (0, [.int 0, .ref E, .int 0])), (fg, .inr (0, [.int 0, .ref E, .int 0]))] := hD
  refine lv_istore (lv' := [(5, .int 1), (4, .int 0), (3, .ref out), (2, .ref o), (1, .ref h), (0, .ref b)]) hx hb dL_law_651 hl (by decide) rfl (fun ls hl => ?_)
  refine lv_aload_n hx hb dL_law_653 rfl (lv_at hl 3 rfl) ?_
  refine lv_aload_n hx hb dL_law_654 rfl (lv_at hl 5 rfl) ?_
  refine lv_iload hx hb dL_law_655 (lv_at hl 1 rfl) ?_
  refine lv_iconst (v := 1) hx hb dL_law_657 (by decide) ?_
  refine f_iadd (v := 1) hx hb dL_law_658 (by decide) ?_
  refine va_sld hx hb hX hbl hbA hS (by unfold vp_in; decide) dL_law_659 ?_
  refine f_topi (v := p0) (f_xs hs1) ?_
  refine f_aft_i (wr := []) (f_runV (As := [.int p0]) (rest := []) hx hb hml hown hts (kX12_reset l D cI cO cL E M o zb zbp zbj zbc zba fg p0 H.size) (fcwV 1 hts q388 q389 q390 q5 q391 rfl rfl (by decide +kernel) ⟨(Nat.le_of_ble_eq_true rfl), (Nat.le_of_ble_eq_true rfl)⟩) hE hP hD hS hA [0, 1, 2, 3, 4, 5, 6] rfl (by decide) (q0 := 0) (ci := 13) rfl rfl rfl rfl hl.1 rfl (Nat.le_of_ble_eq_true rfl) dL_law_660 ⟨(Nat.le_of_ble_eq_true rfl), (Nat.le_of_ble_eq_true rfl)⟩) hP hD hS hA [0, 1, 2, 3, 4, 5, 6] [] rfl rfl (by decide) (by decide) (fun r u H locs hr0 hP hD hS => ?_)
  subst hr0
  have hP : va_P D vwCl [(o, .inr (13, [.int 1, .ref zb, .ref fg]))] H := hP
  have hD : va_D A [(o, .inr (13, [.int 1, .ref zb, .ref fg]))] := hD
  refine lv_istore (lv' := [(6, .int 0), (5, .int 1), (4, .int 0), (3, .ref out), (2, .ref o), (1, .ref h), (0, .ref b)]) hx hb dL_law_663 hl (by decide) rfl (fun ls hl => ?_)
  refine lv_aload_n hx hb dL_law_665 rfl (lv_at hl 4 rfl) ?_
  refine f_aft_i (wr := []) (f_runV (As := []) (rest := []) hx hb hml hown hts (kX12_thrown l D cI cO cL E M o zb fg 1 H.size) (fcwV 0 hts q186 q187 q188 q5 q189 rfl rfl (by decide +kernel) ⟨(Nat.le_of_ble_eq_true rfl), (Nat.le_of_ble_eq_true rfl)⟩) hE hP hD hS hA [0] rfl (by decide) (q0 := 0) (ci := 13) rfl rfl rfl rfl hl.1 rfl (Nat.le_of_ble_eq_true rfl) dL_law_666 ⟨(Nat.le_of_ble_eq_true rfl), (Nat.le_of_ble_eq_true rfl)⟩) hP hD hS hA [0] [] rfl rfl (by decide) (by decide) (fun r u H locs hr0 hP hD hS => ?_)
  subst hr0
  have hP : va_P D vwCl [(o, .inr (13, [.int 1, .ref zb, .ref fg]))] H := hP
  have hD : va_D A [(o, .inr (13, [.int 1, .ref zb, .ref fg]))] := hD
  refine lv_iload hx hb dL_law_669 (lv_at hl 1 rfl) ?_
  refine lv_icmp_eq (tgt := 676) hx hb dL_law_671 (by decide) (fun _ => ?_) (fun h => absurd (by decide) h)
  refine lv_iload hx hb dL_law_676 (lv_at hl 1 rfl) ?_
  refine lv_if_ne (tgt := 693) hx hb dL_law_678 (by decide) (fun _ => ?_) (fun h => absurd h (by decide))
  refine lv_goto (tgt := 1758) hx hb dL_law_693 (by decide) ?_
  refine W.widen (k := 3000) (n := 30000) (Nat.le_of_ble_eq_true rfl) (Nat.le_of_ble_eq_true rfl) ?_
  exact law_end C hS (lv_sub hl [2, 6] rfl)
set_option maxHeartbeats 4000000 in
set_option maxRecDepth 100000 in
theorem law_ofPump {p : Program} {l : Launch} {e : Env} {s : State} {m : MethodId} {below : List Frame} {meth : Method} {c : Code} {b : Nat} {xs : Nat → Int32} {D : va_G} {cI cO cL : ClassId} {E M : Nat} {A : Nat → Prop} (C : fLC p l s m meth c b xs D cI cO cL E M A) {h f sh sp sj sc sa i1 i2 i3 tsh tsp tsj tsc tsa ti1 ti2 ti3 o zb zbp zbj zbc zba fg out : Nat} (p0 : Int32) (p1 : Int32) (hs1 : (1 : Int32).toNatClampNeg = 1 ∧ xs 1 = p0) (hs2 : (2 : Int32).toNatClampNeg = 2 ∧ xs 2 = p1)  {H : Heap} {locs : List Loc} {ls : Array Slot} (hP : va_P D vwCl [(h, .inr (8, [.ref f, .ref sh, .ref tsh])), (f, .inr (0, [.int 0, .ref E, .int 0])), (sh, .inr (6, [.ref sp, .ref sj, .ref sc, .ref sa, .int 0, .int 3000, .int 0, .int 0, .int 0, .int 0, .int 0, .int 0, .int 0, .int 0, .int 0])), (sp, .inr (0, [.int 0, .ref E, .int 0])), (sj, .inr (0, [.int 0, .ref E, .int 0])), (sc, .inr (0, [.int 0, .ref E, .int 0])), (sa, .inr (1, [.ref i1, .ref i2, .ref i3])), (i1, .inl (cI, 9, .inl (fun _ => 0))), (i2, .inl (cI, 9, .inl (fun _ => 0))), (i3, .inl (cI, 9, .inl (fun _ => 0))), (tsh, .inr (6, [.ref tsp, .ref tsj, .ref tsc, .ref tsa, .int 0, .int 3000, .int 0, .int 0, .int 0, .int 0, .int 0, .int 0, .int 0, .int 0, .int 0])), (tsp, .inr (0, [.int 0, .ref E, .int 0])), (tsj, .inr (0, [.int 0, .ref E, .int 0])), (tsc, .inr (0, [.int 0, .ref E, .int 0])), (tsa, .inr (1, [.ref ti1, .ref ti2, .ref ti3])), (ti1, .inl (cI, 9, .inl (fun _ => 0))), (ti2, .inl (cI, 9, .inl (fun _ => 0))), (ti3, .inl (cI, 9, .inl (fun _ => 0))), (o, .inr (13, [.int 0, .ref zb, .ref fg])), (zb, .inr (9, [.int 0, .int 3000, .int 0, .int 0, .int 0, .ref zbp, .ref zbj, .ref zbc, .ref zba, .int 0, .int 0, .int 0, .int 0, .int 0, .int 0])), (zbp, .inr (0, [.int 0, .ref E, .int 0])), (zbj, .inr (0, [.int 0, .ref E, .int 0])), (zbc, .inr (0, [.int 0, .ref E, .int 0])), (zba, .inr (0, [.int 0, .ref E, .int 0])), (fg, .inr (0, [.int 0, .ref E, .int 0])), (out, .inl (cL, 1, .inr (.inl (fun _ => 0))))] H) (hD : va_D A [(h, .inr (8, [.ref f, .ref sh, .ref tsh])), (f, .inr (0, [.int 0, .ref E, .int 0])), (sh, .inr (6, [.ref sp, .ref sj, .ref sc, .ref sa, .int 0, .int 3000, .int 0, .int 0, .int 0, .int 0, .int 0, .int 0, .int 0, .int 0, .int 0])), (sp, .inr (0, [.int 0, .ref E, .int 0])), (sj, .inr (0, [.int 0, .ref E, .int 0])), (sc, .inr (0, [.int 0, .ref E, .int 0])), (sa, .inr (1, [.ref i1, .ref i2, .ref i3])), (i1, .inl (cI, 9, .inl (fun _ => 0))), (i2, .inl (cI, 9, .inl (fun _ => 0))), (i3, .inl (cI, 9, .inl (fun _ => 0))), (tsh, .inr (6, [.ref tsp, .ref tsj, .ref tsc, .ref tsa, .int 0, .int 3000, .int 0, .int 0, .int 0, .int 0, .int 0, .int 0, .int 0, .int 0, .int 0])), (tsp, .inr (0, [.int 0, .ref E, .int 0])), (tsj, .inr (0, [.int 0, .ref E, .int 0])), (tsc, .inr (0, [.int 0, .ref E, .int 0])), (tsa, .inr (1, [.ref ti1, .ref ti2, .ref ti3])), (ti1, .inl (cI, 9, .inl (fun _ => 0))), (ti2, .inl (cI, 9, .inl (fun _ => 0))), (ti3, .inl (cI, 9, .inl (fun _ => 0))), (o, .inr (13, [.int 0, .ref zb, .ref fg])), (zb, .inr (9, [.int 0, .int 3000, .int 0, .int 0, .int 0, .ref zbp, .ref zbj, .ref zbc, .ref zba, .int 0, .int 0, .int 0, .int 0, .int 0, .int 0])), (zbp, .inr (0, [.int 0, .ref E, .int 0])), (zbj, .inr (0, [.int 0, .ref E, .int 0])), (zbc, .inr (0, [.int 0, .ref E, .int 0])), (zba, .inr (0, [.int 0, .ref E, .int 0])), (fg, .inr (0, [.int 0, .ref E, .int 0])), (out, .inl (cL, 1, .inr (.inl (fun _ => 0))))]) (hS : va_S A s.heap H locs) (hl : lv_has ls 9 [(4, .int 0), (3, .ref out), (2, .ref o), (1, .ref h), (0, .ref b)]) : W p l e room_1 s m #[Value.ref b] below meth c H locs 26 148 (lw_Z below #[Value.ref b] s) (F0 m 1127 ls []) := by
  obtain ⟨hx, hb, hr, hml, hown, hts, hX, hbl, hlocks, hl9, hE, hA, hA2⟩ := id C
  have hbA : ¬ A b := fun h => absurd (hA2 b h) (Nat.not_le.mpr hbl)
  refine lv_aload_n hx hb dL_law_1127 rfl (lv_at hl 3 rfl) ?_
  refine lv_aload_n hx hb dL_law_1128 rfl (lv_at hl 4 rfl) ?_
  refine lv_iload hx hb dL_law_1129 (lv_at hl 0 rfl) ?_
  refine lv_iconst (v := 1) hx hb dL_law_1131 (by decide) ?_
  refine f_iadd (v := 1) hx hb dL_law_1132 (by decide) ?_
  refine va_sld hx hb hX hbl hbA hS (by unfold vp_in; decide) dL_law_1133 ?_
  refine f_topi (v := p0) (f_xs hs1) ?_
  refine lv_aload_n hx hb dL_law_1134 rfl (lv_at hl 4 rfl) ?_
  refine lv_iload hx hb dL_law_1135 (lv_at hl 0 rfl) ?_
  refine lv_iconst (v := 2) hx hb dL_law_1137 (by decide) ?_
  refine f_iadd (v := 2) hx hb dL_law_1138 (by decide) ?_
  refine va_sld hx hb hX hbl hbA hS (by unfold vp_in; decide) dL_law_1139 ?_
  refine f_topi (v := p1) (f_xs hs2) ?_
  refine lv_aload_n hx hb dL_law_1140 rfl (lv_at hl 1 rfl) ?_
  refine f_aft_i (wr := [(o, .inr (13, [.int 0, .ref zb, .ref fg])), (zb, .inr (9, [.int 0, .int 3000, .int 0, .int 0, .int 0, .ref zbp, .ref zbj, .ref zbc, .ref zba, .int 0, .int 0, .int 0, .int 0, .int 0, .int 0])), (zbp, .inr (0, [.int 0, .ref E, .int 0])), (zbj, .inr (0, [.int 0, .ref E, .int 0])), (zbc, .inr (0, [.int 0, .ref E, .int 0])), (zba, .inr (0, [.int 0, .ref E, .int 0])), (fg, .inr (0, [.int 0, .ref E, .int 0]))]) (f_runSW (As := [.ref h, .int p0, .int p1, .ref out]) (rest := []) hx hb hml hown hts (kL_ofPump l hl9 D cI cO cL E M h f sh sp sj sc sa i1 i2 i3 tsh tsp tsj tsc tsa ti1 ti2 ti3 out p0 p1 H.size) (fcwSW 4 hts q799 q800 q80 q801 rfl rfl (by decide +kernel) ⟨(Nat.le_of_ble_eq_true rfl), (Nat.le_of_ble_eq_true rfl)⟩) hE hP hD hS hA [0, 1, 2, 3, 4, 5, 6, 7, 8, 9, 10, 11, 12, 13, 14, 15, 16, 17, 25] rfl (by decide) rfl hl.1 rfl (Nat.le_of_ble_eq_true rfl) dL_law_1141 ⟨(Nat.le_of_ble_eq_true rfl), (Nat.le_of_ble_eq_true rfl)⟩) hP hD hS hA [0, 1, 2, 3, 4, 5, 6, 7, 8, 9, 10, 11, 12, 13, 14, 15, 16, 17, 25] [18, 19, 20, 21, 22, 23, 24] rfl rfl (by decide) (by decide) (fun r u H locs hr0 hP hD hS => ?_)
  subst hr0
  have hP : va_P D vwCl [(o, .inr (13, [.int 0, .ref zb, .ref fg])), (zb, .inr (9, [.int 0, .int 3000, .int 0, .int 0, .int 0, .ref zbp, .ref zbj, .ref zbc, .ref zba, .int 0, .int 0, .int 0, .int 0, .int 0, .int 0])), (zbp, .inr (0, [.int 0, .ref E, .int 0])), (zbj, .inr (0, [.int 0, .ref E, .int 0])), (zbc, .inr (0, [.int 0, .ref E, .int 0])), (zba, .inr (0, [.int 0, .ref E, .int 0])), (fg, .inr (0, [.int 0, .ref E, .int 0]))] H := hP
  have hD : va_D A [(o, .inr (13, [.int 0, .ref zb, .ref fg])), (zb, .inr (9, [.int 0, .int 3000, .int 0, .int 0, .int 0, .ref zbp, .ref zbj, .ref zbc, .ref zba, .int 0, .int 0, .int 0, .int 0, .int 0, .int 0])), (zbp, .inr (0, [.int 0, .ref E, .int 0])), (zbj, .inr (0, [.int 0, .ref E, .int 0])), (zbc, .inr (0, [.int 0, .ref E, .int 0])), (zba, .inr (0, [.int 0, .ref E, .int 0])), (fg, .inr (0, [.int 0, .ref E, .int 0]))] := hD
  refine lv_istore (lv' := [(5, .int 1), (4, .int 0), (3, .ref out), (2, .ref o), (1, .ref h), (0, .ref b)]) hx hb dL_law_1144 hl (by decide) rfl (fun ls hl => ?_)
  refine lv_aload_n hx hb dL_law_1146 rfl (lv_at hl 3 rfl) ?_
  refine lv_aload_n hx hb dL_law_1147 rfl (lv_at hl 5 rfl) ?_
  refine lv_iload hx hb dL_law_1148 (lv_at hl 1 rfl) ?_
  refine lv_iconst (v := 1) hx hb dL_law_1150 (by decide) ?_
  refine f_iadd (v := 1) hx hb dL_law_1151 (by decide) ?_
  refine va_sld hx hb hX hbl hbA hS (by unfold vp_in; decide) dL_law_1152 ?_
  refine f_topi (v := p0) (f_xs hs1) ?_
  refine lv_aload_n hx hb dL_law_1153 rfl (lv_at hl 5 rfl) ?_
  refine lv_iload hx hb dL_law_1154 (lv_at hl 1 rfl) ?_
  refine lv_iconst (v := 2) hx hb dL_law_1156 (by decide) ?_
  refine f_iadd (v := 2) hx hb dL_law_1157 (by decide) ?_
  refine va_sld hx hb hX hbl hbA hS (by unfold vp_in; decide) dL_law_1158 ?_
  refine f_topi (v := p1) (f_xs hs2) ?_
  refine f_aft_i (wr := []) (f_runV (As := [.int p0, .int p1]) (rest := []) hx hb hml hown hts (kX12_ofPump l D cI cO cL E M o zb zbp zbj zbc zba fg p0 p1 H.size) (fcwV 2 hts q813 q814 q815 q5 q816 rfl rfl (by decide +kernel) ⟨(Nat.le_of_ble_eq_true rfl), (Nat.le_of_ble_eq_true rfl)⟩) hE hP hD hS hA [0, 1, 2, 3, 4, 5, 6] rfl (by decide) (q0 := 0) (ci := 13) rfl rfl rfl rfl hl.1 rfl (Nat.le_of_ble_eq_true rfl) dL_law_1159 ⟨(Nat.le_of_ble_eq_true rfl), (Nat.le_of_ble_eq_true rfl)⟩) hP hD hS hA [0, 1, 2, 3, 4, 5, 6] [] rfl rfl (by decide) (by decide) (fun r u H locs hr0 hP hD hS => ?_)
  subst hr0
  have hP : va_P D vwCl [(o, .inr (13, [.int 1, .ref zb, .ref fg]))] H := hP
  have hD : va_D A [(o, .inr (13, [.int 1, .ref zb, .ref fg]))] := hD
  refine lv_istore (lv' := [(6, .int 0), (5, .int 1), (4, .int 0), (3, .ref out), (2, .ref o), (1, .ref h), (0, .ref b)]) hx hb dL_law_1162 hl (by decide) rfl (fun ls hl => ?_)
  refine lv_aload_n hx hb dL_law_1164 rfl (lv_at hl 4 rfl) ?_
  refine f_aft_i (wr := []) (f_runV (As := []) (rest := []) hx hb hml hown hts (kX12_thrown l D cI cO cL E M o zb fg 1 H.size) (fcwV 0 hts q186 q187 q188 q5 q189 rfl rfl (by decide +kernel) ⟨(Nat.le_of_ble_eq_true rfl), (Nat.le_of_ble_eq_true rfl)⟩) hE hP hD hS hA [0] rfl (by decide) (q0 := 0) (ci := 13) rfl rfl rfl rfl hl.1 rfl (Nat.le_of_ble_eq_true rfl) dL_law_1165 ⟨(Nat.le_of_ble_eq_true rfl), (Nat.le_of_ble_eq_true rfl)⟩) hP hD hS hA [0] [] rfl rfl (by decide) (by decide) (fun r u H locs hr0 hP hD hS => ?_)
  subst hr0
  have hP : va_P D vwCl [(o, .inr (13, [.int 1, .ref zb, .ref fg]))] H := hP
  have hD : va_D A [(o, .inr (13, [.int 1, .ref zb, .ref fg]))] := hD
  refine lv_iload hx hb dL_law_1168 (lv_at hl 1 rfl) ?_
  refine lv_icmp_eq (tgt := 1175) hx hb dL_law_1170 (by decide) (fun _ => ?_) (fun h => absurd (by decide) h)
  refine lv_iload hx hb dL_law_1175 (lv_at hl 1 rfl) ?_
  refine lv_if_ne (tgt := 1192) hx hb dL_law_1177 (by decide) (fun _ => ?_) (fun h => absurd h (by decide))
  refine lv_goto (tgt := 1758) hx hb dL_law_1192 (by decide) ?_
  refine W.widen (k := 3000) (n := 30000) (Nat.le_of_ble_eq_true rfl) (Nat.le_of_ble_eq_true rfl) ?_
  exact law_end C hS (lv_sub hl [2, 6] rfl)
set_option maxHeartbeats 4000000 in
set_option maxRecDepth 100000 in
theorem law_step {p : Program} {l : Launch} {e : Env} {s : State} {m : MethodId} {below : List Frame} {meth : Method} {c : Code} {b : Nat} {xs : Nat → Int32} {D : va_G} {cI cO cL : ClassId} {E M : Nat} {A : Nat → Prop} (C : fLC p l s m meth c b xs D cI cO cL E M A) {h f sh sp sj sc sa i1 i2 i3 tsh tsp tsj tsc tsa ti1 ti2 ti3 o zb zbp zbj zbc zba fg out : Nat} (p0 : Int32) (p1 : Int32) (p2 : Int32) (p3 : Int32) (hs1 : (1 : Int32).toNatClampNeg = 1 ∧ xs 1 = p0) (hs2 : (2 : Int32).toNatClampNeg = 2 ∧ xs 2 = p1) (hs3 : (3 : Int32).toNatClampNeg = 3 ∧ xs 3 = p2) (hs4 : (4 : Int32).toNatClampNeg = 4 ∧ xs 4 = p3)  {H : Heap} {locs : List Loc} {ls : Array Slot} (hP : va_P D vwCl [(h, .inr (8, [.ref f, .ref sh, .ref tsh])), (f, .inr (0, [.int 0, .ref E, .int 0])), (sh, .inr (6, [.ref sp, .ref sj, .ref sc, .ref sa, .int 0, .int 3000, .int 0, .int 0, .int 0, .int 0, .int 0, .int 0, .int 0, .int 0, .int 0])), (sp, .inr (0, [.int 0, .ref E, .int 0])), (sj, .inr (0, [.int 0, .ref E, .int 0])), (sc, .inr (0, [.int 0, .ref E, .int 0])), (sa, .inr (1, [.ref i1, .ref i2, .ref i3])), (i1, .inl (cI, 9, .inl (fun _ => 0))), (i2, .inl (cI, 9, .inl (fun _ => 0))), (i3, .inl (cI, 9, .inl (fun _ => 0))), (tsh, .inr (6, [.ref tsp, .ref tsj, .ref tsc, .ref tsa, .int 0, .int 3000, .int 0, .int 0, .int 0, .int 0, .int 0, .int 0, .int 0, .int 0, .int 0])), (tsp, .inr (0, [.int 0, .ref E, .int 0])), (tsj, .inr (0, [.int 0, .ref E, .int 0])), (tsc, .inr (0, [.int 0, .ref E, .int 0])), (tsa, .inr (1, [.ref ti1, .ref ti2, .ref ti3])), (ti1, .inl (cI, 9, .inl (fun _ => 0))), (ti2, .inl (cI, 9, .inl (fun _ => 0))), (ti3, .inl (cI, 9, .inl (fun _ => 0))), (o, .inr (13, [.int 0, .ref zb, .ref fg])), (zb, .inr (9, [.int 0, .int 3000, .int 0, .int 0, .int 0, .ref zbp, .ref zbj, .ref zbc, .ref zba, .int 0, .int 0, .int 0, .int 0, .int 0, .int 0])), (zbp, .inr (0, [.int 0, .ref E, .int 0])), (zbj, .inr (0, [.int 0, .ref E, .int 0])), (zbc, .inr (0, [.int 0, .ref E, .int 0])), (zba, .inr (0, [.int 0, .ref E, .int 0])), (fg, .inr (0, [.int 0, .ref E, .int 0])), (out, .inl (cL, 1, .inr (.inl (fun _ => 0))))] H) (hD : va_D A [(h, .inr (8, [.ref f, .ref sh, .ref tsh])), (f, .inr (0, [.int 0, .ref E, .int 0])), (sh, .inr (6, [.ref sp, .ref sj, .ref sc, .ref sa, .int 0, .int 3000, .int 0, .int 0, .int 0, .int 0, .int 0, .int 0, .int 0, .int 0, .int 0])), (sp, .inr (0, [.int 0, .ref E, .int 0])), (sj, .inr (0, [.int 0, .ref E, .int 0])), (sc, .inr (0, [.int 0, .ref E, .int 0])), (sa, .inr (1, [.ref i1, .ref i2, .ref i3])), (i1, .inl (cI, 9, .inl (fun _ => 0))), (i2, .inl (cI, 9, .inl (fun _ => 0))), (i3, .inl (cI, 9, .inl (fun _ => 0))), (tsh, .inr (6, [.ref tsp, .ref tsj, .ref tsc, .ref tsa, .int 0, .int 3000, .int 0, .int 0, .int 0, .int 0, .int 0, .int 0, .int 0, .int 0, .int 0])), (tsp, .inr (0, [.int 0, .ref E, .int 0])), (tsj, .inr (0, [.int 0, .ref E, .int 0])), (tsc, .inr (0, [.int 0, .ref E, .int 0])), (tsa, .inr (1, [.ref ti1, .ref ti2, .ref ti3])), (ti1, .inl (cI, 9, .inl (fun _ => 0))), (ti2, .inl (cI, 9, .inl (fun _ => 0))), (ti3, .inl (cI, 9, .inl (fun _ => 0))), (o, .inr (13, [.int 0, .ref zb, .ref fg])), (zb, .inr (9, [.int 0, .int 3000, .int 0, .int 0, .int 0, .ref zbp, .ref zbj, .ref zbc, .ref zba, .int 0, .int 0, .int 0, .int 0, .int 0, .int 0])), (zbp, .inr (0, [.int 0, .ref E, .int 0])), (zbj, .inr (0, [.int 0, .ref E, .int 0])), (zbc, .inr (0, [.int 0, .ref E, .int 0])), (zba, .inr (0, [.int 0, .ref E, .int 0])), (fg, .inr (0, [.int 0, .ref E, .int 0])), (out, .inl (cL, 1, .inr (.inl (fun _ => 0))))]) (hS : va_S A s.heap H locs) (hl : lv_has ls 9 [(4, .int 0), (3, .ref out), (2, .ref o), (1, .ref h), (0, .ref b)]) : W p l e room_1 s m #[Value.ref b] below meth c H locs 26 148 (lw_Z below #[Value.ref b] s) (F0 m 344 ls []) := by
  obtain ⟨hx, hb, hr, hml, hown, hts, hX, hbl, hlocks, hl9, hE, hA, hA2⟩ := id C
  have hbA : ¬ A b := fun h => absurd (hA2 b h) (Nat.not_le.mpr hbl)
  refine lv_aload_n hx hb dL_law_344 rfl (lv_at hl 3 rfl) ?_
  refine lv_aload_n hx hb dL_law_345 rfl (lv_at hl 4 rfl) ?_
  refine lv_iload hx hb dL_law_346 (lv_at hl 0 rfl) ?_
  refine lv_iconst (v := 1) hx hb dL_law_348 (by decide) ?_
  refine f_iadd (v := 1) hx hb dL_law_349 (by decide) ?_
  refine va_sld hx hb hX hbl hbA hS (by unfold vp_in; decide) dL_law_350 ?_
  refine f_topi (v := p0) (f_xs hs1) ?_
  refine lv_aload_n hx hb dL_law_351 rfl (lv_at hl 4 rfl) ?_
  refine lv_iload hx hb dL_law_352 (lv_at hl 0 rfl) ?_
  refine lv_iconst (v := 2) hx hb dL_law_354 (by decide) ?_
  refine f_iadd (v := 2) hx hb dL_law_355 (by decide) ?_
  refine va_sld hx hb hX hbl hbA hS (by unfold vp_in; decide) dL_law_356 ?_
  refine f_topi (v := p1) (f_xs hs2) ?_
  refine lv_aload_n hx hb dL_law_357 rfl (lv_at hl 4 rfl) ?_
  refine lv_iload hx hb dL_law_358 (lv_at hl 0 rfl) ?_
  refine lv_iconst (v := 3) hx hb dL_law_360 (by decide) ?_
  refine f_iadd (v := 3) hx hb dL_law_361 (by decide) ?_
  refine va_sld hx hb hX hbl hbA hS (by unfold vp_in; decide) dL_law_362 ?_
  refine f_topi (v := p2) (f_xs hs3) ?_
  refine lv_aload_n hx hb dL_law_363 rfl (lv_at hl 4 rfl) ?_
  refine lv_iload hx hb dL_law_364 (lv_at hl 0 rfl) ?_
  refine lv_iconst (v := 4) hx hb dL_law_366 (by decide) ?_
  refine f_iadd (v := 4) hx hb dL_law_367 (by decide) ?_
  refine va_sld hx hb hX hbl hbA hS (by unfold vp_in; decide) dL_law_368 ?_
  refine f_topi (v := p3) (f_xs hs4) ?_
  refine lv_aload_n hx hb dL_law_369 rfl (lv_at hl 1 rfl) ?_
  refine f_aft_i (wr := [(o, .inr (13, [.int 0, .ref zb, .ref fg])), (zb, .inr (9, [.int 0, .int 3000, .int 0, .int 0, .int 0, .ref zbp, .ref zbj, .ref zbc, .ref zba, .int 0, .int 0, .int 0, .int 0, .int 0, .int 0])), (zbp, .inr (0, [.int 0, .ref E, .int 0])), (zbj, .inr (0, [.int 0, .ref E, .int 0])), (zbc, .inr (0, [.int 0, .ref E, .int 0])), (zba, .inr (0, [.int 0, .ref E, .int 0])), (fg, .inr (0, [.int 0, .ref E, .int 0]))]) (f_runSW (As := [.ref h, .int p0, .int p1, .int p2, .int p3, .ref out]) (rest := []) hx hb hml hown hts (kL_step l hl9 D cI cO cL E M h f sh sp sj sc sa i1 i2 i3 tsh tsp tsj tsc tsa ti1 ti2 ti3 out p0 p1 p2 p3 H.size) (fcwSW 6 hts q281 q282 q80 q283 rfl rfl (by decide +kernel) ⟨(Nat.le_of_ble_eq_true rfl), (Nat.le_of_ble_eq_true rfl)⟩) hE hP hD hS hA [0, 1, 2, 3, 4, 5, 6, 7, 8, 9, 10, 11, 12, 13, 14, 15, 16, 17, 25] rfl (by decide) rfl hl.1 rfl (Nat.le_of_ble_eq_true rfl) dL_law_370 ⟨(Nat.le_of_ble_eq_true rfl), (Nat.le_of_ble_eq_true rfl)⟩) hP hD hS hA [0, 1, 2, 3, 4, 5, 6, 7, 8, 9, 10, 11, 12, 13, 14, 15, 16, 17, 25] [18, 19, 20, 21, 22, 23, 24] rfl rfl (by decide) (by decide) (fun r u H locs hr0 hP hD hS => ?_)
  subst hr0
  have hP : va_P D vwCl [(o, .inr (13, [.int 0, .ref zb, .ref fg])), (zb, .inr (9, [.int 0, .int 3000, .int 0, .int 0, .int 0, .ref zbp, .ref zbj, .ref zbc, .ref zba, .int 0, .int 0, .int 0, .int 0, .int 0, .int 0])), (zbp, .inr (0, [.int 0, .ref E, .int 0])), (zbj, .inr (0, [.int 0, .ref E, .int 0])), (zbc, .inr (0, [.int 0, .ref E, .int 0])), (zba, .inr (0, [.int 0, .ref E, .int 0])), (fg, .inr (0, [.int 0, .ref E, .int 0]))] H := hP
  have hD : va_D A [(o, .inr (13, [.int 0, .ref zb, .ref fg])), (zb, .inr (9, [.int 0, .int 3000, .int 0, .int 0, .int 0, .ref zbp, .ref zbj, .ref zbc, .ref zba, .int 0, .int 0, .int 0, .int 0, .int 0, .int 0])), (zbp, .inr (0, [.int 0, .ref E, .int 0])), (zbj, .inr (0, [.int 0, .ref E, .int 0])), (zbc, .inr (0, [.int 0, .ref E, .int 0])), (zba, .inr (0, [.int 0, .ref E, .int 0])), (fg, .inr (0, [.int 0, .ref E, .int 0]))] := hD
  refine lv_istore (lv' := [(5, .int 1), (4, .int 0), (3, .ref out), (2, .ref o), (1, .ref h), (0, .ref b)]) hx hb dL_law_373 hl (by decide) rfl (fun ls hl => ?_)
  refine lv_aload_n hx hb dL_law_375 rfl (lv_at hl 3 rfl) ?_
  refine lv_aload_n hx hb dL_law_376 rfl (lv_at hl 5 rfl) ?_
  refine lv_iload hx hb dL_law_377 (lv_at hl 1 rfl) ?_
  refine lv_iconst (v := 1) hx hb dL_law_379 (by decide) ?_
  refine f_iadd (v := 1) hx hb dL_law_380 (by decide) ?_
  refine va_sld hx hb hX hbl hbA hS (by unfold vp_in; decide) dL_law_381 ?_
  refine f_topi (v := p0) (f_xs hs1) ?_
  refine lv_aload_n hx hb dL_law_382 rfl (lv_at hl 5 rfl) ?_
  refine lv_iload hx hb dL_law_383 (lv_at hl 1 rfl) ?_
  refine lv_iconst (v := 2) hx hb dL_law_385 (by decide) ?_
  refine f_iadd (v := 2) hx hb dL_law_386 (by decide) ?_
  refine va_sld hx hb hX hbl hbA hS (by unfold vp_in; decide) dL_law_387 ?_
  refine f_topi (v := p1) (f_xs hs2) ?_
  refine lv_aload_n hx hb dL_law_388 rfl (lv_at hl 5 rfl) ?_
  refine lv_iload hx hb dL_law_389 (lv_at hl 1 rfl) ?_
  refine lv_iconst (v := 3) hx hb dL_law_391 (by decide) ?_
  refine f_iadd (v := 3) hx hb dL_law_392 (by decide) ?_
  refine va_sld hx hb hX hbl hbA hS (by unfold vp_in; decide) dL_law_393 ?_
  refine f_topi (v := p2) (f_xs hs3) ?_
  refine lv_aload_n hx hb dL_law_394 rfl (lv_at hl 5 rfl) ?_
  refine lv_iload hx hb dL_law_395 (lv_at hl 1 rfl) ?_
  refine lv_iconst (v := 4) hx hb dL_law_397 (by decide) ?_
  refine f_iadd (v := 4) hx hb dL_law_398 (by decide) ?_
  refine va_sld hx hb hX hbl hbA hS (by unfold vp_in; decide) dL_law_399 ?_
  refine f_topi (v := p3) (f_xs hs4) ?_
  refine f_aft_i (wr := []) (f_runV (As := [.int p0, .int p1, .int p2, .int p3]) (rest := []) hx hb hml hown hts (kX12_step l D cI cO cL E M o zb zbp zbj zbc zba fg p0 p1 p2 p3 H.size) (fcwV 4 hts q307 q308 q309 q5 q310 rfl rfl (by decide +kernel) ⟨(Nat.le_of_ble_eq_true rfl), (Nat.le_of_ble_eq_true rfl)⟩) hE hP hD hS hA [0, 1, 2, 3, 4, 5, 6] rfl (by decide) (q0 := 0) (ci := 13) rfl rfl rfl rfl hl.1 rfl (Nat.le_of_ble_eq_true rfl) dL_law_400 ⟨(Nat.le_of_ble_eq_true rfl), (Nat.le_of_ble_eq_true rfl)⟩) hP hD hS hA [0, 1, 2, 3, 4, 5, 6] [] rfl rfl (by decide) (by decide) (fun r u H locs hr0 hP hD hS => ?_)
  subst hr0
  have hP : va_P D vwCl [(o, .inr (13, [.int 1, .ref zb, .ref fg]))] H := hP
  have hD : va_D A [(o, .inr (13, [.int 1, .ref zb, .ref fg]))] := hD
  refine lv_istore (lv' := [(6, .int 0), (5, .int 1), (4, .int 0), (3, .ref out), (2, .ref o), (1, .ref h), (0, .ref b)]) hx hb dL_law_403 hl (by decide) rfl (fun ls hl => ?_)
  refine lv_aload_n hx hb dL_law_405 rfl (lv_at hl 4 rfl) ?_
  refine f_aft_i (wr := []) (f_runV (As := []) (rest := []) hx hb hml hown hts (kX12_thrown l D cI cO cL E M o zb fg 1 H.size) (fcwV 0 hts q186 q187 q188 q5 q189 rfl rfl (by decide +kernel) ⟨(Nat.le_of_ble_eq_true rfl), (Nat.le_of_ble_eq_true rfl)⟩) hE hP hD hS hA [0] rfl (by decide) (q0 := 0) (ci := 13) rfl rfl rfl rfl hl.1 rfl (Nat.le_of_ble_eq_true rfl) dL_law_406 ⟨(Nat.le_of_ble_eq_true rfl), (Nat.le_of_ble_eq_true rfl)⟩) hP hD hS hA [0] [] rfl rfl (by decide) (by decide) (fun r u H locs hr0 hP hD hS => ?_)
  subst hr0
  have hP : va_P D vwCl [(o, .inr (13, [.int 1, .ref zb, .ref fg]))] H := hP
  have hD : va_D A [(o, .inr (13, [.int 1, .ref zb, .ref fg]))] := hD
  refine lv_iload hx hb dL_law_409 (lv_at hl 1 rfl) ?_
  refine lv_icmp_eq (tgt := 416) hx hb dL_law_411 (by decide) (fun _ => ?_) (fun h => absurd (by decide) h)
  refine lv_iload hx hb dL_law_416 (lv_at hl 1 rfl) ?_
  refine lv_if_ne (tgt := 433) hx hb dL_law_418 (by decide) (fun _ => ?_) (fun h => absurd h (by decide))
  refine lv_goto (tgt := 1758) hx hb dL_law_433 (by decide) ?_
  refine W.widen (k := 3000) (n := 30000) (Nat.le_of_ble_eq_true rfl) (Nat.le_of_ble_eq_true rfl) ?_
  exact law_end C hS (lv_sub hl [2, 6] rfl)
set_option maxHeartbeats 4000000 in
set_option maxRecDepth 100000 in
theorem law_call {p : Program} {l : Launch} {e : Env} {s : State} {m : MethodId} {below : List Frame} {meth : Method} {c : Code} {b : Nat} {xs : Nat → Int32} {D : va_G} {cI cO cL : ClassId} {E M : Nat} {A : Nat → Prop} (C : fLC p l s m meth c b xs D cI cO cL E M A) {h f sh sp sj sc sa i1 i2 i3 tsh tsp tsj tsc tsa ti1 ti2 ti3 o zb zbp zbj zbc zba fg out : Nat} (p0 : Int32) (p1 : Int32) (hs1 : (1 : Int32).toNatClampNeg = 1 ∧ xs 1 = p0) (hs2 : (2 : Int32).toNatClampNeg = 2 ∧ xs 2 = p1)  {H : Heap} {locs : List Loc} {ls : Array Slot} (hP : va_P D vwCl [(h, .inr (8, [.ref f, .ref sh, .ref tsh])), (f, .inr (0, [.int 0, .ref E, .int 0])), (sh, .inr (6, [.ref sp, .ref sj, .ref sc, .ref sa, .int 0, .int 3000, .int 0, .int 0, .int 0, .int 0, .int 0, .int 0, .int 0, .int 0, .int 0])), (sp, .inr (0, [.int 0, .ref E, .int 0])), (sj, .inr (0, [.int 0, .ref E, .int 0])), (sc, .inr (0, [.int 0, .ref E, .int 0])), (sa, .inr (1, [.ref i1, .ref i2, .ref i3])), (i1, .inl (cI, 9, .inl (fun _ => 0))), (i2, .inl (cI, 9, .inl (fun _ => 0))), (i3, .inl (cI, 9, .inl (fun _ => 0))), (tsh, .inr (6, [.ref tsp, .ref tsj, .ref tsc, .ref tsa, .int 0, .int 3000, .int 0, .int 0, .int 0, .int 0, .int 0, .int 0, .int 0, .int 0, .int 0])), (tsp, .inr (0, [.int 0, .ref E, .int 0])), (tsj, .inr (0, [.int 0, .ref E, .int 0])), (tsc, .inr (0, [.int 0, .ref E, .int 0])), (tsa, .inr (1, [.ref ti1, .ref ti2, .ref ti3])), (ti1, .inl (cI, 9, .inl (fun _ => 0))), (ti2, .inl (cI, 9, .inl (fun _ => 0))), (ti3, .inl (cI, 9, .inl (fun _ => 0))), (o, .inr (13, [.int 0, .ref zb, .ref fg])), (zb, .inr (9, [.int 0, .int 3000, .int 0, .int 0, .int 0, .ref zbp, .ref zbj, .ref zbc, .ref zba, .int 0, .int 0, .int 0, .int 0, .int 0, .int 0])), (zbp, .inr (0, [.int 0, .ref E, .int 0])), (zbj, .inr (0, [.int 0, .ref E, .int 0])), (zbc, .inr (0, [.int 0, .ref E, .int 0])), (zba, .inr (0, [.int 0, .ref E, .int 0])), (fg, .inr (0, [.int 0, .ref E, .int 0])), (out, .inl (cL, 1, .inr (.inl (fun _ => 0))))] H) (hD : va_D A [(h, .inr (8, [.ref f, .ref sh, .ref tsh])), (f, .inr (0, [.int 0, .ref E, .int 0])), (sh, .inr (6, [.ref sp, .ref sj, .ref sc, .ref sa, .int 0, .int 3000, .int 0, .int 0, .int 0, .int 0, .int 0, .int 0, .int 0, .int 0, .int 0])), (sp, .inr (0, [.int 0, .ref E, .int 0])), (sj, .inr (0, [.int 0, .ref E, .int 0])), (sc, .inr (0, [.int 0, .ref E, .int 0])), (sa, .inr (1, [.ref i1, .ref i2, .ref i3])), (i1, .inl (cI, 9, .inl (fun _ => 0))), (i2, .inl (cI, 9, .inl (fun _ => 0))), (i3, .inl (cI, 9, .inl (fun _ => 0))), (tsh, .inr (6, [.ref tsp, .ref tsj, .ref tsc, .ref tsa, .int 0, .int 3000, .int 0, .int 0, .int 0, .int 0, .int 0, .int 0, .int 0, .int 0, .int 0])), (tsp, .inr (0, [.int 0, .ref E, .int 0])), (tsj, .inr (0, [.int 0, .ref E, .int 0])), (tsc, .inr (0, [.int 0, .ref E, .int 0])), (tsa, .inr (1, [.ref ti1, .ref ti2, .ref ti3])), (ti1, .inl (cI, 9, .inl (fun _ => 0))), (ti2, .inl (cI, 9, .inl (fun _ => 0))), (ti3, .inl (cI, 9, .inl (fun _ => 0))), (o, .inr (13, [.int 0, .ref zb, .ref fg])), (zb, .inr (9, [.int 0, .int 3000, .int 0, .int 0, .int 0, .ref zbp, .ref zbj, .ref zbc, .ref zba, .int 0, .int 0, .int 0, .int 0, .int 0, .int 0])), (zbp, .inr (0, [.int 0, .ref E, .int 0])), (zbj, .inr (0, [.int 0, .ref E, .int 0])), (zbc, .inr (0, [.int 0, .ref E, .int 0])), (zba, .inr (0, [.int 0, .ref E, .int 0])), (fg, .inr (0, [.int 0, .ref E, .int 0])), (out, .inl (cL, 1, .inr (.inl (fun _ => 0))))]) (hS : va_S A s.heap H locs) (hl : lv_has ls 9 [(4, .int 0), (3, .ref out), (2, .ref o), (1, .ref h), (0, .ref b)]) : W p l e room_1 s m #[Value.ref b] below meth c H locs 26 148 (lw_Z below #[Value.ref b] s) (F0 m 1003 ls []) := by
  obtain ⟨hx, hb, hr, hml, hown, hts, hX, hbl, hlocks, hl9, hE, hA, hA2⟩ := id C
  have hbA : ¬ A b := fun h => absurd (hA2 b h) (Nat.not_le.mpr hbl)
  refine lv_aload_n hx hb dL_law_1003 rfl (lv_at hl 3 rfl) ?_
  refine lv_aload_n hx hb dL_law_1004 rfl (lv_at hl 4 rfl) ?_
  refine lv_iload hx hb dL_law_1005 (lv_at hl 0 rfl) ?_
  refine lv_iconst (v := 1) hx hb dL_law_1007 (by decide) ?_
  refine f_iadd (v := 1) hx hb dL_law_1008 (by decide) ?_
  refine va_sld hx hb hX hbl hbA hS (by unfold vp_in; decide) dL_law_1009 ?_
  refine f_topi (v := p0) (f_xs hs1) ?_
  refine lv_aload_n hx hb dL_law_1010 rfl (lv_at hl 4 rfl) ?_
  refine lv_iload hx hb dL_law_1011 (lv_at hl 0 rfl) ?_
  refine lv_iconst (v := 2) hx hb dL_law_1013 (by decide) ?_
  refine f_iadd (v := 2) hx hb dL_law_1014 (by decide) ?_
  refine va_sld hx hb hX hbl hbA hS (by unfold vp_in; decide) dL_law_1015 ?_
  refine f_topi (v := p1) (f_xs hs2) ?_
  refine lv_aload_n hx hb dL_law_1016 rfl (lv_at hl 1 rfl) ?_
  refine f_aft_i (wr := [(o, .inr (13, [.int 0, .ref zb, .ref fg])), (zb, .inr (9, [.int 0, .int 3000, .int 0, .int 0, .int 0, .ref zbp, .ref zbj, .ref zbc, .ref zba, .int 0, .int 0, .int 0, .int 0, .int 0, .int 0])), (zbp, .inr (0, [.int 0, .ref E, .int 0])), (zbj, .inr (0, [.int 0, .ref E, .int 0])), (zbc, .inr (0, [.int 0, .ref E, .int 0])), (zba, .inr (0, [.int 0, .ref E, .int 0])), (fg, .inr (0, [.int 0, .ref E, .int 0]))]) (f_runSW (As := [.ref h, .int p0, .int p1, .ref out]) (rest := []) hx hb hml hown hts (kL_call l hl9 D cI cO cL E M h f sh sp sj sc sa i1 i2 i3 tsh tsp tsj tsc tsa ti1 ti2 ti3 out p0 p1 H.size) (fcwSW 4 hts q473 q474 q80 q475 rfl rfl (by decide +kernel) ⟨(Nat.le_of_ble_eq_true rfl), (Nat.le_of_ble_eq_true rfl)⟩) hE hP hD hS hA [0, 1, 2, 3, 4, 5, 6, 7, 8, 9, 10, 11, 12, 13, 14, 15, 16, 17, 25] rfl (by decide) rfl hl.1 rfl (Nat.le_of_ble_eq_true rfl) dL_law_1017 ⟨(Nat.le_of_ble_eq_true rfl), (Nat.le_of_ble_eq_true rfl)⟩) hP hD hS hA [0, 1, 2, 3, 4, 5, 6, 7, 8, 9, 10, 11, 12, 13, 14, 15, 16, 17, 25] [18, 19, 20, 21, 22, 23, 24] rfl rfl (by decide) (by decide) (fun r u H locs hr0 hP hD hS => ?_)
  subst hr0
  have hP : va_P D vwCl [(o, .inr (13, [.int 0, .ref zb, .ref fg])), (zb, .inr (9, [.int 0, .int 3000, .int 0, .int 0, .int 0, .ref zbp, .ref zbj, .ref zbc, .ref zba, .int 0, .int 0, .int 0, .int 0, .int 0, .int 0])), (zbp, .inr (0, [.int 0, .ref E, .int 0])), (zbj, .inr (0, [.int 0, .ref E, .int 0])), (zbc, .inr (0, [.int 0, .ref E, .int 0])), (zba, .inr (0, [.int 0, .ref E, .int 0])), (fg, .inr (0, [.int 0, .ref E, .int 0]))] H := hP
  have hD : va_D A [(o, .inr (13, [.int 0, .ref zb, .ref fg])), (zb, .inr (9, [.int 0, .int 3000, .int 0, .int 0, .int 0, .ref zbp, .ref zbj, .ref zbc, .ref zba, .int 0, .int 0, .int 0, .int 0, .int 0, .int 0])), (zbp, .inr (0, [.int 0, .ref E, .int 0])), (zbj, .inr (0, [.int 0, .ref E, .int 0])), (zbc, .inr (0, [.int 0, .ref E, .int 0])), (zba, .inr (0, [.int 0, .ref E, .int 0])), (fg, .inr (0, [.int 0, .ref E, .int 0]))] := hD
  refine lv_istore (lv' := [(5, .int 1), (4, .int 0), (3, .ref out), (2, .ref o), (1, .ref h), (0, .ref b)]) hx hb dL_law_1020 hl (by decide) rfl (fun ls hl => ?_)
  refine lv_aload_n hx hb dL_law_1022 rfl (lv_at hl 3 rfl) ?_
  refine lv_aload_n hx hb dL_law_1023 rfl (lv_at hl 5 rfl) ?_
  refine lv_iload hx hb dL_law_1024 (lv_at hl 1 rfl) ?_
  refine lv_iconst (v := 1) hx hb dL_law_1026 (by decide) ?_
  refine f_iadd (v := 1) hx hb dL_law_1027 (by decide) ?_
  refine va_sld hx hb hX hbl hbA hS (by unfold vp_in; decide) dL_law_1028 ?_
  refine f_topi (v := p0) (f_xs hs1) ?_
  refine lv_aload_n hx hb dL_law_1029 rfl (lv_at hl 5 rfl) ?_
  refine lv_iload hx hb dL_law_1030 (lv_at hl 1 rfl) ?_
  refine lv_iconst (v := 2) hx hb dL_law_1032 (by decide) ?_
  refine f_iadd (v := 2) hx hb dL_law_1033 (by decide) ?_
  refine va_sld hx hb hX hbl hbA hS (by unfold vp_in; decide) dL_law_1034 ?_
  refine f_topi (v := p1) (f_xs hs2) ?_
  refine f_aft_i (wr := []) (f_runV (As := [.int p0, .int p1]) (rest := []) hx hb hml hown hts (kX12_call l D cI cO cL E M o zb zbp zbj zbc zba fg p0 p1 H.size) (fcwV 2 hts q500 q501 q502 q5 q503 rfl rfl (by decide +kernel) ⟨(Nat.le_of_ble_eq_true rfl), (Nat.le_of_ble_eq_true rfl)⟩) hE hP hD hS hA [0, 1, 2, 3, 4, 5, 6] rfl (by decide) (q0 := 0) (ci := 13) rfl rfl rfl rfl hl.1 rfl (Nat.le_of_ble_eq_true rfl) dL_law_1035 ⟨(Nat.le_of_ble_eq_true rfl), (Nat.le_of_ble_eq_true rfl)⟩) hP hD hS hA [0, 1, 2, 3, 4, 5, 6] [] rfl rfl (by decide) (by decide) (fun r u H locs hr0 hP hD hS => ?_)
  subst hr0
  have hP : va_P D vwCl [(o, .inr (13, [.int 1, .ref zb, .ref fg]))] H := hP
  have hD : va_D A [(o, .inr (13, [.int 1, .ref zb, .ref fg]))] := hD
  refine lv_istore (lv' := [(6, .int 0), (5, .int 1), (4, .int 0), (3, .ref out), (2, .ref o), (1, .ref h), (0, .ref b)]) hx hb dL_law_1038 hl (by decide) rfl (fun ls hl => ?_)
  refine lv_aload_n hx hb dL_law_1040 rfl (lv_at hl 4 rfl) ?_
  refine f_aft_i (wr := []) (f_runV (As := []) (rest := []) hx hb hml hown hts (kX12_thrown l D cI cO cL E M o zb fg 1 H.size) (fcwV 0 hts q186 q187 q188 q5 q189 rfl rfl (by decide +kernel) ⟨(Nat.le_of_ble_eq_true rfl), (Nat.le_of_ble_eq_true rfl)⟩) hE hP hD hS hA [0] rfl (by decide) (q0 := 0) (ci := 13) rfl rfl rfl rfl hl.1 rfl (Nat.le_of_ble_eq_true rfl) dL_law_1041 ⟨(Nat.le_of_ble_eq_true rfl), (Nat.le_of_ble_eq_true rfl)⟩) hP hD hS hA [0] [] rfl rfl (by decide) (by decide) (fun r u H locs hr0 hP hD hS => ?_)
  subst hr0
  have hP : va_P D vwCl [(o, .inr (13, [.int 1, .ref zb, .ref fg]))] H := hP
  have hD : va_D A [(o, .inr (13, [.int 1, .ref zb, .ref fg]))] := hD
  refine lv_iload hx hb dL_law_1044 (lv_at hl 1 rfl) ?_
  refine lv_icmp_eq (tgt := 1051) hx hb dL_law_1046 (by decide) (fun _ => ?_) (fun h => absurd (by decide) h)
  refine lv_iload hx hb dL_law_1051 (lv_at hl 1 rfl) ?_
  refine lv_if_ne (tgt := 1068) hx hb dL_law_1053 (by decide) (fun _ => ?_) (fun h => absurd h (by decide))
  refine lv_goto (tgt := 1758) hx hb dL_law_1068 (by decide) ?_
  refine W.widen (k := 3000) (n := 30000) (Nat.le_of_ble_eq_true rfl) (Nat.le_of_ble_eq_true rfl) ?_
  exact law_end C hS (lv_sub hl [2, 6] rfl)
set_option maxHeartbeats 4000000 in
set_option maxRecDepth 100000 in
theorem law_valve {p : Program} {l : Launch} {e : Env} {s : State} {m : MethodId} {below : List Frame} {meth : Method} {c : Code} {b : Nat} {xs : Nat → Int32} {D : va_G} {cI cO cL : ClassId} {E M : Nat} {A : Nat → Prop} (C : fLC p l s m meth c b xs D cI cO cL E M A) {h f sh sp sj sc sa i1 i2 i3 tsh tsp tsj tsc tsa ti1 ti2 ti3 o zb zbp zbj zbc zba fg out : Nat} (p0 : Int32) (p1 : Int32) (hs1 : (1 : Int32).toNatClampNeg = 1 ∧ xs 1 = p0) (hs2 : (2 : Int32).toNatClampNeg = 2 ∧ xs 2 = p1)  {H : Heap} {locs : List Loc} {ls : Array Slot} (hP : va_P D vwCl [(h, .inr (8, [.ref f, .ref sh, .ref tsh])), (f, .inr (0, [.int 0, .ref E, .int 0])), (sh, .inr (6, [.ref sp, .ref sj, .ref sc, .ref sa, .int 0, .int 3000, .int 0, .int 0, .int 0, .int 0, .int 0, .int 0, .int 0, .int 0, .int 0])), (sp, .inr (0, [.int 0, .ref E, .int 0])), (sj, .inr (0, [.int 0, .ref E, .int 0])), (sc, .inr (0, [.int 0, .ref E, .int 0])), (sa, .inr (1, [.ref i1, .ref i2, .ref i3])), (i1, .inl (cI, 9, .inl (fun _ => 0))), (i2, .inl (cI, 9, .inl (fun _ => 0))), (i3, .inl (cI, 9, .inl (fun _ => 0))), (tsh, .inr (6, [.ref tsp, .ref tsj, .ref tsc, .ref tsa, .int 0, .int 3000, .int 0, .int 0, .int 0, .int 0, .int 0, .int 0, .int 0, .int 0, .int 0])), (tsp, .inr (0, [.int 0, .ref E, .int 0])), (tsj, .inr (0, [.int 0, .ref E, .int 0])), (tsc, .inr (0, [.int 0, .ref E, .int 0])), (tsa, .inr (1, [.ref ti1, .ref ti2, .ref ti3])), (ti1, .inl (cI, 9, .inl (fun _ => 0))), (ti2, .inl (cI, 9, .inl (fun _ => 0))), (ti3, .inl (cI, 9, .inl (fun _ => 0))), (o, .inr (13, [.int 0, .ref zb, .ref fg])), (zb, .inr (9, [.int 0, .int 3000, .int 0, .int 0, .int 0, .ref zbp, .ref zbj, .ref zbc, .ref zba, .int 0, .int 0, .int 0, .int 0, .int 0, .int 0])), (zbp, .inr (0, [.int 0, .ref E, .int 0])), (zbj, .inr (0, [.int 0, .ref E, .int 0])), (zbc, .inr (0, [.int 0, .ref E, .int 0])), (zba, .inr (0, [.int 0, .ref E, .int 0])), (fg, .inr (0, [.int 0, .ref E, .int 0])), (out, .inl (cL, 1, .inr (.inl (fun _ => 0))))] H) (hD : va_D A [(h, .inr (8, [.ref f, .ref sh, .ref tsh])), (f, .inr (0, [.int 0, .ref E, .int 0])), (sh, .inr (6, [.ref sp, .ref sj, .ref sc, .ref sa, .int 0, .int 3000, .int 0, .int 0, .int 0, .int 0, .int 0, .int 0, .int 0, .int 0, .int 0])), (sp, .inr (0, [.int 0, .ref E, .int 0])), (sj, .inr (0, [.int 0, .ref E, .int 0])), (sc, .inr (0, [.int 0, .ref E, .int 0])), (sa, .inr (1, [.ref i1, .ref i2, .ref i3])), (i1, .inl (cI, 9, .inl (fun _ => 0))), (i2, .inl (cI, 9, .inl (fun _ => 0))), (i3, .inl (cI, 9, .inl (fun _ => 0))), (tsh, .inr (6, [.ref tsp, .ref tsj, .ref tsc, .ref tsa, .int 0, .int 3000, .int 0, .int 0, .int 0, .int 0, .int 0, .int 0, .int 0, .int 0, .int 0])), (tsp, .inr (0, [.int 0, .ref E, .int 0])), (tsj, .inr (0, [.int 0, .ref E, .int 0])), (tsc, .inr (0, [.int 0, .ref E, .int 0])), (tsa, .inr (1, [.ref ti1, .ref ti2, .ref ti3])), (ti1, .inl (cI, 9, .inl (fun _ => 0))), (ti2, .inl (cI, 9, .inl (fun _ => 0))), (ti3, .inl (cI, 9, .inl (fun _ => 0))), (o, .inr (13, [.int 0, .ref zb, .ref fg])), (zb, .inr (9, [.int 0, .int 3000, .int 0, .int 0, .int 0, .ref zbp, .ref zbj, .ref zbc, .ref zba, .int 0, .int 0, .int 0, .int 0, .int 0, .int 0])), (zbp, .inr (0, [.int 0, .ref E, .int 0])), (zbj, .inr (0, [.int 0, .ref E, .int 0])), (zbc, .inr (0, [.int 0, .ref E, .int 0])), (zba, .inr (0, [.int 0, .ref E, .int 0])), (fg, .inr (0, [.int 0, .ref E, .int 0])), (out, .inl (cL, 1, .inr (.inl (fun _ => 0))))]) (hS : va_S A s.heap H locs) (hl : lv_has ls 9 [(4, .int 0), (3, .ref out), (2, .ref o), (1, .ref h), (0, .ref b)]) : W p l e room_1 s m #[Value.ref b] below meth c H locs 26 148 (lw_Z below #[Value.ref b] s) (F0 m 504 ls []) := by
  obtain ⟨hx, hb, hr, hml, hown, hts, hX, hbl, hlocks, hl9, hE, hA, hA2⟩ := id C
  have hbA : ¬ A b := fun h => absurd (hA2 b h) (Nat.not_le.mpr hbl)
  refine lv_aload_n hx hb dL_law_504 rfl (lv_at hl 3 rfl) ?_
  refine lv_aload_n hx hb dL_law_505 rfl (lv_at hl 4 rfl) ?_
  refine lv_iload hx hb dL_law_506 (lv_at hl 0 rfl) ?_
  refine lv_iconst (v := 1) hx hb dL_law_508 (by decide) ?_
  refine f_iadd (v := 1) hx hb dL_law_509 (by decide) ?_
  refine va_sld hx hb hX hbl hbA hS (by unfold vp_in; decide) dL_law_510 ?_
  refine f_topi (v := p0) (f_xs hs1) ?_
  refine lv_aload_n hx hb dL_law_511 rfl (lv_at hl 4 rfl) ?_
  refine lv_iload hx hb dL_law_512 (lv_at hl 0 rfl) ?_
  refine lv_iconst (v := 2) hx hb dL_law_514 (by decide) ?_
  refine f_iadd (v := 2) hx hb dL_law_515 (by decide) ?_
  refine va_sld hx hb hX hbl hbA hS (by unfold vp_in; decide) dL_law_516 ?_
  refine f_topi (v := p1) (f_xs hs2) ?_
  refine lv_aload_n hx hb dL_law_517 rfl (lv_at hl 1 rfl) ?_
  refine f_aft_i (wr := [(o, .inr (13, [.int 0, .ref zb, .ref fg])), (zb, .inr (9, [.int 0, .int 3000, .int 0, .int 0, .int 0, .ref zbp, .ref zbj, .ref zbc, .ref zba, .int 0, .int 0, .int 0, .int 0, .int 0, .int 0])), (zbp, .inr (0, [.int 0, .ref E, .int 0])), (zbj, .inr (0, [.int 0, .ref E, .int 0])), (zbc, .inr (0, [.int 0, .ref E, .int 0])), (zba, .inr (0, [.int 0, .ref E, .int 0])), (fg, .inr (0, [.int 0, .ref E, .int 0]))]) (f_runSW (As := [.ref h, .int p0, .int p1, .ref out]) (rest := []) hx hb hml hown hts (kL_valve l hl9 D cI cO cL E M h f sh sp sj sc sa i1 i2 i3 tsh tsp tsj tsc tsa ti1 ti2 ti3 out p0 p1 H.size) (fcwSW 4 hts q332 q333 q80 q334 rfl rfl (by decide +kernel) ⟨(Nat.le_of_ble_eq_true rfl), (Nat.le_of_ble_eq_true rfl)⟩) hE hP hD hS hA [0, 1, 2, 3, 4, 5, 6, 7, 8, 9, 10, 11, 12, 13, 14, 15, 16, 17, 25] rfl (by decide) rfl hl.1 rfl (Nat.le_of_ble_eq_true rfl) dL_law_518 ⟨(Nat.le_of_ble_eq_true rfl), (Nat.le_of_ble_eq_true rfl)⟩) hP hD hS hA [0, 1, 2, 3, 4, 5, 6, 7, 8, 9, 10, 11, 12, 13, 14, 15, 16, 17, 25] [18, 19, 20, 21, 22, 23, 24] rfl rfl (by decide) (by decide) (fun r u H locs hr0 hP hD hS => ?_)
  subst hr0
  have hP : va_P D vwCl [(o, .inr (13, [.int 0, .ref zb, .ref fg])), (zb, .inr (9, [.int 0, .int 3000, .int 0, .int 0, .int 0, .ref zbp, .ref zbj, .ref zbc, .ref zba, .int 0, .int 0, .int 0, .int 0, .int 0, .int 0])), (zbp, .inr (0, [.int 0, .ref E, .int 0])), (zbj, .inr (0, [.int 0, .ref E, .int 0])), (zbc, .inr (0, [.int 0, .ref E, .int 0])), (zba, .inr (0, [.int 0, .ref E, .int 0])), (fg, .inr (0, [.int 0, .ref E, .int 0]))] H := hP
  have hD : va_D A [(o, .inr (13, [.int 0, .ref zb, .ref fg])), (zb, .inr (9, [.int 0, .int 3000, .int 0, .int 0, .int 0, .ref zbp, .ref zbj, .ref zbc, .ref zba, .int 0, .int 0, .int 0, .int 0, .int 0, .int 0])), (zbp, .inr (0, [.int 0, .ref E, .int 0])), (zbj, .inr (0, [.int 0, .ref E, .int 0])), (zbc, .inr (0, [.int 0, .ref E, .int 0])), (zba, .inr (0, [.int 0, .ref E, .int 0])), (fg, .inr (0, [.int 0, .ref E, .int 0]))] := hD
  refine lv_istore (lv' := [(5, .int 1), (4, .int 0), (3, .ref out), (2, .ref o), (1, .ref h), (0, .ref b)]) hx hb dL_law_521 hl (by decide) rfl (fun ls hl => ?_)
  refine lv_aload_n hx hb dL_law_523 rfl (lv_at hl 3 rfl) ?_
  refine lv_aload_n hx hb dL_law_524 rfl (lv_at hl 5 rfl) ?_
  refine lv_iload hx hb dL_law_525 (lv_at hl 1 rfl) ?_
  refine lv_iconst (v := 1) hx hb dL_law_527 (by decide) ?_
  refine f_iadd (v := 1) hx hb dL_law_528 (by decide) ?_
  refine va_sld hx hb hX hbl hbA hS (by unfold vp_in; decide) dL_law_529 ?_
  refine f_topi (v := p0) (f_xs hs1) ?_
  refine lv_aload_n hx hb dL_law_530 rfl (lv_at hl 5 rfl) ?_
  refine lv_iload hx hb dL_law_531 (lv_at hl 1 rfl) ?_
  refine lv_iconst (v := 2) hx hb dL_law_533 (by decide) ?_
  refine f_iadd (v := 2) hx hb dL_law_534 (by decide) ?_
  refine va_sld hx hb hX hbl hbA hS (by unfold vp_in; decide) dL_law_535 ?_
  refine f_topi (v := p1) (f_xs hs2) ?_
  refine f_aft_i (wr := []) (f_runV (As := [.int p0, .int p1]) (rest := []) hx hb hml hown hts (kX12_valve l D cI cO cL E M o zb zbp zbj zbc zba fg p0 p1 H.size) (fcwV 2 hts q346 q347 q348 q5 q349 rfl rfl (by decide +kernel) ⟨(Nat.le_of_ble_eq_true rfl), (Nat.le_of_ble_eq_true rfl)⟩) hE hP hD hS hA [0, 1, 2, 3, 4, 5, 6] rfl (by decide) (q0 := 0) (ci := 13) rfl rfl rfl rfl hl.1 rfl (Nat.le_of_ble_eq_true rfl) dL_law_536 ⟨(Nat.le_of_ble_eq_true rfl), (Nat.le_of_ble_eq_true rfl)⟩) hP hD hS hA [0, 1, 2, 3, 4, 5, 6] [] rfl rfl (by decide) (by decide) (fun r u H locs hr0 hP hD hS => ?_)
  subst hr0
  have hP : va_P D vwCl [(o, .inr (13, [.int 1, .ref zb, .ref fg]))] H := hP
  have hD : va_D A [(o, .inr (13, [.int 1, .ref zb, .ref fg]))] := hD
  refine lv_istore (lv' := [(6, .int 0), (5, .int 1), (4, .int 0), (3, .ref out), (2, .ref o), (1, .ref h), (0, .ref b)]) hx hb dL_law_539 hl (by decide) rfl (fun ls hl => ?_)
  refine lv_aload_n hx hb dL_law_541 rfl (lv_at hl 4 rfl) ?_
  refine f_aft_i (wr := []) (f_runV (As := []) (rest := []) hx hb hml hown hts (kX12_thrown l D cI cO cL E M o zb fg 1 H.size) (fcwV 0 hts q186 q187 q188 q5 q189 rfl rfl (by decide +kernel) ⟨(Nat.le_of_ble_eq_true rfl), (Nat.le_of_ble_eq_true rfl)⟩) hE hP hD hS hA [0] rfl (by decide) (q0 := 0) (ci := 13) rfl rfl rfl rfl hl.1 rfl (Nat.le_of_ble_eq_true rfl) dL_law_542 ⟨(Nat.le_of_ble_eq_true rfl), (Nat.le_of_ble_eq_true rfl)⟩) hP hD hS hA [0] [] rfl rfl (by decide) (by decide) (fun r u H locs hr0 hP hD hS => ?_)
  subst hr0
  have hP : va_P D vwCl [(o, .inr (13, [.int 1, .ref zb, .ref fg]))] H := hP
  have hD : va_D A [(o, .inr (13, [.int 1, .ref zb, .ref fg]))] := hD
  refine lv_iload hx hb dL_law_545 (lv_at hl 1 rfl) ?_
  refine lv_icmp_eq (tgt := 552) hx hb dL_law_547 (by decide) (fun _ => ?_) (fun h => absurd (by decide) h)
  refine lv_iload hx hb dL_law_552 (lv_at hl 1 rfl) ?_
  refine lv_if_ne (tgt := 569) hx hb dL_law_554 (by decide) (fun _ => ?_) (fun h => absurd h (by decide))
  refine lv_goto (tgt := 1758) hx hb dL_law_569 (by decide) ?_
  refine W.widen (k := 3000) (n := 30000) (Nat.le_of_ble_eq_true rfl) (Nat.le_of_ble_eq_true rfl) ?_
  exact law_end C hS (lv_sub hl [2, 6] rfl)
set_option maxHeartbeats 4000000 in
set_option maxRecDepth 100000 in
theorem law_lamp_z {p : Program} {l : Launch} {e : Env} {s : State} {m : MethodId} {below : List Frame} {meth : Method} {c : Code} {b : Nat} {xs : Nat → Int32} {D : va_G} {cI cO cL : ClassId} {E M : Nat} {A : Nat → Prop} (C : fLC p l s m meth c b xs D cI cO cL E M A) {h f sh sp sj sc sa i1 i2 i3 tsh tsp tsj tsc tsa ti1 ti2 ti3 o zb zbp zbj zbc zba fg out : Nat} (p0 : Int32) (p1 : Int32) (hs1 : (1 : Int32).toNatClampNeg = 1 ∧ xs 1 = p0) (hs2 : (2 : Int32).toNatClampNeg = 2 ∧ xs 2 = p1) (hz : p1 = 0) {H : Heap} {locs : List Loc} {ls : Array Slot} (hP : va_P D vwCl [(h, .inr (8, [.ref f, .ref sh, .ref tsh])), (f, .inr (0, [.int 0, .ref E, .int 0])), (sh, .inr (6, [.ref sp, .ref sj, .ref sc, .ref sa, .int 0, .int 3000, .int 0, .int 0, .int 0, .int 0, .int 0, .int 0, .int 0, .int 0, .int 0])), (sp, .inr (0, [.int 0, .ref E, .int 0])), (sj, .inr (0, [.int 0, .ref E, .int 0])), (sc, .inr (0, [.int 0, .ref E, .int 0])), (sa, .inr (1, [.ref i1, .ref i2, .ref i3])), (i1, .inl (cI, 9, .inl (fun _ => 0))), (i2, .inl (cI, 9, .inl (fun _ => 0))), (i3, .inl (cI, 9, .inl (fun _ => 0))), (tsh, .inr (6, [.ref tsp, .ref tsj, .ref tsc, .ref tsa, .int 0, .int 3000, .int 0, .int 0, .int 0, .int 0, .int 0, .int 0, .int 0, .int 0, .int 0])), (tsp, .inr (0, [.int 0, .ref E, .int 0])), (tsj, .inr (0, [.int 0, .ref E, .int 0])), (tsc, .inr (0, [.int 0, .ref E, .int 0])), (tsa, .inr (1, [.ref ti1, .ref ti2, .ref ti3])), (ti1, .inl (cI, 9, .inl (fun _ => 0))), (ti2, .inl (cI, 9, .inl (fun _ => 0))), (ti3, .inl (cI, 9, .inl (fun _ => 0))), (o, .inr (13, [.int 0, .ref zb, .ref fg])), (zb, .inr (9, [.int 0, .int 3000, .int 0, .int 0, .int 0, .ref zbp, .ref zbj, .ref zbc, .ref zba, .int 0, .int 0, .int 0, .int 0, .int 0, .int 0])), (zbp, .inr (0, [.int 0, .ref E, .int 0])), (zbj, .inr (0, [.int 0, .ref E, .int 0])), (zbc, .inr (0, [.int 0, .ref E, .int 0])), (zba, .inr (0, [.int 0, .ref E, .int 0])), (fg, .inr (0, [.int 0, .ref E, .int 0])), (out, .inl (cL, 1, .inr (.inl (fun _ => 0))))] H) (hD : va_D A [(h, .inr (8, [.ref f, .ref sh, .ref tsh])), (f, .inr (0, [.int 0, .ref E, .int 0])), (sh, .inr (6, [.ref sp, .ref sj, .ref sc, .ref sa, .int 0, .int 3000, .int 0, .int 0, .int 0, .int 0, .int 0, .int 0, .int 0, .int 0, .int 0])), (sp, .inr (0, [.int 0, .ref E, .int 0])), (sj, .inr (0, [.int 0, .ref E, .int 0])), (sc, .inr (0, [.int 0, .ref E, .int 0])), (sa, .inr (1, [.ref i1, .ref i2, .ref i3])), (i1, .inl (cI, 9, .inl (fun _ => 0))), (i2, .inl (cI, 9, .inl (fun _ => 0))), (i3, .inl (cI, 9, .inl (fun _ => 0))), (tsh, .inr (6, [.ref tsp, .ref tsj, .ref tsc, .ref tsa, .int 0, .int 3000, .int 0, .int 0, .int 0, .int 0, .int 0, .int 0, .int 0, .int 0, .int 0])), (tsp, .inr (0, [.int 0, .ref E, .int 0])), (tsj, .inr (0, [.int 0, .ref E, .int 0])), (tsc, .inr (0, [.int 0, .ref E, .int 0])), (tsa, .inr (1, [.ref ti1, .ref ti2, .ref ti3])), (ti1, .inl (cI, 9, .inl (fun _ => 0))), (ti2, .inl (cI, 9, .inl (fun _ => 0))), (ti3, .inl (cI, 9, .inl (fun _ => 0))), (o, .inr (13, [.int 0, .ref zb, .ref fg])), (zb, .inr (9, [.int 0, .int 3000, .int 0, .int 0, .int 0, .ref zbp, .ref zbj, .ref zbc, .ref zba, .int 0, .int 0, .int 0, .int 0, .int 0, .int 0])), (zbp, .inr (0, [.int 0, .ref E, .int 0])), (zbj, .inr (0, [.int 0, .ref E, .int 0])), (zbc, .inr (0, [.int 0, .ref E, .int 0])), (zba, .inr (0, [.int 0, .ref E, .int 0])), (fg, .inr (0, [.int 0, .ref E, .int 0])), (out, .inl (cL, 1, .inr (.inl (fun _ => 0))))]) (hS : va_S A s.heap H locs) (hl : lv_has ls 9 [(4, .int 0), (3, .ref out), (2, .ref o), (1, .ref h), (0, .ref b)]) : W p l e room_1 s m #[Value.ref b] below meth c H locs 26 148 (lw_Z below #[Value.ref b] s) (F0 m 696 ls []) := by
  obtain ⟨hx, hb, hr, hml, hown, hts, hX, hbl, hlocks, hl9, hE, hA, hA2⟩ := id C
  have hbA : ¬ A b := fun h => absurd (hA2 b h) (Nat.not_le.mpr hbl)
  refine lv_aload_n hx hb dL_law_696 rfl (lv_at hl 3 rfl) ?_
  refine lv_aload_n hx hb dL_law_697 rfl (lv_at hl 4 rfl) ?_
  refine lv_iload hx hb dL_law_698 (lv_at hl 0 rfl) ?_
  refine lv_iconst (v := 1) hx hb dL_law_700 (by decide) ?_
  refine f_iadd (v := 1) hx hb dL_law_701 (by decide) ?_
  refine va_sld hx hb hX hbl hbA hS (by unfold vp_in; decide) dL_law_702 ?_
  refine f_topi (v := p0) (f_xs hs1) ?_
  refine lv_aload_n hx hb dL_law_703 rfl (lv_at hl 4 rfl) ?_
  refine lv_iload hx hb dL_law_704 (lv_at hl 0 rfl) ?_
  refine lv_iconst (v := 2) hx hb dL_law_706 (by decide) ?_
  refine f_iadd (v := 2) hx hb dL_law_707 (by decide) ?_
  refine va_sld hx hb hX hbl hbA hS (by unfold vp_in; decide) dL_law_708 ?_
  refine f_topi (v := p1) (f_xs hs2) ?_
  refine lv_if_eq (tgt := 716) hx hb dL_law_709 (by decide) (fun _ => ?_) (fun h => absurd hz h)
  refine lv_iconst (v := 0) hx hb dL_law_716 (by decide) ?_
  refine lv_aload_n hx hb dL_law_717 rfl (lv_at hl 1 rfl) ?_
  refine f_aft_i (wr := [(o, .inr (13, [.int 0, .ref zb, .ref fg])), (zb, .inr (9, [.int 0, .int 3000, .int 0, .int 0, .int 0, .ref zbp, .ref zbj, .ref zbc, .ref zba, .int 0, .int 0, .int 0, .int 0, .int 0, .int 0])), (zbp, .inr (0, [.int 0, .ref E, .int 0])), (zbj, .inr (0, [.int 0, .ref E, .int 0])), (zbc, .inr (0, [.int 0, .ref E, .int 0])), (zba, .inr (0, [.int 0, .ref E, .int 0])), (fg, .inr (0, [.int 0, .ref E, .int 0]))]) (f_runSW (As := [.ref h, .int p0, .int 0, .ref out]) (rest := []) hx hb hml hown hts (kL_lamp l hl9 D cI cO cL E M h f sh sp sj sc sa i1 i2 i3 tsh tsp tsj tsc tsa ti1 ti2 ti3 out p0 0 H.size) (fcwSW 4 hts q394 q395 q80 q396 rfl rfl (by decide +kernel) ⟨(Nat.le_of_ble_eq_true rfl), (Nat.le_of_ble_eq_true rfl)⟩) hE hP hD hS hA [0, 1, 2, 3, 4, 5, 6, 7, 8, 9, 10, 11, 12, 13, 14, 15, 16, 17, 25] rfl (by decide) rfl hl.1 rfl (Nat.le_of_ble_eq_true rfl) dL_law_718 ⟨(Nat.le_of_ble_eq_true rfl), (Nat.le_of_ble_eq_true rfl)⟩) hP hD hS hA [0, 1, 2, 3, 4, 5, 6, 7, 8, 9, 10, 11, 12, 13, 14, 15, 16, 17, 25] [18, 19, 20, 21, 22, 23, 24] rfl rfl (by decide) (by decide) (fun r u H locs hr0 hP hD hS => ?_)
  subst hr0
  have hP : va_P D vwCl [(o, .inr (13, [.int 0, .ref zb, .ref fg])), (zb, .inr (9, [.int 0, .int 3000, .int 0, .int 0, .int 0, .ref zbp, .ref zbj, .ref zbc, .ref zba, .int 0, .int 0, .int 0, .int 0, .int 0, .int 0])), (zbp, .inr (0, [.int 0, .ref E, .int 0])), (zbj, .inr (0, [.int 0, .ref E, .int 0])), (zbc, .inr (0, [.int 0, .ref E, .int 0])), (zba, .inr (0, [.int 0, .ref E, .int 0])), (fg, .inr (0, [.int 0, .ref E, .int 0]))] H := hP
  have hD : va_D A [(o, .inr (13, [.int 0, .ref zb, .ref fg])), (zb, .inr (9, [.int 0, .int 3000, .int 0, .int 0, .int 0, .ref zbp, .ref zbj, .ref zbc, .ref zba, .int 0, .int 0, .int 0, .int 0, .int 0, .int 0])), (zbp, .inr (0, [.int 0, .ref E, .int 0])), (zbj, .inr (0, [.int 0, .ref E, .int 0])), (zbc, .inr (0, [.int 0, .ref E, .int 0])), (zba, .inr (0, [.int 0, .ref E, .int 0])), (fg, .inr (0, [.int 0, .ref E, .int 0]))] := hD
  refine lv_istore (lv' := [(5, .int 1), (4, .int 0), (3, .ref out), (2, .ref o), (1, .ref h), (0, .ref b)]) hx hb dL_law_721 hl (by decide) rfl (fun ls hl => ?_)
  refine lv_aload_n hx hb dL_law_723 rfl (lv_at hl 3 rfl) ?_
  refine lv_aload_n hx hb dL_law_724 rfl (lv_at hl 5 rfl) ?_
  refine lv_iload hx hb dL_law_725 (lv_at hl 1 rfl) ?_
  refine lv_iconst (v := 1) hx hb dL_law_727 (by decide) ?_
  refine f_iadd (v := 1) hx hb dL_law_728 (by decide) ?_
  refine va_sld hx hb hX hbl hbA hS (by unfold vp_in; decide) dL_law_729 ?_
  refine f_topi (v := p0) (f_xs hs1) ?_
  refine lv_aload_n hx hb dL_law_730 rfl (lv_at hl 5 rfl) ?_
  refine lv_iload hx hb dL_law_731 (lv_at hl 1 rfl) ?_
  refine lv_iconst (v := 2) hx hb dL_law_733 (by decide) ?_
  refine f_iadd (v := 2) hx hb dL_law_734 (by decide) ?_
  refine va_sld hx hb hX hbl hbA hS (by unfold vp_in; decide) dL_law_735 ?_
  refine f_topi (v := p1) (f_xs hs2) ?_
  refine lv_if_eq (tgt := 743) hx hb dL_law_736 (by decide) (fun _ => ?_) (fun h => absurd hz h)
  refine lv_iconst (v := 0) hx hb dL_law_743 (by decide) ?_
  refine f_aft_i (wr := []) (f_runV (As := [.int p0, .int 0]) (rest := []) hx hb hml hown hts (kX12_lamp l D cI cO cL E M o zb zbp zbj zbc zba fg p0 0 H.size) (fcwV 2 hts q402 q403 q404 q5 q405 rfl rfl (by decide +kernel) ⟨(Nat.le_of_ble_eq_true rfl), (Nat.le_of_ble_eq_true rfl)⟩) hE hP hD hS hA [0, 1, 2, 3, 4, 5, 6] rfl (by decide) (q0 := 0) (ci := 13) rfl rfl rfl rfl hl.1 rfl (Nat.le_of_ble_eq_true rfl) dL_law_744 ⟨(Nat.le_of_ble_eq_true rfl), (Nat.le_of_ble_eq_true rfl)⟩) hP hD hS hA [0, 1, 2, 3, 4, 5, 6] [] rfl rfl (by decide) (by decide) (fun r u H locs hr0 hP hD hS => ?_)
  subst hr0
  have hP : va_P D vwCl [(o, .inr (13, [.int 1, .ref zb, .ref fg]))] H := hP
  have hD : va_D A [(o, .inr (13, [.int 1, .ref zb, .ref fg]))] := hD
  refine lv_istore (lv' := [(6, .int 0), (5, .int 1), (4, .int 0), (3, .ref out), (2, .ref o), (1, .ref h), (0, .ref b)]) hx hb dL_law_747 hl (by decide) rfl (fun ls hl => ?_)
  refine lv_aload_n hx hb dL_law_749 rfl (lv_at hl 4 rfl) ?_
  refine f_aft_i (wr := []) (f_runV (As := []) (rest := []) hx hb hml hown hts (kX12_thrown l D cI cO cL E M o zb fg 1 H.size) (fcwV 0 hts q186 q187 q188 q5 q189 rfl rfl (by decide +kernel) ⟨(Nat.le_of_ble_eq_true rfl), (Nat.le_of_ble_eq_true rfl)⟩) hE hP hD hS hA [0] rfl (by decide) (q0 := 0) (ci := 13) rfl rfl rfl rfl hl.1 rfl (Nat.le_of_ble_eq_true rfl) dL_law_750 ⟨(Nat.le_of_ble_eq_true rfl), (Nat.le_of_ble_eq_true rfl)⟩) hP hD hS hA [0] [] rfl rfl (by decide) (by decide) (fun r u H locs hr0 hP hD hS => ?_)
  subst hr0
  have hP : va_P D vwCl [(o, .inr (13, [.int 1, .ref zb, .ref fg]))] H := hP
  have hD : va_D A [(o, .inr (13, [.int 1, .ref zb, .ref fg]))] := hD
  refine lv_iload hx hb dL_law_753 (lv_at hl 1 rfl) ?_
  refine lv_icmp_eq (tgt := 760) hx hb dL_law_755 (by decide) (fun _ => ?_) (fun h => absurd (by decide) h)
  refine lv_iload hx hb dL_law_760 (lv_at hl 1 rfl) ?_
  refine lv_if_ne (tgt := 784) hx hb dL_law_762 (by decide) (fun _ => ?_) (fun h => absurd h (by decide))
  refine lv_goto (tgt := 1758) hx hb dL_law_784 (by decide) ?_
  refine W.widen (k := 3000) (n := 30000) (Nat.le_of_ble_eq_true rfl) (Nat.le_of_ble_eq_true rfl) ?_
  exact law_end C hS (lv_sub hl [2, 6] rfl)
set_option maxHeartbeats 4000000 in
set_option maxRecDepth 100000 in
theorem law_lamp_n {p : Program} {l : Launch} {e : Env} {s : State} {m : MethodId} {below : List Frame} {meth : Method} {c : Code} {b : Nat} {xs : Nat → Int32} {D : va_G} {cI cO cL : ClassId} {E M : Nat} {A : Nat → Prop} (C : fLC p l s m meth c b xs D cI cO cL E M A) {h f sh sp sj sc sa i1 i2 i3 tsh tsp tsj tsc tsa ti1 ti2 ti3 o zb zbp zbj zbc zba fg out : Nat} (p0 : Int32) (p1 : Int32) (hs1 : (1 : Int32).toNatClampNeg = 1 ∧ xs 1 = p0) (hs2 : (2 : Int32).toNatClampNeg = 2 ∧ xs 2 = p1) (hz : ¬ p1 = 0) {H : Heap} {locs : List Loc} {ls : Array Slot} (hP : va_P D vwCl [(h, .inr (8, [.ref f, .ref sh, .ref tsh])), (f, .inr (0, [.int 0, .ref E, .int 0])), (sh, .inr (6, [.ref sp, .ref sj, .ref sc, .ref sa, .int 0, .int 3000, .int 0, .int 0, .int 0, .int 0, .int 0, .int 0, .int 0, .int 0, .int 0])), (sp, .inr (0, [.int 0, .ref E, .int 0])), (sj, .inr (0, [.int 0, .ref E, .int 0])), (sc, .inr (0, [.int 0, .ref E, .int 0])), (sa, .inr (1, [.ref i1, .ref i2, .ref i3])), (i1, .inl (cI, 9, .inl (fun _ => 0))), (i2, .inl (cI, 9, .inl (fun _ => 0))), (i3, .inl (cI, 9, .inl (fun _ => 0))), (tsh, .inr (6, [.ref tsp, .ref tsj, .ref tsc, .ref tsa, .int 0, .int 3000, .int 0, .int 0, .int 0, .int 0, .int 0, .int 0, .int 0, .int 0, .int 0])), (tsp, .inr (0, [.int 0, .ref E, .int 0])), (tsj, .inr (0, [.int 0, .ref E, .int 0])), (tsc, .inr (0, [.int 0, .ref E, .int 0])), (tsa, .inr (1, [.ref ti1, .ref ti2, .ref ti3])), (ti1, .inl (cI, 9, .inl (fun _ => 0))), (ti2, .inl (cI, 9, .inl (fun _ => 0))), (ti3, .inl (cI, 9, .inl (fun _ => 0))), (o, .inr (13, [.int 0, .ref zb, .ref fg])), (zb, .inr (9, [.int 0, .int 3000, .int 0, .int 0, .int 0, .ref zbp, .ref zbj, .ref zbc, .ref zba, .int 0, .int 0, .int 0, .int 0, .int 0, .int 0])), (zbp, .inr (0, [.int 0, .ref E, .int 0])), (zbj, .inr (0, [.int 0, .ref E, .int 0])), (zbc, .inr (0, [.int 0, .ref E, .int 0])), (zba, .inr (0, [.int 0, .ref E, .int 0])), (fg, .inr (0, [.int 0, .ref E, .int 0])), (out, .inl (cL, 1, .inr (.inl (fun _ => 0))))] H) (hD : va_D A [(h, .inr (8, [.ref f, .ref sh, .ref tsh])), (f, .inr (0, [.int 0, .ref E, .int 0])), (sh, .inr (6, [.ref sp, .ref sj, .ref sc, .ref sa, .int 0, .int 3000, .int 0, .int 0, .int 0, .int 0, .int 0, .int 0, .int 0, .int 0, .int 0])), (sp, .inr (0, [.int 0, .ref E, .int 0])), (sj, .inr (0, [.int 0, .ref E, .int 0])), (sc, .inr (0, [.int 0, .ref E, .int 0])), (sa, .inr (1, [.ref i1, .ref i2, .ref i3])), (i1, .inl (cI, 9, .inl (fun _ => 0))), (i2, .inl (cI, 9, .inl (fun _ => 0))), (i3, .inl (cI, 9, .inl (fun _ => 0))), (tsh, .inr (6, [.ref tsp, .ref tsj, .ref tsc, .ref tsa, .int 0, .int 3000, .int 0, .int 0, .int 0, .int 0, .int 0, .int 0, .int 0, .int 0, .int 0])), (tsp, .inr (0, [.int 0, .ref E, .int 0])), (tsj, .inr (0, [.int 0, .ref E, .int 0])), (tsc, .inr (0, [.int 0, .ref E, .int 0])), (tsa, .inr (1, [.ref ti1, .ref ti2, .ref ti3])), (ti1, .inl (cI, 9, .inl (fun _ => 0))), (ti2, .inl (cI, 9, .inl (fun _ => 0))), (ti3, .inl (cI, 9, .inl (fun _ => 0))), (o, .inr (13, [.int 0, .ref zb, .ref fg])), (zb, .inr (9, [.int 0, .int 3000, .int 0, .int 0, .int 0, .ref zbp, .ref zbj, .ref zbc, .ref zba, .int 0, .int 0, .int 0, .int 0, .int 0, .int 0])), (zbp, .inr (0, [.int 0, .ref E, .int 0])), (zbj, .inr (0, [.int 0, .ref E, .int 0])), (zbc, .inr (0, [.int 0, .ref E, .int 0])), (zba, .inr (0, [.int 0, .ref E, .int 0])), (fg, .inr (0, [.int 0, .ref E, .int 0])), (out, .inl (cL, 1, .inr (.inl (fun _ => 0))))]) (hS : va_S A s.heap H locs) (hl : lv_has ls 9 [(4, .int 0), (3, .ref out), (2, .ref o), (1, .ref h), (0, .ref b)]) : W p l e room_1 s m #[Value.ref b] below meth c H locs 26 148 (lw_Z below #[Value.ref b] s) (F0 m 696 ls []) := by
  obtain ⟨hx, hb, hr, hml, hown, hts, hX, hbl, hlocks, hl9, hE, hA, hA2⟩ := id C
  have hbA : ¬ A b := fun h => absurd (hA2 b h) (Nat.not_le.mpr hbl)
  refine lv_aload_n hx hb dL_law_696 rfl (lv_at hl 3 rfl) ?_
  refine lv_aload_n hx hb dL_law_697 rfl (lv_at hl 4 rfl) ?_
  refine lv_iload hx hb dL_law_698 (lv_at hl 0 rfl) ?_
  refine lv_iconst (v := 1) hx hb dL_law_700 (by decide) ?_
  refine f_iadd (v := 1) hx hb dL_law_701 (by decide) ?_
  refine va_sld hx hb hX hbl hbA hS (by unfold vp_in; decide) dL_law_702 ?_
  refine f_topi (v := p0) (f_xs hs1) ?_
  refine lv_aload_n hx hb dL_law_703 rfl (lv_at hl 4 rfl) ?_
  refine lv_iload hx hb dL_law_704 (lv_at hl 0 rfl) ?_
  refine lv_iconst (v := 2) hx hb dL_law_706 (by decide) ?_
  refine f_iadd (v := 2) hx hb dL_law_707 (by decide) ?_
  refine va_sld hx hb hX hbl hbA hS (by unfold vp_in; decide) dL_law_708 ?_
  refine f_topi (v := p1) (f_xs hs2) ?_
  refine lv_if_eq (tgt := 716) hx hb dL_law_709 (by decide) (fun h => absurd h hz) (fun _ => ?_)
  refine lv_iconst (v := 1) hx hb dL_law_712 (by decide) ?_
  refine lv_goto (tgt := 717) hx hb dL_law_713 (by decide) ?_
  refine lv_aload_n hx hb dL_law_717 rfl (lv_at hl 1 rfl) ?_
  refine f_aft_i (wr := [(o, .inr (13, [.int 0, .ref zb, .ref fg])), (zb, .inr (9, [.int 0, .int 3000, .int 0, .int 0, .int 0, .ref zbp, .ref zbj, .ref zbc, .ref zba, .int 0, .int 0, .int 0, .int 0, .int 0, .int 0])), (zbp, .inr (0, [.int 0, .ref E, .int 0])), (zbj, .inr (0, [.int 0, .ref E, .int 0])), (zbc, .inr (0, [.int 0, .ref E, .int 0])), (zba, .inr (0, [.int 0, .ref E, .int 0])), (fg, .inr (0, [.int 0, .ref E, .int 0]))]) (f_runSW (As := [.ref h, .int p0, .int 1, .ref out]) (rest := []) hx hb hml hown hts (kL_lamp l hl9 D cI cO cL E M h f sh sp sj sc sa i1 i2 i3 tsh tsp tsj tsc tsa ti1 ti2 ti3 out p0 1 H.size) (fcwSW 4 hts q394 q395 q80 q396 rfl rfl (by decide +kernel) ⟨(Nat.le_of_ble_eq_true rfl), (Nat.le_of_ble_eq_true rfl)⟩) hE hP hD hS hA [0, 1, 2, 3, 4, 5, 6, 7, 8, 9, 10, 11, 12, 13, 14, 15, 16, 17, 25] rfl (by decide) rfl hl.1 rfl (Nat.le_of_ble_eq_true rfl) dL_law_718 ⟨(Nat.le_of_ble_eq_true rfl), (Nat.le_of_ble_eq_true rfl)⟩) hP hD hS hA [0, 1, 2, 3, 4, 5, 6, 7, 8, 9, 10, 11, 12, 13, 14, 15, 16, 17, 25] [18, 19, 20, 21, 22, 23, 24] rfl rfl (by decide) (by decide) (fun r u H locs hr0 hP hD hS => ?_)
  subst hr0
  have hP : va_P D vwCl [(o, .inr (13, [.int 0, .ref zb, .ref fg])), (zb, .inr (9, [.int 0, .int 3000, .int 0, .int 0, .int 0, .ref zbp, .ref zbj, .ref zbc, .ref zba, .int 0, .int 0, .int 0, .int 0, .int 0, .int 0])), (zbp, .inr (0, [.int 0, .ref E, .int 0])), (zbj, .inr (0, [.int 0, .ref E, .int 0])), (zbc, .inr (0, [.int 0, .ref E, .int 0])), (zba, .inr (0, [.int 0, .ref E, .int 0])), (fg, .inr (0, [.int 0, .ref E, .int 0]))] H := hP
  have hD : va_D A [(o, .inr (13, [.int 0, .ref zb, .ref fg])), (zb, .inr (9, [.int 0, .int 3000, .int 0, .int 0, .int 0, .ref zbp, .ref zbj, .ref zbc, .ref zba, .int 0, .int 0, .int 0, .int 0, .int 0, .int 0])), (zbp, .inr (0, [.int 0, .ref E, .int 0])), (zbj, .inr (0, [.int 0, .ref E, .int 0])), (zbc, .inr (0, [.int 0, .ref E, .int 0])), (zba, .inr (0, [.int 0, .ref E, .int 0])), (fg, .inr (0, [.int 0, .ref E, .int 0]))] := hD
  refine lv_istore (lv' := [(5, .int 1), (4, .int 0), (3, .ref out), (2, .ref o), (1, .ref h), (0, .ref b)]) hx hb dL_law_721 hl (by decide) rfl (fun ls hl => ?_)
  refine lv_aload_n hx hb dL_law_723 rfl (lv_at hl 3 rfl) ?_
  refine lv_aload_n hx hb dL_law_724 rfl (lv_at hl 5 rfl) ?_
  refine lv_iload hx hb dL_law_725 (lv_at hl 1 rfl) ?_
  refine lv_iconst (v := 1) hx hb dL_law_727 (by decide) ?_
  refine f_iadd (v := 1) hx hb dL_law_728 (by decide) ?_
  refine va_sld hx hb hX hbl hbA hS (by unfold vp_in; decide) dL_law_729 ?_
  refine f_topi (v := p0) (f_xs hs1) ?_
  refine lv_aload_n hx hb dL_law_730 rfl (lv_at hl 5 rfl) ?_
  refine lv_iload hx hb dL_law_731 (lv_at hl 1 rfl) ?_
  refine lv_iconst (v := 2) hx hb dL_law_733 (by decide) ?_
  refine f_iadd (v := 2) hx hb dL_law_734 (by decide) ?_
  refine va_sld hx hb hX hbl hbA hS (by unfold vp_in; decide) dL_law_735 ?_
  refine f_topi (v := p1) (f_xs hs2) ?_
  refine lv_if_eq (tgt := 743) hx hb dL_law_736 (by decide) (fun h => absurd h hz) (fun _ => ?_)
  refine lv_iconst (v := 1) hx hb dL_law_739 (by decide) ?_
  refine lv_goto (tgt := 744) hx hb dL_law_740 (by decide) ?_
  refine f_aft_i (wr := []) (f_runV (As := [.int p0, .int 1]) (rest := []) hx hb hml hown hts (kX12_lamp l D cI cO cL E M o zb zbp zbj zbc zba fg p0 1 H.size) (fcwV 2 hts q402 q403 q404 q5 q405 rfl rfl (by decide +kernel) ⟨(Nat.le_of_ble_eq_true rfl), (Nat.le_of_ble_eq_true rfl)⟩) hE hP hD hS hA [0, 1, 2, 3, 4, 5, 6] rfl (by decide) (q0 := 0) (ci := 13) rfl rfl rfl rfl hl.1 rfl (Nat.le_of_ble_eq_true rfl) dL_law_744 ⟨(Nat.le_of_ble_eq_true rfl), (Nat.le_of_ble_eq_true rfl)⟩) hP hD hS hA [0, 1, 2, 3, 4, 5, 6] [] rfl rfl (by decide) (by decide) (fun r u H locs hr0 hP hD hS => ?_)
  subst hr0
  have hP : va_P D vwCl [(o, .inr (13, [.int 1, .ref zb, .ref fg]))] H := hP
  have hD : va_D A [(o, .inr (13, [.int 1, .ref zb, .ref fg]))] := hD
  refine lv_istore (lv' := [(6, .int 0), (5, .int 1), (4, .int 0), (3, .ref out), (2, .ref o), (1, .ref h), (0, .ref b)]) hx hb dL_law_747 hl (by decide) rfl (fun ls hl => ?_)
  refine lv_aload_n hx hb dL_law_749 rfl (lv_at hl 4 rfl) ?_
  refine f_aft_i (wr := []) (f_runV (As := []) (rest := []) hx hb hml hown hts (kX12_thrown l D cI cO cL E M o zb fg 1 H.size) (fcwV 0 hts q186 q187 q188 q5 q189 rfl rfl (by decide +kernel) ⟨(Nat.le_of_ble_eq_true rfl), (Nat.le_of_ble_eq_true rfl)⟩) hE hP hD hS hA [0] rfl (by decide) (q0 := 0) (ci := 13) rfl rfl rfl rfl hl.1 rfl (Nat.le_of_ble_eq_true rfl) dL_law_750 ⟨(Nat.le_of_ble_eq_true rfl), (Nat.le_of_ble_eq_true rfl)⟩) hP hD hS hA [0] [] rfl rfl (by decide) (by decide) (fun r u H locs hr0 hP hD hS => ?_)
  subst hr0
  have hP : va_P D vwCl [(o, .inr (13, [.int 1, .ref zb, .ref fg]))] H := hP
  have hD : va_D A [(o, .inr (13, [.int 1, .ref zb, .ref fg]))] := hD
  refine lv_iload hx hb dL_law_753 (lv_at hl 1 rfl) ?_
  refine lv_icmp_eq (tgt := 760) hx hb dL_law_755 (by decide) (fun _ => ?_) (fun h => absurd (by decide) h)
  refine lv_iload hx hb dL_law_760 (lv_at hl 1 rfl) ?_
  refine lv_if_ne (tgt := 784) hx hb dL_law_762 (by decide) (fun _ => ?_) (fun h => absurd h (by decide))
  refine lv_goto (tgt := 1758) hx hb dL_law_784 (by decide) ?_
  refine W.widen (k := 3000) (n := 30000) (Nat.le_of_ble_eq_true rfl) (Nat.le_of_ble_eq_true rfl) ?_
  exact law_end C hS (lv_sub hl [2, 6] rfl)
set_option maxHeartbeats 4000000 in
set_option maxRecDepth 100000 in
theorem law_fault_00 {p : Program} {l : Launch} {e : Env} {s : State} {m : MethodId} {below : List Frame} {meth : Method} {c : Code} {b : Nat} {xs : Nat → Int32} {D : va_G} {cI cO cL : ClassId} {E M : Nat} {A : Nat → Prop} (C : fLC p l s m meth c b xs D cI cO cL E M A) {h f sh sp sj sc sa i1 i2 i3 tsh tsp tsj tsc tsa ti1 ti2 ti3 o zb zbp zbj zbc zba fg out : Nat} (p0 : Int32) (p1 : Int32) (p2 : Int32) (hs1 : (1 : Int32).toNatClampNeg = 1 ∧ xs 1 = p0) (hs2 : (2 : Int32).toNatClampNeg = 2 ∧ xs 2 = p1) (hs3 : (3 : Int32).toNatClampNeg = 3 ∧ xs 3 = p2) (hy : p1 = 0) (hz : p2 = 0) {H : Heap} {locs : List Loc} {ls : Array Slot} (hP : va_P D vwCl [(h, .inr (8, [.ref f, .ref sh, .ref tsh])), (f, .inr (0, [.int 0, .ref E, .int 0])), (sh, .inr (6, [.ref sp, .ref sj, .ref sc, .ref sa, .int 0, .int 3000, .int 0, .int 0, .int 0, .int 0, .int 0, .int 0, .int 0, .int 0, .int 0])), (sp, .inr (0, [.int 0, .ref E, .int 0])), (sj, .inr (0, [.int 0, .ref E, .int 0])), (sc, .inr (0, [.int 0, .ref E, .int 0])), (sa, .inr (1, [.ref i1, .ref i2, .ref i3])), (i1, .inl (cI, 9, .inl (fun _ => 0))), (i2, .inl (cI, 9, .inl (fun _ => 0))), (i3, .inl (cI, 9, .inl (fun _ => 0))), (tsh, .inr (6, [.ref tsp, .ref tsj, .ref tsc, .ref tsa, .int 0, .int 3000, .int 0, .int 0, .int 0, .int 0, .int 0, .int 0, .int 0, .int 0, .int 0])), (tsp, .inr (0, [.int 0, .ref E, .int 0])), (tsj, .inr (0, [.int 0, .ref E, .int 0])), (tsc, .inr (0, [.int 0, .ref E, .int 0])), (tsa, .inr (1, [.ref ti1, .ref ti2, .ref ti3])), (ti1, .inl (cI, 9, .inl (fun _ => 0))), (ti2, .inl (cI, 9, .inl (fun _ => 0))), (ti3, .inl (cI, 9, .inl (fun _ => 0))), (o, .inr (13, [.int 0, .ref zb, .ref fg])), (zb, .inr (9, [.int 0, .int 3000, .int 0, .int 0, .int 0, .ref zbp, .ref zbj, .ref zbc, .ref zba, .int 0, .int 0, .int 0, .int 0, .int 0, .int 0])), (zbp, .inr (0, [.int 0, .ref E, .int 0])), (zbj, .inr (0, [.int 0, .ref E, .int 0])), (zbc, .inr (0, [.int 0, .ref E, .int 0])), (zba, .inr (0, [.int 0, .ref E, .int 0])), (fg, .inr (0, [.int 0, .ref E, .int 0])), (out, .inl (cL, 1, .inr (.inl (fun _ => 0))))] H) (hD : va_D A [(h, .inr (8, [.ref f, .ref sh, .ref tsh])), (f, .inr (0, [.int 0, .ref E, .int 0])), (sh, .inr (6, [.ref sp, .ref sj, .ref sc, .ref sa, .int 0, .int 3000, .int 0, .int 0, .int 0, .int 0, .int 0, .int 0, .int 0, .int 0, .int 0])), (sp, .inr (0, [.int 0, .ref E, .int 0])), (sj, .inr (0, [.int 0, .ref E, .int 0])), (sc, .inr (0, [.int 0, .ref E, .int 0])), (sa, .inr (1, [.ref i1, .ref i2, .ref i3])), (i1, .inl (cI, 9, .inl (fun _ => 0))), (i2, .inl (cI, 9, .inl (fun _ => 0))), (i3, .inl (cI, 9, .inl (fun _ => 0))), (tsh, .inr (6, [.ref tsp, .ref tsj, .ref tsc, .ref tsa, .int 0, .int 3000, .int 0, .int 0, .int 0, .int 0, .int 0, .int 0, .int 0, .int 0, .int 0])), (tsp, .inr (0, [.int 0, .ref E, .int 0])), (tsj, .inr (0, [.int 0, .ref E, .int 0])), (tsc, .inr (0, [.int 0, .ref E, .int 0])), (tsa, .inr (1, [.ref ti1, .ref ti2, .ref ti3])), (ti1, .inl (cI, 9, .inl (fun _ => 0))), (ti2, .inl (cI, 9, .inl (fun _ => 0))), (ti3, .inl (cI, 9, .inl (fun _ => 0))), (o, .inr (13, [.int 0, .ref zb, .ref fg])), (zb, .inr (9, [.int 0, .int 3000, .int 0, .int 0, .int 0, .ref zbp, .ref zbj, .ref zbc, .ref zba, .int 0, .int 0, .int 0, .int 0, .int 0, .int 0])), (zbp, .inr (0, [.int 0, .ref E, .int 0])), (zbj, .inr (0, [.int 0, .ref E, .int 0])), (zbc, .inr (0, [.int 0, .ref E, .int 0])), (zba, .inr (0, [.int 0, .ref E, .int 0])), (fg, .inr (0, [.int 0, .ref E, .int 0])), (out, .inl (cL, 1, .inr (.inl (fun _ => 0))))]) (hS : va_S A s.heap H locs) (hl : lv_has ls 9 [(4, .int 0), (3, .ref out), (2, .ref o), (1, .ref h), (0, .ref b)]) : W p l e room_1 s m #[Value.ref b] below meth c H locs 26 148 (lw_Z below #[Value.ref b] s) (F0 m 787 ls []) := by
  obtain ⟨hx, hb, hr, hml, hown, hts, hX, hbl, hlocks, hl9, hE, hA, hA2⟩ := id C
  have hbA : ¬ A b := fun h => absurd (hA2 b h) (Nat.not_le.mpr hbl)
  refine lv_aload_n hx hb dL_law_787 rfl (lv_at hl 3 rfl) ?_
  refine lv_aload_n hx hb dL_law_788 rfl (lv_at hl 4 rfl) ?_
  refine lv_iload hx hb dL_law_789 (lv_at hl 0 rfl) ?_
  refine lv_iconst (v := 1) hx hb dL_law_791 (by decide) ?_
  refine f_iadd (v := 1) hx hb dL_law_792 (by decide) ?_
  refine va_sld hx hb hX hbl hbA hS (by unfold vp_in; decide) dL_law_793 ?_
  refine f_topi (v := p0) (f_xs hs1) ?_
  refine lv_aload_n hx hb dL_law_794 rfl (lv_at hl 4 rfl) ?_
  refine lv_iload hx hb dL_law_795 (lv_at hl 0 rfl) ?_
  refine lv_iconst (v := 2) hx hb dL_law_797 (by decide) ?_
  refine f_iadd (v := 2) hx hb dL_law_798 (by decide) ?_
  refine va_sld hx hb hX hbl hbA hS (by unfold vp_in; decide) dL_law_799 ?_
  refine f_topi (v := p1) (f_xs hs2) ?_
  refine lv_if_eq (tgt := 807) hx hb dL_law_800 (by decide) (fun _ => ?_) (fun h => absurd hy h)
  refine lv_iconst (v := 0) hx hb dL_law_807 (by decide) ?_
  refine lv_aload_n hx hb dL_law_808 rfl (lv_at hl 4 rfl) ?_
  refine lv_iload hx hb dL_law_809 (lv_at hl 0 rfl) ?_
  refine lv_iconst (v := 3) hx hb dL_law_811 (by decide) ?_
  refine f_iadd (v := 3) hx hb dL_law_812 (by decide) ?_
  refine va_sld hx hb hX hbl hbA hS (by unfold vp_in; decide) dL_law_813 ?_
  refine f_topi (v := p2) (f_xs hs3) ?_
  refine lv_if_eq (tgt := 821) hx hb dL_law_814 (by decide) (fun _ => ?_) (fun h => absurd hz h)
  refine lv_iconst (v := 0) hx hb dL_law_821 (by decide) ?_
  refine lv_aload_n hx hb dL_law_822 rfl (lv_at hl 1 rfl) ?_
  refine f_aft_i (wr := [(o, .inr (13, [.int 0, .ref zb, .ref fg])), (zb, .inr (9, [.int 0, .int 3000, .int 0, .int 0, .int 0, .ref zbp, .ref zbj, .ref zbc, .ref zba, .int 0, .int 0, .int 0, .int 0, .int 0, .int 0])), (zbp, .inr (0, [.int 0, .ref E, .int 0])), (zbj, .inr (0, [.int 0, .ref E, .int 0])), (zbc, .inr (0, [.int 0, .ref E, .int 0])), (zba, .inr (0, [.int 0, .ref E, .int 0])), (fg, .inr (0, [.int 0, .ref E, .int 0]))]) (f_runSW (As := [.ref h, .int p0, .int 0, .int 0, .ref out]) (rest := []) hx hb hml hown hts (kL_fault l hl9 D cI cO cL E M h f sh sp sj sc sa i1 i2 i3 tsh tsp tsj tsc tsa ti1 ti2 ti3 out p0 0 0 H.size) (fcwSW 5 hts q407 q408 q80 q409 rfl rfl (by decide +kernel) ⟨(Nat.le_of_ble_eq_true rfl), (Nat.le_of_ble_eq_true rfl)⟩) hE hP hD hS hA [0, 1, 2, 3, 4, 5, 6, 7, 8, 9, 10, 11, 12, 13, 14, 15, 16, 17, 25] rfl (by decide) rfl hl.1 rfl (Nat.le_of_ble_eq_true rfl) dL_law_823 ⟨(Nat.le_of_ble_eq_true rfl), (Nat.le_of_ble_eq_true rfl)⟩) hP hD hS hA [0, 1, 2, 3, 4, 5, 6, 7, 8, 9, 10, 11, 12, 13, 14, 15, 16, 17, 25] [18, 19, 20, 21, 22, 23, 24] rfl rfl (by decide) (by decide) (fun r u H locs hr0 hP hD hS => ?_)
  subst hr0
  have hP : va_P D vwCl [(o, .inr (13, [.int 0, .ref zb, .ref fg])), (zb, .inr (9, [.int 0, .int 3000, .int 0, .int 0, .int 0, .ref zbp, .ref zbj, .ref zbc, .ref zba, .int 0, .int 0, .int 0, .int 0, .int 0, .int 0])), (zbp, .inr (0, [.int 0, .ref E, .int 0])), (zbj, .inr (0, [.int 0, .ref E, .int 0])), (zbc, .inr (0, [.int 0, .ref E, .int 0])), (zba, .inr (0, [.int 0, .ref E, .int 0])), (fg, .inr (0, [.int 0, .ref E, .int 0]))] H := hP
  have hD : va_D A [(o, .inr (13, [.int 0, .ref zb, .ref fg])), (zb, .inr (9, [.int 0, .int 3000, .int 0, .int 0, .int 0, .ref zbp, .ref zbj, .ref zbc, .ref zba, .int 0, .int 0, .int 0, .int 0, .int 0, .int 0])), (zbp, .inr (0, [.int 0, .ref E, .int 0])), (zbj, .inr (0, [.int 0, .ref E, .int 0])), (zbc, .inr (0, [.int 0, .ref E, .int 0])), (zba, .inr (0, [.int 0, .ref E, .int 0])), (fg, .inr (0, [.int 0, .ref E, .int 0]))] := hD
  refine lv_istore (lv' := [(5, .int 1), (4, .int 0), (3, .ref out), (2, .ref o), (1, .ref h), (0, .ref b)]) hx hb dL_law_826 hl (by decide) rfl (fun ls hl => ?_)
  refine lv_aload_n hx hb dL_law_828 rfl (lv_at hl 3 rfl) ?_
  refine lv_aload_n hx hb dL_law_829 rfl (lv_at hl 5 rfl) ?_
  refine lv_iload hx hb dL_law_830 (lv_at hl 1 rfl) ?_
  refine lv_iconst (v := 1) hx hb dL_law_832 (by decide) ?_
  refine f_iadd (v := 1) hx hb dL_law_833 (by decide) ?_
  refine va_sld hx hb hX hbl hbA hS (by unfold vp_in; decide) dL_law_834 ?_
  refine f_topi (v := p0) (f_xs hs1) ?_
  refine lv_aload_n hx hb dL_law_835 rfl (lv_at hl 5 rfl) ?_
  refine lv_iload hx hb dL_law_836 (lv_at hl 1 rfl) ?_
  refine lv_iconst (v := 2) hx hb dL_law_838 (by decide) ?_
  refine f_iadd (v := 2) hx hb dL_law_839 (by decide) ?_
  refine va_sld hx hb hX hbl hbA hS (by unfold vp_in; decide) dL_law_840 ?_
  refine f_topi (v := p1) (f_xs hs2) ?_
  refine lv_if_eq (tgt := 848) hx hb dL_law_841 (by decide) (fun _ => ?_) (fun h => absurd hy h)
  refine lv_iconst (v := 0) hx hb dL_law_848 (by decide) ?_
  refine lv_aload_n hx hb dL_law_849 rfl (lv_at hl 5 rfl) ?_
  refine lv_iload hx hb dL_law_850 (lv_at hl 1 rfl) ?_
  refine lv_iconst (v := 3) hx hb dL_law_852 (by decide) ?_
  refine f_iadd (v := 3) hx hb dL_law_853 (by decide) ?_
  refine va_sld hx hb hX hbl hbA hS (by unfold vp_in; decide) dL_law_854 ?_
  refine f_topi (v := p2) (f_xs hs3) ?_
  refine lv_if_eq (tgt := 862) hx hb dL_law_855 (by decide) (fun _ => ?_) (fun h => absurd hz h)
  refine lv_iconst (v := 0) hx hb dL_law_862 (by decide) ?_
  refine f_aft_i (wr := []) (f_runV (As := [.int p0, .int 0, .int 0]) (rest := []) hx hb hml hown hts (kX12_fault l D cI cO cL E M o zb zbp zbj zbc zba fg p0 0 0 H.size) (fcwV 3 hts q416 q417 q418 q5 q419 rfl rfl (by decide +kernel) ⟨(Nat.le_of_ble_eq_true rfl), (Nat.le_of_ble_eq_true rfl)⟩) hE hP hD hS hA [0, 1, 2, 3, 4, 5, 6] rfl (by decide) (q0 := 0) (ci := 13) rfl rfl rfl rfl hl.1 rfl (Nat.le_of_ble_eq_true rfl) dL_law_863 ⟨(Nat.le_of_ble_eq_true rfl), (Nat.le_of_ble_eq_true rfl)⟩) hP hD hS hA [0, 1, 2, 3, 4, 5, 6] [] rfl rfl (by decide) (by decide) (fun r u H locs hr0 hP hD hS => ?_)
  subst hr0
  have hP : va_P D vwCl [(o, .inr (13, [.int 1, .ref zb, .ref fg]))] H := hP
  have hD : va_D A [(o, .inr (13, [.int 1, .ref zb, .ref fg]))] := hD
  refine lv_istore (lv' := [(6, .int 0), (5, .int 1), (4, .int 0), (3, .ref out), (2, .ref o), (1, .ref h), (0, .ref b)]) hx hb dL_law_866 hl (by decide) rfl (fun ls hl => ?_)
  refine lv_aload_n hx hb dL_law_868 rfl (lv_at hl 4 rfl) ?_
  refine f_aft_i (wr := []) (f_runV (As := []) (rest := []) hx hb hml hown hts (kX12_thrown l D cI cO cL E M o zb fg 1 H.size) (fcwV 0 hts q186 q187 q188 q5 q189 rfl rfl (by decide +kernel) ⟨(Nat.le_of_ble_eq_true rfl), (Nat.le_of_ble_eq_true rfl)⟩) hE hP hD hS hA [0] rfl (by decide) (q0 := 0) (ci := 13) rfl rfl rfl rfl hl.1 rfl (Nat.le_of_ble_eq_true rfl) dL_law_869 ⟨(Nat.le_of_ble_eq_true rfl), (Nat.le_of_ble_eq_true rfl)⟩) hP hD hS hA [0] [] rfl rfl (by decide) (by decide) (fun r u H locs hr0 hP hD hS => ?_)
  subst hr0
  have hP : va_P D vwCl [(o, .inr (13, [.int 1, .ref zb, .ref fg]))] H := hP
  have hD : va_D A [(o, .inr (13, [.int 1, .ref zb, .ref fg]))] := hD
  refine lv_iload hx hb dL_law_872 (lv_at hl 1 rfl) ?_
  refine lv_icmp_eq (tgt := 879) hx hb dL_law_874 (by decide) (fun _ => ?_) (fun h => absurd (by decide) h)
  refine lv_iload hx hb dL_law_879 (lv_at hl 1 rfl) ?_
  refine lv_if_ne (tgt := 903) hx hb dL_law_881 (by decide) (fun _ => ?_) (fun h => absurd h (by decide))
  refine lv_goto (tgt := 1758) hx hb dL_law_903 (by decide) ?_
  refine W.widen (k := 3000) (n := 30000) (Nat.le_of_ble_eq_true rfl) (Nat.le_of_ble_eq_true rfl) ?_
  exact law_end C hS (lv_sub hl [2, 6] rfl)
set_option maxHeartbeats 4000000 in
set_option maxRecDepth 100000 in
theorem law_fault_01 {p : Program} {l : Launch} {e : Env} {s : State} {m : MethodId} {below : List Frame} {meth : Method} {c : Code} {b : Nat} {xs : Nat → Int32} {D : va_G} {cI cO cL : ClassId} {E M : Nat} {A : Nat → Prop} (C : fLC p l s m meth c b xs D cI cO cL E M A) {h f sh sp sj sc sa i1 i2 i3 tsh tsp tsj tsc tsa ti1 ti2 ti3 o zb zbp zbj zbc zba fg out : Nat} (p0 : Int32) (p1 : Int32) (p2 : Int32) (hs1 : (1 : Int32).toNatClampNeg = 1 ∧ xs 1 = p0) (hs2 : (2 : Int32).toNatClampNeg = 2 ∧ xs 2 = p1) (hs3 : (3 : Int32).toNatClampNeg = 3 ∧ xs 3 = p2) (hy : p1 = 0) (hz : ¬ p2 = 0) {H : Heap} {locs : List Loc} {ls : Array Slot} (hP : va_P D vwCl [(h, .inr (8, [.ref f, .ref sh, .ref tsh])), (f, .inr (0, [.int 0, .ref E, .int 0])), (sh, .inr (6, [.ref sp, .ref sj, .ref sc, .ref sa, .int 0, .int 3000, .int 0, .int 0, .int 0, .int 0, .int 0, .int 0, .int 0, .int 0, .int 0])), (sp, .inr (0, [.int 0, .ref E, .int 0])), (sj, .inr (0, [.int 0, .ref E, .int 0])), (sc, .inr (0, [.int 0, .ref E, .int 0])), (sa, .inr (1, [.ref i1, .ref i2, .ref i3])), (i1, .inl (cI, 9, .inl (fun _ => 0))), (i2, .inl (cI, 9, .inl (fun _ => 0))), (i3, .inl (cI, 9, .inl (fun _ => 0))), (tsh, .inr (6, [.ref tsp, .ref tsj, .ref tsc, .ref tsa, .int 0, .int 3000, .int 0, .int 0, .int 0, .int 0, .int 0, .int 0, .int 0, .int 0, .int 0])), (tsp, .inr (0, [.int 0, .ref E, .int 0])), (tsj, .inr (0, [.int 0, .ref E, .int 0])), (tsc, .inr (0, [.int 0, .ref E, .int 0])), (tsa, .inr (1, [.ref ti1, .ref ti2, .ref ti3])), (ti1, .inl (cI, 9, .inl (fun _ => 0))), (ti2, .inl (cI, 9, .inl (fun _ => 0))), (ti3, .inl (cI, 9, .inl (fun _ => 0))), (o, .inr (13, [.int 0, .ref zb, .ref fg])), (zb, .inr (9, [.int 0, .int 3000, .int 0, .int 0, .int 0, .ref zbp, .ref zbj, .ref zbc, .ref zba, .int 0, .int 0, .int 0, .int 0, .int 0, .int 0])), (zbp, .inr (0, [.int 0, .ref E, .int 0])), (zbj, .inr (0, [.int 0, .ref E, .int 0])), (zbc, .inr (0, [.int 0, .ref E, .int 0])), (zba, .inr (0, [.int 0, .ref E, .int 0])), (fg, .inr (0, [.int 0, .ref E, .int 0])), (out, .inl (cL, 1, .inr (.inl (fun _ => 0))))] H) (hD : va_D A [(h, .inr (8, [.ref f, .ref sh, .ref tsh])), (f, .inr (0, [.int 0, .ref E, .int 0])), (sh, .inr (6, [.ref sp, .ref sj, .ref sc, .ref sa, .int 0, .int 3000, .int 0, .int 0, .int 0, .int 0, .int 0, .int 0, .int 0, .int 0, .int 0])), (sp, .inr (0, [.int 0, .ref E, .int 0])), (sj, .inr (0, [.int 0, .ref E, .int 0])), (sc, .inr (0, [.int 0, .ref E, .int 0])), (sa, .inr (1, [.ref i1, .ref i2, .ref i3])), (i1, .inl (cI, 9, .inl (fun _ => 0))), (i2, .inl (cI, 9, .inl (fun _ => 0))), (i3, .inl (cI, 9, .inl (fun _ => 0))), (tsh, .inr (6, [.ref tsp, .ref tsj, .ref tsc, .ref tsa, .int 0, .int 3000, .int 0, .int 0, .int 0, .int 0, .int 0, .int 0, .int 0, .int 0, .int 0])), (tsp, .inr (0, [.int 0, .ref E, .int 0])), (tsj, .inr (0, [.int 0, .ref E, .int 0])), (tsc, .inr (0, [.int 0, .ref E, .int 0])), (tsa, .inr (1, [.ref ti1, .ref ti2, .ref ti3])), (ti1, .inl (cI, 9, .inl (fun _ => 0))), (ti2, .inl (cI, 9, .inl (fun _ => 0))), (ti3, .inl (cI, 9, .inl (fun _ => 0))), (o, .inr (13, [.int 0, .ref zb, .ref fg])), (zb, .inr (9, [.int 0, .int 3000, .int 0, .int 0, .int 0, .ref zbp, .ref zbj, .ref zbc, .ref zba, .int 0, .int 0, .int 0, .int 0, .int 0, .int 0])), (zbp, .inr (0, [.int 0, .ref E, .int 0])), (zbj, .inr (0, [.int 0, .ref E, .int 0])), (zbc, .inr (0, [.int 0, .ref E, .int 0])), (zba, .inr (0, [.int 0, .ref E, .int 0])), (fg, .inr (0, [.int 0, .ref E, .int 0])), (out, .inl (cL, 1, .inr (.inl (fun _ => 0))))]) (hS : va_S A s.heap H locs) (hl : lv_has ls 9 [(4, .int 0), (3, .ref out), (2, .ref o), (1, .ref h), (0, .ref b)]) : W p l e room_1 s m #[Value.ref b] below meth c H locs 26 148 (lw_Z below #[Value.ref b] s) (F0 m 787 ls []) := by
  obtain ⟨hx, hb, hr, hml, hown, hts, hX, hbl, hlocks, hl9, hE, hA, hA2⟩ := id C
  have hbA : ¬ A b := fun h => absurd (hA2 b h) (Nat.not_le.mpr hbl)
  refine lv_aload_n hx hb dL_law_787 rfl (lv_at hl 3 rfl) ?_
  refine lv_aload_n hx hb dL_law_788 rfl (lv_at hl 4 rfl) ?_
  refine lv_iload hx hb dL_law_789 (lv_at hl 0 rfl) ?_
  refine lv_iconst (v := 1) hx hb dL_law_791 (by decide) ?_
  refine f_iadd (v := 1) hx hb dL_law_792 (by decide) ?_
  refine va_sld hx hb hX hbl hbA hS (by unfold vp_in; decide) dL_law_793 ?_
  refine f_topi (v := p0) (f_xs hs1) ?_
  refine lv_aload_n hx hb dL_law_794 rfl (lv_at hl 4 rfl) ?_
  refine lv_iload hx hb dL_law_795 (lv_at hl 0 rfl) ?_
  refine lv_iconst (v := 2) hx hb dL_law_797 (by decide) ?_
  refine f_iadd (v := 2) hx hb dL_law_798 (by decide) ?_
  refine va_sld hx hb hX hbl hbA hS (by unfold vp_in; decide) dL_law_799 ?_
  refine f_topi (v := p1) (f_xs hs2) ?_
  refine lv_if_eq (tgt := 807) hx hb dL_law_800 (by decide) (fun _ => ?_) (fun h => absurd hy h)
  refine lv_iconst (v := 0) hx hb dL_law_807 (by decide) ?_
  refine lv_aload_n hx hb dL_law_808 rfl (lv_at hl 4 rfl) ?_
  refine lv_iload hx hb dL_law_809 (lv_at hl 0 rfl) ?_
  refine lv_iconst (v := 3) hx hb dL_law_811 (by decide) ?_
  refine f_iadd (v := 3) hx hb dL_law_812 (by decide) ?_
  refine va_sld hx hb hX hbl hbA hS (by unfold vp_in; decide) dL_law_813 ?_
  refine f_topi (v := p2) (f_xs hs3) ?_
  refine lv_if_eq (tgt := 821) hx hb dL_law_814 (by decide) (fun h => absurd h hz) (fun _ => ?_)
  refine lv_iconst (v := 1) hx hb dL_law_817 (by decide) ?_
  refine lv_goto (tgt := 822) hx hb dL_law_818 (by decide) ?_
  refine lv_aload_n hx hb dL_law_822 rfl (lv_at hl 1 rfl) ?_
  refine f_aft_i (wr := [(o, .inr (13, [.int 0, .ref zb, .ref fg])), (zb, .inr (9, [.int 0, .int 3000, .int 0, .int 0, .int 0, .ref zbp, .ref zbj, .ref zbc, .ref zba, .int 0, .int 0, .int 0, .int 0, .int 0, .int 0])), (zbp, .inr (0, [.int 0, .ref E, .int 0])), (zbj, .inr (0, [.int 0, .ref E, .int 0])), (zbc, .inr (0, [.int 0, .ref E, .int 0])), (zba, .inr (0, [.int 0, .ref E, .int 0])), (fg, .inr (0, [.int 0, .ref E, .int 0]))]) (f_runSW (As := [.ref h, .int p0, .int 0, .int 1, .ref out]) (rest := []) hx hb hml hown hts (kL_fault l hl9 D cI cO cL E M h f sh sp sj sc sa i1 i2 i3 tsh tsp tsj tsc tsa ti1 ti2 ti3 out p0 0 1 H.size) (fcwSW 5 hts q407 q408 q80 q409 rfl rfl (by decide +kernel) ⟨(Nat.le_of_ble_eq_true rfl), (Nat.le_of_ble_eq_true rfl)⟩) hE hP hD hS hA [0, 1, 2, 3, 4, 5, 6, 7, 8, 9, 10, 11, 12, 13, 14, 15, 16, 17, 25] rfl (by decide) rfl hl.1 rfl (Nat.le_of_ble_eq_true rfl) dL_law_823 ⟨(Nat.le_of_ble_eq_true rfl), (Nat.le_of_ble_eq_true rfl)⟩) hP hD hS hA [0, 1, 2, 3, 4, 5, 6, 7, 8, 9, 10, 11, 12, 13, 14, 15, 16, 17, 25] [18, 19, 20, 21, 22, 23, 24] rfl rfl (by decide) (by decide) (fun r u H locs hr0 hP hD hS => ?_)
  subst hr0
  have hP : va_P D vwCl [(o, .inr (13, [.int 0, .ref zb, .ref fg])), (zb, .inr (9, [.int 0, .int 3000, .int 0, .int 0, .int 0, .ref zbp, .ref zbj, .ref zbc, .ref zba, .int 0, .int 0, .int 0, .int 0, .int 0, .int 0])), (zbp, .inr (0, [.int 0, .ref E, .int 0])), (zbj, .inr (0, [.int 0, .ref E, .int 0])), (zbc, .inr (0, [.int 0, .ref E, .int 0])), (zba, .inr (0, [.int 0, .ref E, .int 0])), (fg, .inr (0, [.int 0, .ref E, .int 0]))] H := hP
  have hD : va_D A [(o, .inr (13, [.int 0, .ref zb, .ref fg])), (zb, .inr (9, [.int 0, .int 3000, .int 0, .int 0, .int 0, .ref zbp, .ref zbj, .ref zbc, .ref zba, .int 0, .int 0, .int 0, .int 0, .int 0, .int 0])), (zbp, .inr (0, [.int 0, .ref E, .int 0])), (zbj, .inr (0, [.int 0, .ref E, .int 0])), (zbc, .inr (0, [.int 0, .ref E, .int 0])), (zba, .inr (0, [.int 0, .ref E, .int 0])), (fg, .inr (0, [.int 0, .ref E, .int 0]))] := hD
  refine lv_istore (lv' := [(5, .int 1), (4, .int 0), (3, .ref out), (2, .ref o), (1, .ref h), (0, .ref b)]) hx hb dL_law_826 hl (by decide) rfl (fun ls hl => ?_)
  refine lv_aload_n hx hb dL_law_828 rfl (lv_at hl 3 rfl) ?_
  refine lv_aload_n hx hb dL_law_829 rfl (lv_at hl 5 rfl) ?_
  refine lv_iload hx hb dL_law_830 (lv_at hl 1 rfl) ?_
  refine lv_iconst (v := 1) hx hb dL_law_832 (by decide) ?_
  refine f_iadd (v := 1) hx hb dL_law_833 (by decide) ?_
  refine va_sld hx hb hX hbl hbA hS (by unfold vp_in; decide) dL_law_834 ?_
  refine f_topi (v := p0) (f_xs hs1) ?_
  refine lv_aload_n hx hb dL_law_835 rfl (lv_at hl 5 rfl) ?_
  refine lv_iload hx hb dL_law_836 (lv_at hl 1 rfl) ?_
  refine lv_iconst (v := 2) hx hb dL_law_838 (by decide) ?_
  refine f_iadd (v := 2) hx hb dL_law_839 (by decide) ?_
  refine va_sld hx hb hX hbl hbA hS (by unfold vp_in; decide) dL_law_840 ?_
  refine f_topi (v := p1) (f_xs hs2) ?_
  refine lv_if_eq (tgt := 848) hx hb dL_law_841 (by decide) (fun _ => ?_) (fun h => absurd hy h)
  refine lv_iconst (v := 0) hx hb dL_law_848 (by decide) ?_
  refine lv_aload_n hx hb dL_law_849 rfl (lv_at hl 5 rfl) ?_
  refine lv_iload hx hb dL_law_850 (lv_at hl 1 rfl) ?_
  refine lv_iconst (v := 3) hx hb dL_law_852 (by decide) ?_
  refine f_iadd (v := 3) hx hb dL_law_853 (by decide) ?_
  refine va_sld hx hb hX hbl hbA hS (by unfold vp_in; decide) dL_law_854 ?_
  refine f_topi (v := p2) (f_xs hs3) ?_
  refine lv_if_eq (tgt := 862) hx hb dL_law_855 (by decide) (fun h => absurd h hz) (fun _ => ?_)
  refine lv_iconst (v := 1) hx hb dL_law_858 (by decide) ?_
  refine lv_goto (tgt := 863) hx hb dL_law_859 (by decide) ?_
  refine f_aft_i (wr := []) (f_runV (As := [.int p0, .int 0, .int 1]) (rest := []) hx hb hml hown hts (kX12_fault l D cI cO cL E M o zb zbp zbj zbc zba fg p0 0 1 H.size) (fcwV 3 hts q416 q417 q418 q5 q419 rfl rfl (by decide +kernel) ⟨(Nat.le_of_ble_eq_true rfl), (Nat.le_of_ble_eq_true rfl)⟩) hE hP hD hS hA [0, 1, 2, 3, 4, 5, 6] rfl (by decide) (q0 := 0) (ci := 13) rfl rfl rfl rfl hl.1 rfl (Nat.le_of_ble_eq_true rfl) dL_law_863 ⟨(Nat.le_of_ble_eq_true rfl), (Nat.le_of_ble_eq_true rfl)⟩) hP hD hS hA [0, 1, 2, 3, 4, 5, 6] [] rfl rfl (by decide) (by decide) (fun r u H locs hr0 hP hD hS => ?_)
  subst hr0
  have hP : va_P D vwCl [(o, .inr (13, [.int 1, .ref zb, .ref fg]))] H := hP
  have hD : va_D A [(o, .inr (13, [.int 1, .ref zb, .ref fg]))] := hD
  refine lv_istore (lv' := [(6, .int 0), (5, .int 1), (4, .int 0), (3, .ref out), (2, .ref o), (1, .ref h), (0, .ref b)]) hx hb dL_law_866 hl (by decide) rfl (fun ls hl => ?_)
  refine lv_aload_n hx hb dL_law_868 rfl (lv_at hl 4 rfl) ?_
  refine f_aft_i (wr := []) (f_runV (As := []) (rest := []) hx hb hml hown hts (kX12_thrown l D cI cO cL E M o zb fg 1 H.size) (fcwV 0 hts q186 q187 q188 q5 q189 rfl rfl (by decide +kernel) ⟨(Nat.le_of_ble_eq_true rfl), (Nat.le_of_ble_eq_true rfl)⟩) hE hP hD hS hA [0] rfl (by decide) (q0 := 0) (ci := 13) rfl rfl rfl rfl hl.1 rfl (Nat.le_of_ble_eq_true rfl) dL_law_869 ⟨(Nat.le_of_ble_eq_true rfl), (Nat.le_of_ble_eq_true rfl)⟩) hP hD hS hA [0] [] rfl rfl (by decide) (by decide) (fun r u H locs hr0 hP hD hS => ?_)
  subst hr0
  have hP : va_P D vwCl [(o, .inr (13, [.int 1, .ref zb, .ref fg]))] H := hP
  have hD : va_D A [(o, .inr (13, [.int 1, .ref zb, .ref fg]))] := hD
  refine lv_iload hx hb dL_law_872 (lv_at hl 1 rfl) ?_
  refine lv_icmp_eq (tgt := 879) hx hb dL_law_874 (by decide) (fun _ => ?_) (fun h => absurd (by decide) h)
  refine lv_iload hx hb dL_law_879 (lv_at hl 1 rfl) ?_
  refine lv_if_ne (tgt := 903) hx hb dL_law_881 (by decide) (fun _ => ?_) (fun h => absurd h (by decide))
  refine lv_goto (tgt := 1758) hx hb dL_law_903 (by decide) ?_
  refine W.widen (k := 3000) (n := 30000) (Nat.le_of_ble_eq_true rfl) (Nat.le_of_ble_eq_true rfl) ?_
  exact law_end C hS (lv_sub hl [2, 6] rfl)
set_option maxHeartbeats 4000000 in
set_option maxRecDepth 100000 in
theorem law_fault_10 {p : Program} {l : Launch} {e : Env} {s : State} {m : MethodId} {below : List Frame} {meth : Method} {c : Code} {b : Nat} {xs : Nat → Int32} {D : va_G} {cI cO cL : ClassId} {E M : Nat} {A : Nat → Prop} (C : fLC p l s m meth c b xs D cI cO cL E M A) {h f sh sp sj sc sa i1 i2 i3 tsh tsp tsj tsc tsa ti1 ti2 ti3 o zb zbp zbj zbc zba fg out : Nat} (p0 : Int32) (p1 : Int32) (p2 : Int32) (hs1 : (1 : Int32).toNatClampNeg = 1 ∧ xs 1 = p0) (hs2 : (2 : Int32).toNatClampNeg = 2 ∧ xs 2 = p1) (hs3 : (3 : Int32).toNatClampNeg = 3 ∧ xs 3 = p2) (hy : ¬ p1 = 0) (hz : p2 = 0) {H : Heap} {locs : List Loc} {ls : Array Slot} (hP : va_P D vwCl [(h, .inr (8, [.ref f, .ref sh, .ref tsh])), (f, .inr (0, [.int 0, .ref E, .int 0])), (sh, .inr (6, [.ref sp, .ref sj, .ref sc, .ref sa, .int 0, .int 3000, .int 0, .int 0, .int 0, .int 0, .int 0, .int 0, .int 0, .int 0, .int 0])), (sp, .inr (0, [.int 0, .ref E, .int 0])), (sj, .inr (0, [.int 0, .ref E, .int 0])), (sc, .inr (0, [.int 0, .ref E, .int 0])), (sa, .inr (1, [.ref i1, .ref i2, .ref i3])), (i1, .inl (cI, 9, .inl (fun _ => 0))), (i2, .inl (cI, 9, .inl (fun _ => 0))), (i3, .inl (cI, 9, .inl (fun _ => 0))), (tsh, .inr (6, [.ref tsp, .ref tsj, .ref tsc, .ref tsa, .int 0, .int 3000, .int 0, .int 0, .int 0, .int 0, .int 0, .int 0, .int 0, .int 0, .int 0])), (tsp, .inr (0, [.int 0, .ref E, .int 0])), (tsj, .inr (0, [.int 0, .ref E, .int 0])), (tsc, .inr (0, [.int 0, .ref E, .int 0])), (tsa, .inr (1, [.ref ti1, .ref ti2, .ref ti3])), (ti1, .inl (cI, 9, .inl (fun _ => 0))), (ti2, .inl (cI, 9, .inl (fun _ => 0))), (ti3, .inl (cI, 9, .inl (fun _ => 0))), (o, .inr (13, [.int 0, .ref zb, .ref fg])), (zb, .inr (9, [.int 0, .int 3000, .int 0, .int 0, .int 0, .ref zbp, .ref zbj, .ref zbc, .ref zba, .int 0, .int 0, .int 0, .int 0, .int 0, .int 0])), (zbp, .inr (0, [.int 0, .ref E, .int 0])), (zbj, .inr (0, [.int 0, .ref E, .int 0])), (zbc, .inr (0, [.int 0, .ref E, .int 0])), (zba, .inr (0, [.int 0, .ref E, .int 0])), (fg, .inr (0, [.int 0, .ref E, .int 0])), (out, .inl (cL, 1, .inr (.inl (fun _ => 0))))] H) (hD : va_D A [(h, .inr (8, [.ref f, .ref sh, .ref tsh])), (f, .inr (0, [.int 0, .ref E, .int 0])), (sh, .inr (6, [.ref sp, .ref sj, .ref sc, .ref sa, .int 0, .int 3000, .int 0, .int 0, .int 0, .int 0, .int 0, .int 0, .int 0, .int 0, .int 0])), (sp, .inr (0, [.int 0, .ref E, .int 0])), (sj, .inr (0, [.int 0, .ref E, .int 0])), (sc, .inr (0, [.int 0, .ref E, .int 0])), (sa, .inr (1, [.ref i1, .ref i2, .ref i3])), (i1, .inl (cI, 9, .inl (fun _ => 0))), (i2, .inl (cI, 9, .inl (fun _ => 0))), (i3, .inl (cI, 9, .inl (fun _ => 0))), (tsh, .inr (6, [.ref tsp, .ref tsj, .ref tsc, .ref tsa, .int 0, .int 3000, .int 0, .int 0, .int 0, .int 0, .int 0, .int 0, .int 0, .int 0, .int 0])), (tsp, .inr (0, [.int 0, .ref E, .int 0])), (tsj, .inr (0, [.int 0, .ref E, .int 0])), (tsc, .inr (0, [.int 0, .ref E, .int 0])), (tsa, .inr (1, [.ref ti1, .ref ti2, .ref ti3])), (ti1, .inl (cI, 9, .inl (fun _ => 0))), (ti2, .inl (cI, 9, .inl (fun _ => 0))), (ti3, .inl (cI, 9, .inl (fun _ => 0))), (o, .inr (13, [.int 0, .ref zb, .ref fg])), (zb, .inr (9, [.int 0, .int 3000, .int 0, .int 0, .int 0, .ref zbp, .ref zbj, .ref zbc, .ref zba, .int 0, .int 0, .int 0, .int 0, .int 0, .int 0])), (zbp, .inr (0, [.int 0, .ref E, .int 0])), (zbj, .inr (0, [.int 0, .ref E, .int 0])), (zbc, .inr (0, [.int 0, .ref E, .int 0])), (zba, .inr (0, [.int 0, .ref E, .int 0])), (fg, .inr (0, [.int 0, .ref E, .int 0])), (out, .inl (cL, 1, .inr (.inl (fun _ => 0))))]) (hS : va_S A s.heap H locs) (hl : lv_has ls 9 [(4, .int 0), (3, .ref out), (2, .ref o), (1, .ref h), (0, .ref b)]) : W p l e room_1 s m #[Value.ref b] below meth c H locs 26 148 (lw_Z below #[Value.ref b] s) (F0 m 787 ls []) := by
  obtain ⟨hx, hb, hr, hml, hown, hts, hX, hbl, hlocks, hl9, hE, hA, hA2⟩ := id C
  have hbA : ¬ A b := fun h => absurd (hA2 b h) (Nat.not_le.mpr hbl)
  refine lv_aload_n hx hb dL_law_787 rfl (lv_at hl 3 rfl) ?_
  refine lv_aload_n hx hb dL_law_788 rfl (lv_at hl 4 rfl) ?_
  refine lv_iload hx hb dL_law_789 (lv_at hl 0 rfl) ?_
  refine lv_iconst (v := 1) hx hb dL_law_791 (by decide) ?_
  refine f_iadd (v := 1) hx hb dL_law_792 (by decide) ?_
  refine va_sld hx hb hX hbl hbA hS (by unfold vp_in; decide) dL_law_793 ?_
  refine f_topi (v := p0) (f_xs hs1) ?_
  refine lv_aload_n hx hb dL_law_794 rfl (lv_at hl 4 rfl) ?_
  refine lv_iload hx hb dL_law_795 (lv_at hl 0 rfl) ?_
  refine lv_iconst (v := 2) hx hb dL_law_797 (by decide) ?_
  refine f_iadd (v := 2) hx hb dL_law_798 (by decide) ?_
  refine va_sld hx hb hX hbl hbA hS (by unfold vp_in; decide) dL_law_799 ?_
  refine f_topi (v := p1) (f_xs hs2) ?_
  refine lv_if_eq (tgt := 807) hx hb dL_law_800 (by decide) (fun h => absurd h hy) (fun _ => ?_)
  refine lv_iconst (v := 1) hx hb dL_law_803 (by decide) ?_
  refine lv_goto (tgt := 808) hx hb dL_law_804 (by decide) ?_
  refine lv_aload_n hx hb dL_law_808 rfl (lv_at hl 4 rfl) ?_
  refine lv_iload hx hb dL_law_809 (lv_at hl 0 rfl) ?_
  refine lv_iconst (v := 3) hx hb dL_law_811 (by decide) ?_
  refine f_iadd (v := 3) hx hb dL_law_812 (by decide) ?_
  refine va_sld hx hb hX hbl hbA hS (by unfold vp_in; decide) dL_law_813 ?_
  refine f_topi (v := p2) (f_xs hs3) ?_
  refine lv_if_eq (tgt := 821) hx hb dL_law_814 (by decide) (fun _ => ?_) (fun h => absurd hz h)
  refine lv_iconst (v := 0) hx hb dL_law_821 (by decide) ?_
  refine lv_aload_n hx hb dL_law_822 rfl (lv_at hl 1 rfl) ?_
  refine f_aft_i (wr := [(o, .inr (13, [.int 0, .ref zb, .ref fg])), (zb, .inr (9, [.int 0, .int 3000, .int 0, .int 0, .int 0, .ref zbp, .ref zbj, .ref zbc, .ref zba, .int 0, .int 0, .int 0, .int 0, .int 0, .int 0])), (zbp, .inr (0, [.int 0, .ref E, .int 0])), (zbj, .inr (0, [.int 0, .ref E, .int 0])), (zbc, .inr (0, [.int 0, .ref E, .int 0])), (zba, .inr (0, [.int 0, .ref E, .int 0])), (fg, .inr (0, [.int 0, .ref E, .int 0]))]) (f_runSW (As := [.ref h, .int p0, .int 1, .int 0, .ref out]) (rest := []) hx hb hml hown hts (kL_fault l hl9 D cI cO cL E M h f sh sp sj sc sa i1 i2 i3 tsh tsp tsj tsc tsa ti1 ti2 ti3 out p0 1 0 H.size) (fcwSW 5 hts q407 q408 q80 q409 rfl rfl (by decide +kernel) ⟨(Nat.le_of_ble_eq_true rfl), (Nat.le_of_ble_eq_true rfl)⟩) hE hP hD hS hA [0, 1, 2, 3, 4, 5, 6, 7, 8, 9, 10, 11, 12, 13, 14, 15, 16, 17, 25] rfl (by decide) rfl hl.1 rfl (Nat.le_of_ble_eq_true rfl) dL_law_823 ⟨(Nat.le_of_ble_eq_true rfl), (Nat.le_of_ble_eq_true rfl)⟩) hP hD hS hA [0, 1, 2, 3, 4, 5, 6, 7, 8, 9, 10, 11, 12, 13, 14, 15, 16, 17, 25] [18, 19, 20, 21, 22, 23, 24] rfl rfl (by decide) (by decide) (fun r u H locs hr0 hP hD hS => ?_)
  subst hr0
  have hP : va_P D vwCl [(o, .inr (13, [.int 0, .ref zb, .ref fg])), (zb, .inr (9, [.int 0, .int 3000, .int 0, .int 0, .int 0, .ref zbp, .ref zbj, .ref zbc, .ref zba, .int 0, .int 0, .int 0, .int 0, .int 0, .int 0])), (zbp, .inr (0, [.int 0, .ref E, .int 0])), (zbj, .inr (0, [.int 0, .ref E, .int 0])), (zbc, .inr (0, [.int 0, .ref E, .int 0])), (zba, .inr (0, [.int 0, .ref E, .int 0])), (fg, .inr (0, [.int 0, .ref E, .int 0]))] H := hP
  have hD : va_D A [(o, .inr (13, [.int 0, .ref zb, .ref fg])), (zb, .inr (9, [.int 0, .int 3000, .int 0, .int 0, .int 0, .ref zbp, .ref zbj, .ref zbc, .ref zba, .int 0, .int 0, .int 0, .int 0, .int 0, .int 0])), (zbp, .inr (0, [.int 0, .ref E, .int 0])), (zbj, .inr (0, [.int 0, .ref E, .int 0])), (zbc, .inr (0, [.int 0, .ref E, .int 0])), (zba, .inr (0, [.int 0, .ref E, .int 0])), (fg, .inr (0, [.int 0, .ref E, .int 0]))] := hD
  refine lv_istore (lv' := [(5, .int 1), (4, .int 0), (3, .ref out), (2, .ref o), (1, .ref h), (0, .ref b)]) hx hb dL_law_826 hl (by decide) rfl (fun ls hl => ?_)
  refine lv_aload_n hx hb dL_law_828 rfl (lv_at hl 3 rfl) ?_
  refine lv_aload_n hx hb dL_law_829 rfl (lv_at hl 5 rfl) ?_
  refine lv_iload hx hb dL_law_830 (lv_at hl 1 rfl) ?_
  refine lv_iconst (v := 1) hx hb dL_law_832 (by decide) ?_
  refine f_iadd (v := 1) hx hb dL_law_833 (by decide) ?_
  refine va_sld hx hb hX hbl hbA hS (by unfold vp_in; decide) dL_law_834 ?_
  refine f_topi (v := p0) (f_xs hs1) ?_
  refine lv_aload_n hx hb dL_law_835 rfl (lv_at hl 5 rfl) ?_
  refine lv_iload hx hb dL_law_836 (lv_at hl 1 rfl) ?_
  refine lv_iconst (v := 2) hx hb dL_law_838 (by decide) ?_
  refine f_iadd (v := 2) hx hb dL_law_839 (by decide) ?_
  refine va_sld hx hb hX hbl hbA hS (by unfold vp_in; decide) dL_law_840 ?_
  refine f_topi (v := p1) (f_xs hs2) ?_
  refine lv_if_eq (tgt := 848) hx hb dL_law_841 (by decide) (fun h => absurd h hy) (fun _ => ?_)
  refine lv_iconst (v := 1) hx hb dL_law_844 (by decide) ?_
  refine lv_goto (tgt := 849) hx hb dL_law_845 (by decide) ?_
  refine lv_aload_n hx hb dL_law_849 rfl (lv_at hl 5 rfl) ?_
  refine lv_iload hx hb dL_law_850 (lv_at hl 1 rfl) ?_
  refine lv_iconst (v := 3) hx hb dL_law_852 (by decide) ?_
  refine f_iadd (v := 3) hx hb dL_law_853 (by decide) ?_
  refine va_sld hx hb hX hbl hbA hS (by unfold vp_in; decide) dL_law_854 ?_
  refine f_topi (v := p2) (f_xs hs3) ?_
  refine lv_if_eq (tgt := 862) hx hb dL_law_855 (by decide) (fun _ => ?_) (fun h => absurd hz h)
  refine lv_iconst (v := 0) hx hb dL_law_862 (by decide) ?_
  refine f_aft_i (wr := []) (f_runV (As := [.int p0, .int 1, .int 0]) (rest := []) hx hb hml hown hts (kX12_fault l D cI cO cL E M o zb zbp zbj zbc zba fg p0 1 0 H.size) (fcwV 3 hts q416 q417 q418 q5 q419 rfl rfl (by decide +kernel) ⟨(Nat.le_of_ble_eq_true rfl), (Nat.le_of_ble_eq_true rfl)⟩) hE hP hD hS hA [0, 1, 2, 3, 4, 5, 6] rfl (by decide) (q0 := 0) (ci := 13) rfl rfl rfl rfl hl.1 rfl (Nat.le_of_ble_eq_true rfl) dL_law_863 ⟨(Nat.le_of_ble_eq_true rfl), (Nat.le_of_ble_eq_true rfl)⟩) hP hD hS hA [0, 1, 2, 3, 4, 5, 6] [] rfl rfl (by decide) (by decide) (fun r u H locs hr0 hP hD hS => ?_)
  subst hr0
  have hP : va_P D vwCl [(o, .inr (13, [.int 1, .ref zb, .ref fg]))] H := hP
  have hD : va_D A [(o, .inr (13, [.int 1, .ref zb, .ref fg]))] := hD
  refine lv_istore (lv' := [(6, .int 0), (5, .int 1), (4, .int 0), (3, .ref out), (2, .ref o), (1, .ref h), (0, .ref b)]) hx hb dL_law_866 hl (by decide) rfl (fun ls hl => ?_)
  refine lv_aload_n hx hb dL_law_868 rfl (lv_at hl 4 rfl) ?_
  refine f_aft_i (wr := []) (f_runV (As := []) (rest := []) hx hb hml hown hts (kX12_thrown l D cI cO cL E M o zb fg 1 H.size) (fcwV 0 hts q186 q187 q188 q5 q189 rfl rfl (by decide +kernel) ⟨(Nat.le_of_ble_eq_true rfl), (Nat.le_of_ble_eq_true rfl)⟩) hE hP hD hS hA [0] rfl (by decide) (q0 := 0) (ci := 13) rfl rfl rfl rfl hl.1 rfl (Nat.le_of_ble_eq_true rfl) dL_law_869 ⟨(Nat.le_of_ble_eq_true rfl), (Nat.le_of_ble_eq_true rfl)⟩) hP hD hS hA [0] [] rfl rfl (by decide) (by decide) (fun r u H locs hr0 hP hD hS => ?_)
  subst hr0
  have hP : va_P D vwCl [(o, .inr (13, [.int 1, .ref zb, .ref fg]))] H := hP
  have hD : va_D A [(o, .inr (13, [.int 1, .ref zb, .ref fg]))] := hD
  refine lv_iload hx hb dL_law_872 (lv_at hl 1 rfl) ?_
  refine lv_icmp_eq (tgt := 879) hx hb dL_law_874 (by decide) (fun _ => ?_) (fun h => absurd (by decide) h)
  refine lv_iload hx hb dL_law_879 (lv_at hl 1 rfl) ?_
  refine lv_if_ne (tgt := 903) hx hb dL_law_881 (by decide) (fun _ => ?_) (fun h => absurd h (by decide))
  refine lv_goto (tgt := 1758) hx hb dL_law_903 (by decide) ?_
  refine W.widen (k := 3000) (n := 30000) (Nat.le_of_ble_eq_true rfl) (Nat.le_of_ble_eq_true rfl) ?_
  exact law_end C hS (lv_sub hl [2, 6] rfl)
set_option maxHeartbeats 4000000 in
set_option maxRecDepth 100000 in
theorem law_fault_11 {p : Program} {l : Launch} {e : Env} {s : State} {m : MethodId} {below : List Frame} {meth : Method} {c : Code} {b : Nat} {xs : Nat → Int32} {D : va_G} {cI cO cL : ClassId} {E M : Nat} {A : Nat → Prop} (C : fLC p l s m meth c b xs D cI cO cL E M A) {h f sh sp sj sc sa i1 i2 i3 tsh tsp tsj tsc tsa ti1 ti2 ti3 o zb zbp zbj zbc zba fg out : Nat} (p0 : Int32) (p1 : Int32) (p2 : Int32) (hs1 : (1 : Int32).toNatClampNeg = 1 ∧ xs 1 = p0) (hs2 : (2 : Int32).toNatClampNeg = 2 ∧ xs 2 = p1) (hs3 : (3 : Int32).toNatClampNeg = 3 ∧ xs 3 = p2) (hy : ¬ p1 = 0) (hz : ¬ p2 = 0) {H : Heap} {locs : List Loc} {ls : Array Slot} (hP : va_P D vwCl [(h, .inr (8, [.ref f, .ref sh, .ref tsh])), (f, .inr (0, [.int 0, .ref E, .int 0])), (sh, .inr (6, [.ref sp, .ref sj, .ref sc, .ref sa, .int 0, .int 3000, .int 0, .int 0, .int 0, .int 0, .int 0, .int 0, .int 0, .int 0, .int 0])), (sp, .inr (0, [.int 0, .ref E, .int 0])), (sj, .inr (0, [.int 0, .ref E, .int 0])), (sc, .inr (0, [.int 0, .ref E, .int 0])), (sa, .inr (1, [.ref i1, .ref i2, .ref i3])), (i1, .inl (cI, 9, .inl (fun _ => 0))), (i2, .inl (cI, 9, .inl (fun _ => 0))), (i3, .inl (cI, 9, .inl (fun _ => 0))), (tsh, .inr (6, [.ref tsp, .ref tsj, .ref tsc, .ref tsa, .int 0, .int 3000, .int 0, .int 0, .int 0, .int 0, .int 0, .int 0, .int 0, .int 0, .int 0])), (tsp, .inr (0, [.int 0, .ref E, .int 0])), (tsj, .inr (0, [.int 0, .ref E, .int 0])), (tsc, .inr (0, [.int 0, .ref E, .int 0])), (tsa, .inr (1, [.ref ti1, .ref ti2, .ref ti3])), (ti1, .inl (cI, 9, .inl (fun _ => 0))), (ti2, .inl (cI, 9, .inl (fun _ => 0))), (ti3, .inl (cI, 9, .inl (fun _ => 0))), (o, .inr (13, [.int 0, .ref zb, .ref fg])), (zb, .inr (9, [.int 0, .int 3000, .int 0, .int 0, .int 0, .ref zbp, .ref zbj, .ref zbc, .ref zba, .int 0, .int 0, .int 0, .int 0, .int 0, .int 0])), (zbp, .inr (0, [.int 0, .ref E, .int 0])), (zbj, .inr (0, [.int 0, .ref E, .int 0])), (zbc, .inr (0, [.int 0, .ref E, .int 0])), (zba, .inr (0, [.int 0, .ref E, .int 0])), (fg, .inr (0, [.int 0, .ref E, .int 0])), (out, .inl (cL, 1, .inr (.inl (fun _ => 0))))] H) (hD : va_D A [(h, .inr (8, [.ref f, .ref sh, .ref tsh])), (f, .inr (0, [.int 0, .ref E, .int 0])), (sh, .inr (6, [.ref sp, .ref sj, .ref sc, .ref sa, .int 0, .int 3000, .int 0, .int 0, .int 0, .int 0, .int 0, .int 0, .int 0, .int 0, .int 0])), (sp, .inr (0, [.int 0, .ref E, .int 0])), (sj, .inr (0, [.int 0, .ref E, .int 0])), (sc, .inr (0, [.int 0, .ref E, .int 0])), (sa, .inr (1, [.ref i1, .ref i2, .ref i3])), (i1, .inl (cI, 9, .inl (fun _ => 0))), (i2, .inl (cI, 9, .inl (fun _ => 0))), (i3, .inl (cI, 9, .inl (fun _ => 0))), (tsh, .inr (6, [.ref tsp, .ref tsj, .ref tsc, .ref tsa, .int 0, .int 3000, .int 0, .int 0, .int 0, .int 0, .int 0, .int 0, .int 0, .int 0, .int 0])), (tsp, .inr (0, [.int 0, .ref E, .int 0])), (tsj, .inr (0, [.int 0, .ref E, .int 0])), (tsc, .inr (0, [.int 0, .ref E, .int 0])), (tsa, .inr (1, [.ref ti1, .ref ti2, .ref ti3])), (ti1, .inl (cI, 9, .inl (fun _ => 0))), (ti2, .inl (cI, 9, .inl (fun _ => 0))), (ti3, .inl (cI, 9, .inl (fun _ => 0))), (o, .inr (13, [.int 0, .ref zb, .ref fg])), (zb, .inr (9, [.int 0, .int 3000, .int 0, .int 0, .int 0, .ref zbp, .ref zbj, .ref zbc, .ref zba, .int 0, .int 0, .int 0, .int 0, .int 0, .int 0])), (zbp, .inr (0, [.int 0, .ref E, .int 0])), (zbj, .inr (0, [.int 0, .ref E, .int 0])), (zbc, .inr (0, [.int 0, .ref E, .int 0])), (zba, .inr (0, [.int 0, .ref E, .int 0])), (fg, .inr (0, [.int 0, .ref E, .int 0])), (out, .inl (cL, 1, .inr (.inl (fun _ => 0))))]) (hS : va_S A s.heap H locs) (hl : lv_has ls 9 [(4, .int 0), (3, .ref out), (2, .ref o), (1, .ref h), (0, .ref b)]) : W p l e room_1 s m #[Value.ref b] below meth c H locs 26 148 (lw_Z below #[Value.ref b] s) (F0 m 787 ls []) := by
  obtain ⟨hx, hb, hr, hml, hown, hts, hX, hbl, hlocks, hl9, hE, hA, hA2⟩ := id C
  have hbA : ¬ A b := fun h => absurd (hA2 b h) (Nat.not_le.mpr hbl)
  refine lv_aload_n hx hb dL_law_787 rfl (lv_at hl 3 rfl) ?_
  refine lv_aload_n hx hb dL_law_788 rfl (lv_at hl 4 rfl) ?_
  refine lv_iload hx hb dL_law_789 (lv_at hl 0 rfl) ?_
  refine lv_iconst (v := 1) hx hb dL_law_791 (by decide) ?_
  refine f_iadd (v := 1) hx hb dL_law_792 (by decide) ?_
  refine va_sld hx hb hX hbl hbA hS (by unfold vp_in; decide) dL_law_793 ?_
  refine f_topi (v := p0) (f_xs hs1) ?_
  refine lv_aload_n hx hb dL_law_794 rfl (lv_at hl 4 rfl) ?_
  refine lv_iload hx hb dL_law_795 (lv_at hl 0 rfl) ?_
  refine lv_iconst (v := 2) hx hb dL_law_797 (by decide) ?_
  refine f_iadd (v := 2) hx hb dL_law_798 (by decide) ?_
  refine va_sld hx hb hX hbl hbA hS (by unfold vp_in; decide) dL_law_799 ?_
  refine f_topi (v := p1) (f_xs hs2) ?_
  refine lv_if_eq (tgt := 807) hx hb dL_law_800 (by decide) (fun h => absurd h hy) (fun _ => ?_)
  refine lv_iconst (v := 1) hx hb dL_law_803 (by decide) ?_
  refine lv_goto (tgt := 808) hx hb dL_law_804 (by decide) ?_
  refine lv_aload_n hx hb dL_law_808 rfl (lv_at hl 4 rfl) ?_
  refine lv_iload hx hb dL_law_809 (lv_at hl 0 rfl) ?_
  refine lv_iconst (v := 3) hx hb dL_law_811 (by decide) ?_
  refine f_iadd (v := 3) hx hb dL_law_812 (by decide) ?_
  refine va_sld hx hb hX hbl hbA hS (by unfold vp_in; decide) dL_law_813 ?_
  refine f_topi (v := p2) (f_xs hs3) ?_
  refine lv_if_eq (tgt := 821) hx hb dL_law_814 (by decide) (fun h => absurd h hz) (fun _ => ?_)
  refine lv_iconst (v := 1) hx hb dL_law_817 (by decide) ?_
  refine lv_goto (tgt := 822) hx hb dL_law_818 (by decide) ?_
  refine lv_aload_n hx hb dL_law_822 rfl (lv_at hl 1 rfl) ?_
  refine f_aft_i (wr := [(o, .inr (13, [.int 0, .ref zb, .ref fg])), (zb, .inr (9, [.int 0, .int 3000, .int 0, .int 0, .int 0, .ref zbp, .ref zbj, .ref zbc, .ref zba, .int 0, .int 0, .int 0, .int 0, .int 0, .int 0])), (zbp, .inr (0, [.int 0, .ref E, .int 0])), (zbj, .inr (0, [.int 0, .ref E, .int 0])), (zbc, .inr (0, [.int 0, .ref E, .int 0])), (zba, .inr (0, [.int 0, .ref E, .int 0])), (fg, .inr (0, [.int 0, .ref E, .int 0]))]) (f_runSW (As := [.ref h, .int p0, .int 1, .int 1, .ref out]) (rest := []) hx hb hml hown hts (kL_fault l hl9 D cI cO cL E M h f sh sp sj sc sa i1 i2 i3 tsh tsp tsj tsc tsa ti1 ti2 ti3 out p0 1 1 H.size) (fcwSW 5 hts q407 q408 q80 q409 rfl rfl (by decide +kernel) ⟨(Nat.le_of_ble_eq_true rfl), (Nat.le_of_ble_eq_true rfl)⟩) hE hP hD hS hA [0, 1, 2, 3, 4, 5, 6, 7, 8, 9, 10, 11, 12, 13, 14, 15, 16, 17, 25] rfl (by decide) rfl hl.1 rfl (Nat.le_of_ble_eq_true rfl) dL_law_823 ⟨(Nat.le_of_ble_eq_true rfl), (Nat.le_of_ble_eq_true rfl)⟩) hP hD hS hA [0, 1, 2, 3, 4, 5, 6, 7, 8, 9, 10, 11, 12, 13, 14, 15, 16, 17, 25] [18, 19, 20, 21, 22, 23, 24] rfl rfl (by decide) (by decide) (fun r u H locs hr0 hP hD hS => ?_)
  subst hr0
  have hP : va_P D vwCl [(o, .inr (13, [.int 0, .ref zb, .ref fg])), (zb, .inr (9, [.int 0, .int 3000, .int 0, .int 0, .int 0, .ref zbp, .ref zbj, .ref zbc, .ref zba, .int 0, .int 0, .int 0, .int 0, .int 0, .int 0])), (zbp, .inr (0, [.int 0, .ref E, .int 0])), (zbj, .inr (0, [.int 0, .ref E, .int 0])), (zbc, .inr (0, [.int 0, .ref E, .int 0])), (zba, .inr (0, [.int 0, .ref E, .int 0])), (fg, .inr (0, [.int 0, .ref E, .int 0]))] H := hP
  have hD : va_D A [(o, .inr (13, [.int 0, .ref zb, .ref fg])), (zb, .inr (9, [.int 0, .int 3000, .int 0, .int 0, .int 0, .ref zbp, .ref zbj, .ref zbc, .ref zba, .int 0, .int 0, .int 0, .int 0, .int 0, .int 0])), (zbp, .inr (0, [.int 0, .ref E, .int 0])), (zbj, .inr (0, [.int 0, .ref E, .int 0])), (zbc, .inr (0, [.int 0, .ref E, .int 0])), (zba, .inr (0, [.int 0, .ref E, .int 0])), (fg, .inr (0, [.int 0, .ref E, .int 0]))] := hD
  refine lv_istore (lv' := [(5, .int 1), (4, .int 0), (3, .ref out), (2, .ref o), (1, .ref h), (0, .ref b)]) hx hb dL_law_826 hl (by decide) rfl (fun ls hl => ?_)
  refine lv_aload_n hx hb dL_law_828 rfl (lv_at hl 3 rfl) ?_
  refine lv_aload_n hx hb dL_law_829 rfl (lv_at hl 5 rfl) ?_
  refine lv_iload hx hb dL_law_830 (lv_at hl 1 rfl) ?_
  refine lv_iconst (v := 1) hx hb dL_law_832 (by decide) ?_
  refine f_iadd (v := 1) hx hb dL_law_833 (by decide) ?_
  refine va_sld hx hb hX hbl hbA hS (by unfold vp_in; decide) dL_law_834 ?_
  refine f_topi (v := p0) (f_xs hs1) ?_
  refine lv_aload_n hx hb dL_law_835 rfl (lv_at hl 5 rfl) ?_
  refine lv_iload hx hb dL_law_836 (lv_at hl 1 rfl) ?_
  refine lv_iconst (v := 2) hx hb dL_law_838 (by decide) ?_
  refine f_iadd (v := 2) hx hb dL_law_839 (by decide) ?_
  refine va_sld hx hb hX hbl hbA hS (by unfold vp_in; decide) dL_law_840 ?_
  refine f_topi (v := p1) (f_xs hs2) ?_
  refine lv_if_eq (tgt := 848) hx hb dL_law_841 (by decide) (fun h => absurd h hy) (fun _ => ?_)
  refine lv_iconst (v := 1) hx hb dL_law_844 (by decide) ?_
  refine lv_goto (tgt := 849) hx hb dL_law_845 (by decide) ?_
  refine lv_aload_n hx hb dL_law_849 rfl (lv_at hl 5 rfl) ?_
  refine lv_iload hx hb dL_law_850 (lv_at hl 1 rfl) ?_
  refine lv_iconst (v := 3) hx hb dL_law_852 (by decide) ?_
  refine f_iadd (v := 3) hx hb dL_law_853 (by decide) ?_
  refine va_sld hx hb hX hbl hbA hS (by unfold vp_in; decide) dL_law_854 ?_
  refine f_topi (v := p2) (f_xs hs3) ?_
  refine lv_if_eq (tgt := 862) hx hb dL_law_855 (by decide) (fun h => absurd h hz) (fun _ => ?_)
  refine lv_iconst (v := 1) hx hb dL_law_858 (by decide) ?_
  refine lv_goto (tgt := 863) hx hb dL_law_859 (by decide) ?_
  refine f_aft_i (wr := []) (f_runV (As := [.int p0, .int 1, .int 1]) (rest := []) hx hb hml hown hts (kX12_fault l D cI cO cL E M o zb zbp zbj zbc zba fg p0 1 1 H.size) (fcwV 3 hts q416 q417 q418 q5 q419 rfl rfl (by decide +kernel) ⟨(Nat.le_of_ble_eq_true rfl), (Nat.le_of_ble_eq_true rfl)⟩) hE hP hD hS hA [0, 1, 2, 3, 4, 5, 6] rfl (by decide) (q0 := 0) (ci := 13) rfl rfl rfl rfl hl.1 rfl (Nat.le_of_ble_eq_true rfl) dL_law_863 ⟨(Nat.le_of_ble_eq_true rfl), (Nat.le_of_ble_eq_true rfl)⟩) hP hD hS hA [0, 1, 2, 3, 4, 5, 6] [] rfl rfl (by decide) (by decide) (fun r u H locs hr0 hP hD hS => ?_)
  subst hr0
  have hP : va_P D vwCl [(o, .inr (13, [.int 1, .ref zb, .ref fg]))] H := hP
  have hD : va_D A [(o, .inr (13, [.int 1, .ref zb, .ref fg]))] := hD
  refine lv_istore (lv' := [(6, .int 0), (5, .int 1), (4, .int 0), (3, .ref out), (2, .ref o), (1, .ref h), (0, .ref b)]) hx hb dL_law_866 hl (by decide) rfl (fun ls hl => ?_)
  refine lv_aload_n hx hb dL_law_868 rfl (lv_at hl 4 rfl) ?_
  refine f_aft_i (wr := []) (f_runV (As := []) (rest := []) hx hb hml hown hts (kX12_thrown l D cI cO cL E M o zb fg 1 H.size) (fcwV 0 hts q186 q187 q188 q5 q189 rfl rfl (by decide +kernel) ⟨(Nat.le_of_ble_eq_true rfl), (Nat.le_of_ble_eq_true rfl)⟩) hE hP hD hS hA [0] rfl (by decide) (q0 := 0) (ci := 13) rfl rfl rfl rfl hl.1 rfl (Nat.le_of_ble_eq_true rfl) dL_law_869 ⟨(Nat.le_of_ble_eq_true rfl), (Nat.le_of_ble_eq_true rfl)⟩) hP hD hS hA [0] [] rfl rfl (by decide) (by decide) (fun r u H locs hr0 hP hD hS => ?_)
  subst hr0
  have hP : va_P D vwCl [(o, .inr (13, [.int 1, .ref zb, .ref fg]))] H := hP
  have hD : va_D A [(o, .inr (13, [.int 1, .ref zb, .ref fg]))] := hD
  refine lv_iload hx hb dL_law_872 (lv_at hl 1 rfl) ?_
  refine lv_icmp_eq (tgt := 879) hx hb dL_law_874 (by decide) (fun _ => ?_) (fun h => absurd (by decide) h)
  refine lv_iload hx hb dL_law_879 (lv_at hl 1 rfl) ?_
  refine lv_if_ne (tgt := 903) hx hb dL_law_881 (by decide) (fun _ => ?_) (fun h => absurd h (by decide))
  refine lv_goto (tgt := 1758) hx hb dL_law_903 (by decide) ?_
  refine W.widen (k := 3000) (n := 30000) (Nat.le_of_ble_eq_true rfl) (Nat.le_of_ble_eq_true rfl) ?_
  exact law_end C hS (lv_sub hl [2, 6] rfl)
set_option maxHeartbeats 4000000 in
set_option maxRecDepth 100000 in
theorem law_ofJet {p : Program} {l : Launch} {e : Env} {s : State} {m : MethodId} {below : List Frame} {meth : Method} {c : Code} {b : Nat} {xs : Nat → Int32} {D : va_G} {cI cO cL : ClassId} {E M : Nat} {A : Nat → Prop} (C : fLC p l s m meth c b xs D cI cO cL E M A) {h f sh sp sj sc sa i1 i2 i3 tsh tsp tsj tsc tsa ti1 ti2 ti3 o zb zbp zbj zbc zba fg out : Nat} (p0 : Int32) (p1 : Int32) (hs1 : (1 : Int32).toNatClampNeg = 1 ∧ xs 1 = p0) (hs2 : (2 : Int32).toNatClampNeg = 2 ∧ xs 2 = p1)  {H : Heap} {locs : List Loc} {ls : Array Slot} (hP : va_P D vwCl [(h, .inr (8, [.ref f, .ref sh, .ref tsh])), (f, .inr (0, [.int 0, .ref E, .int 0])), (sh, .inr (6, [.ref sp, .ref sj, .ref sc, .ref sa, .int 0, .int 3000, .int 0, .int 0, .int 0, .int 0, .int 0, .int 0, .int 0, .int 0, .int 0])), (sp, .inr (0, [.int 0, .ref E, .int 0])), (sj, .inr (0, [.int 0, .ref E, .int 0])), (sc, .inr (0, [.int 0, .ref E, .int 0])), (sa, .inr (1, [.ref i1, .ref i2, .ref i3])), (i1, .inl (cI, 9, .inl (fun _ => 0))), (i2, .inl (cI, 9, .inl (fun _ => 0))), (i3, .inl (cI, 9, .inl (fun _ => 0))), (tsh, .inr (6, [.ref tsp, .ref tsj, .ref tsc, .ref tsa, .int 0, .int 3000, .int 0, .int 0, .int 0, .int 0, .int 0, .int 0, .int 0, .int 0, .int 0])), (tsp, .inr (0, [.int 0, .ref E, .int 0])), (tsj, .inr (0, [.int 0, .ref E, .int 0])), (tsc, .inr (0, [.int 0, .ref E, .int 0])), (tsa, .inr (1, [.ref ti1, .ref ti2, .ref ti3])), (ti1, .inl (cI, 9, .inl (fun _ => 0))), (ti2, .inl (cI, 9, .inl (fun _ => 0))), (ti3, .inl (cI, 9, .inl (fun _ => 0))), (o, .inr (13, [.int 0, .ref zb, .ref fg])), (zb, .inr (9, [.int 0, .int 3000, .int 0, .int 0, .int 0, .ref zbp, .ref zbj, .ref zbc, .ref zba, .int 0, .int 0, .int 0, .int 0, .int 0, .int 0])), (zbp, .inr (0, [.int 0, .ref E, .int 0])), (zbj, .inr (0, [.int 0, .ref E, .int 0])), (zbc, .inr (0, [.int 0, .ref E, .int 0])), (zba, .inr (0, [.int 0, .ref E, .int 0])), (fg, .inr (0, [.int 0, .ref E, .int 0])), (out, .inl (cL, 1, .inr (.inl (fun _ => 0))))] H) (hD : va_D A [(h, .inr (8, [.ref f, .ref sh, .ref tsh])), (f, .inr (0, [.int 0, .ref E, .int 0])), (sh, .inr (6, [.ref sp, .ref sj, .ref sc, .ref sa, .int 0, .int 3000, .int 0, .int 0, .int 0, .int 0, .int 0, .int 0, .int 0, .int 0, .int 0])), (sp, .inr (0, [.int 0, .ref E, .int 0])), (sj, .inr (0, [.int 0, .ref E, .int 0])), (sc, .inr (0, [.int 0, .ref E, .int 0])), (sa, .inr (1, [.ref i1, .ref i2, .ref i3])), (i1, .inl (cI, 9, .inl (fun _ => 0))), (i2, .inl (cI, 9, .inl (fun _ => 0))), (i3, .inl (cI, 9, .inl (fun _ => 0))), (tsh, .inr (6, [.ref tsp, .ref tsj, .ref tsc, .ref tsa, .int 0, .int 3000, .int 0, .int 0, .int 0, .int 0, .int 0, .int 0, .int 0, .int 0, .int 0])), (tsp, .inr (0, [.int 0, .ref E, .int 0])), (tsj, .inr (0, [.int 0, .ref E, .int 0])), (tsc, .inr (0, [.int 0, .ref E, .int 0])), (tsa, .inr (1, [.ref ti1, .ref ti2, .ref ti3])), (ti1, .inl (cI, 9, .inl (fun _ => 0))), (ti2, .inl (cI, 9, .inl (fun _ => 0))), (ti3, .inl (cI, 9, .inl (fun _ => 0))), (o, .inr (13, [.int 0, .ref zb, .ref fg])), (zb, .inr (9, [.int 0, .int 3000, .int 0, .int 0, .int 0, .ref zbp, .ref zbj, .ref zbc, .ref zba, .int 0, .int 0, .int 0, .int 0, .int 0, .int 0])), (zbp, .inr (0, [.int 0, .ref E, .int 0])), (zbj, .inr (0, [.int 0, .ref E, .int 0])), (zbc, .inr (0, [.int 0, .ref E, .int 0])), (zba, .inr (0, [.int 0, .ref E, .int 0])), (fg, .inr (0, [.int 0, .ref E, .int 0])), (out, .inl (cL, 1, .inr (.inl (fun _ => 0))))]) (hS : va_S A s.heap H locs) (hl : lv_has ls 9 [(4, .int 0), (3, .ref out), (2, .ref o), (1, .ref h), (0, .ref b)]) : W p l e room_1 s m #[Value.ref b] below meth c H locs 26 148 (lw_Z below #[Value.ref b] s) (F0 m 1195 ls []) := by
  obtain ⟨hx, hb, hr, hml, hown, hts, hX, hbl, hlocks, hl9, hE, hA, hA2⟩ := id C
  have hbA : ¬ A b := fun h => absurd (hA2 b h) (Nat.not_le.mpr hbl)
  refine lv_aload_n hx hb dL_law_1195 rfl (lv_at hl 3 rfl) ?_
  refine lv_aload_n hx hb dL_law_1196 rfl (lv_at hl 4 rfl) ?_
  refine lv_iload hx hb dL_law_1197 (lv_at hl 0 rfl) ?_
  refine lv_iconst (v := 1) hx hb dL_law_1199 (by decide) ?_
  refine f_iadd (v := 1) hx hb dL_law_1200 (by decide) ?_
  refine va_sld hx hb hX hbl hbA hS (by unfold vp_in; decide) dL_law_1201 ?_
  refine f_topi (v := p0) (f_xs hs1) ?_
  refine lv_aload_n hx hb dL_law_1202 rfl (lv_at hl 4 rfl) ?_
  refine lv_iload hx hb dL_law_1203 (lv_at hl 0 rfl) ?_
  refine lv_iconst (v := 2) hx hb dL_law_1205 (by decide) ?_
  refine f_iadd (v := 2) hx hb dL_law_1206 (by decide) ?_
  refine va_sld hx hb hX hbl hbA hS (by unfold vp_in; decide) dL_law_1207 ?_
  refine f_topi (v := p1) (f_xs hs2) ?_
  refine lv_aload_n hx hb dL_law_1208 rfl (lv_at hl 1 rfl) ?_
  refine f_aft_i (wr := [(o, .inr (13, [.int 0, .ref zb, .ref fg])), (zb, .inr (9, [.int 0, .int 3000, .int 0, .int 0, .int 0, .ref zbp, .ref zbj, .ref zbc, .ref zba, .int 0, .int 0, .int 0, .int 0, .int 0, .int 0])), (zbp, .inr (0, [.int 0, .ref E, .int 0])), (zbj, .inr (0, [.int 0, .ref E, .int 0])), (zbc, .inr (0, [.int 0, .ref E, .int 0])), (zba, .inr (0, [.int 0, .ref E, .int 0])), (fg, .inr (0, [.int 0, .ref E, .int 0]))]) (f_runSW (As := [.ref h, .int p0, .int p1, .ref out]) (rest := []) hx hb hml hown hts (kL_ofJet l hl9 D cI cO cL E M h f sh sp sj sc sa i1 i2 i3 tsh tsp tsj tsc tsa ti1 ti2 ti3 out p0 p1 H.size) (fcwSW 4 hts q829 q830 q80 q831 rfl rfl (by decide +kernel) ⟨(Nat.le_of_ble_eq_true rfl), (Nat.le_of_ble_eq_true rfl)⟩) hE hP hD hS hA [0, 1, 2, 3, 4, 5, 6, 7, 8, 9, 10, 11, 12, 13, 14, 15, 16, 17, 25] rfl (by decide) rfl hl.1 rfl (Nat.le_of_ble_eq_true rfl) dL_law_1209 ⟨(Nat.le_of_ble_eq_true rfl), (Nat.le_of_ble_eq_true rfl)⟩) hP hD hS hA [0, 1, 2, 3, 4, 5, 6, 7, 8, 9, 10, 11, 12, 13, 14, 15, 16, 17, 25] [18, 19, 20, 21, 22, 23, 24] rfl rfl (by decide) (by decide) (fun r u H locs hr0 hP hD hS => ?_)
  subst hr0
  have hP : va_P D vwCl [(o, .inr (13, [.int 0, .ref zb, .ref fg])), (zb, .inr (9, [.int 0, .int 3000, .int 0, .int 0, .int 0, .ref zbp, .ref zbj, .ref zbc, .ref zba, .int 0, .int 0, .int 0, .int 0, .int 0, .int 0])), (zbp, .inr (0, [.int 0, .ref E, .int 0])), (zbj, .inr (0, [.int 0, .ref E, .int 0])), (zbc, .inr (0, [.int 0, .ref E, .int 0])), (zba, .inr (0, [.int 0, .ref E, .int 0])), (fg, .inr (0, [.int 0, .ref E, .int 0]))] H := hP
  have hD : va_D A [(o, .inr (13, [.int 0, .ref zb, .ref fg])), (zb, .inr (9, [.int 0, .int 3000, .int 0, .int 0, .int 0, .ref zbp, .ref zbj, .ref zbc, .ref zba, .int 0, .int 0, .int 0, .int 0, .int 0, .int 0])), (zbp, .inr (0, [.int 0, .ref E, .int 0])), (zbj, .inr (0, [.int 0, .ref E, .int 0])), (zbc, .inr (0, [.int 0, .ref E, .int 0])), (zba, .inr (0, [.int 0, .ref E, .int 0])), (fg, .inr (0, [.int 0, .ref E, .int 0]))] := hD
  refine lv_istore (lv' := [(5, .int 1), (4, .int 0), (3, .ref out), (2, .ref o), (1, .ref h), (0, .ref b)]) hx hb dL_law_1212 hl (by decide) rfl (fun ls hl => ?_)
  refine lv_aload_n hx hb dL_law_1214 rfl (lv_at hl 3 rfl) ?_
  refine lv_aload_n hx hb dL_law_1215 rfl (lv_at hl 5 rfl) ?_
  refine lv_iload hx hb dL_law_1216 (lv_at hl 1 rfl) ?_
  refine lv_iconst (v := 1) hx hb dL_law_1218 (by decide) ?_
  refine f_iadd (v := 1) hx hb dL_law_1219 (by decide) ?_
  refine va_sld hx hb hX hbl hbA hS (by unfold vp_in; decide) dL_law_1220 ?_
  refine f_topi (v := p0) (f_xs hs1) ?_
  refine lv_aload_n hx hb dL_law_1221 rfl (lv_at hl 5 rfl) ?_
  refine lv_iload hx hb dL_law_1222 (lv_at hl 1 rfl) ?_
  refine lv_iconst (v := 2) hx hb dL_law_1224 (by decide) ?_
  refine f_iadd (v := 2) hx hb dL_law_1225 (by decide) ?_
  refine va_sld hx hb hX hbl hbA hS (by unfold vp_in; decide) dL_law_1226 ?_
  refine f_topi (v := p1) (f_xs hs2) ?_
  refine f_aft_i (wr := []) (f_runV (As := [.int p0, .int p1]) (rest := []) hx hb hml hown hts (kX12_ofJet l D cI cO cL E M o zb zbp zbj zbc zba fg p0 p1 H.size) (fcwV 2 hts q846 q847 q848 q5 q849 rfl rfl (by decide +kernel) ⟨(Nat.le_of_ble_eq_true rfl), (Nat.le_of_ble_eq_true rfl)⟩) hE hP hD hS hA [0, 1, 2, 3, 4, 5, 6] rfl (by decide) (q0 := 0) (ci := 13) rfl rfl rfl rfl hl.1 rfl (Nat.le_of_ble_eq_true rfl) dL_law_1227 ⟨(Nat.le_of_ble_eq_true rfl), (Nat.le_of_ble_eq_true rfl)⟩) hP hD hS hA [0, 1, 2, 3, 4, 5, 6] [] rfl rfl (by decide) (by decide) (fun r u H locs hr0 hP hD hS => ?_)
  subst hr0
  have hP : va_P D vwCl [(o, .inr (13, [.int 1, .ref zb, .ref fg]))] H := hP
  have hD : va_D A [(o, .inr (13, [.int 1, .ref zb, .ref fg]))] := hD
  refine lv_istore (lv' := [(6, .int 0), (5, .int 1), (4, .int 0), (3, .ref out), (2, .ref o), (1, .ref h), (0, .ref b)]) hx hb dL_law_1230 hl (by decide) rfl (fun ls hl => ?_)
  refine lv_aload_n hx hb dL_law_1232 rfl (lv_at hl 4 rfl) ?_
  refine f_aft_i (wr := []) (f_runV (As := []) (rest := []) hx hb hml hown hts (kX12_thrown l D cI cO cL E M o zb fg 1 H.size) (fcwV 0 hts q186 q187 q188 q5 q189 rfl rfl (by decide +kernel) ⟨(Nat.le_of_ble_eq_true rfl), (Nat.le_of_ble_eq_true rfl)⟩) hE hP hD hS hA [0] rfl (by decide) (q0 := 0) (ci := 13) rfl rfl rfl rfl hl.1 rfl (Nat.le_of_ble_eq_true rfl) dL_law_1233 ⟨(Nat.le_of_ble_eq_true rfl), (Nat.le_of_ble_eq_true rfl)⟩) hP hD hS hA [0] [] rfl rfl (by decide) (by decide) (fun r u H locs hr0 hP hD hS => ?_)
  subst hr0
  have hP : va_P D vwCl [(o, .inr (13, [.int 1, .ref zb, .ref fg]))] H := hP
  have hD : va_D A [(o, .inr (13, [.int 1, .ref zb, .ref fg]))] := hD
  refine lv_iload hx hb dL_law_1236 (lv_at hl 1 rfl) ?_
  refine lv_icmp_eq (tgt := 1243) hx hb dL_law_1238 (by decide) (fun _ => ?_) (fun h => absurd (by decide) h)
  refine lv_iload hx hb dL_law_1243 (lv_at hl 1 rfl) ?_
  refine lv_if_ne (tgt := 1260) hx hb dL_law_1245 (by decide) (fun _ => ?_) (fun h => absurd h (by decide))
  refine lv_goto (tgt := 1758) hx hb dL_law_1260 (by decide) ?_
  refine W.widen (k := 3000) (n := 30000) (Nat.le_of_ble_eq_true rfl) (Nat.le_of_ble_eq_true rfl) ?_
  exact law_end C hS (lv_sub hl [2, 6] rfl)
set_option maxHeartbeats 4000000 in
set_option maxRecDepth 100000 in
theorem law_heightIn {p : Program} {l : Launch} {e : Env} {s : State} {m : MethodId} {below : List Frame} {meth : Method} {c : Code} {b : Nat} {xs : Nat → Int32} {D : va_G} {cI cO cL : ClassId} {E M : Nat} {A : Nat → Prop} (C : fLC p l s m meth c b xs D cI cO cL E M A) {h f sh sp sj sc sa i1 i2 i3 tsh tsp tsj tsc tsa ti1 ti2 ti3 o zb zbp zbj zbc zba fg out : Nat} (p0 : Int32) (p1 : Int32) (hs1 : (1 : Int32).toNatClampNeg = 1 ∧ xs 1 = p0) (hs2 : (2 : Int32).toNatClampNeg = 2 ∧ xs 2 = p1)  {H : Heap} {locs : List Loc} {ls : Array Slot} (hP : va_P D vwCl [(h, .inr (8, [.ref f, .ref sh, .ref tsh])), (f, .inr (0, [.int 0, .ref E, .int 0])), (sh, .inr (6, [.ref sp, .ref sj, .ref sc, .ref sa, .int 0, .int 3000, .int 0, .int 0, .int 0, .int 0, .int 0, .int 0, .int 0, .int 0, .int 0])), (sp, .inr (0, [.int 0, .ref E, .int 0])), (sj, .inr (0, [.int 0, .ref E, .int 0])), (sc, .inr (0, [.int 0, .ref E, .int 0])), (sa, .inr (1, [.ref i1, .ref i2, .ref i3])), (i1, .inl (cI, 9, .inl (fun _ => 0))), (i2, .inl (cI, 9, .inl (fun _ => 0))), (i3, .inl (cI, 9, .inl (fun _ => 0))), (tsh, .inr (6, [.ref tsp, .ref tsj, .ref tsc, .ref tsa, .int 0, .int 3000, .int 0, .int 0, .int 0, .int 0, .int 0, .int 0, .int 0, .int 0, .int 0])), (tsp, .inr (0, [.int 0, .ref E, .int 0])), (tsj, .inr (0, [.int 0, .ref E, .int 0])), (tsc, .inr (0, [.int 0, .ref E, .int 0])), (tsa, .inr (1, [.ref ti1, .ref ti2, .ref ti3])), (ti1, .inl (cI, 9, .inl (fun _ => 0))), (ti2, .inl (cI, 9, .inl (fun _ => 0))), (ti3, .inl (cI, 9, .inl (fun _ => 0))), (o, .inr (13, [.int 0, .ref zb, .ref fg])), (zb, .inr (9, [.int 0, .int 3000, .int 0, .int 0, .int 0, .ref zbp, .ref zbj, .ref zbc, .ref zba, .int 0, .int 0, .int 0, .int 0, .int 0, .int 0])), (zbp, .inr (0, [.int 0, .ref E, .int 0])), (zbj, .inr (0, [.int 0, .ref E, .int 0])), (zbc, .inr (0, [.int 0, .ref E, .int 0])), (zba, .inr (0, [.int 0, .ref E, .int 0])), (fg, .inr (0, [.int 0, .ref E, .int 0])), (out, .inl (cL, 1, .inr (.inl (fun _ => 0))))] H) (hD : va_D A [(h, .inr (8, [.ref f, .ref sh, .ref tsh])), (f, .inr (0, [.int 0, .ref E, .int 0])), (sh, .inr (6, [.ref sp, .ref sj, .ref sc, .ref sa, .int 0, .int 3000, .int 0, .int 0, .int 0, .int 0, .int 0, .int 0, .int 0, .int 0, .int 0])), (sp, .inr (0, [.int 0, .ref E, .int 0])), (sj, .inr (0, [.int 0, .ref E, .int 0])), (sc, .inr (0, [.int 0, .ref E, .int 0])), (sa, .inr (1, [.ref i1, .ref i2, .ref i3])), (i1, .inl (cI, 9, .inl (fun _ => 0))), (i2, .inl (cI, 9, .inl (fun _ => 0))), (i3, .inl (cI, 9, .inl (fun _ => 0))), (tsh, .inr (6, [.ref tsp, .ref tsj, .ref tsc, .ref tsa, .int 0, .int 3000, .int 0, .int 0, .int 0, .int 0, .int 0, .int 0, .int 0, .int 0, .int 0])), (tsp, .inr (0, [.int 0, .ref E, .int 0])), (tsj, .inr (0, [.int 0, .ref E, .int 0])), (tsc, .inr (0, [.int 0, .ref E, .int 0])), (tsa, .inr (1, [.ref ti1, .ref ti2, .ref ti3])), (ti1, .inl (cI, 9, .inl (fun _ => 0))), (ti2, .inl (cI, 9, .inl (fun _ => 0))), (ti3, .inl (cI, 9, .inl (fun _ => 0))), (o, .inr (13, [.int 0, .ref zb, .ref fg])), (zb, .inr (9, [.int 0, .int 3000, .int 0, .int 0, .int 0, .ref zbp, .ref zbj, .ref zbc, .ref zba, .int 0, .int 0, .int 0, .int 0, .int 0, .int 0])), (zbp, .inr (0, [.int 0, .ref E, .int 0])), (zbj, .inr (0, [.int 0, .ref E, .int 0])), (zbc, .inr (0, [.int 0, .ref E, .int 0])), (zba, .inr (0, [.int 0, .ref E, .int 0])), (fg, .inr (0, [.int 0, .ref E, .int 0])), (out, .inl (cL, 1, .inr (.inl (fun _ => 0))))]) (hS : va_S A s.heap H locs) (hl : lv_has ls 9 [(4, .int 0), (3, .ref out), (2, .ref o), (1, .ref h), (0, .ref b)]) : W p l e room_1 s m #[Value.ref b] below meth c H locs 26 148 (lw_Z below #[Value.ref b] s) (F0 m 1472 ls []) := by
  obtain ⟨hx, hb, hr, hml, hown, hts, hX, hbl, hlocks, hl9, hE, hA, hA2⟩ := id C
  have hbA : ¬ A b := fun h => absurd (hA2 b h) (Nat.not_le.mpr hbl)
  refine lv_aload_n hx hb dL_law_1472 rfl (lv_at hl 3 rfl) ?_
  refine lv_aload_n hx hb dL_law_1473 rfl (lv_at hl 4 rfl) ?_
  refine lv_iload hx hb dL_law_1474 (lv_at hl 0 rfl) ?_
  refine lv_iconst (v := 1) hx hb dL_law_1476 (by decide) ?_
  refine f_iadd (v := 1) hx hb dL_law_1477 (by decide) ?_
  refine va_sld hx hb hX hbl hbA hS (by unfold vp_in; decide) dL_law_1478 ?_
  refine f_topi (v := p0) (f_xs hs1) ?_
  refine lv_aload_n hx hb dL_law_1479 rfl (lv_at hl 4 rfl) ?_
  refine lv_iload hx hb dL_law_1480 (lv_at hl 0 rfl) ?_
  refine lv_iconst (v := 2) hx hb dL_law_1482 (by decide) ?_
  refine f_iadd (v := 2) hx hb dL_law_1483 (by decide) ?_
  refine va_sld hx hb hX hbl hbA hS (by unfold vp_in; decide) dL_law_1484 ?_
  refine f_topi (v := p1) (f_xs hs2) ?_
  refine lv_aload_n hx hb dL_law_1485 rfl (lv_at hl 1 rfl) ?_
  refine f_aft_i (wr := [(o, .inr (13, [.int 0, .ref zb, .ref fg])), (zb, .inr (9, [.int 0, .int 3000, .int 0, .int 0, .int 0, .ref zbp, .ref zbj, .ref zbc, .ref zba, .int 0, .int 0, .int 0, .int 0, .int 0, .int 0])), (zbp, .inr (0, [.int 0, .ref E, .int 0])), (zbj, .inr (0, [.int 0, .ref E, .int 0])), (zbc, .inr (0, [.int 0, .ref E, .int 0])), (zba, .inr (0, [.int 0, .ref E, .int 0])), (fg, .inr (0, [.int 0, .ref E, .int 0]))]) (f_runSW (As := [.ref h, .int p0, .int p1, .ref out]) (rest := []) hx hb hml hown hts (kL_heightIn l hl9 D cI cO cL E M h f sh sp sj sc sa i1 i2 i3 tsh tsp tsj tsc tsa ti1 ti2 ti3 out p0 p1 H.size) (fcwSW 4 hts q969 q970 q80 q971 rfl rfl (by decide +kernel) ⟨(Nat.le_of_ble_eq_true rfl), (Nat.le_of_ble_eq_true rfl)⟩) hE hP hD hS hA [0, 1, 2, 3, 4, 5, 6, 7, 8, 9, 10, 11, 12, 13, 14, 15, 16, 17, 25] rfl (by decide) rfl hl.1 rfl (Nat.le_of_ble_eq_true rfl) dL_law_1486 ⟨(Nat.le_of_ble_eq_true rfl), (Nat.le_of_ble_eq_true rfl)⟩) hP hD hS hA [0, 1, 2, 3, 4, 5, 6, 7, 8, 9, 10, 11, 12, 13, 14, 15, 16, 17, 25] [18, 19, 20, 21, 22, 23, 24] rfl rfl (by decide) (by decide) (fun r u H locs hr0 hP hD hS => ?_)
  subst hr0
  have hP : va_P D vwCl [(o, .inr (13, [.int 0, .ref zb, .ref fg])), (zb, .inr (9, [.int 0, .int 3000, .int 0, .int 0, .int 0, .ref zbp, .ref zbj, .ref zbc, .ref zba, .int 0, .int 0, .int 0, .int 0, .int 0, .int 0])), (zbp, .inr (0, [.int 0, .ref E, .int 0])), (zbj, .inr (0, [.int 0, .ref E, .int 0])), (zbc, .inr (0, [.int 0, .ref E, .int 0])), (zba, .inr (0, [.int 0, .ref E, .int 0])), (fg, .inr (0, [.int 0, .ref E, .int 0]))] H := hP
  have hD : va_D A [(o, .inr (13, [.int 0, .ref zb, .ref fg])), (zb, .inr (9, [.int 0, .int 3000, .int 0, .int 0, .int 0, .ref zbp, .ref zbj, .ref zbc, .ref zba, .int 0, .int 0, .int 0, .int 0, .int 0, .int 0])), (zbp, .inr (0, [.int 0, .ref E, .int 0])), (zbj, .inr (0, [.int 0, .ref E, .int 0])), (zbc, .inr (0, [.int 0, .ref E, .int 0])), (zba, .inr (0, [.int 0, .ref E, .int 0])), (fg, .inr (0, [.int 0, .ref E, .int 0]))] := hD
  refine lv_istore (lv' := [(5, .int 1), (4, .int 0), (3, .ref out), (2, .ref o), (1, .ref h), (0, .ref b)]) hx hb dL_law_1489 hl (by decide) rfl (fun ls hl => ?_)
  refine lv_aload_n hx hb dL_law_1491 rfl (lv_at hl 3 rfl) ?_
  refine lv_aload_n hx hb dL_law_1492 rfl (lv_at hl 5 rfl) ?_
  refine lv_iload hx hb dL_law_1493 (lv_at hl 1 rfl) ?_
  refine lv_iconst (v := 1) hx hb dL_law_1495 (by decide) ?_
  refine f_iadd (v := 1) hx hb dL_law_1496 (by decide) ?_
  refine va_sld hx hb hX hbl hbA hS (by unfold vp_in; decide) dL_law_1497 ?_
  refine f_topi (v := p0) (f_xs hs1) ?_
  refine lv_aload_n hx hb dL_law_1498 rfl (lv_at hl 5 rfl) ?_
  refine lv_iload hx hb dL_law_1499 (lv_at hl 1 rfl) ?_
  refine lv_iconst (v := 2) hx hb dL_law_1501 (by decide) ?_
  refine f_iadd (v := 2) hx hb dL_law_1502 (by decide) ?_
  refine va_sld hx hb hX hbl hbA hS (by unfold vp_in; decide) dL_law_1503 ?_
  refine f_topi (v := p1) (f_xs hs2) ?_
  refine f_aft_i (wr := []) (f_runV (As := [.int p0, .int p1]) (rest := []) hx hb hml hown hts (kX12_heightIn l D cI cO cL E M o zb zbp zbj zbc zba fg p0 p1 H.size) (fcwV 2 hts q998 q999 q1000 q5 q1001 rfl rfl (by decide +kernel) ⟨(Nat.le_of_ble_eq_true rfl), (Nat.le_of_ble_eq_true rfl)⟩) hE hP hD hS hA [0, 1, 2, 3, 4, 5, 6] rfl (by decide) (q0 := 0) (ci := 13) rfl rfl rfl rfl hl.1 rfl (Nat.le_of_ble_eq_true rfl) dL_law_1504 ⟨(Nat.le_of_ble_eq_true rfl), (Nat.le_of_ble_eq_true rfl)⟩) hP hD hS hA [0, 1, 2, 3, 4, 5, 6] [] rfl rfl (by decide) (by decide) (fun r u H locs hr0 hP hD hS => ?_)
  subst hr0
  have hP : va_P D vwCl [(o, .inr (13, [.int 1, .ref zb, .ref fg]))] H := hP
  have hD : va_D A [(o, .inr (13, [.int 1, .ref zb, .ref fg]))] := hD
  refine lv_istore (lv' := [(6, .int 0), (5, .int 1), (4, .int 0), (3, .ref out), (2, .ref o), (1, .ref h), (0, .ref b)]) hx hb dL_law_1507 hl (by decide) rfl (fun ls hl => ?_)
  refine lv_aload_n hx hb dL_law_1509 rfl (lv_at hl 4 rfl) ?_
  refine f_aft_i (wr := []) (f_runV (As := []) (rest := []) hx hb hml hown hts (kX12_thrown l D cI cO cL E M o zb fg 1 H.size) (fcwV 0 hts q186 q187 q188 q5 q189 rfl rfl (by decide +kernel) ⟨(Nat.le_of_ble_eq_true rfl), (Nat.le_of_ble_eq_true rfl)⟩) hE hP hD hS hA [0] rfl (by decide) (q0 := 0) (ci := 13) rfl rfl rfl rfl hl.1 rfl (Nat.le_of_ble_eq_true rfl) dL_law_1510 ⟨(Nat.le_of_ble_eq_true rfl), (Nat.le_of_ble_eq_true rfl)⟩) hP hD hS hA [0] [] rfl rfl (by decide) (by decide) (fun r u H locs hr0 hP hD hS => ?_)
  subst hr0
  have hP : va_P D vwCl [(o, .inr (13, [.int 1, .ref zb, .ref fg]))] H := hP
  have hD : va_D A [(o, .inr (13, [.int 1, .ref zb, .ref fg]))] := hD
  refine lv_iload hx hb dL_law_1513 (lv_at hl 1 rfl) ?_
  refine lv_icmp_eq (tgt := 1520) hx hb dL_law_1515 (by decide) (fun _ => ?_) (fun h => absurd (by decide) h)
  refine lv_iload hx hb dL_law_1520 (lv_at hl 1 rfl) ?_
  refine lv_if_ne (tgt := 1537) hx hb dL_law_1522 (by decide) (fun _ => ?_) (fun h => absurd h (by decide))
  refine lv_goto (tgt := 1758) hx hb dL_law_1537 (by decide) ?_
  refine W.widen (k := 3000) (n := 30000) (Nat.le_of_ble_eq_true rfl) (Nat.le_of_ble_eq_true rfl) ?_
  exact law_end C hS (lv_sub hl [2, 6] rfl)
set_option maxHeartbeats 4000000 in
set_option maxRecDepth 100000 in
theorem law_settingFor {p : Program} {l : Launch} {e : Env} {s : State} {m : MethodId} {below : List Frame} {meth : Method} {c : Code} {b : Nat} {xs : Nat → Int32} {D : va_G} {cI cO cL : ClassId} {E M : Nat} {A : Nat → Prop} (C : fLC p l s m meth c b xs D cI cO cL E M A) {h f sh sp sj sc sa i1 i2 i3 tsh tsp tsj tsc tsa ti1 ti2 ti3 o zb zbp zbj zbc zba fg out : Nat} (p0 : Int32) (p1 : Int32) (hs1 : (1 : Int32).toNatClampNeg = 1 ∧ xs 1 = p0) (hs2 : (2 : Int32).toNatClampNeg = 2 ∧ xs 2 = p1)  {H : Heap} {locs : List Loc} {ls : Array Slot} (hP : va_P D vwCl [(h, .inr (8, [.ref f, .ref sh, .ref tsh])), (f, .inr (0, [.int 0, .ref E, .int 0])), (sh, .inr (6, [.ref sp, .ref sj, .ref sc, .ref sa, .int 0, .int 3000, .int 0, .int 0, .int 0, .int 0, .int 0, .int 0, .int 0, .int 0, .int 0])), (sp, .inr (0, [.int 0, .ref E, .int 0])), (sj, .inr (0, [.int 0, .ref E, .int 0])), (sc, .inr (0, [.int 0, .ref E, .int 0])), (sa, .inr (1, [.ref i1, .ref i2, .ref i3])), (i1, .inl (cI, 9, .inl (fun _ => 0))), (i2, .inl (cI, 9, .inl (fun _ => 0))), (i3, .inl (cI, 9, .inl (fun _ => 0))), (tsh, .inr (6, [.ref tsp, .ref tsj, .ref tsc, .ref tsa, .int 0, .int 3000, .int 0, .int 0, .int 0, .int 0, .int 0, .int 0, .int 0, .int 0, .int 0])), (tsp, .inr (0, [.int 0, .ref E, .int 0])), (tsj, .inr (0, [.int 0, .ref E, .int 0])), (tsc, .inr (0, [.int 0, .ref E, .int 0])), (tsa, .inr (1, [.ref ti1, .ref ti2, .ref ti3])), (ti1, .inl (cI, 9, .inl (fun _ => 0))), (ti2, .inl (cI, 9, .inl (fun _ => 0))), (ti3, .inl (cI, 9, .inl (fun _ => 0))), (o, .inr (13, [.int 0, .ref zb, .ref fg])), (zb, .inr (9, [.int 0, .int 3000, .int 0, .int 0, .int 0, .ref zbp, .ref zbj, .ref zbc, .ref zba, .int 0, .int 0, .int 0, .int 0, .int 0, .int 0])), (zbp, .inr (0, [.int 0, .ref E, .int 0])), (zbj, .inr (0, [.int 0, .ref E, .int 0])), (zbc, .inr (0, [.int 0, .ref E, .int 0])), (zba, .inr (0, [.int 0, .ref E, .int 0])), (fg, .inr (0, [.int 0, .ref E, .int 0])), (out, .inl (cL, 1, .inr (.inl (fun _ => 0))))] H) (hD : va_D A [(h, .inr (8, [.ref f, .ref sh, .ref tsh])), (f, .inr (0, [.int 0, .ref E, .int 0])), (sh, .inr (6, [.ref sp, .ref sj, .ref sc, .ref sa, .int 0, .int 3000, .int 0, .int 0, .int 0, .int 0, .int 0, .int 0, .int 0, .int 0, .int 0])), (sp, .inr (0, [.int 0, .ref E, .int 0])), (sj, .inr (0, [.int 0, .ref E, .int 0])), (sc, .inr (0, [.int 0, .ref E, .int 0])), (sa, .inr (1, [.ref i1, .ref i2, .ref i3])), (i1, .inl (cI, 9, .inl (fun _ => 0))), (i2, .inl (cI, 9, .inl (fun _ => 0))), (i3, .inl (cI, 9, .inl (fun _ => 0))), (tsh, .inr (6, [.ref tsp, .ref tsj, .ref tsc, .ref tsa, .int 0, .int 3000, .int 0, .int 0, .int 0, .int 0, .int 0, .int 0, .int 0, .int 0, .int 0])), (tsp, .inr (0, [.int 0, .ref E, .int 0])), (tsj, .inr (0, [.int 0, .ref E, .int 0])), (tsc, .inr (0, [.int 0, .ref E, .int 0])), (tsa, .inr (1, [.ref ti1, .ref ti2, .ref ti3])), (ti1, .inl (cI, 9, .inl (fun _ => 0))), (ti2, .inl (cI, 9, .inl (fun _ => 0))), (ti3, .inl (cI, 9, .inl (fun _ => 0))), (o, .inr (13, [.int 0, .ref zb, .ref fg])), (zb, .inr (9, [.int 0, .int 3000, .int 0, .int 0, .int 0, .ref zbp, .ref zbj, .ref zbc, .ref zba, .int 0, .int 0, .int 0, .int 0, .int 0, .int 0])), (zbp, .inr (0, [.int 0, .ref E, .int 0])), (zbj, .inr (0, [.int 0, .ref E, .int 0])), (zbc, .inr (0, [.int 0, .ref E, .int 0])), (zba, .inr (0, [.int 0, .ref E, .int 0])), (fg, .inr (0, [.int 0, .ref E, .int 0])), (out, .inl (cL, 1, .inr (.inl (fun _ => 0))))]) (hS : va_S A s.heap H locs) (hl : lv_has ls 9 [(4, .int 0), (3, .ref out), (2, .ref o), (1, .ref h), (0, .ref b)]) : W p l e room_1 s m #[Value.ref b] below meth c H locs 26 148 (lw_Z below #[Value.ref b] s) (F0 m 1540 ls []) := by
  obtain ⟨hx, hb, hr, hml, hown, hts, hX, hbl, hlocks, hl9, hE, hA, hA2⟩ := id C
  have hbA : ¬ A b := fun h => absurd (hA2 b h) (Nat.not_le.mpr hbl)
  refine lv_aload_n hx hb dL_law_1540 rfl (lv_at hl 3 rfl) ?_
  refine lv_aload_n hx hb dL_law_1541 rfl (lv_at hl 4 rfl) ?_
  refine lv_iload hx hb dL_law_1542 (lv_at hl 0 rfl) ?_
  refine lv_iconst (v := 1) hx hb dL_law_1544 (by decide) ?_
  refine f_iadd (v := 1) hx hb dL_law_1545 (by decide) ?_
  refine va_sld hx hb hX hbl hbA hS (by unfold vp_in; decide) dL_law_1546 ?_
  refine f_topi (v := p0) (f_xs hs1) ?_
  refine lv_aload_n hx hb dL_law_1547 rfl (lv_at hl 4 rfl) ?_
  refine lv_iload hx hb dL_law_1548 (lv_at hl 0 rfl) ?_
  refine lv_iconst (v := 2) hx hb dL_law_1550 (by decide) ?_
  refine f_iadd (v := 2) hx hb dL_law_1551 (by decide) ?_
  refine va_sld hx hb hX hbl hbA hS (by unfold vp_in; decide) dL_law_1552 ?_
  refine f_topi (v := p1) (f_xs hs2) ?_
  refine lv_aload_n hx hb dL_law_1553 rfl (lv_at hl 1 rfl) ?_
  refine f_aft_i (wr := [(o, .inr (13, [.int 0, .ref zb, .ref fg])), (zb, .inr (9, [.int 0, .int 3000, .int 0, .int 0, .int 0, .ref zbp, .ref zbj, .ref zbc, .ref zba, .int 0, .int 0, .int 0, .int 0, .int 0, .int 0])), (zbp, .inr (0, [.int 0, .ref E, .int 0])), (zbj, .inr (0, [.int 0, .ref E, .int 0])), (zbc, .inr (0, [.int 0, .ref E, .int 0])), (zba, .inr (0, [.int 0, .ref E, .int 0])), (fg, .inr (0, [.int 0, .ref E, .int 0]))]) (f_runSW (As := [.ref h, .int p0, .int p1, .ref out]) (rest := []) hx hb hml hown hts (kL_settingFor l hl9 D cI cO cL E M h f sh sp sj sc sa i1 i2 i3 tsh tsp tsj tsc tsa ti1 ti2 ti3 out p0 p1 H.size) (fcwSW 4 hts q1037 q1038 q80 q1039 rfl rfl (by decide +kernel) ⟨(Nat.le_of_ble_eq_true rfl), (Nat.le_of_ble_eq_true rfl)⟩) hE hP hD hS hA [0, 1, 2, 3, 4, 5, 6, 7, 8, 9, 10, 11, 12, 13, 14, 15, 16, 17, 25] rfl (by decide) rfl hl.1 rfl (Nat.le_of_ble_eq_true rfl) dL_law_1554 ⟨(Nat.le_of_ble_eq_true rfl), (Nat.le_of_ble_eq_true rfl)⟩) hP hD hS hA [0, 1, 2, 3, 4, 5, 6, 7, 8, 9, 10, 11, 12, 13, 14, 15, 16, 17, 25] [18, 19, 20, 21, 22, 23, 24] rfl rfl (by decide) (by decide) (fun r u H locs hr0 hP hD hS => ?_)
  subst hr0
  have hP : va_P D vwCl [(o, .inr (13, [.int 0, .ref zb, .ref fg])), (zb, .inr (9, [.int 0, .int 3000, .int 0, .int 0, .int 0, .ref zbp, .ref zbj, .ref zbc, .ref zba, .int 0, .int 0, .int 0, .int 0, .int 0, .int 0])), (zbp, .inr (0, [.int 0, .ref E, .int 0])), (zbj, .inr (0, [.int 0, .ref E, .int 0])), (zbc, .inr (0, [.int 0, .ref E, .int 0])), (zba, .inr (0, [.int 0, .ref E, .int 0])), (fg, .inr (0, [.int 0, .ref E, .int 0]))] H := hP
  have hD : va_D A [(o, .inr (13, [.int 0, .ref zb, .ref fg])), (zb, .inr (9, [.int 0, .int 3000, .int 0, .int 0, .int 0, .ref zbp, .ref zbj, .ref zbc, .ref zba, .int 0, .int 0, .int 0, .int 0, .int 0, .int 0])), (zbp, .inr (0, [.int 0, .ref E, .int 0])), (zbj, .inr (0, [.int 0, .ref E, .int 0])), (zbc, .inr (0, [.int 0, .ref E, .int 0])), (zba, .inr (0, [.int 0, .ref E, .int 0])), (fg, .inr (0, [.int 0, .ref E, .int 0]))] := hD
  refine lv_istore (lv' := [(5, .int 1), (4, .int 0), (3, .ref out), (2, .ref o), (1, .ref h), (0, .ref b)]) hx hb dL_law_1557 hl (by decide) rfl (fun ls hl => ?_)
  refine lv_aload_n hx hb dL_law_1559 rfl (lv_at hl 3 rfl) ?_
  refine lv_aload_n hx hb dL_law_1560 rfl (lv_at hl 5 rfl) ?_
  refine lv_iload hx hb dL_law_1561 (lv_at hl 1 rfl) ?_
  refine lv_iconst (v := 1) hx hb dL_law_1563 (by decide) ?_
  refine f_iadd (v := 1) hx hb dL_law_1564 (by decide) ?_
  refine va_sld hx hb hX hbl hbA hS (by unfold vp_in; decide) dL_law_1565 ?_
  refine f_topi (v := p0) (f_xs hs1) ?_
  refine lv_aload_n hx hb dL_law_1566 rfl (lv_at hl 5 rfl) ?_
  refine lv_iload hx hb dL_law_1567 (lv_at hl 1 rfl) ?_
  refine lv_iconst (v := 2) hx hb dL_law_1569 (by decide) ?_
  refine f_iadd (v := 2) hx hb dL_law_1570 (by decide) ?_
  refine va_sld hx hb hX hbl hbA hS (by unfold vp_in; decide) dL_law_1571 ?_
  refine f_topi (v := p1) (f_xs hs2) ?_
  refine f_aft_i (wr := []) (f_runV (As := [.int p0, .int p1]) (rest := []) hx hb hml hown hts (kX12_settingFor l D cI cO cL E M o zb zbp zbj zbc zba fg p0 p1 H.size) (fcwV 2 hts q1051 q1052 q1053 q5 q1054 rfl rfl (by decide +kernel) ⟨(Nat.le_of_ble_eq_true rfl), (Nat.le_of_ble_eq_true rfl)⟩) hE hP hD hS hA [0, 1, 2, 3, 4, 5, 6] rfl (by decide) (q0 := 0) (ci := 13) rfl rfl rfl rfl hl.1 rfl (Nat.le_of_ble_eq_true rfl) dL_law_1572 ⟨(Nat.le_of_ble_eq_true rfl), (Nat.le_of_ble_eq_true rfl)⟩) hP hD hS hA [0, 1, 2, 3, 4, 5, 6] [] rfl rfl (by decide) (by decide) (fun r u H locs hr0 hP hD hS => ?_)
  subst hr0
  have hP : va_P D vwCl [(o, .inr (13, [.int 1, .ref zb, .ref fg]))] H := hP
  have hD : va_D A [(o, .inr (13, [.int 1, .ref zb, .ref fg]))] := hD
  refine lv_istore (lv' := [(6, .int 0), (5, .int 1), (4, .int 0), (3, .ref out), (2, .ref o), (1, .ref h), (0, .ref b)]) hx hb dL_law_1575 hl (by decide) rfl (fun ls hl => ?_)
  refine lv_aload_n hx hb dL_law_1577 rfl (lv_at hl 4 rfl) ?_
  refine f_aft_i (wr := []) (f_runV (As := []) (rest := []) hx hb hml hown hts (kX12_thrown l D cI cO cL E M o zb fg 1 H.size) (fcwV 0 hts q186 q187 q188 q5 q189 rfl rfl (by decide +kernel) ⟨(Nat.le_of_ble_eq_true rfl), (Nat.le_of_ble_eq_true rfl)⟩) hE hP hD hS hA [0] rfl (by decide) (q0 := 0) (ci := 13) rfl rfl rfl rfl hl.1 rfl (Nat.le_of_ble_eq_true rfl) dL_law_1578 ⟨(Nat.le_of_ble_eq_true rfl), (Nat.le_of_ble_eq_true rfl)⟩) hP hD hS hA [0] [] rfl rfl (by decide) (by decide) (fun r u H locs hr0 hP hD hS => ?_)
  subst hr0
  have hP : va_P D vwCl [(o, .inr (13, [.int 1, .ref zb, .ref fg]))] H := hP
  have hD : va_D A [(o, .inr (13, [.int 1, .ref zb, .ref fg]))] := hD
  refine lv_iload hx hb dL_law_1581 (lv_at hl 1 rfl) ?_
  refine lv_icmp_eq (tgt := 1588) hx hb dL_law_1583 (by decide) (fun _ => ?_) (fun h => absurd (by decide) h)
  refine lv_iload hx hb dL_law_1588 (lv_at hl 1 rfl) ?_
  refine lv_if_ne (tgt := 1605) hx hb dL_law_1590 (by decide) (fun _ => ?_) (fun h => absurd h (by decide))
  refine lv_goto (tgt := 1758) hx hb dL_law_1605 (by decide) ?_
  refine W.widen (k := 3000) (n := 30000) (Nat.le_of_ble_eq_true rfl) (Nat.le_of_ble_eq_true rfl) ?_
  exact law_end C hS (lv_sub hl [2, 6] rfl)
set_option maxHeartbeats 4000000 in
set_option maxRecDepth 100000 in
theorem law_leadFor {p : Program} {l : Launch} {e : Env} {s : State} {m : MethodId} {below : List Frame} {meth : Method} {c : Code} {b : Nat} {xs : Nat → Int32} {D : va_G} {cI cO cL : ClassId} {E M : Nat} {A : Nat → Prop} (C : fLC p l s m meth c b xs D cI cO cL E M A) {h f sh sp sj sc sa i1 i2 i3 tsh tsp tsj tsc tsa ti1 ti2 ti3 o zb zbp zbj zbc zba fg out : Nat} (p0 : Int32) (p1 : Int32) (hs1 : (1 : Int32).toNatClampNeg = 1 ∧ xs 1 = p0) (hs2 : (2 : Int32).toNatClampNeg = 2 ∧ xs 2 = p1)  {H : Heap} {locs : List Loc} {ls : Array Slot} (hP : va_P D vwCl [(h, .inr (8, [.ref f, .ref sh, .ref tsh])), (f, .inr (0, [.int 0, .ref E, .int 0])), (sh, .inr (6, [.ref sp, .ref sj, .ref sc, .ref sa, .int 0, .int 3000, .int 0, .int 0, .int 0, .int 0, .int 0, .int 0, .int 0, .int 0, .int 0])), (sp, .inr (0, [.int 0, .ref E, .int 0])), (sj, .inr (0, [.int 0, .ref E, .int 0])), (sc, .inr (0, [.int 0, .ref E, .int 0])), (sa, .inr (1, [.ref i1, .ref i2, .ref i3])), (i1, .inl (cI, 9, .inl (fun _ => 0))), (i2, .inl (cI, 9, .inl (fun _ => 0))), (i3, .inl (cI, 9, .inl (fun _ => 0))), (tsh, .inr (6, [.ref tsp, .ref tsj, .ref tsc, .ref tsa, .int 0, .int 3000, .int 0, .int 0, .int 0, .int 0, .int 0, .int 0, .int 0, .int 0, .int 0])), (tsp, .inr (0, [.int 0, .ref E, .int 0])), (tsj, .inr (0, [.int 0, .ref E, .int 0])), (tsc, .inr (0, [.int 0, .ref E, .int 0])), (tsa, .inr (1, [.ref ti1, .ref ti2, .ref ti3])), (ti1, .inl (cI, 9, .inl (fun _ => 0))), (ti2, .inl (cI, 9, .inl (fun _ => 0))), (ti3, .inl (cI, 9, .inl (fun _ => 0))), (o, .inr (13, [.int 0, .ref zb, .ref fg])), (zb, .inr (9, [.int 0, .int 3000, .int 0, .int 0, .int 0, .ref zbp, .ref zbj, .ref zbc, .ref zba, .int 0, .int 0, .int 0, .int 0, .int 0, .int 0])), (zbp, .inr (0, [.int 0, .ref E, .int 0])), (zbj, .inr (0, [.int 0, .ref E, .int 0])), (zbc, .inr (0, [.int 0, .ref E, .int 0])), (zba, .inr (0, [.int 0, .ref E, .int 0])), (fg, .inr (0, [.int 0, .ref E, .int 0])), (out, .inl (cL, 1, .inr (.inl (fun _ => 0))))] H) (hD : va_D A [(h, .inr (8, [.ref f, .ref sh, .ref tsh])), (f, .inr (0, [.int 0, .ref E, .int 0])), (sh, .inr (6, [.ref sp, .ref sj, .ref sc, .ref sa, .int 0, .int 3000, .int 0, .int 0, .int 0, .int 0, .int 0, .int 0, .int 0, .int 0, .int 0])), (sp, .inr (0, [.int 0, .ref E, .int 0])), (sj, .inr (0, [.int 0, .ref E, .int 0])), (sc, .inr (0, [.int 0, .ref E, .int 0])), (sa, .inr (1, [.ref i1, .ref i2, .ref i3])), (i1, .inl (cI, 9, .inl (fun _ => 0))), (i2, .inl (cI, 9, .inl (fun _ => 0))), (i3, .inl (cI, 9, .inl (fun _ => 0))), (tsh, .inr (6, [.ref tsp, .ref tsj, .ref tsc, .ref tsa, .int 0, .int 3000, .int 0, .int 0, .int 0, .int 0, .int 0, .int 0, .int 0, .int 0, .int 0])), (tsp, .inr (0, [.int 0, .ref E, .int 0])), (tsj, .inr (0, [.int 0, .ref E, .int 0])), (tsc, .inr (0, [.int 0, .ref E, .int 0])), (tsa, .inr (1, [.ref ti1, .ref ti2, .ref ti3])), (ti1, .inl (cI, 9, .inl (fun _ => 0))), (ti2, .inl (cI, 9, .inl (fun _ => 0))), (ti3, .inl (cI, 9, .inl (fun _ => 0))), (o, .inr (13, [.int 0, .ref zb, .ref fg])), (zb, .inr (9, [.int 0, .int 3000, .int 0, .int 0, .int 0, .ref zbp, .ref zbj, .ref zbc, .ref zba, .int 0, .int 0, .int 0, .int 0, .int 0, .int 0])), (zbp, .inr (0, [.int 0, .ref E, .int 0])), (zbj, .inr (0, [.int 0, .ref E, .int 0])), (zbc, .inr (0, [.int 0, .ref E, .int 0])), (zba, .inr (0, [.int 0, .ref E, .int 0])), (fg, .inr (0, [.int 0, .ref E, .int 0])), (out, .inl (cL, 1, .inr (.inl (fun _ => 0))))]) (hS : va_S A s.heap H locs) (hl : lv_has ls 9 [(4, .int 0), (3, .ref out), (2, .ref o), (1, .ref h), (0, .ref b)]) : W p l e room_1 s m #[Value.ref b] below meth c H locs 26 148 (lw_Z below #[Value.ref b] s) (F0 m 1608 ls []) := by
  obtain ⟨hx, hb, hr, hml, hown, hts, hX, hbl, hlocks, hl9, hE, hA, hA2⟩ := id C
  have hbA : ¬ A b := fun h => absurd (hA2 b h) (Nat.not_le.mpr hbl)
  refine lv_aload_n hx hb dL_law_1608 rfl (lv_at hl 3 rfl) ?_
  refine lv_aload_n hx hb dL_law_1609 rfl (lv_at hl 4 rfl) ?_
  refine lv_iload hx hb dL_law_1610 (lv_at hl 0 rfl) ?_
  refine lv_iconst (v := 1) hx hb dL_law_1612 (by decide) ?_
  refine f_iadd (v := 1) hx hb dL_law_1613 (by decide) ?_
  refine va_sld hx hb hX hbl hbA hS (by unfold vp_in; decide) dL_law_1614 ?_
  refine f_topi (v := p0) (f_xs hs1) ?_
  refine lv_aload_n hx hb dL_law_1615 rfl (lv_at hl 4 rfl) ?_
  refine lv_iload hx hb dL_law_1616 (lv_at hl 0 rfl) ?_
  refine lv_iconst (v := 2) hx hb dL_law_1618 (by decide) ?_
  refine f_iadd (v := 2) hx hb dL_law_1619 (by decide) ?_
  refine va_sld hx hb hX hbl hbA hS (by unfold vp_in; decide) dL_law_1620 ?_
  refine f_topi (v := p1) (f_xs hs2) ?_
  refine lv_aload_n hx hb dL_law_1621 rfl (lv_at hl 1 rfl) ?_
  refine f_aft_i (wr := [(o, .inr (13, [.int 0, .ref zb, .ref fg])), (zb, .inr (9, [.int 0, .int 3000, .int 0, .int 0, .int 0, .ref zbp, .ref zbj, .ref zbc, .ref zba, .int 0, .int 0, .int 0, .int 0, .int 0, .int 0])), (zbp, .inr (0, [.int 0, .ref E, .int 0])), (zbj, .inr (0, [.int 0, .ref E, .int 0])), (zbc, .inr (0, [.int 0, .ref E, .int 0])), (zba, .inr (0, [.int 0, .ref E, .int 0])), (fg, .inr (0, [.int 0, .ref E, .int 0]))]) (f_runSW (As := [.ref h, .int p0, .int p1, .ref out]) (rest := []) hx hb hml hown hts (kL_leadFor l hl9 D cI cO cL E M h f sh sp sj sc sa i1 i2 i3 tsh tsp tsj tsc tsa ti1 ti2 ti3 out p0 p1 H.size) (fcwSW 4 hts q1059 q1060 q80 q1061 rfl rfl (by decide +kernel) ⟨(Nat.le_of_ble_eq_true rfl), (Nat.le_of_ble_eq_true rfl)⟩) hE hP hD hS hA [0, 1, 2, 3, 4, 5, 6, 7, 8, 9, 10, 11, 12, 13, 14, 15, 16, 17, 25] rfl (by decide) rfl hl.1 rfl (Nat.le_of_ble_eq_true rfl) dL_law_1622 ⟨(Nat.le_of_ble_eq_true rfl), (Nat.le_of_ble_eq_true rfl)⟩) hP hD hS hA [0, 1, 2, 3, 4, 5, 6, 7, 8, 9, 10, 11, 12, 13, 14, 15, 16, 17, 25] [18, 19, 20, 21, 22, 23, 24] rfl rfl (by decide) (by decide) (fun r u H locs hr0 hP hD hS => ?_)
  subst hr0
  have hP : va_P D vwCl [(o, .inr (13, [.int 0, .ref zb, .ref fg])), (zb, .inr (9, [.int 0, .int 3000, .int 0, .int 0, .int 0, .ref zbp, .ref zbj, .ref zbc, .ref zba, .int 0, .int 0, .int 0, .int 0, .int 0, .int 0])), (zbp, .inr (0, [.int 0, .ref E, .int 0])), (zbj, .inr (0, [.int 0, .ref E, .int 0])), (zbc, .inr (0, [.int 0, .ref E, .int 0])), (zba, .inr (0, [.int 0, .ref E, .int 0])), (fg, .inr (0, [.int 0, .ref E, .int 0]))] H := hP
  have hD : va_D A [(o, .inr (13, [.int 0, .ref zb, .ref fg])), (zb, .inr (9, [.int 0, .int 3000, .int 0, .int 0, .int 0, .ref zbp, .ref zbj, .ref zbc, .ref zba, .int 0, .int 0, .int 0, .int 0, .int 0, .int 0])), (zbp, .inr (0, [.int 0, .ref E, .int 0])), (zbj, .inr (0, [.int 0, .ref E, .int 0])), (zbc, .inr (0, [.int 0, .ref E, .int 0])), (zba, .inr (0, [.int 0, .ref E, .int 0])), (fg, .inr (0, [.int 0, .ref E, .int 0]))] := hD
  refine lv_istore (lv' := [(5, .int 1), (4, .int 0), (3, .ref out), (2, .ref o), (1, .ref h), (0, .ref b)]) hx hb dL_law_1625 hl (by decide) rfl (fun ls hl => ?_)
  refine lv_aload_n hx hb dL_law_1627 rfl (lv_at hl 3 rfl) ?_
  refine lv_aload_n hx hb dL_law_1628 rfl (lv_at hl 5 rfl) ?_
  refine lv_iload hx hb dL_law_1629 (lv_at hl 1 rfl) ?_
  refine lv_iconst (v := 1) hx hb dL_law_1631 (by decide) ?_
  refine f_iadd (v := 1) hx hb dL_law_1632 (by decide) ?_
  refine va_sld hx hb hX hbl hbA hS (by unfold vp_in; decide) dL_law_1633 ?_
  refine f_topi (v := p0) (f_xs hs1) ?_
  refine lv_aload_n hx hb dL_law_1634 rfl (lv_at hl 5 rfl) ?_
  refine lv_iload hx hb dL_law_1635 (lv_at hl 1 rfl) ?_
  refine lv_iconst (v := 2) hx hb dL_law_1637 (by decide) ?_
  refine f_iadd (v := 2) hx hb dL_law_1638 (by decide) ?_
  refine va_sld hx hb hX hbl hbA hS (by unfold vp_in; decide) dL_law_1639 ?_
  refine f_topi (v := p1) (f_xs hs2) ?_
  refine f_aft_i (wr := []) (f_runV (As := [.int p0, .int p1]) (rest := []) hx hb hml hown hts (kX12_leadFor l D cI cO cL E M o zb zbp zbj zbc zba fg p0 p1 H.size) (fcwV 2 hts q1071 q1072 q1073 q5 q1074 rfl rfl (by decide +kernel) ⟨(Nat.le_of_ble_eq_true rfl), (Nat.le_of_ble_eq_true rfl)⟩) hE hP hD hS hA [0, 1, 2, 3, 4, 5, 6] rfl (by decide) (q0 := 0) (ci := 13) rfl rfl rfl rfl hl.1 rfl (Nat.le_of_ble_eq_true rfl) dL_law_1640 ⟨(Nat.le_of_ble_eq_true rfl), (Nat.le_of_ble_eq_true rfl)⟩) hP hD hS hA [0, 1, 2, 3, 4, 5, 6] [] rfl rfl (by decide) (by decide) (fun r u H locs hr0 hP hD hS => ?_)
  subst hr0
  have hP : va_P D vwCl [(o, .inr (13, [.int 1, .ref zb, .ref fg]))] H := hP
  have hD : va_D A [(o, .inr (13, [.int 1, .ref zb, .ref fg]))] := hD
  refine lv_istore (lv' := [(6, .int 0), (5, .int 1), (4, .int 0), (3, .ref out), (2, .ref o), (1, .ref h), (0, .ref b)]) hx hb dL_law_1643 hl (by decide) rfl (fun ls hl => ?_)
  refine lv_aload_n hx hb dL_law_1645 rfl (lv_at hl 4 rfl) ?_
  refine f_aft_i (wr := []) (f_runV (As := []) (rest := []) hx hb hml hown hts (kX12_thrown l D cI cO cL E M o zb fg 1 H.size) (fcwV 0 hts q186 q187 q188 q5 q189 rfl rfl (by decide +kernel) ⟨(Nat.le_of_ble_eq_true rfl), (Nat.le_of_ble_eq_true rfl)⟩) hE hP hD hS hA [0] rfl (by decide) (q0 := 0) (ci := 13) rfl rfl rfl rfl hl.1 rfl (Nat.le_of_ble_eq_true rfl) dL_law_1646 ⟨(Nat.le_of_ble_eq_true rfl), (Nat.le_of_ble_eq_true rfl)⟩) hP hD hS hA [0] [] rfl rfl (by decide) (by decide) (fun r u H locs hr0 hP hD hS => ?_)
  subst hr0
  have hP : va_P D vwCl [(o, .inr (13, [.int 1, .ref zb, .ref fg]))] H := hP
  have hD : va_D A [(o, .inr (13, [.int 1, .ref zb, .ref fg]))] := hD
  refine lv_iload hx hb dL_law_1649 (lv_at hl 1 rfl) ?_
  refine lv_icmp_eq (tgt := 1656) hx hb dL_law_1651 (by decide) (fun _ => ?_) (fun h => absurd (by decide) h)
  refine lv_iload hx hb dL_law_1656 (lv_at hl 1 rfl) ?_
  refine lv_if_ne (tgt := 1673) hx hb dL_law_1658 (by decide) (fun _ => ?_) (fun h => absurd h (by decide))
  refine lv_goto (tgt := 1758) hx hb dL_law_1673 (by decide) ?_
  refine W.widen (k := 3000) (n := 30000) (Nat.le_of_ble_eq_true rfl) (Nat.le_of_ble_eq_true rfl) ?_
  exact law_end C hS (lv_sub hl [2, 6] rfl)
set_option maxHeartbeats 4000000 in
set_option maxRecDepth 100000 in
theorem law_open {p : Program} {l : Launch} {e : Env} {s : State} {m : MethodId} {below : List Frame} {meth : Method} {c : Code} {b : Nat} {xs : Nat → Int32} {D : va_G} {cI cO cL : ClassId} {E M : Nat} {A : Nat → Prop} (C : fLC p l s m meth c b xs D cI cO cL E M A) {h f sh sp sj sc sa i1 i2 i3 tsh tsp tsj tsc tsa ti1 ti2 ti3 o zb zbp zbj zbc zba fg out : Nat} (p0 : Int32) (hs1 : (1 : Int32).toNatClampNeg = 1 ∧ xs 1 = p0)  {H : Heap} {locs : List Loc} {ls : Array Slot} (hP : va_P D vwCl [(h, .inr (8, [.ref f, .ref sh, .ref tsh])), (f, .inr (0, [.int 0, .ref E, .int 0])), (sh, .inr (6, [.ref sp, .ref sj, .ref sc, .ref sa, .int 0, .int 3000, .int 0, .int 0, .int 0, .int 0, .int 0, .int 0, .int 0, .int 0, .int 0])), (sp, .inr (0, [.int 0, .ref E, .int 0])), (sj, .inr (0, [.int 0, .ref E, .int 0])), (sc, .inr (0, [.int 0, .ref E, .int 0])), (sa, .inr (1, [.ref i1, .ref i2, .ref i3])), (i1, .inl (cI, 9, .inl (fun _ => 0))), (i2, .inl (cI, 9, .inl (fun _ => 0))), (i3, .inl (cI, 9, .inl (fun _ => 0))), (tsh, .inr (6, [.ref tsp, .ref tsj, .ref tsc, .ref tsa, .int 0, .int 3000, .int 0, .int 0, .int 0, .int 0, .int 0, .int 0, .int 0, .int 0, .int 0])), (tsp, .inr (0, [.int 0, .ref E, .int 0])), (tsj, .inr (0, [.int 0, .ref E, .int 0])), (tsc, .inr (0, [.int 0, .ref E, .int 0])), (tsa, .inr (1, [.ref ti1, .ref ti2, .ref ti3])), (ti1, .inl (cI, 9, .inl (fun _ => 0))), (ti2, .inl (cI, 9, .inl (fun _ => 0))), (ti3, .inl (cI, 9, .inl (fun _ => 0))), (o, .inr (13, [.int 0, .ref zb, .ref fg])), (zb, .inr (9, [.int 0, .int 3000, .int 0, .int 0, .int 0, .ref zbp, .ref zbj, .ref zbc, .ref zba, .int 0, .int 0, .int 0, .int 0, .int 0, .int 0])), (zbp, .inr (0, [.int 0, .ref E, .int 0])), (zbj, .inr (0, [.int 0, .ref E, .int 0])), (zbc, .inr (0, [.int 0, .ref E, .int 0])), (zba, .inr (0, [.int 0, .ref E, .int 0])), (fg, .inr (0, [.int 0, .ref E, .int 0])), (out, .inl (cL, 1, .inr (.inl (fun _ => 0))))] H) (hD : va_D A [(h, .inr (8, [.ref f, .ref sh, .ref tsh])), (f, .inr (0, [.int 0, .ref E, .int 0])), (sh, .inr (6, [.ref sp, .ref sj, .ref sc, .ref sa, .int 0, .int 3000, .int 0, .int 0, .int 0, .int 0, .int 0, .int 0, .int 0, .int 0, .int 0])), (sp, .inr (0, [.int 0, .ref E, .int 0])), (sj, .inr (0, [.int 0, .ref E, .int 0])), (sc, .inr (0, [.int 0, .ref E, .int 0])), (sa, .inr (1, [.ref i1, .ref i2, .ref i3])), (i1, .inl (cI, 9, .inl (fun _ => 0))), (i2, .inl (cI, 9, .inl (fun _ => 0))), (i3, .inl (cI, 9, .inl (fun _ => 0))), (tsh, .inr (6, [.ref tsp, .ref tsj, .ref tsc, .ref tsa, .int 0, .int 3000, .int 0, .int 0, .int 0, .int 0, .int 0, .int 0, .int 0, .int 0, .int 0])), (tsp, .inr (0, [.int 0, .ref E, .int 0])), (tsj, .inr (0, [.int 0, .ref E, .int 0])), (tsc, .inr (0, [.int 0, .ref E, .int 0])), (tsa, .inr (1, [.ref ti1, .ref ti2, .ref ti3])), (ti1, .inl (cI, 9, .inl (fun _ => 0))), (ti2, .inl (cI, 9, .inl (fun _ => 0))), (ti3, .inl (cI, 9, .inl (fun _ => 0))), (o, .inr (13, [.int 0, .ref zb, .ref fg])), (zb, .inr (9, [.int 0, .int 3000, .int 0, .int 0, .int 0, .ref zbp, .ref zbj, .ref zbc, .ref zba, .int 0, .int 0, .int 0, .int 0, .int 0, .int 0])), (zbp, .inr (0, [.int 0, .ref E, .int 0])), (zbj, .inr (0, [.int 0, .ref E, .int 0])), (zbc, .inr (0, [.int 0, .ref E, .int 0])), (zba, .inr (0, [.int 0, .ref E, .int 0])), (fg, .inr (0, [.int 0, .ref E, .int 0])), (out, .inl (cL, 1, .inr (.inl (fun _ => 0))))]) (hS : va_S A s.heap H locs) (hl : lv_has ls 9 [(4, .int 0), (3, .ref out), (2, .ref o), (1, .ref h), (0, .ref b)]) : W p l e room_1 s m #[Value.ref b] below meth c H locs 26 148 (lw_Z below #[Value.ref b] s) (F0 m 1319 ls []) := by
  obtain ⟨hx, hb, hr, hml, hown, hts, hX, hbl, hlocks, hl9, hE, hA, hA2⟩ := id C
  have hbA : ¬ A b := fun h => absurd (hA2 b h) (Nat.not_le.mpr hbl)
  refine lv_aload_n hx hb dL_law_1319 rfl (lv_at hl 3 rfl) ?_
  refine lv_aload_n hx hb dL_law_1320 rfl (lv_at hl 4 rfl) ?_
  refine lv_iload hx hb dL_law_1321 (lv_at hl 0 rfl) ?_
  refine lv_iconst (v := 1) hx hb dL_law_1323 (by decide) ?_
  refine f_iadd (v := 1) hx hb dL_law_1324 (by decide) ?_
  refine va_sld hx hb hX hbl hbA hS (by unfold vp_in; decide) dL_law_1325 ?_
  refine f_topi (v := p0) (f_xs hs1) ?_
  refine lv_aload_n hx hb dL_law_1326 rfl (lv_at hl 1 rfl) ?_
  refine f_aft_i (wr := [(o, .inr (13, [.int 0, .ref zb, .ref fg])), (zb, .inr (9, [.int 0, .int 3000, .int 0, .int 0, .int 0, .ref zbp, .ref zbj, .ref zbc, .ref zba, .int 0, .int 0, .int 0, .int 0, .int 0, .int 0])), (zbp, .inr (0, [.int 0, .ref E, .int 0])), (zbj, .inr (0, [.int 0, .ref E, .int 0])), (zbc, .inr (0, [.int 0, .ref E, .int 0])), (zba, .inr (0, [.int 0, .ref E, .int 0])), (fg, .inr (0, [.int 0, .ref E, .int 0]))]) (f_runSW (As := [.ref h, .int p0, .ref out]) (rest := []) hx hb hml hown hts (kL_open l hl9 D cI cO cL E M h f sh sp sj sc sa i1 i2 i3 tsh tsp tsj tsc tsa ti1 ti2 ti3 out p0 H.size) (fcwSW 3 hts q880 q881 q80 q882 rfl rfl (by decide +kernel) ⟨(Nat.le_of_ble_eq_true rfl), (Nat.le_of_ble_eq_true rfl)⟩) hE hP hD hS hA [0, 1, 2, 3, 4, 5, 6, 7, 8, 9, 10, 11, 12, 13, 14, 15, 16, 17, 25] rfl (by decide) rfl hl.1 rfl (Nat.le_of_ble_eq_true rfl) dL_law_1327 ⟨(Nat.le_of_ble_eq_true rfl), (Nat.le_of_ble_eq_true rfl)⟩) hP hD hS hA [0, 1, 2, 3, 4, 5, 6, 7, 8, 9, 10, 11, 12, 13, 14, 15, 16, 17, 25] [18, 19, 20, 21, 22, 23, 24] rfl rfl (by decide) (by decide) (fun r u H locs hr0 hP hD hS => ?_)
  subst hr0
  have hP : va_P D vwCl [(o, .inr (13, [.int 0, .ref zb, .ref fg])), (zb, .inr (9, [.int 0, .int 3000, .int 0, .int 0, .int 0, .ref zbp, .ref zbj, .ref zbc, .ref zba, .int 0, .int 0, .int 0, .int 0, .int 0, .int 0])), (zbp, .inr (0, [.int 0, .ref E, .int 0])), (zbj, .inr (0, [.int 0, .ref E, .int 0])), (zbc, .inr (0, [.int 0, .ref E, .int 0])), (zba, .inr (0, [.int 0, .ref E, .int 0])), (fg, .inr (0, [.int 0, .ref E, .int 0]))] H := hP
  have hD : va_D A [(o, .inr (13, [.int 0, .ref zb, .ref fg])), (zb, .inr (9, [.int 0, .int 3000, .int 0, .int 0, .int 0, .ref zbp, .ref zbj, .ref zbc, .ref zba, .int 0, .int 0, .int 0, .int 0, .int 0, .int 0])), (zbp, .inr (0, [.int 0, .ref E, .int 0])), (zbj, .inr (0, [.int 0, .ref E, .int 0])), (zbc, .inr (0, [.int 0, .ref E, .int 0])), (zba, .inr (0, [.int 0, .ref E, .int 0])), (fg, .inr (0, [.int 0, .ref E, .int 0]))] := hD
  refine lv_istore (lv' := [(5, .int 1), (4, .int 0), (3, .ref out), (2, .ref o), (1, .ref h), (0, .ref b)]) hx hb dL_law_1330 hl (by decide) rfl (fun ls hl => ?_)
  refine lv_aload_n hx hb dL_law_1332 rfl (lv_at hl 3 rfl) ?_
  refine lv_aload_n hx hb dL_law_1333 rfl (lv_at hl 5 rfl) ?_
  refine lv_iload hx hb dL_law_1334 (lv_at hl 1 rfl) ?_
  refine lv_iconst (v := 1) hx hb dL_law_1336 (by decide) ?_
  refine f_iadd (v := 1) hx hb dL_law_1337 (by decide) ?_
  refine va_sld hx hb hX hbl hbA hS (by unfold vp_in; decide) dL_law_1338 ?_
  refine f_topi (v := p0) (f_xs hs1) ?_
  refine f_aft_i (wr := []) (f_runV (As := [.int p0]) (rest := []) hx hb hml hown hts (kX12_open l D cI cO cL E M o zb zbp zbj zbc zba fg p0 H.size) (fcwV 1 hts q896 q897 q898 q5 q899 rfl rfl (by decide +kernel) ⟨(Nat.le_of_ble_eq_true rfl), (Nat.le_of_ble_eq_true rfl)⟩) hE hP hD hS hA [0, 1, 2, 3, 4, 5, 6] rfl (by decide) (q0 := 0) (ci := 13) rfl rfl rfl rfl hl.1 rfl (Nat.le_of_ble_eq_true rfl) dL_law_1339 ⟨(Nat.le_of_ble_eq_true rfl), (Nat.le_of_ble_eq_true rfl)⟩) hP hD hS hA [0, 1, 2, 3, 4, 5, 6] [] rfl rfl (by decide) (by decide) (fun r u H locs hr0 hP hD hS => ?_)
  subst hr0
  have hP : va_P D vwCl [(o, .inr (13, [.int 1, .ref zb, .ref fg]))] H := hP
  have hD : va_D A [(o, .inr (13, [.int 1, .ref zb, .ref fg]))] := hD
  refine lv_istore (lv' := [(6, .int 0), (5, .int 1), (4, .int 0), (3, .ref out), (2, .ref o), (1, .ref h), (0, .ref b)]) hx hb dL_law_1342 hl (by decide) rfl (fun ls hl => ?_)
  refine lv_aload_n hx hb dL_law_1344 rfl (lv_at hl 4 rfl) ?_
  refine f_aft_i (wr := []) (f_runV (As := []) (rest := []) hx hb hml hown hts (kX12_thrown l D cI cO cL E M o zb fg 1 H.size) (fcwV 0 hts q186 q187 q188 q5 q189 rfl rfl (by decide +kernel) ⟨(Nat.le_of_ble_eq_true rfl), (Nat.le_of_ble_eq_true rfl)⟩) hE hP hD hS hA [0] rfl (by decide) (q0 := 0) (ci := 13) rfl rfl rfl rfl hl.1 rfl (Nat.le_of_ble_eq_true rfl) dL_law_1345 ⟨(Nat.le_of_ble_eq_true rfl), (Nat.le_of_ble_eq_true rfl)⟩) hP hD hS hA [0] [] rfl rfl (by decide) (by decide) (fun r u H locs hr0 hP hD hS => ?_)
  subst hr0
  have hP : va_P D vwCl [(o, .inr (13, [.int 1, .ref zb, .ref fg]))] H := hP
  have hD : va_D A [(o, .inr (13, [.int 1, .ref zb, .ref fg]))] := hD
  refine lv_iload hx hb dL_law_1348 (lv_at hl 1 rfl) ?_
  refine lv_icmp_eq (tgt := 1355) hx hb dL_law_1350 (by decide) (fun _ => ?_) (fun h => absurd (by decide) h)
  refine lv_iload hx hb dL_law_1355 (lv_at hl 1 rfl) ?_
  refine lv_if_ne (tgt := 1372) hx hb dL_law_1357 (by decide) (fun _ => ?_) (fun h => absurd h (by decide))
  refine lv_goto (tgt := 1758) hx hb dL_law_1372 (by decide) ?_
  refine W.widen (k := 3000) (n := 30000) (Nat.le_of_ble_eq_true rfl) (Nat.le_of_ble_eq_true rfl) ?_
  exact law_end C hS (lv_sub hl [2, 6] rfl)
set_option maxHeartbeats 4000000 in
set_option maxRecDepth 100000 in
theorem law_figure_ok {p : Program} {l : Launch} {e : Env} {s : State} {m : MethodId} {below : List Frame} {meth : Method} {c : Code} {b : Nat} {xs : Nat → Int32} {D : va_G} {cI cO cL : ClassId} {E M : Nat} {A : Nat → Prop} (C : fLC p l s m meth c b xs D cI cO cL E M A) {h f sh sp sj sc sa i1 i2 i3 tsh tsp tsj tsc tsa ti1 ti2 ti3 o zb zbp zbj zbc zba fg out : Nat}    {H : Heap} {locs : List Loc} {ls : Array Slot} (hP : va_P D vwCl [(h, .inr (8, [.ref f, .ref sh, .ref tsh])), (f, .inr (0, [.int 0, .ref E, .int 0])), (sh, .inr (6, [.ref sp, .ref sj, .ref sc, .ref sa, .int 0, .int 3000, .int 0, .int 0, .int 0, .int 0, .int 0, .int 0, .int 0, .int 0, .int 0])), (sp, .inr (0, [.int 0, .ref E, .int 0])), (sj, .inr (0, [.int 0, .ref E, .int 0])), (sc, .inr (0, [.int 0, .ref E, .int 0])), (sa, .inr (1, [.ref i1, .ref i2, .ref i3])), (i1, .inl (cI, 9, .inl (fun _ => 0))), (i2, .inl (cI, 9, .inl (fun _ => 0))), (i3, .inl (cI, 9, .inl (fun _ => 0))), (tsh, .inr (6, [.ref tsp, .ref tsj, .ref tsc, .ref tsa, .int 0, .int 3000, .int 0, .int 0, .int 0, .int 0, .int 0, .int 0, .int 0, .int 0, .int 0])), (tsp, .inr (0, [.int 0, .ref E, .int 0])), (tsj, .inr (0, [.int 0, .ref E, .int 0])), (tsc, .inr (0, [.int 0, .ref E, .int 0])), (tsa, .inr (1, [.ref ti1, .ref ti2, .ref ti3])), (ti1, .inl (cI, 9, .inl (fun _ => 0))), (ti2, .inl (cI, 9, .inl (fun _ => 0))), (ti3, .inl (cI, 9, .inl (fun _ => 0))), (o, .inr (13, [.int 0, .ref zb, .ref fg])), (zb, .inr (9, [.int 0, .int 3000, .int 0, .int 0, .int 0, .ref zbp, .ref zbj, .ref zbc, .ref zba, .int 0, .int 0, .int 0, .int 0, .int 0, .int 0])), (zbp, .inr (0, [.int 0, .ref E, .int 0])), (zbj, .inr (0, [.int 0, .ref E, .int 0])), (zbc, .inr (0, [.int 0, .ref E, .int 0])), (zba, .inr (0, [.int 0, .ref E, .int 0])), (fg, .inr (0, [.int 0, .ref E, .int 0])), (out, .inl (cL, 1, .inr (.inl (fun _ => 0))))] H) (hD : va_D A [(h, .inr (8, [.ref f, .ref sh, .ref tsh])), (f, .inr (0, [.int 0, .ref E, .int 0])), (sh, .inr (6, [.ref sp, .ref sj, .ref sc, .ref sa, .int 0, .int 3000, .int 0, .int 0, .int 0, .int 0, .int 0, .int 0, .int 0, .int 0, .int 0])), (sp, .inr (0, [.int 0, .ref E, .int 0])), (sj, .inr (0, [.int 0, .ref E, .int 0])), (sc, .inr (0, [.int 0, .ref E, .int 0])), (sa, .inr (1, [.ref i1, .ref i2, .ref i3])), (i1, .inl (cI, 9, .inl (fun _ => 0))), (i2, .inl (cI, 9, .inl (fun _ => 0))), (i3, .inl (cI, 9, .inl (fun _ => 0))), (tsh, .inr (6, [.ref tsp, .ref tsj, .ref tsc, .ref tsa, .int 0, .int 3000, .int 0, .int 0, .int 0, .int 0, .int 0, .int 0, .int 0, .int 0, .int 0])), (tsp, .inr (0, [.int 0, .ref E, .int 0])), (tsj, .inr (0, [.int 0, .ref E, .int 0])), (tsc, .inr (0, [.int 0, .ref E, .int 0])), (tsa, .inr (1, [.ref ti1, .ref ti2, .ref ti3])), (ti1, .inl (cI, 9, .inl (fun _ => 0))), (ti2, .inl (cI, 9, .inl (fun _ => 0))), (ti3, .inl (cI, 9, .inl (fun _ => 0))), (o, .inr (13, [.int 0, .ref zb, .ref fg])), (zb, .inr (9, [.int 0, .int 3000, .int 0, .int 0, .int 0, .ref zbp, .ref zbj, .ref zbc, .ref zba, .int 0, .int 0, .int 0, .int 0, .int 0, .int 0])), (zbp, .inr (0, [.int 0, .ref E, .int 0])), (zbj, .inr (0, [.int 0, .ref E, .int 0])), (zbc, .inr (0, [.int 0, .ref E, .int 0])), (zba, .inr (0, [.int 0, .ref E, .int 0])), (fg, .inr (0, [.int 0, .ref E, .int 0])), (out, .inl (cL, 1, .inr (.inl (fun _ => 0))))]) (hS : va_S A s.heap H locs) (hl : lv_has ls 9 [(4, .int 0), (3, .ref out), (2, .ref o), (1, .ref h), (0, .ref b)]) : W p l e room_1 s m #[Value.ref b] below meth c H locs 26 148 (lw_Z below #[Value.ref b] s) (F0 m 300 ls []) := by
  obtain ⟨hx, hb, hr, hml, hown, hts, hX, hbl, hlocks, hl9, hE, hA, hA2⟩ := id C
  have hbA : ¬ A b := fun h => absurd (hA2 b h) (Nat.not_le.mpr hbl)
  refine lv_aload_n hx hb dL_law_300 rfl (lv_at hl 3 rfl) ?_
  refine lv_aload_n hx hb dL_law_301 rfl (lv_at hl 1 rfl) ?_
  refine f_aft_i (wr := [(o, .inr (13, [.int 0, .ref zb, .ref fg])), (zb, .inr (9, [.int 0, .int 3000, .int 0, .int 0, .int 0, .ref zbp, .ref zbj, .ref zbc, .ref zba, .int 0, .int 0, .int 0, .int 0, .int 0, .int 0])), (zbp, .inr (0, [.int 0, .ref E, .int 0])), (zbj, .inr (0, [.int 0, .ref E, .int 0])), (zbc, .inr (0, [.int 0, .ref E, .int 0])), (zba, .inr (0, [.int 0, .ref E, .int 0])), (fg, .inr (0, [.int 0, .ref E, .int 0]))]) (f_runSW (As := [.ref h, .ref out]) (rest := []) hx hb hml hown hts (kL_figure_ok l D cI cO cL E M h f sh sp sj sc sa i1 i2 i3 tsh tsp tsj tsc tsa ti1 ti2 ti3 out H.size) (fcwSW 2 hts q261 q262 q80 q263 rfl rfl (by decide +kernel) ⟨(Nat.le_of_ble_eq_true rfl), (Nat.le_of_ble_eq_true rfl)⟩) hE hP hD hS hA [0, 1, 2, 3, 4, 5, 6, 7, 8, 9, 10, 11, 12, 13, 14, 15, 16, 17, 25] rfl (by decide) rfl hl.1 rfl (Nat.le_of_ble_eq_true rfl) dL_law_302 ⟨(Nat.le_of_ble_eq_true rfl), (Nat.le_of_ble_eq_true rfl)⟩) hP hD hS hA [0, 1, 2, 3, 4, 5, 6, 7, 8, 9, 10, 11, 12, 13, 14, 15, 16, 17, 25] [18, 19, 20, 21, 22, 23, 24] rfl rfl (by decide) (by decide) (fun r u H locs hr0 hP hD hS => ?_)
  subst hr0
  have hP : va_P D vwCl [(o, .inr (13, [.int 0, .ref zb, .ref fg])), (zb, .inr (9, [.int 0, .int 3000, .int 0, .int 0, .int 0, .ref zbp, .ref zbj, .ref zbc, .ref zba, .int 0, .int 0, .int 0, .int 0, .int 0, .int 0])), (zbp, .inr (0, [.int 0, .ref E, .int 0])), (zbj, .inr (0, [.int 0, .ref E, .int 0])), (zbc, .inr (0, [.int 0, .ref E, .int 0])), (zba, .inr (0, [.int 0, .ref E, .int 0])), (fg, .inr (0, [.int 0, .ref E, .int 0])), (out, .inl (cL, 1, .inr (.inl (fun _ => 0))))] H := hP
  have hD : va_D A [(o, .inr (13, [.int 0, .ref zb, .ref fg])), (zb, .inr (9, [.int 0, .int 3000, .int 0, .int 0, .int 0, .ref zbp, .ref zbj, .ref zbc, .ref zba, .int 0, .int 0, .int 0, .int 0, .int 0, .int 0])), (zbp, .inr (0, [.int 0, .ref E, .int 0])), (zbj, .inr (0, [.int 0, .ref E, .int 0])), (zbc, .inr (0, [.int 0, .ref E, .int 0])), (zba, .inr (0, [.int 0, .ref E, .int 0])), (fg, .inr (0, [.int 0, .ref E, .int 0])), (out, .inl (cL, 1, .inr (.inl (fun _ => 0))))] := hD
  refine lv_istore (lv' := [(5, .int 0), (4, .int 0), (3, .ref out), (2, .ref o), (1, .ref h), (0, .ref b)]) hx hb dL_law_305 hl (by decide) rfl (fun ls hl => ?_)
  refine lv_aload_n hx hb dL_law_307 rfl (lv_at hl 3 rfl) ?_
  refine f_aft_i (wr := [(out, .inl (cL, 1, .inr (.inl (fun _ => 0))))]) (f_runV (As := []) (rest := []) hx hb hml hown hts (kX12_figure_ok l D cI cO cL E M o zb zbp zbj zbc zba fg H.size) (fcwV 0 hts q277 q278 q279 q5 q280 rfl rfl (by decide +kernel) ⟨(Nat.le_of_ble_eq_true rfl), (Nat.le_of_ble_eq_true rfl)⟩) hE hP hD hS hA [0, 1, 2, 3, 4, 5, 6] rfl (by decide) (q0 := 0) (ci := 13) rfl rfl rfl rfl hl.1 rfl (Nat.le_of_ble_eq_true rfl) dL_law_308 ⟨(Nat.le_of_ble_eq_true rfl), (Nat.le_of_ble_eq_true rfl)⟩) hP hD hS hA [0, 1, 2, 3, 4, 5, 6] [7] rfl rfl (by decide) (by decide) (fun r u H locs hr0 hP hD hS => ?_)
  subst hr0
  have hP : va_P D vwCl [(out, .inl (cL, 1, .inr (.inl (fun _ => 0)))), (o, .inr (13, [.int 0, .ref zb, .ref fg]))] H := hP
  have hD : va_D A [(out, .inl (cL, 1, .inr (.inl (fun _ => 0)))), (o, .inr (13, [.int 0, .ref zb, .ref fg]))] := hD
  refine lv_istore (lv' := [(6, .int 0), (5, .int 0), (4, .int 0), (3, .ref out), (2, .ref o), (1, .ref h), (0, .ref b)]) hx hb dL_law_311 hl (by decide) rfl (fun ls hl => ?_)
  refine lv_aload_n hx hb dL_law_313 rfl (lv_at hl 4 rfl) ?_
  refine f_aft_i (wr := [(out, .inl (cL, 1, .inr (.inl (fun _ => 0))))]) (f_runV (As := []) (rest := []) hx hb hml hown hts (kX12_thrown l D cI cO cL E M o zb fg 0 H.size) (fcwV 0 hts q186 q187 q188 q5 q189 rfl rfl (by decide +kernel) ⟨(Nat.le_of_ble_eq_true rfl), (Nat.le_of_ble_eq_true rfl)⟩) hE hP hD hS hA [1] rfl (by decide) (q0 := 1) (ci := 13) rfl rfl rfl rfl hl.1 rfl (Nat.le_of_ble_eq_true rfl) dL_law_314 ⟨(Nat.le_of_ble_eq_true rfl), (Nat.le_of_ble_eq_true rfl)⟩) hP hD hS hA [1] [0] rfl rfl (by decide) (by decide) (fun r u H locs hr0 hP hD hS => ?_)
  subst hr0
  have hP : va_P D vwCl [(out, .inl (cL, 1, .inr (.inl (fun _ => 0)))), (o, .inr (13, [.int 0, .ref zb, .ref fg]))] H := hP
  have hD : va_D A [(out, .inl (cL, 1, .inr (.inl (fun _ => 0)))), (o, .inr (13, [.int 0, .ref zb, .ref fg]))] := hD
  refine lv_iload hx hb dL_law_317 (lv_at hl 1 rfl) ?_
  refine lv_icmp_eq (tgt := 324) hx hb dL_law_319 (by decide) (fun _ => ?_) (fun h => absurd (by decide) h)
  refine lv_iload hx hb dL_law_324 (lv_at hl 1 rfl) ?_
  refine lv_if_ne (tgt := 341) hx hb dL_law_326 (by decide) (fun h => absurd h (by decide)) (fun _ => ?_)
  refine lv_aload_n hx hb dL_law_329 rfl (lv_at hl 3 rfl) ?_
  refine lv_iconst (v := 0) hx hb dL_law_330 (by decide) ?_
  refine va_lald hx hb hE.1.1 hP 0 2 rfl rfl (by unfold vp_in; decide) dL_law_331 ?_
  refine f_topl (v := 0) (rfl) ?_
  refine lv_iload hx hb dL_law_332 (lv_at hl 0 rfl) ?_
  refine lv_i2l (v := 0) hx hb dL_law_334 (by decide) ?_
  refine W.lcmp hx hb dL_law_335 ?_
  refine f_topi (v := 0) (f_cmp0 _) ?_
  refine lv_if_eq (tgt := 341) hx hb dL_law_336 (by decide) (fun _ => ?_) (fun h => absurd (by decide) h)
  refine lv_goto (tgt := 1758) hx hb dL_law_341 (by decide) ?_
  refine W.widen (k := 3000) (n := 30000) (Nat.le_of_ble_eq_true rfl) (Nat.le_of_ble_eq_true rfl) ?_
  exact law_end C hS (lv_sub hl [2, 6] rfl)
set_option maxHeartbeats 4000000 in
set_option maxRecDepth 100000 in
theorem law_wind_ok {p : Program} {l : Launch} {e : Env} {s : State} {m : MethodId} {below : List Frame} {meth : Method} {c : Code} {b : Nat} {xs : Nat → Int32} {D : va_G} {cI cO cL : ClassId} {E M : Nat} {A : Nat → Prop} (C : fLC p l s m meth c b xs D cI cO cL E M A) {h f sh sp sj sc sa i1 i2 i3 tsh tsp tsj tsc tsa ti1 ti2 ti3 o zb zbp zbj zbc zba fg out : Nat} (p0 : Int32) (p1 : Int32) (hs1 : (1 : Int32).toNatClampNeg = 1 ∧ xs 1 = p0) (hs2 : (2 : Int32).toNatClampNeg = 2 ∧ xs 2 = p1) (h1 : ¬ p0 < (-4)) (h2 : ¬ 4 < p0) (h3 : ¬ p1 < 0) (h4 : ¬ 2 < p1) {H : Heap} {locs : List Loc} {ls : Array Slot} (hP : va_P D vwCl [(h, .inr (8, [.ref f, .ref sh, .ref tsh])), (f, .inr (0, [.int 0, .ref E, .int 0])), (sh, .inr (6, [.ref sp, .ref sj, .ref sc, .ref sa, .int 0, .int 3000, .int 0, .int 0, .int 0, .int 0, .int 0, .int 0, .int 0, .int 0, .int 0])), (sp, .inr (0, [.int 0, .ref E, .int 0])), (sj, .inr (0, [.int 0, .ref E, .int 0])), (sc, .inr (0, [.int 0, .ref E, .int 0])), (sa, .inr (1, [.ref i1, .ref i2, .ref i3])), (i1, .inl (cI, 9, .inl (fun _ => 0))), (i2, .inl (cI, 9, .inl (fun _ => 0))), (i3, .inl (cI, 9, .inl (fun _ => 0))), (tsh, .inr (6, [.ref tsp, .ref tsj, .ref tsc, .ref tsa, .int 0, .int 3000, .int 0, .int 0, .int 0, .int 0, .int 0, .int 0, .int 0, .int 0, .int 0])), (tsp, .inr (0, [.int 0, .ref E, .int 0])), (tsj, .inr (0, [.int 0, .ref E, .int 0])), (tsc, .inr (0, [.int 0, .ref E, .int 0])), (tsa, .inr (1, [.ref ti1, .ref ti2, .ref ti3])), (ti1, .inl (cI, 9, .inl (fun _ => 0))), (ti2, .inl (cI, 9, .inl (fun _ => 0))), (ti3, .inl (cI, 9, .inl (fun _ => 0))), (o, .inr (13, [.int 0, .ref zb, .ref fg])), (zb, .inr (9, [.int 0, .int 3000, .int 0, .int 0, .int 0, .ref zbp, .ref zbj, .ref zbc, .ref zba, .int 0, .int 0, .int 0, .int 0, .int 0, .int 0])), (zbp, .inr (0, [.int 0, .ref E, .int 0])), (zbj, .inr (0, [.int 0, .ref E, .int 0])), (zbc, .inr (0, [.int 0, .ref E, .int 0])), (zba, .inr (0, [.int 0, .ref E, .int 0])), (fg, .inr (0, [.int 0, .ref E, .int 0])), (out, .inl (cL, 1, .inr (.inl (fun _ => 0))))] H) (hD : va_D A [(h, .inr (8, [.ref f, .ref sh, .ref tsh])), (f, .inr (0, [.int 0, .ref E, .int 0])), (sh, .inr (6, [.ref sp, .ref sj, .ref sc, .ref sa, .int 0, .int 3000, .int 0, .int 0, .int 0, .int 0, .int 0, .int 0, .int 0, .int 0, .int 0])), (sp, .inr (0, [.int 0, .ref E, .int 0])), (sj, .inr (0, [.int 0, .ref E, .int 0])), (sc, .inr (0, [.int 0, .ref E, .int 0])), (sa, .inr (1, [.ref i1, .ref i2, .ref i3])), (i1, .inl (cI, 9, .inl (fun _ => 0))), (i2, .inl (cI, 9, .inl (fun _ => 0))), (i3, .inl (cI, 9, .inl (fun _ => 0))), (tsh, .inr (6, [.ref tsp, .ref tsj, .ref tsc, .ref tsa, .int 0, .int 3000, .int 0, .int 0, .int 0, .int 0, .int 0, .int 0, .int 0, .int 0, .int 0])), (tsp, .inr (0, [.int 0, .ref E, .int 0])), (tsj, .inr (0, [.int 0, .ref E, .int 0])), (tsc, .inr (0, [.int 0, .ref E, .int 0])), (tsa, .inr (1, [.ref ti1, .ref ti2, .ref ti3])), (ti1, .inl (cI, 9, .inl (fun _ => 0))), (ti2, .inl (cI, 9, .inl (fun _ => 0))), (ti3, .inl (cI, 9, .inl (fun _ => 0))), (o, .inr (13, [.int 0, .ref zb, .ref fg])), (zb, .inr (9, [.int 0, .int 3000, .int 0, .int 0, .int 0, .ref zbp, .ref zbj, .ref zbc, .ref zba, .int 0, .int 0, .int 0, .int 0, .int 0, .int 0])), (zbp, .inr (0, [.int 0, .ref E, .int 0])), (zbj, .inr (0, [.int 0, .ref E, .int 0])), (zbc, .inr (0, [.int 0, .ref E, .int 0])), (zba, .inr (0, [.int 0, .ref E, .int 0])), (fg, .inr (0, [.int 0, .ref E, .int 0])), (out, .inl (cL, 1, .inr (.inl (fun _ => 0))))]) (hS : va_S A s.heap H locs) (hl : lv_has ls 9 [(4, .int 0), (3, .ref out), (2, .ref o), (1, .ref h), (0, .ref b)]) : W p l e room_1 s m #[Value.ref b] below meth c H locs 26 148 (lw_Z below #[Value.ref b] s) (F0 m 436 ls []) := by
  obtain ⟨hx, hb, hr, hml, hown, hts, hX, hbl, hlocks, hl9, hE, hA, hA2⟩ := id C
  have hbA : ¬ A b := fun h => absurd (hA2 b h) (Nat.not_le.mpr hbl)
  refine lv_aload_n hx hb dL_law_436 rfl (lv_at hl 3 rfl) ?_
  refine lv_aload_n hx hb dL_law_437 rfl (lv_at hl 4 rfl) ?_
  refine lv_iload hx hb dL_law_438 (lv_at hl 0 rfl) ?_
  refine lv_iconst (v := 1) hx hb dL_law_440 (by decide) ?_
  refine f_iadd (v := 1) hx hb dL_law_441 (by decide) ?_
  refine va_sld hx hb hX hbl hbA hS (by unfold vp_in; decide) dL_law_442 ?_
  refine f_topi (v := p0) (f_xs hs1) ?_
  refine lv_aload_n hx hb dL_law_443 rfl (lv_at hl 4 rfl) ?_
  refine lv_iload hx hb dL_law_444 (lv_at hl 0 rfl) ?_
  refine lv_iconst (v := 2) hx hb dL_law_446 (by decide) ?_
  refine f_iadd (v := 2) hx hb dL_law_447 (by decide) ?_
  refine va_sld hx hb hX hbl hbA hS (by unfold vp_in; decide) dL_law_448 ?_
  refine f_topi (v := p1) (f_xs hs2) ?_
  refine lv_aload_n hx hb dL_law_449 rfl (lv_at hl 1 rfl) ?_
  refine f_aft_i (wr := [(o, .inr (13, [.int 0, .ref zb, .ref fg])), (zb, .inr (9, [.int 0, .int 3000, .int 0, .int 0, .int 0, .ref zbp, .ref zbj, .ref zbc, .ref zba, .int 0, .int 0, .int 0, .int 0, .int 0, .int 0])), (zbp, .inr (0, [.int 0, .ref E, .int 0])), (zbj, .inr (0, [.int 0, .ref E, .int 0])), (zbc, .inr (0, [.int 0, .ref E, .int 0])), (zba, .inr (0, [.int 0, .ref E, .int 0])), (fg, .inr (0, [.int 0, .ref E, .int 0]))]) (f_runSW (As := [.ref h, .int p0, .int p1, .ref out]) (rest := []) hx hb hml hown hts (kL_wind_ok l D cI cO cL E M h f sh sp sj sc sa i1 i2 i3 tsh tsp tsj tsc tsa ti1 ti2 ti3 out p0 p1 h1 h2 h3 h4 H.size) (fcwSW 4 hts q317 q318 q80 q319 rfl rfl (by decide +kernel) ⟨(Nat.le_of_ble_eq_true rfl), (Nat.le_of_ble_eq_true rfl)⟩) hE hP hD hS hA [0, 1, 2, 3, 4, 5, 6, 7, 8, 9, 10, 11, 12, 13, 14, 15, 16, 17, 25] rfl (by decide) rfl hl.1 rfl (Nat.le_of_ble_eq_true rfl) dL_law_450 ⟨(Nat.le_of_ble_eq_true rfl), (Nat.le_of_ble_eq_true rfl)⟩) hP hD hS hA [0, 1, 2, 3, 4, 5, 6, 7, 8, 9, 10, 11, 12, 13, 14, 15, 16, 17, 25] [18, 19, 20, 21, 22, 23, 24] rfl rfl (by decide) (by decide) (fun r u H locs hr0 hP hD hS => ?_)
  subst hr0
  have hP : va_P D vwCl [(o, .inr (13, [.int 0, .ref zb, .ref fg])), (zb, .inr (9, [.int 0, .int 3000, .int 0, .int 0, .int 0, .ref zbp, .ref zbj, .ref zbc, .ref zba, .int 0, .int 0, .int 0, .int 0, .int 0, .int 0])), (zbp, .inr (0, [.int 0, .ref E, .int 0])), (zbj, .inr (0, [.int 0, .ref E, .int 0])), (zbc, .inr (0, [.int 0, .ref E, .int 0])), (zba, .inr (0, [.int 0, .ref E, .int 0])), (fg, .inr (0, [.int 0, .ref E, .int 0])), (out, .inl (cL, 1, .inr (.inl (fun _ => 0))))] H := hP
  have hD : va_D A [(o, .inr (13, [.int 0, .ref zb, .ref fg])), (zb, .inr (9, [.int 0, .int 3000, .int 0, .int 0, .int 0, .ref zbp, .ref zbj, .ref zbc, .ref zba, .int 0, .int 0, .int 0, .int 0, .int 0, .int 0])), (zbp, .inr (0, [.int 0, .ref E, .int 0])), (zbj, .inr (0, [.int 0, .ref E, .int 0])), (zbc, .inr (0, [.int 0, .ref E, .int 0])), (zba, .inr (0, [.int 0, .ref E, .int 0])), (fg, .inr (0, [.int 0, .ref E, .int 0])), (out, .inl (cL, 1, .inr (.inl (fun _ => 0))))] := hD
  refine lv_istore (lv' := [(5, .int 0), (4, .int 0), (3, .ref out), (2, .ref o), (1, .ref h), (0, .ref b)]) hx hb dL_law_453 hl (by decide) rfl (fun ls hl => ?_)
  refine lv_aload_n hx hb dL_law_455 rfl (lv_at hl 3 rfl) ?_
  refine lv_aload_n hx hb dL_law_456 rfl (lv_at hl 5 rfl) ?_
  refine lv_iload hx hb dL_law_457 (lv_at hl 1 rfl) ?_
  refine lv_iconst (v := 1) hx hb dL_law_459 (by decide) ?_
  refine f_iadd (v := 1) hx hb dL_law_460 (by decide) ?_
  refine va_sld hx hb hX hbl hbA hS (by unfold vp_in; decide) dL_law_461 ?_
  refine f_topi (v := p0) (f_xs hs1) ?_
  refine lv_aload_n hx hb dL_law_462 rfl (lv_at hl 5 rfl) ?_
  refine lv_iload hx hb dL_law_463 (lv_at hl 1 rfl) ?_
  refine lv_iconst (v := 2) hx hb dL_law_465 (by decide) ?_
  refine f_iadd (v := 2) hx hb dL_law_466 (by decide) ?_
  refine va_sld hx hb hX hbl hbA hS (by unfold vp_in; decide) dL_law_467 ?_
  refine f_topi (v := p1) (f_xs hs2) ?_
  refine f_aft_i (wr := [(out, .inl (cL, 1, .inr (.inl (fun _ => 0))))]) (f_runV (As := [.int p0, .int p1]) (rest := []) hx hb hml hown hts (kX12_wind_ok l D cI cO cL E M o zb zbp zbj zbc zba fg p0 p1 h1 h2 h3 h4 H.size) (fcwV 2 hts q326 q327 q328 q5 q329 rfl rfl (by decide +kernel) ⟨(Nat.le_of_ble_eq_true rfl), (Nat.le_of_ble_eq_true rfl)⟩) hE hP hD hS hA [0, 1, 2, 3, 4, 5, 6] rfl (by decide) (q0 := 0) (ci := 13) rfl rfl rfl rfl hl.1 rfl (Nat.le_of_ble_eq_true rfl) dL_law_468 ⟨(Nat.le_of_ble_eq_true rfl), (Nat.le_of_ble_eq_true rfl)⟩) hP hD hS hA [0, 1, 2, 3, 4, 5, 6] [7] rfl rfl (by decide) (by decide) (fun r u H locs hr0 hP hD hS => ?_)
  subst hr0
  have hP : va_P D vwCl [(out, .inl (cL, 1, .inr (.inl (fun _ => 0)))), (o, .inr (13, [.int 0, .ref zb, .ref fg]))] H := hP
  have hD : va_D A [(out, .inl (cL, 1, .inr (.inl (fun _ => 0)))), (o, .inr (13, [.int 0, .ref zb, .ref fg]))] := hD
  refine lv_istore (lv' := [(6, .int 0), (5, .int 0), (4, .int 0), (3, .ref out), (2, .ref o), (1, .ref h), (0, .ref b)]) hx hb dL_law_471 hl (by decide) rfl (fun ls hl => ?_)
  refine lv_aload_n hx hb dL_law_473 rfl (lv_at hl 4 rfl) ?_
  refine f_aft_i (wr := [(out, .inl (cL, 1, .inr (.inl (fun _ => 0))))]) (f_runV (As := []) (rest := []) hx hb hml hown hts (kX12_thrown l D cI cO cL E M o zb fg 0 H.size) (fcwV 0 hts q186 q187 q188 q5 q189 rfl rfl (by decide +kernel) ⟨(Nat.le_of_ble_eq_true rfl), (Nat.le_of_ble_eq_true rfl)⟩) hE hP hD hS hA [1] rfl (by decide) (q0 := 1) (ci := 13) rfl rfl rfl rfl hl.1 rfl (Nat.le_of_ble_eq_true rfl) dL_law_474 ⟨(Nat.le_of_ble_eq_true rfl), (Nat.le_of_ble_eq_true rfl)⟩) hP hD hS hA [1] [0] rfl rfl (by decide) (by decide) (fun r u H locs hr0 hP hD hS => ?_)
  subst hr0
  have hP : va_P D vwCl [(out, .inl (cL, 1, .inr (.inl (fun _ => 0)))), (o, .inr (13, [.int 0, .ref zb, .ref fg]))] H := hP
  have hD : va_D A [(out, .inl (cL, 1, .inr (.inl (fun _ => 0)))), (o, .inr (13, [.int 0, .ref zb, .ref fg]))] := hD
  refine lv_iload hx hb dL_law_477 (lv_at hl 1 rfl) ?_
  refine lv_icmp_eq (tgt := 484) hx hb dL_law_479 (by decide) (fun _ => ?_) (fun h => absurd (by decide) h)
  refine lv_iload hx hb dL_law_484 (lv_at hl 1 rfl) ?_
  refine lv_if_ne (tgt := 501) hx hb dL_law_486 (by decide) (fun h => absurd h (by decide)) (fun _ => ?_)
  refine lv_aload_n hx hb dL_law_489 rfl (lv_at hl 3 rfl) ?_
  refine lv_iconst (v := 0) hx hb dL_law_490 (by decide) ?_
  refine va_lald hx hb hE.1.1 hP 0 2 rfl rfl (by unfold vp_in; decide) dL_law_491 ?_
  refine f_topl (v := 0) (rfl) ?_
  refine lv_iload hx hb dL_law_492 (lv_at hl 0 rfl) ?_
  refine lv_i2l (v := 0) hx hb dL_law_494 (by decide) ?_
  refine W.lcmp hx hb dL_law_495 ?_
  refine f_topi (v := 0) (f_cmp0 _) ?_
  refine lv_if_eq (tgt := 501) hx hb dL_law_496 (by decide) (fun _ => ?_) (fun h => absurd (by decide) h)
  refine lv_goto (tgt := 1758) hx hb dL_law_501 (by decide) ?_
  refine W.widen (k := 3000) (n := 30000) (Nat.le_of_ble_eq_true rfl) (Nat.le_of_ble_eq_true rfl) ?_
  exact law_end C hS (lv_sub hl [2, 6] rfl)
set_option maxHeartbeats 4000000 in
set_option maxRecDepth 100000 in
theorem law_wind_a {p : Program} {l : Launch} {e : Env} {s : State} {m : MethodId} {below : List Frame} {meth : Method} {c : Code} {b : Nat} {xs : Nat → Int32} {D : va_G} {cI cO cL : ClassId} {E M : Nat} {A : Nat → Prop} (C : fLC p l s m meth c b xs D cI cO cL E M A) {h f sh sp sj sc sa i1 i2 i3 tsh tsp tsj tsc tsa ti1 ti2 ti3 o zb zbp zbj zbc zba fg out : Nat} (p0 : Int32) (p1 : Int32) (hs1 : (1 : Int32).toNatClampNeg = 1 ∧ xs 1 = p0) (hs2 : (2 : Int32).toNatClampNeg = 2 ∧ xs 2 = p1) (h1 : p0 < (-4)) {H : Heap} {locs : List Loc} {ls : Array Slot} (hP : va_P D vwCl [(h, .inr (8, [.ref f, .ref sh, .ref tsh])), (f, .inr (0, [.int 0, .ref E, .int 0])), (sh, .inr (6, [.ref sp, .ref sj, .ref sc, .ref sa, .int 0, .int 3000, .int 0, .int 0, .int 0, .int 0, .int 0, .int 0, .int 0, .int 0, .int 0])), (sp, .inr (0, [.int 0, .ref E, .int 0])), (sj, .inr (0, [.int 0, .ref E, .int 0])), (sc, .inr (0, [.int 0, .ref E, .int 0])), (sa, .inr (1, [.ref i1, .ref i2, .ref i3])), (i1, .inl (cI, 9, .inl (fun _ => 0))), (i2, .inl (cI, 9, .inl (fun _ => 0))), (i3, .inl (cI, 9, .inl (fun _ => 0))), (tsh, .inr (6, [.ref tsp, .ref tsj, .ref tsc, .ref tsa, .int 0, .int 3000, .int 0, .int 0, .int 0, .int 0, .int 0, .int 0, .int 0, .int 0, .int 0])), (tsp, .inr (0, [.int 0, .ref E, .int 0])), (tsj, .inr (0, [.int 0, .ref E, .int 0])), (tsc, .inr (0, [.int 0, .ref E, .int 0])), (tsa, .inr (1, [.ref ti1, .ref ti2, .ref ti3])), (ti1, .inl (cI, 9, .inl (fun _ => 0))), (ti2, .inl (cI, 9, .inl (fun _ => 0))), (ti3, .inl (cI, 9, .inl (fun _ => 0))), (o, .inr (13, [.int 0, .ref zb, .ref fg])), (zb, .inr (9, [.int 0, .int 3000, .int 0, .int 0, .int 0, .ref zbp, .ref zbj, .ref zbc, .ref zba, .int 0, .int 0, .int 0, .int 0, .int 0, .int 0])), (zbp, .inr (0, [.int 0, .ref E, .int 0])), (zbj, .inr (0, [.int 0, .ref E, .int 0])), (zbc, .inr (0, [.int 0, .ref E, .int 0])), (zba, .inr (0, [.int 0, .ref E, .int 0])), (fg, .inr (0, [.int 0, .ref E, .int 0])), (out, .inl (cL, 1, .inr (.inl (fun _ => 0))))] H) (hD : va_D A [(h, .inr (8, [.ref f, .ref sh, .ref tsh])), (f, .inr (0, [.int 0, .ref E, .int 0])), (sh, .inr (6, [.ref sp, .ref sj, .ref sc, .ref sa, .int 0, .int 3000, .int 0, .int 0, .int 0, .int 0, .int 0, .int 0, .int 0, .int 0, .int 0])), (sp, .inr (0, [.int 0, .ref E, .int 0])), (sj, .inr (0, [.int 0, .ref E, .int 0])), (sc, .inr (0, [.int 0, .ref E, .int 0])), (sa, .inr (1, [.ref i1, .ref i2, .ref i3])), (i1, .inl (cI, 9, .inl (fun _ => 0))), (i2, .inl (cI, 9, .inl (fun _ => 0))), (i3, .inl (cI, 9, .inl (fun _ => 0))), (tsh, .inr (6, [.ref tsp, .ref tsj, .ref tsc, .ref tsa, .int 0, .int 3000, .int 0, .int 0, .int 0, .int 0, .int 0, .int 0, .int 0, .int 0, .int 0])), (tsp, .inr (0, [.int 0, .ref E, .int 0])), (tsj, .inr (0, [.int 0, .ref E, .int 0])), (tsc, .inr (0, [.int 0, .ref E, .int 0])), (tsa, .inr (1, [.ref ti1, .ref ti2, .ref ti3])), (ti1, .inl (cI, 9, .inl (fun _ => 0))), (ti2, .inl (cI, 9, .inl (fun _ => 0))), (ti3, .inl (cI, 9, .inl (fun _ => 0))), (o, .inr (13, [.int 0, .ref zb, .ref fg])), (zb, .inr (9, [.int 0, .int 3000, .int 0, .int 0, .int 0, .ref zbp, .ref zbj, .ref zbc, .ref zba, .int 0, .int 0, .int 0, .int 0, .int 0, .int 0])), (zbp, .inr (0, [.int 0, .ref E, .int 0])), (zbj, .inr (0, [.int 0, .ref E, .int 0])), (zbc, .inr (0, [.int 0, .ref E, .int 0])), (zba, .inr (0, [.int 0, .ref E, .int 0])), (fg, .inr (0, [.int 0, .ref E, .int 0])), (out, .inl (cL, 1, .inr (.inl (fun _ => 0))))]) (hS : va_S A s.heap H locs) (hl : lv_has ls 9 [(4, .int 0), (3, .ref out), (2, .ref o), (1, .ref h), (0, .ref b)]) : W p l e room_1 s m #[Value.ref b] below meth c H locs 26 148 (lw_Z below #[Value.ref b] s) (F0 m 436 ls []) := by
  obtain ⟨hx, hb, hr, hml, hown, hts, hX, hbl, hlocks, hl9, hE, hA, hA2⟩ := id C
  have hbA : ¬ A b := fun h => absurd (hA2 b h) (Nat.not_le.mpr hbl)
  refine lv_aload_n hx hb dL_law_436 rfl (lv_at hl 3 rfl) ?_
  refine lv_aload_n hx hb dL_law_437 rfl (lv_at hl 4 rfl) ?_
  refine lv_iload hx hb dL_law_438 (lv_at hl 0 rfl) ?_
  refine lv_iconst (v := 1) hx hb dL_law_440 (by decide) ?_
  refine f_iadd (v := 1) hx hb dL_law_441 (by decide) ?_
  refine va_sld hx hb hX hbl hbA hS (by unfold vp_in; decide) dL_law_442 ?_
  refine f_topi (v := p0) (f_xs hs1) ?_
  refine lv_aload_n hx hb dL_law_443 rfl (lv_at hl 4 rfl) ?_
  refine lv_iload hx hb dL_law_444 (lv_at hl 0 rfl) ?_
  refine lv_iconst (v := 2) hx hb dL_law_446 (by decide) ?_
  refine f_iadd (v := 2) hx hb dL_law_447 (by decide) ?_
  refine va_sld hx hb hX hbl hbA hS (by unfold vp_in; decide) dL_law_448 ?_
  refine f_topi (v := p1) (f_xs hs2) ?_
  refine lv_aload_n hx hb dL_law_449 rfl (lv_at hl 1 rfl) ?_
  refine f_aft_i (wr := [(o, .inr (13, [.int 0, .ref zb, .ref fg])), (zb, .inr (9, [.int 0, .int 3000, .int 0, .int 0, .int 0, .ref zbp, .ref zbj, .ref zbc, .ref zba, .int 0, .int 0, .int 0, .int 0, .int 0, .int 0])), (zbp, .inr (0, [.int 0, .ref E, .int 0])), (zbj, .inr (0, [.int 0, .ref E, .int 0])), (zbc, .inr (0, [.int 0, .ref E, .int 0])), (zba, .inr (0, [.int 0, .ref E, .int 0])), (fg, .inr (0, [.int 0, .ref E, .int 0]))]) (f_runSW (As := [.ref h, .int p0, .int p1, .ref out]) (rest := []) hx hb hml hown hts (kL_wind_a l hl9 D cI cO cL E M h f sh sp sj sc sa i1 i2 i3 tsh tsp tsj tsc tsa ti1 ti2 ti3 out p0 p1 h1 H.size) (fcwSW 4 hts q317 q318 q80 q319 rfl rfl (by decide +kernel) ⟨(Nat.le_of_ble_eq_true rfl), (Nat.le_of_ble_eq_true rfl)⟩) hE hP hD hS hA [0, 1, 2, 3, 4, 5, 6, 7, 8, 9, 10, 11, 12, 13, 14, 15, 16, 17, 25] rfl (by decide) rfl hl.1 rfl (Nat.le_of_ble_eq_true rfl) dL_law_450 ⟨(Nat.le_of_ble_eq_true rfl), (Nat.le_of_ble_eq_true rfl)⟩) hP hD hS hA [0, 1, 2, 3, 4, 5, 6, 7, 8, 9, 10, 11, 12, 13, 14, 15, 16, 17, 25] [18, 19, 20, 21, 22, 23, 24] rfl rfl (by decide) (by decide) (fun r u H locs hr0 hP hD hS => ?_)
  subst hr0
  have hP : va_P D vwCl [(o, .inr (13, [.int 0, .ref zb, .ref fg])), (zb, .inr (9, [.int 0, .int 3000, .int 0, .int 0, .int 0, .ref zbp, .ref zbj, .ref zbc, .ref zba, .int 0, .int 0, .int 0, .int 0, .int 0, .int 0])), (zbp, .inr (0, [.int 0, .ref E, .int 0])), (zbj, .inr (0, [.int 0, .ref E, .int 0])), (zbc, .inr (0, [.int 0, .ref E, .int 0])), (zba, .inr (0, [.int 0, .ref E, .int 0])), (fg, .inr (0, [.int 0, .ref E, .int 0]))] H := hP
  have hD : va_D A [(o, .inr (13, [.int 0, .ref zb, .ref fg])), (zb, .inr (9, [.int 0, .int 3000, .int 0, .int 0, .int 0, .ref zbp, .ref zbj, .ref zbc, .ref zba, .int 0, .int 0, .int 0, .int 0, .int 0, .int 0])), (zbp, .inr (0, [.int 0, .ref E, .int 0])), (zbj, .inr (0, [.int 0, .ref E, .int 0])), (zbc, .inr (0, [.int 0, .ref E, .int 0])), (zba, .inr (0, [.int 0, .ref E, .int 0])), (fg, .inr (0, [.int 0, .ref E, .int 0]))] := hD
  refine lv_istore (lv' := [(5, .int 1), (4, .int 0), (3, .ref out), (2, .ref o), (1, .ref h), (0, .ref b)]) hx hb dL_law_453 hl (by decide) rfl (fun ls hl => ?_)
  refine lv_aload_n hx hb dL_law_455 rfl (lv_at hl 3 rfl) ?_
  refine lv_aload_n hx hb dL_law_456 rfl (lv_at hl 5 rfl) ?_
  refine lv_iload hx hb dL_law_457 (lv_at hl 1 rfl) ?_
  refine lv_iconst (v := 1) hx hb dL_law_459 (by decide) ?_
  refine f_iadd (v := 1) hx hb dL_law_460 (by decide) ?_
  refine va_sld hx hb hX hbl hbA hS (by unfold vp_in; decide) dL_law_461 ?_
  refine f_topi (v := p0) (f_xs hs1) ?_
  refine lv_aload_n hx hb dL_law_462 rfl (lv_at hl 5 rfl) ?_
  refine lv_iload hx hb dL_law_463 (lv_at hl 1 rfl) ?_
  refine lv_iconst (v := 2) hx hb dL_law_465 (by decide) ?_
  refine f_iadd (v := 2) hx hb dL_law_466 (by decide) ?_
  refine va_sld hx hb hX hbl hbA hS (by unfold vp_in; decide) dL_law_467 ?_
  refine f_topi (v := p1) (f_xs hs2) ?_
  refine f_aft_i (wr := []) (f_runV (As := [.int p0, .int p1]) (rest := []) hx hb hml hown hts (kX12_wind_a l D cI cO cL E M o zb zbp zbj zbc zba fg p0 p1 h1 H.size) (fcwV 2 hts q326 q327 q328 q5 q329 rfl rfl (by decide +kernel) ⟨(Nat.le_of_ble_eq_true rfl), (Nat.le_of_ble_eq_true rfl)⟩) hE hP hD hS hA [0, 1, 2, 3, 4, 5, 6] rfl (by decide) (q0 := 0) (ci := 13) rfl rfl rfl rfl hl.1 rfl (Nat.le_of_ble_eq_true rfl) dL_law_468 ⟨(Nat.le_of_ble_eq_true rfl), (Nat.le_of_ble_eq_true rfl)⟩) hP hD hS hA [0, 1, 2, 3, 4, 5, 6] [] rfl rfl (by decide) (by decide) (fun r u H locs hr0 hP hD hS => ?_)
  subst hr0
  have hP : va_P D vwCl [(o, .inr (13, [.int 1, .ref zb, .ref fg]))] H := hP
  have hD : va_D A [(o, .inr (13, [.int 1, .ref zb, .ref fg]))] := hD
  refine lv_istore (lv' := [(6, .int 0), (5, .int 1), (4, .int 0), (3, .ref out), (2, .ref o), (1, .ref h), (0, .ref b)]) hx hb dL_law_471 hl (by decide) rfl (fun ls hl => ?_)
  refine lv_aload_n hx hb dL_law_473 rfl (lv_at hl 4 rfl) ?_
  refine f_aft_i (wr := []) (f_runV (As := []) (rest := []) hx hb hml hown hts (kX12_thrown l D cI cO cL E M o zb fg 1 H.size) (fcwV 0 hts q186 q187 q188 q5 q189 rfl rfl (by decide +kernel) ⟨(Nat.le_of_ble_eq_true rfl), (Nat.le_of_ble_eq_true rfl)⟩) hE hP hD hS hA [0] rfl (by decide) (q0 := 0) (ci := 13) rfl rfl rfl rfl hl.1 rfl (Nat.le_of_ble_eq_true rfl) dL_law_474 ⟨(Nat.le_of_ble_eq_true rfl), (Nat.le_of_ble_eq_true rfl)⟩) hP hD hS hA [0] [] rfl rfl (by decide) (by decide) (fun r u H locs hr0 hP hD hS => ?_)
  subst hr0
  have hP : va_P D vwCl [(o, .inr (13, [.int 1, .ref zb, .ref fg]))] H := hP
  have hD : va_D A [(o, .inr (13, [.int 1, .ref zb, .ref fg]))] := hD
  refine lv_iload hx hb dL_law_477 (lv_at hl 1 rfl) ?_
  refine lv_icmp_eq (tgt := 484) hx hb dL_law_479 (by decide) (fun _ => ?_) (fun h => absurd (by decide) h)
  refine lv_iload hx hb dL_law_484 (lv_at hl 1 rfl) ?_
  refine lv_if_ne (tgt := 501) hx hb dL_law_486 (by decide) (fun _ => ?_) (fun h => absurd h (by decide))
  refine lv_goto (tgt := 1758) hx hb dL_law_501 (by decide) ?_
  refine W.widen (k := 3000) (n := 30000) (Nat.le_of_ble_eq_true rfl) (Nat.le_of_ble_eq_true rfl) ?_
  exact law_end C hS (lv_sub hl [2, 6] rfl)
set_option maxHeartbeats 4000000 in
set_option maxRecDepth 100000 in
theorem law_wind_b {p : Program} {l : Launch} {e : Env} {s : State} {m : MethodId} {below : List Frame} {meth : Method} {c : Code} {b : Nat} {xs : Nat → Int32} {D : va_G} {cI cO cL : ClassId} {E M : Nat} {A : Nat → Prop} (C : fLC p l s m meth c b xs D cI cO cL E M A) {h f sh sp sj sc sa i1 i2 i3 tsh tsp tsj tsc tsa ti1 ti2 ti3 o zb zbp zbj zbc zba fg out : Nat} (p0 : Int32) (p1 : Int32) (hs1 : (1 : Int32).toNatClampNeg = 1 ∧ xs 1 = p0) (hs2 : (2 : Int32).toNatClampNeg = 2 ∧ xs 2 = p1) (h1 : ¬ p0 < (-4)) (h2 : 4 < p0) {H : Heap} {locs : List Loc} {ls : Array Slot} (hP : va_P D vwCl [(h, .inr (8, [.ref f, .ref sh, .ref tsh])), (f, .inr (0, [.int 0, .ref E, .int 0])), (sh, .inr (6, [.ref sp, .ref sj, .ref sc, .ref sa, .int 0, .int 3000, .int 0, .int 0, .int 0, .int 0, .int 0, .int 0, .int 0, .int 0, .int 0])), (sp, .inr (0, [.int 0, .ref E, .int 0])), (sj, .inr (0, [.int 0, .ref E, .int 0])), (sc, .inr (0, [.int 0, .ref E, .int 0])), (sa, .inr (1, [.ref i1, .ref i2, .ref i3])), (i1, .inl (cI, 9, .inl (fun _ => 0))), (i2, .inl (cI, 9, .inl (fun _ => 0))), (i3, .inl (cI, 9, .inl (fun _ => 0))), (tsh, .inr (6, [.ref tsp, .ref tsj, .ref tsc, .ref tsa, .int 0, .int 3000, .int 0, .int 0, .int 0, .int 0, .int 0, .int 0, .int 0, .int 0, .int 0])), (tsp, .inr (0, [.int 0, .ref E, .int 0])), (tsj, .inr (0, [.int 0, .ref E, .int 0])), (tsc, .inr (0, [.int 0, .ref E, .int 0])), (tsa, .inr (1, [.ref ti1, .ref ti2, .ref ti3])), (ti1, .inl (cI, 9, .inl (fun _ => 0))), (ti2, .inl (cI, 9, .inl (fun _ => 0))), (ti3, .inl (cI, 9, .inl (fun _ => 0))), (o, .inr (13, [.int 0, .ref zb, .ref fg])), (zb, .inr (9, [.int 0, .int 3000, .int 0, .int 0, .int 0, .ref zbp, .ref zbj, .ref zbc, .ref zba, .int 0, .int 0, .int 0, .int 0, .int 0, .int 0])), (zbp, .inr (0, [.int 0, .ref E, .int 0])), (zbj, .inr (0, [.int 0, .ref E, .int 0])), (zbc, .inr (0, [.int 0, .ref E, .int 0])), (zba, .inr (0, [.int 0, .ref E, .int 0])), (fg, .inr (0, [.int 0, .ref E, .int 0])), (out, .inl (cL, 1, .inr (.inl (fun _ => 0))))] H) (hD : va_D A [(h, .inr (8, [.ref f, .ref sh, .ref tsh])), (f, .inr (0, [.int 0, .ref E, .int 0])), (sh, .inr (6, [.ref sp, .ref sj, .ref sc, .ref sa, .int 0, .int 3000, .int 0, .int 0, .int 0, .int 0, .int 0, .int 0, .int 0, .int 0, .int 0])), (sp, .inr (0, [.int 0, .ref E, .int 0])), (sj, .inr (0, [.int 0, .ref E, .int 0])), (sc, .inr (0, [.int 0, .ref E, .int 0])), (sa, .inr (1, [.ref i1, .ref i2, .ref i3])), (i1, .inl (cI, 9, .inl (fun _ => 0))), (i2, .inl (cI, 9, .inl (fun _ => 0))), (i3, .inl (cI, 9, .inl (fun _ => 0))), (tsh, .inr (6, [.ref tsp, .ref tsj, .ref tsc, .ref tsa, .int 0, .int 3000, .int 0, .int 0, .int 0, .int 0, .int 0, .int 0, .int 0, .int 0, .int 0])), (tsp, .inr (0, [.int 0, .ref E, .int 0])), (tsj, .inr (0, [.int 0, .ref E, .int 0])), (tsc, .inr (0, [.int 0, .ref E, .int 0])), (tsa, .inr (1, [.ref ti1, .ref ti2, .ref ti3])), (ti1, .inl (cI, 9, .inl (fun _ => 0))), (ti2, .inl (cI, 9, .inl (fun _ => 0))), (ti3, .inl (cI, 9, .inl (fun _ => 0))), (o, .inr (13, [.int 0, .ref zb, .ref fg])), (zb, .inr (9, [.int 0, .int 3000, .int 0, .int 0, .int 0, .ref zbp, .ref zbj, .ref zbc, .ref zba, .int 0, .int 0, .int 0, .int 0, .int 0, .int 0])), (zbp, .inr (0, [.int 0, .ref E, .int 0])), (zbj, .inr (0, [.int 0, .ref E, .int 0])), (zbc, .inr (0, [.int 0, .ref E, .int 0])), (zba, .inr (0, [.int 0, .ref E, .int 0])), (fg, .inr (0, [.int 0, .ref E, .int 0])), (out, .inl (cL, 1, .inr (.inl (fun _ => 0))))]) (hS : va_S A s.heap H locs) (hl : lv_has ls 9 [(4, .int 0), (3, .ref out), (2, .ref o), (1, .ref h), (0, .ref b)]) : W p l e room_1 s m #[Value.ref b] below meth c H locs 26 148 (lw_Z below #[Value.ref b] s) (F0 m 436 ls []) := by
  obtain ⟨hx, hb, hr, hml, hown, hts, hX, hbl, hlocks, hl9, hE, hA, hA2⟩ := id C
  have hbA : ¬ A b := fun h => absurd (hA2 b h) (Nat.not_le.mpr hbl)
  refine lv_aload_n hx hb dL_law_436 rfl (lv_at hl 3 rfl) ?_
  refine lv_aload_n hx hb dL_law_437 rfl (lv_at hl 4 rfl) ?_
  refine lv_iload hx hb dL_law_438 (lv_at hl 0 rfl) ?_
  refine lv_iconst (v := 1) hx hb dL_law_440 (by decide) ?_
  refine f_iadd (v := 1) hx hb dL_law_441 (by decide) ?_
  refine va_sld hx hb hX hbl hbA hS (by unfold vp_in; decide) dL_law_442 ?_
  refine f_topi (v := p0) (f_xs hs1) ?_
  refine lv_aload_n hx hb dL_law_443 rfl (lv_at hl 4 rfl) ?_
  refine lv_iload hx hb dL_law_444 (lv_at hl 0 rfl) ?_
  refine lv_iconst (v := 2) hx hb dL_law_446 (by decide) ?_
  refine f_iadd (v := 2) hx hb dL_law_447 (by decide) ?_
  refine va_sld hx hb hX hbl hbA hS (by unfold vp_in; decide) dL_law_448 ?_
  refine f_topi (v := p1) (f_xs hs2) ?_
  refine lv_aload_n hx hb dL_law_449 rfl (lv_at hl 1 rfl) ?_
  refine f_aft_i (wr := [(o, .inr (13, [.int 0, .ref zb, .ref fg])), (zb, .inr (9, [.int 0, .int 3000, .int 0, .int 0, .int 0, .ref zbp, .ref zbj, .ref zbc, .ref zba, .int 0, .int 0, .int 0, .int 0, .int 0, .int 0])), (zbp, .inr (0, [.int 0, .ref E, .int 0])), (zbj, .inr (0, [.int 0, .ref E, .int 0])), (zbc, .inr (0, [.int 0, .ref E, .int 0])), (zba, .inr (0, [.int 0, .ref E, .int 0])), (fg, .inr (0, [.int 0, .ref E, .int 0]))]) (f_runSW (As := [.ref h, .int p0, .int p1, .ref out]) (rest := []) hx hb hml hown hts (kL_wind_b l hl9 D cI cO cL E M h f sh sp sj sc sa i1 i2 i3 tsh tsp tsj tsc tsa ti1 ti2 ti3 out p0 p1 h1 h2 H.size) (fcwSW 4 hts q317 q318 q80 q319 rfl rfl (by decide +kernel) ⟨(Nat.le_of_ble_eq_true rfl), (Nat.le_of_ble_eq_true rfl)⟩) hE hP hD hS hA [0, 1, 2, 3, 4, 5, 6, 7, 8, 9, 10, 11, 12, 13, 14, 15, 16, 17, 25] rfl (by decide) rfl hl.1 rfl (Nat.le_of_ble_eq_true rfl) dL_law_450 ⟨(Nat.le_of_ble_eq_true rfl), (Nat.le_of_ble_eq_true rfl)⟩) hP hD hS hA [0, 1, 2, 3, 4, 5, 6, 7, 8, 9, 10, 11, 12, 13, 14, 15, 16, 17, 25] [18, 19, 20, 21, 22, 23, 24] rfl rfl (by decide) (by decide) (fun r u H locs hr0 hP hD hS => ?_)
  subst hr0
  have hP : va_P D vwCl [(o, .inr (13, [.int 0, .ref zb, .ref fg])), (zb, .inr (9, [.int 0, .int 3000, .int 0, .int 0, .int 0, .ref zbp, .ref zbj, .ref zbc, .ref zba, .int 0, .int 0, .int 0, .int 0, .int 0, .int 0])), (zbp, .inr (0, [.int 0, .ref E, .int 0])), (zbj, .inr (0, [.int 0, .ref E, .int 0])), (zbc, .inr (0, [.int 0, .ref E, .int 0])), (zba, .inr (0, [.int 0, .ref E, .int 0])), (fg, .inr (0, [.int 0, .ref E, .int 0]))] H := hP
  have hD : va_D A [(o, .inr (13, [.int 0, .ref zb, .ref fg])), (zb, .inr (9, [.int 0, .int 3000, .int 0, .int 0, .int 0, .ref zbp, .ref zbj, .ref zbc, .ref zba, .int 0, .int 0, .int 0, .int 0, .int 0, .int 0])), (zbp, .inr (0, [.int 0, .ref E, .int 0])), (zbj, .inr (0, [.int 0, .ref E, .int 0])), (zbc, .inr (0, [.int 0, .ref E, .int 0])), (zba, .inr (0, [.int 0, .ref E, .int 0])), (fg, .inr (0, [.int 0, .ref E, .int 0]))] := hD
  refine lv_istore (lv' := [(5, .int 1), (4, .int 0), (3, .ref out), (2, .ref o), (1, .ref h), (0, .ref b)]) hx hb dL_law_453 hl (by decide) rfl (fun ls hl => ?_)
  refine lv_aload_n hx hb dL_law_455 rfl (lv_at hl 3 rfl) ?_
  refine lv_aload_n hx hb dL_law_456 rfl (lv_at hl 5 rfl) ?_
  refine lv_iload hx hb dL_law_457 (lv_at hl 1 rfl) ?_
  refine lv_iconst (v := 1) hx hb dL_law_459 (by decide) ?_
  refine f_iadd (v := 1) hx hb dL_law_460 (by decide) ?_
  refine va_sld hx hb hX hbl hbA hS (by unfold vp_in; decide) dL_law_461 ?_
  refine f_topi (v := p0) (f_xs hs1) ?_
  refine lv_aload_n hx hb dL_law_462 rfl (lv_at hl 5 rfl) ?_
  refine lv_iload hx hb dL_law_463 (lv_at hl 1 rfl) ?_
  refine lv_iconst (v := 2) hx hb dL_law_465 (by decide) ?_
  refine f_iadd (v := 2) hx hb dL_law_466 (by decide) ?_
  refine va_sld hx hb hX hbl hbA hS (by unfold vp_in; decide) dL_law_467 ?_
  refine f_topi (v := p1) (f_xs hs2) ?_
  refine f_aft_i (wr := []) (f_runV (As := [.int p0, .int p1]) (rest := []) hx hb hml hown hts (kX12_wind_b l D cI cO cL E M o zb zbp zbj zbc zba fg p0 p1 h1 h2 H.size) (fcwV 2 hts q326 q327 q328 q5 q329 rfl rfl (by decide +kernel) ⟨(Nat.le_of_ble_eq_true rfl), (Nat.le_of_ble_eq_true rfl)⟩) hE hP hD hS hA [0, 1, 2, 3, 4, 5, 6] rfl (by decide) (q0 := 0) (ci := 13) rfl rfl rfl rfl hl.1 rfl (Nat.le_of_ble_eq_true rfl) dL_law_468 ⟨(Nat.le_of_ble_eq_true rfl), (Nat.le_of_ble_eq_true rfl)⟩) hP hD hS hA [0, 1, 2, 3, 4, 5, 6] [] rfl rfl (by decide) (by decide) (fun r u H locs hr0 hP hD hS => ?_)
  subst hr0
  have hP : va_P D vwCl [(o, .inr (13, [.int 1, .ref zb, .ref fg]))] H := hP
  have hD : va_D A [(o, .inr (13, [.int 1, .ref zb, .ref fg]))] := hD
  refine lv_istore (lv' := [(6, .int 0), (5, .int 1), (4, .int 0), (3, .ref out), (2, .ref o), (1, .ref h), (0, .ref b)]) hx hb dL_law_471 hl (by decide) rfl (fun ls hl => ?_)
  refine lv_aload_n hx hb dL_law_473 rfl (lv_at hl 4 rfl) ?_
  refine f_aft_i (wr := []) (f_runV (As := []) (rest := []) hx hb hml hown hts (kX12_thrown l D cI cO cL E M o zb fg 1 H.size) (fcwV 0 hts q186 q187 q188 q5 q189 rfl rfl (by decide +kernel) ⟨(Nat.le_of_ble_eq_true rfl), (Nat.le_of_ble_eq_true rfl)⟩) hE hP hD hS hA [0] rfl (by decide) (q0 := 0) (ci := 13) rfl rfl rfl rfl hl.1 rfl (Nat.le_of_ble_eq_true rfl) dL_law_474 ⟨(Nat.le_of_ble_eq_true rfl), (Nat.le_of_ble_eq_true rfl)⟩) hP hD hS hA [0] [] rfl rfl (by decide) (by decide) (fun r u H locs hr0 hP hD hS => ?_)
  subst hr0
  have hP : va_P D vwCl [(o, .inr (13, [.int 1, .ref zb, .ref fg]))] H := hP
  have hD : va_D A [(o, .inr (13, [.int 1, .ref zb, .ref fg]))] := hD
  refine lv_iload hx hb dL_law_477 (lv_at hl 1 rfl) ?_
  refine lv_icmp_eq (tgt := 484) hx hb dL_law_479 (by decide) (fun _ => ?_) (fun h => absurd (by decide) h)
  refine lv_iload hx hb dL_law_484 (lv_at hl 1 rfl) ?_
  refine lv_if_ne (tgt := 501) hx hb dL_law_486 (by decide) (fun _ => ?_) (fun h => absurd h (by decide))
  refine lv_goto (tgt := 1758) hx hb dL_law_501 (by decide) ?_
  refine W.widen (k := 3000) (n := 30000) (Nat.le_of_ble_eq_true rfl) (Nat.le_of_ble_eq_true rfl) ?_
  exact law_end C hS (lv_sub hl [2, 6] rfl)
set_option maxHeartbeats 4000000 in
set_option maxRecDepth 100000 in
theorem law_wind_c {p : Program} {l : Launch} {e : Env} {s : State} {m : MethodId} {below : List Frame} {meth : Method} {c : Code} {b : Nat} {xs : Nat → Int32} {D : va_G} {cI cO cL : ClassId} {E M : Nat} {A : Nat → Prop} (C : fLC p l s m meth c b xs D cI cO cL E M A) {h f sh sp sj sc sa i1 i2 i3 tsh tsp tsj tsc tsa ti1 ti2 ti3 o zb zbp zbj zbc zba fg out : Nat} (p0 : Int32) (p1 : Int32) (hs1 : (1 : Int32).toNatClampNeg = 1 ∧ xs 1 = p0) (hs2 : (2 : Int32).toNatClampNeg = 2 ∧ xs 2 = p1) (h1 : ¬ p0 < (-4)) (h2 : ¬ 4 < p0) (h3 : p1 < 0) {H : Heap} {locs : List Loc} {ls : Array Slot} (hP : va_P D vwCl [(h, .inr (8, [.ref f, .ref sh, .ref tsh])), (f, .inr (0, [.int 0, .ref E, .int 0])), (sh, .inr (6, [.ref sp, .ref sj, .ref sc, .ref sa, .int 0, .int 3000, .int 0, .int 0, .int 0, .int 0, .int 0, .int 0, .int 0, .int 0, .int 0])), (sp, .inr (0, [.int 0, .ref E, .int 0])), (sj, .inr (0, [.int 0, .ref E, .int 0])), (sc, .inr (0, [.int 0, .ref E, .int 0])), (sa, .inr (1, [.ref i1, .ref i2, .ref i3])), (i1, .inl (cI, 9, .inl (fun _ => 0))), (i2, .inl (cI, 9, .inl (fun _ => 0))), (i3, .inl (cI, 9, .inl (fun _ => 0))), (tsh, .inr (6, [.ref tsp, .ref tsj, .ref tsc, .ref tsa, .int 0, .int 3000, .int 0, .int 0, .int 0, .int 0, .int 0, .int 0, .int 0, .int 0, .int 0])), (tsp, .inr (0, [.int 0, .ref E, .int 0])), (tsj, .inr (0, [.int 0, .ref E, .int 0])), (tsc, .inr (0, [.int 0, .ref E, .int 0])), (tsa, .inr (1, [.ref ti1, .ref ti2, .ref ti3])), (ti1, .inl (cI, 9, .inl (fun _ => 0))), (ti2, .inl (cI, 9, .inl (fun _ => 0))), (ti3, .inl (cI, 9, .inl (fun _ => 0))), (o, .inr (13, [.int 0, .ref zb, .ref fg])), (zb, .inr (9, [.int 0, .int 3000, .int 0, .int 0, .int 0, .ref zbp, .ref zbj, .ref zbc, .ref zba, .int 0, .int 0, .int 0, .int 0, .int 0, .int 0])), (zbp, .inr (0, [.int 0, .ref E, .int 0])), (zbj, .inr (0, [.int 0, .ref E, .int 0])), (zbc, .inr (0, [.int 0, .ref E, .int 0])), (zba, .inr (0, [.int 0, .ref E, .int 0])), (fg, .inr (0, [.int 0, .ref E, .int 0])), (out, .inl (cL, 1, .inr (.inl (fun _ => 0))))] H) (hD : va_D A [(h, .inr (8, [.ref f, .ref sh, .ref tsh])), (f, .inr (0, [.int 0, .ref E, .int 0])), (sh, .inr (6, [.ref sp, .ref sj, .ref sc, .ref sa, .int 0, .int 3000, .int 0, .int 0, .int 0, .int 0, .int 0, .int 0, .int 0, .int 0, .int 0])), (sp, .inr (0, [.int 0, .ref E, .int 0])), (sj, .inr (0, [.int 0, .ref E, .int 0])), (sc, .inr (0, [.int 0, .ref E, .int 0])), (sa, .inr (1, [.ref i1, .ref i2, .ref i3])), (i1, .inl (cI, 9, .inl (fun _ => 0))), (i2, .inl (cI, 9, .inl (fun _ => 0))), (i3, .inl (cI, 9, .inl (fun _ => 0))), (tsh, .inr (6, [.ref tsp, .ref tsj, .ref tsc, .ref tsa, .int 0, .int 3000, .int 0, .int 0, .int 0, .int 0, .int 0, .int 0, .int 0, .int 0, .int 0])), (tsp, .inr (0, [.int 0, .ref E, .int 0])), (tsj, .inr (0, [.int 0, .ref E, .int 0])), (tsc, .inr (0, [.int 0, .ref E, .int 0])), (tsa, .inr (1, [.ref ti1, .ref ti2, .ref ti3])), (ti1, .inl (cI, 9, .inl (fun _ => 0))), (ti2, .inl (cI, 9, .inl (fun _ => 0))), (ti3, .inl (cI, 9, .inl (fun _ => 0))), (o, .inr (13, [.int 0, .ref zb, .ref fg])), (zb, .inr (9, [.int 0, .int 3000, .int 0, .int 0, .int 0, .ref zbp, .ref zbj, .ref zbc, .ref zba, .int 0, .int 0, .int 0, .int 0, .int 0, .int 0])), (zbp, .inr (0, [.int 0, .ref E, .int 0])), (zbj, .inr (0, [.int 0, .ref E, .int 0])), (zbc, .inr (0, [.int 0, .ref E, .int 0])), (zba, .inr (0, [.int 0, .ref E, .int 0])), (fg, .inr (0, [.int 0, .ref E, .int 0])), (out, .inl (cL, 1, .inr (.inl (fun _ => 0))))]) (hS : va_S A s.heap H locs) (hl : lv_has ls 9 [(4, .int 0), (3, .ref out), (2, .ref o), (1, .ref h), (0, .ref b)]) : W p l e room_1 s m #[Value.ref b] below meth c H locs 26 148 (lw_Z below #[Value.ref b] s) (F0 m 436 ls []) := by
  obtain ⟨hx, hb, hr, hml, hown, hts, hX, hbl, hlocks, hl9, hE, hA, hA2⟩ := id C
  have hbA : ¬ A b := fun h => absurd (hA2 b h) (Nat.not_le.mpr hbl)
  refine lv_aload_n hx hb dL_law_436 rfl (lv_at hl 3 rfl) ?_
  refine lv_aload_n hx hb dL_law_437 rfl (lv_at hl 4 rfl) ?_
  refine lv_iload hx hb dL_law_438 (lv_at hl 0 rfl) ?_
  refine lv_iconst (v := 1) hx hb dL_law_440 (by decide) ?_
  refine f_iadd (v := 1) hx hb dL_law_441 (by decide) ?_
  refine va_sld hx hb hX hbl hbA hS (by unfold vp_in; decide) dL_law_442 ?_
  refine f_topi (v := p0) (f_xs hs1) ?_
  refine lv_aload_n hx hb dL_law_443 rfl (lv_at hl 4 rfl) ?_
  refine lv_iload hx hb dL_law_444 (lv_at hl 0 rfl) ?_
  refine lv_iconst (v := 2) hx hb dL_law_446 (by decide) ?_
  refine f_iadd (v := 2) hx hb dL_law_447 (by decide) ?_
  refine va_sld hx hb hX hbl hbA hS (by unfold vp_in; decide) dL_law_448 ?_
  refine f_topi (v := p1) (f_xs hs2) ?_
  refine lv_aload_n hx hb dL_law_449 rfl (lv_at hl 1 rfl) ?_
  refine f_aft_i (wr := [(o, .inr (13, [.int 0, .ref zb, .ref fg])), (zb, .inr (9, [.int 0, .int 3000, .int 0, .int 0, .int 0, .ref zbp, .ref zbj, .ref zbc, .ref zba, .int 0, .int 0, .int 0, .int 0, .int 0, .int 0])), (zbp, .inr (0, [.int 0, .ref E, .int 0])), (zbj, .inr (0, [.int 0, .ref E, .int 0])), (zbc, .inr (0, [.int 0, .ref E, .int 0])), (zba, .inr (0, [.int 0, .ref E, .int 0])), (fg, .inr (0, [.int 0, .ref E, .int 0]))]) (f_runSW (As := [.ref h, .int p0, .int p1, .ref out]) (rest := []) hx hb hml hown hts (kL_wind_c l hl9 D cI cO cL E M h f sh sp sj sc sa i1 i2 i3 tsh tsp tsj tsc tsa ti1 ti2 ti3 out p0 p1 h1 h2 h3 H.size) (fcwSW 4 hts q317 q318 q80 q319 rfl rfl (by decide +kernel) ⟨(Nat.le_of_ble_eq_true rfl), (Nat.le_of_ble_eq_true rfl)⟩) hE hP hD hS hA [0, 1, 2, 3, 4, 5, 6, 7, 8, 9, 10, 11, 12, 13, 14, 15, 16, 17, 25] rfl (by decide) rfl hl.1 rfl (Nat.le_of_ble_eq_true rfl) dL_law_450 ⟨(Nat.le_of_ble_eq_true rfl), (Nat.le_of_ble_eq_true rfl)⟩) hP hD hS hA [0, 1, 2, 3, 4, 5, 6, 7, 8, 9, 10, 11, 12, 13, 14, 15, 16, 17, 25] [18, 19, 20, 21, 22, 23, 24] rfl rfl (by decide) (by decide) (fun r u H locs hr0 hP hD hS => ?_)
  subst hr0
  have hP : va_P D vwCl [(o, .inr (13, [.int 0, .ref zb, .ref fg])), (zb, .inr (9, [.int 0, .int 3000, .int 0, .int 0, .int 0, .ref zbp, .ref zbj, .ref zbc, .ref zba, .int 0, .int 0, .int 0, .int 0, .int 0, .int 0])), (zbp, .inr (0, [.int 0, .ref E, .int 0])), (zbj, .inr (0, [.int 0, .ref E, .int 0])), (zbc, .inr (0, [.int 0, .ref E, .int 0])), (zba, .inr (0, [.int 0, .ref E, .int 0])), (fg, .inr (0, [.int 0, .ref E, .int 0]))] H := hP
  have hD : va_D A [(o, .inr (13, [.int 0, .ref zb, .ref fg])), (zb, .inr (9, [.int 0, .int 3000, .int 0, .int 0, .int 0, .ref zbp, .ref zbj, .ref zbc, .ref zba, .int 0, .int 0, .int 0, .int 0, .int 0, .int 0])), (zbp, .inr (0, [.int 0, .ref E, .int 0])), (zbj, .inr (0, [.int 0, .ref E, .int 0])), (zbc, .inr (0, [.int 0, .ref E, .int 0])), (zba, .inr (0, [.int 0, .ref E, .int 0])), (fg, .inr (0, [.int 0, .ref E, .int 0]))] := hD
  refine lv_istore (lv' := [(5, .int 1), (4, .int 0), (3, .ref out), (2, .ref o), (1, .ref h), (0, .ref b)]) hx hb dL_law_453 hl (by decide) rfl (fun ls hl => ?_)
  refine lv_aload_n hx hb dL_law_455 rfl (lv_at hl 3 rfl) ?_
  refine lv_aload_n hx hb dL_law_456 rfl (lv_at hl 5 rfl) ?_
  refine lv_iload hx hb dL_law_457 (lv_at hl 1 rfl) ?_
  refine lv_iconst (v := 1) hx hb dL_law_459 (by decide) ?_
  refine f_iadd (v := 1) hx hb dL_law_460 (by decide) ?_
  refine va_sld hx hb hX hbl hbA hS (by unfold vp_in; decide) dL_law_461 ?_
  refine f_topi (v := p0) (f_xs hs1) ?_
  refine lv_aload_n hx hb dL_law_462 rfl (lv_at hl 5 rfl) ?_
  refine lv_iload hx hb dL_law_463 (lv_at hl 1 rfl) ?_
  refine lv_iconst (v := 2) hx hb dL_law_465 (by decide) ?_
  refine f_iadd (v := 2) hx hb dL_law_466 (by decide) ?_
  refine va_sld hx hb hX hbl hbA hS (by unfold vp_in; decide) dL_law_467 ?_
  refine f_topi (v := p1) (f_xs hs2) ?_
  refine f_aft_i (wr := []) (f_runV (As := [.int p0, .int p1]) (rest := []) hx hb hml hown hts (kX12_wind_c l D cI cO cL E M o zb zbp zbj zbc zba fg p0 p1 h1 h2 h3 H.size) (fcwV 2 hts q326 q327 q328 q5 q329 rfl rfl (by decide +kernel) ⟨(Nat.le_of_ble_eq_true rfl), (Nat.le_of_ble_eq_true rfl)⟩) hE hP hD hS hA [0, 1, 2, 3, 4, 5, 6] rfl (by decide) (q0 := 0) (ci := 13) rfl rfl rfl rfl hl.1 rfl (Nat.le_of_ble_eq_true rfl) dL_law_468 ⟨(Nat.le_of_ble_eq_true rfl), (Nat.le_of_ble_eq_true rfl)⟩) hP hD hS hA [0, 1, 2, 3, 4, 5, 6] [] rfl rfl (by decide) (by decide) (fun r u H locs hr0 hP hD hS => ?_)
  subst hr0
  have hP : va_P D vwCl [(o, .inr (13, [.int 1, .ref zb, .ref fg]))] H := hP
  have hD : va_D A [(o, .inr (13, [.int 1, .ref zb, .ref fg]))] := hD
  refine lv_istore (lv' := [(6, .int 0), (5, .int 1), (4, .int 0), (3, .ref out), (2, .ref o), (1, .ref h), (0, .ref b)]) hx hb dL_law_471 hl (by decide) rfl (fun ls hl => ?_)
  refine lv_aload_n hx hb dL_law_473 rfl (lv_at hl 4 rfl) ?_
  refine f_aft_i (wr := []) (f_runV (As := []) (rest := []) hx hb hml hown hts (kX12_thrown l D cI cO cL E M o zb fg 1 H.size) (fcwV 0 hts q186 q187 q188 q5 q189 rfl rfl (by decide +kernel) ⟨(Nat.le_of_ble_eq_true rfl), (Nat.le_of_ble_eq_true rfl)⟩) hE hP hD hS hA [0] rfl (by decide) (q0 := 0) (ci := 13) rfl rfl rfl rfl hl.1 rfl (Nat.le_of_ble_eq_true rfl) dL_law_474 ⟨(Nat.le_of_ble_eq_true rfl), (Nat.le_of_ble_eq_true rfl)⟩) hP hD hS hA [0] [] rfl rfl (by decide) (by decide) (fun r u H locs hr0 hP hD hS => ?_)
  subst hr0
  have hP : va_P D vwCl [(o, .inr (13, [.int 1, .ref zb, .ref fg]))] H := hP
  have hD : va_D A [(o, .inr (13, [.int 1, .ref zb, .ref fg]))] := hD
  refine lv_iload hx hb dL_law_477 (lv_at hl 1 rfl) ?_
  refine lv_icmp_eq (tgt := 484) hx hb dL_law_479 (by decide) (fun _ => ?_) (fun h => absurd (by decide) h)
  refine lv_iload hx hb dL_law_484 (lv_at hl 1 rfl) ?_
  refine lv_if_ne (tgt := 501) hx hb dL_law_486 (by decide) (fun _ => ?_) (fun h => absurd h (by decide))
  refine lv_goto (tgt := 1758) hx hb dL_law_501 (by decide) ?_
  refine W.widen (k := 3000) (n := 30000) (Nat.le_of_ble_eq_true rfl) (Nat.le_of_ble_eq_true rfl) ?_
  exact law_end C hS (lv_sub hl [2, 6] rfl)
set_option maxHeartbeats 4000000 in
set_option maxRecDepth 100000 in
theorem law_wind_d {p : Program} {l : Launch} {e : Env} {s : State} {m : MethodId} {below : List Frame} {meth : Method} {c : Code} {b : Nat} {xs : Nat → Int32} {D : va_G} {cI cO cL : ClassId} {E M : Nat} {A : Nat → Prop} (C : fLC p l s m meth c b xs D cI cO cL E M A) {h f sh sp sj sc sa i1 i2 i3 tsh tsp tsj tsc tsa ti1 ti2 ti3 o zb zbp zbj zbc zba fg out : Nat} (p0 : Int32) (p1 : Int32) (hs1 : (1 : Int32).toNatClampNeg = 1 ∧ xs 1 = p0) (hs2 : (2 : Int32).toNatClampNeg = 2 ∧ xs 2 = p1) (h1 : ¬ p0 < (-4)) (h2 : ¬ 4 < p0) (h3 : ¬ p1 < 0) (h4 : 2 < p1) {H : Heap} {locs : List Loc} {ls : Array Slot} (hP : va_P D vwCl [(h, .inr (8, [.ref f, .ref sh, .ref tsh])), (f, .inr (0, [.int 0, .ref E, .int 0])), (sh, .inr (6, [.ref sp, .ref sj, .ref sc, .ref sa, .int 0, .int 3000, .int 0, .int 0, .int 0, .int 0, .int 0, .int 0, .int 0, .int 0, .int 0])), (sp, .inr (0, [.int 0, .ref E, .int 0])), (sj, .inr (0, [.int 0, .ref E, .int 0])), (sc, .inr (0, [.int 0, .ref E, .int 0])), (sa, .inr (1, [.ref i1, .ref i2, .ref i3])), (i1, .inl (cI, 9, .inl (fun _ => 0))), (i2, .inl (cI, 9, .inl (fun _ => 0))), (i3, .inl (cI, 9, .inl (fun _ => 0))), (tsh, .inr (6, [.ref tsp, .ref tsj, .ref tsc, .ref tsa, .int 0, .int 3000, .int 0, .int 0, .int 0, .int 0, .int 0, .int 0, .int 0, .int 0, .int 0])), (tsp, .inr (0, [.int 0, .ref E, .int 0])), (tsj, .inr (0, [.int 0, .ref E, .int 0])), (tsc, .inr (0, [.int 0, .ref E, .int 0])), (tsa, .inr (1, [.ref ti1, .ref ti2, .ref ti3])), (ti1, .inl (cI, 9, .inl (fun _ => 0))), (ti2, .inl (cI, 9, .inl (fun _ => 0))), (ti3, .inl (cI, 9, .inl (fun _ => 0))), (o, .inr (13, [.int 0, .ref zb, .ref fg])), (zb, .inr (9, [.int 0, .int 3000, .int 0, .int 0, .int 0, .ref zbp, .ref zbj, .ref zbc, .ref zba, .int 0, .int 0, .int 0, .int 0, .int 0, .int 0])), (zbp, .inr (0, [.int 0, .ref E, .int 0])), (zbj, .inr (0, [.int 0, .ref E, .int 0])), (zbc, .inr (0, [.int 0, .ref E, .int 0])), (zba, .inr (0, [.int 0, .ref E, .int 0])), (fg, .inr (0, [.int 0, .ref E, .int 0])), (out, .inl (cL, 1, .inr (.inl (fun _ => 0))))] H) (hD : va_D A [(h, .inr (8, [.ref f, .ref sh, .ref tsh])), (f, .inr (0, [.int 0, .ref E, .int 0])), (sh, .inr (6, [.ref sp, .ref sj, .ref sc, .ref sa, .int 0, .int 3000, .int 0, .int 0, .int 0, .int 0, .int 0, .int 0, .int 0, .int 0, .int 0])), (sp, .inr (0, [.int 0, .ref E, .int 0])), (sj, .inr (0, [.int 0, .ref E, .int 0])), (sc, .inr (0, [.int 0, .ref E, .int 0])), (sa, .inr (1, [.ref i1, .ref i2, .ref i3])), (i1, .inl (cI, 9, .inl (fun _ => 0))), (i2, .inl (cI, 9, .inl (fun _ => 0))), (i3, .inl (cI, 9, .inl (fun _ => 0))), (tsh, .inr (6, [.ref tsp, .ref tsj, .ref tsc, .ref tsa, .int 0, .int 3000, .int 0, .int 0, .int 0, .int 0, .int 0, .int 0, .int 0, .int 0, .int 0])), (tsp, .inr (0, [.int 0, .ref E, .int 0])), (tsj, .inr (0, [.int 0, .ref E, .int 0])), (tsc, .inr (0, [.int 0, .ref E, .int 0])), (tsa, .inr (1, [.ref ti1, .ref ti2, .ref ti3])), (ti1, .inl (cI, 9, .inl (fun _ => 0))), (ti2, .inl (cI, 9, .inl (fun _ => 0))), (ti3, .inl (cI, 9, .inl (fun _ => 0))), (o, .inr (13, [.int 0, .ref zb, .ref fg])), (zb, .inr (9, [.int 0, .int 3000, .int 0, .int 0, .int 0, .ref zbp, .ref zbj, .ref zbc, .ref zba, .int 0, .int 0, .int 0, .int 0, .int 0, .int 0])), (zbp, .inr (0, [.int 0, .ref E, .int 0])), (zbj, .inr (0, [.int 0, .ref E, .int 0])), (zbc, .inr (0, [.int 0, .ref E, .int 0])), (zba, .inr (0, [.int 0, .ref E, .int 0])), (fg, .inr (0, [.int 0, .ref E, .int 0])), (out, .inl (cL, 1, .inr (.inl (fun _ => 0))))]) (hS : va_S A s.heap H locs) (hl : lv_has ls 9 [(4, .int 0), (3, .ref out), (2, .ref o), (1, .ref h), (0, .ref b)]) : W p l e room_1 s m #[Value.ref b] below meth c H locs 26 148 (lw_Z below #[Value.ref b] s) (F0 m 436 ls []) := by
  obtain ⟨hx, hb, hr, hml, hown, hts, hX, hbl, hlocks, hl9, hE, hA, hA2⟩ := id C
  have hbA : ¬ A b := fun h => absurd (hA2 b h) (Nat.not_le.mpr hbl)
  refine lv_aload_n hx hb dL_law_436 rfl (lv_at hl 3 rfl) ?_
  refine lv_aload_n hx hb dL_law_437 rfl (lv_at hl 4 rfl) ?_
  refine lv_iload hx hb dL_law_438 (lv_at hl 0 rfl) ?_
  refine lv_iconst (v := 1) hx hb dL_law_440 (by decide) ?_
  refine f_iadd (v := 1) hx hb dL_law_441 (by decide) ?_
  refine va_sld hx hb hX hbl hbA hS (by unfold vp_in; decide) dL_law_442 ?_
  refine f_topi (v := p0) (f_xs hs1) ?_
  refine lv_aload_n hx hb dL_law_443 rfl (lv_at hl 4 rfl) ?_
  refine lv_iload hx hb dL_law_444 (lv_at hl 0 rfl) ?_
  refine lv_iconst (v := 2) hx hb dL_law_446 (by decide) ?_
  refine f_iadd (v := 2) hx hb dL_law_447 (by decide) ?_
  refine va_sld hx hb hX hbl hbA hS (by unfold vp_in; decide) dL_law_448 ?_
  refine f_topi (v := p1) (f_xs hs2) ?_
  refine lv_aload_n hx hb dL_law_449 rfl (lv_at hl 1 rfl) ?_
  refine f_aft_i (wr := [(o, .inr (13, [.int 0, .ref zb, .ref fg])), (zb, .inr (9, [.int 0, .int 3000, .int 0, .int 0, .int 0, .ref zbp, .ref zbj, .ref zbc, .ref zba, .int 0, .int 0, .int 0, .int 0, .int 0, .int 0])), (zbp, .inr (0, [.int 0, .ref E, .int 0])), (zbj, .inr (0, [.int 0, .ref E, .int 0])), (zbc, .inr (0, [.int 0, .ref E, .int 0])), (zba, .inr (0, [.int 0, .ref E, .int 0])), (fg, .inr (0, [.int 0, .ref E, .int 0]))]) (f_runSW (As := [.ref h, .int p0, .int p1, .ref out]) (rest := []) hx hb hml hown hts (kL_wind_d l hl9 D cI cO cL E M h f sh sp sj sc sa i1 i2 i3 tsh tsp tsj tsc tsa ti1 ti2 ti3 out p0 p1 h1 h2 h3 h4 H.size) (fcwSW 4 hts q317 q318 q80 q319 rfl rfl (by decide +kernel) ⟨(Nat.le_of_ble_eq_true rfl), (Nat.le_of_ble_eq_true rfl)⟩) hE hP hD hS hA [0, 1, 2, 3, 4, 5, 6, 7, 8, 9, 10, 11, 12, 13, 14, 15, 16, 17, 25] rfl (by decide) rfl hl.1 rfl (Nat.le_of_ble_eq_true rfl) dL_law_450 ⟨(Nat.le_of_ble_eq_true rfl), (Nat.le_of_ble_eq_true rfl)⟩) hP hD hS hA [0, 1, 2, 3, 4, 5, 6, 7, 8, 9, 10, 11, 12, 13, 14, 15, 16, 17, 25] [18, 19, 20, 21, 22, 23, 24] rfl rfl (by decide) (by decide) (fun r u H locs hr0 hP hD hS => ?_)
  subst hr0
  have hP : va_P D vwCl [(o, .inr (13, [.int 0, .ref zb, .ref fg])), (zb, .inr (9, [.int 0, .int 3000, .int 0, .int 0, .int 0, .ref zbp, .ref zbj, .ref zbc, .ref zba, .int 0, .int 0, .int 0, .int 0, .int 0, .int 0])), (zbp, .inr (0, [.int 0, .ref E, .int 0])), (zbj, .inr (0, [.int 0, .ref E, .int 0])), (zbc, .inr (0, [.int 0, .ref E, .int 0])), (zba, .inr (0, [.int 0, .ref E, .int 0])), (fg, .inr (0, [.int 0, .ref E, .int 0]))] H := hP
  have hD : va_D A [(o, .inr (13, [.int 0, .ref zb, .ref fg])), (zb, .inr (9, [.int 0, .int 3000, .int 0, .int 0, .int 0, .ref zbp, .ref zbj, .ref zbc, .ref zba, .int 0, .int 0, .int 0, .int 0, .int 0, .int 0])), (zbp, .inr (0, [.int 0, .ref E, .int 0])), (zbj, .inr (0, [.int 0, .ref E, .int 0])), (zbc, .inr (0, [.int 0, .ref E, .int 0])), (zba, .inr (0, [.int 0, .ref E, .int 0])), (fg, .inr (0, [.int 0, .ref E, .int 0]))] := hD
  refine lv_istore (lv' := [(5, .int 1), (4, .int 0), (3, .ref out), (2, .ref o), (1, .ref h), (0, .ref b)]) hx hb dL_law_453 hl (by decide) rfl (fun ls hl => ?_)
  refine lv_aload_n hx hb dL_law_455 rfl (lv_at hl 3 rfl) ?_
  refine lv_aload_n hx hb dL_law_456 rfl (lv_at hl 5 rfl) ?_
  refine lv_iload hx hb dL_law_457 (lv_at hl 1 rfl) ?_
  refine lv_iconst (v := 1) hx hb dL_law_459 (by decide) ?_
  refine f_iadd (v := 1) hx hb dL_law_460 (by decide) ?_
  refine va_sld hx hb hX hbl hbA hS (by unfold vp_in; decide) dL_law_461 ?_
  refine f_topi (v := p0) (f_xs hs1) ?_
  refine lv_aload_n hx hb dL_law_462 rfl (lv_at hl 5 rfl) ?_
  refine lv_iload hx hb dL_law_463 (lv_at hl 1 rfl) ?_
  refine lv_iconst (v := 2) hx hb dL_law_465 (by decide) ?_
  refine f_iadd (v := 2) hx hb dL_law_466 (by decide) ?_
  refine va_sld hx hb hX hbl hbA hS (by unfold vp_in; decide) dL_law_467 ?_
  refine f_topi (v := p1) (f_xs hs2) ?_
  refine f_aft_i (wr := []) (f_runV (As := [.int p0, .int p1]) (rest := []) hx hb hml hown hts (kX12_wind_d l D cI cO cL E M o zb zbp zbj zbc zba fg p0 p1 h1 h2 h3 h4 H.size) (fcwV 2 hts q326 q327 q328 q5 q329 rfl rfl (by decide +kernel) ⟨(Nat.le_of_ble_eq_true rfl), (Nat.le_of_ble_eq_true rfl)⟩) hE hP hD hS hA [0, 1, 2, 3, 4, 5, 6] rfl (by decide) (q0 := 0) (ci := 13) rfl rfl rfl rfl hl.1 rfl (Nat.le_of_ble_eq_true rfl) dL_law_468 ⟨(Nat.le_of_ble_eq_true rfl), (Nat.le_of_ble_eq_true rfl)⟩) hP hD hS hA [0, 1, 2, 3, 4, 5, 6] [] rfl rfl (by decide) (by decide) (fun r u H locs hr0 hP hD hS => ?_)
  subst hr0
  have hP : va_P D vwCl [(o, .inr (13, [.int 1, .ref zb, .ref fg]))] H := hP
  have hD : va_D A [(o, .inr (13, [.int 1, .ref zb, .ref fg]))] := hD
  refine lv_istore (lv' := [(6, .int 0), (5, .int 1), (4, .int 0), (3, .ref out), (2, .ref o), (1, .ref h), (0, .ref b)]) hx hb dL_law_471 hl (by decide) rfl (fun ls hl => ?_)
  refine lv_aload_n hx hb dL_law_473 rfl (lv_at hl 4 rfl) ?_
  refine f_aft_i (wr := []) (f_runV (As := []) (rest := []) hx hb hml hown hts (kX12_thrown l D cI cO cL E M o zb fg 1 H.size) (fcwV 0 hts q186 q187 q188 q5 q189 rfl rfl (by decide +kernel) ⟨(Nat.le_of_ble_eq_true rfl), (Nat.le_of_ble_eq_true rfl)⟩) hE hP hD hS hA [0] rfl (by decide) (q0 := 0) (ci := 13) rfl rfl rfl rfl hl.1 rfl (Nat.le_of_ble_eq_true rfl) dL_law_474 ⟨(Nat.le_of_ble_eq_true rfl), (Nat.le_of_ble_eq_true rfl)⟩) hP hD hS hA [0] [] rfl rfl (by decide) (by decide) (fun r u H locs hr0 hP hD hS => ?_)
  subst hr0
  have hP : va_P D vwCl [(o, .inr (13, [.int 1, .ref zb, .ref fg]))] H := hP
  have hD : va_D A [(o, .inr (13, [.int 1, .ref zb, .ref fg]))] := hD
  refine lv_iload hx hb dL_law_477 (lv_at hl 1 rfl) ?_
  refine lv_icmp_eq (tgt := 484) hx hb dL_law_479 (by decide) (fun _ => ?_) (fun h => absurd (by decide) h)
  refine lv_iload hx hb dL_law_484 (lv_at hl 1 rfl) ?_
  refine lv_if_ne (tgt := 501) hx hb dL_law_486 (by decide) (fun _ => ?_) (fun h => absurd h (by decide))
  refine lv_goto (tgt := 1758) hx hb dL_law_501 (by decide) ?_
  refine W.widen (k := 3000) (n := 30000) (Nat.le_of_ble_eq_true rfl) (Nat.le_of_ble_eq_true rfl) ?_
  exact law_end C hS (lv_sub hl [2, 6] rfl)
set_option maxHeartbeats 4000000 in
set_option maxRecDepth 100000 in
theorem law_fill_ok {p : Program} {l : Launch} {e : Env} {s : State} {m : MethodId} {below : List Frame} {meth : Method} {c : Code} {b : Nat} {xs : Nat → Int32} {D : va_G} {cI cO cL : ClassId} {E M : Nat} {A : Nat → Prop} (C : fLC p l s m meth c b xs D cI cO cL E M A) {h f sh sp sj sc sa i1 i2 i3 tsh tsp tsj tsc tsa ti1 ti2 ti3 o zb zbp zbj zbc zba fg out : Nat} (N : Nat) (hs1 : (1 : Int32).toNatClampNeg = 1 ∧ xs 1 = nI N) (g1 : 1 ≤ N) (g2 : N ≤ 5000) {H : Heap} {locs : List Loc} {ls : Array Slot} (hP : va_P D vwCl [(h, .inr (8, [.ref f, .ref sh, .ref tsh])), (f, .inr (0, [.int 0, .ref E, .int 0])), (sh, .inr (6, [.ref sp, .ref sj, .ref sc, .ref sa, .int 0, .int 3000, .int 0, .int 0, .int 0, .int 0, .int 0, .int 0, .int 0, .int 0, .int 0])), (sp, .inr (0, [.int 0, .ref E, .int 0])), (sj, .inr (0, [.int 0, .ref E, .int 0])), (sc, .inr (0, [.int 0, .ref E, .int 0])), (sa, .inr (1, [.ref i1, .ref i2, .ref i3])), (i1, .inl (cI, 9, .inl (fun _ => 0))), (i2, .inl (cI, 9, .inl (fun _ => 0))), (i3, .inl (cI, 9, .inl (fun _ => 0))), (tsh, .inr (6, [.ref tsp, .ref tsj, .ref tsc, .ref tsa, .int 0, .int 3000, .int 0, .int 0, .int 0, .int 0, .int 0, .int 0, .int 0, .int 0, .int 0])), (tsp, .inr (0, [.int 0, .ref E, .int 0])), (tsj, .inr (0, [.int 0, .ref E, .int 0])), (tsc, .inr (0, [.int 0, .ref E, .int 0])), (tsa, .inr (1, [.ref ti1, .ref ti2, .ref ti3])), (ti1, .inl (cI, 9, .inl (fun _ => 0))), (ti2, .inl (cI, 9, .inl (fun _ => 0))), (ti3, .inl (cI, 9, .inl (fun _ => 0))), (o, .inr (13, [.int 0, .ref zb, .ref fg])), (zb, .inr (9, [.int 0, .int 3000, .int 0, .int 0, .int 0, .ref zbp, .ref zbj, .ref zbc, .ref zba, .int 0, .int 0, .int 0, .int 0, .int 0, .int 0])), (zbp, .inr (0, [.int 0, .ref E, .int 0])), (zbj, .inr (0, [.int 0, .ref E, .int 0])), (zbc, .inr (0, [.int 0, .ref E, .int 0])), (zba, .inr (0, [.int 0, .ref E, .int 0])), (fg, .inr (0, [.int 0, .ref E, .int 0])), (out, .inl (cL, 1, .inr (.inl (fun _ => 0))))] H) (hD : va_D A [(h, .inr (8, [.ref f, .ref sh, .ref tsh])), (f, .inr (0, [.int 0, .ref E, .int 0])), (sh, .inr (6, [.ref sp, .ref sj, .ref sc, .ref sa, .int 0, .int 3000, .int 0, .int 0, .int 0, .int 0, .int 0, .int 0, .int 0, .int 0, .int 0])), (sp, .inr (0, [.int 0, .ref E, .int 0])), (sj, .inr (0, [.int 0, .ref E, .int 0])), (sc, .inr (0, [.int 0, .ref E, .int 0])), (sa, .inr (1, [.ref i1, .ref i2, .ref i3])), (i1, .inl (cI, 9, .inl (fun _ => 0))), (i2, .inl (cI, 9, .inl (fun _ => 0))), (i3, .inl (cI, 9, .inl (fun _ => 0))), (tsh, .inr (6, [.ref tsp, .ref tsj, .ref tsc, .ref tsa, .int 0, .int 3000, .int 0, .int 0, .int 0, .int 0, .int 0, .int 0, .int 0, .int 0, .int 0])), (tsp, .inr (0, [.int 0, .ref E, .int 0])), (tsj, .inr (0, [.int 0, .ref E, .int 0])), (tsc, .inr (0, [.int 0, .ref E, .int 0])), (tsa, .inr (1, [.ref ti1, .ref ti2, .ref ti3])), (ti1, .inl (cI, 9, .inl (fun _ => 0))), (ti2, .inl (cI, 9, .inl (fun _ => 0))), (ti3, .inl (cI, 9, .inl (fun _ => 0))), (o, .inr (13, [.int 0, .ref zb, .ref fg])), (zb, .inr (9, [.int 0, .int 3000, .int 0, .int 0, .int 0, .ref zbp, .ref zbj, .ref zbc, .ref zba, .int 0, .int 0, .int 0, .int 0, .int 0, .int 0])), (zbp, .inr (0, [.int 0, .ref E, .int 0])), (zbj, .inr (0, [.int 0, .ref E, .int 0])), (zbc, .inr (0, [.int 0, .ref E, .int 0])), (zba, .inr (0, [.int 0, .ref E, .int 0])), (fg, .inr (0, [.int 0, .ref E, .int 0])), (out, .inl (cL, 1, .inr (.inl (fun _ => 0))))]) (hS : va_S A s.heap H locs) (hl : lv_has ls 9 [(4, .int 0), (3, .ref out), (2, .ref o), (1, .ref h), (0, .ref b)]) : W p l e room_1 s m #[Value.ref b] below meth c H locs 26 148 (lw_Z below #[Value.ref b] s) (F0 m 947 ls []) := by
  obtain ⟨hx, hb, hr, hml, hown, hts, hX, hbl, hlocks, hl9, hE, hA, hA2⟩ := id C
  have hbA : ¬ A b := fun h => absurd (hA2 b h) (Nat.not_le.mpr hbl)
  refine lv_aload_n hx hb dL_law_947 rfl (lv_at hl 3 rfl) ?_
  refine lv_aload_n hx hb dL_law_948 rfl (lv_at hl 4 rfl) ?_
  refine lv_iload hx hb dL_law_949 (lv_at hl 0 rfl) ?_
  refine lv_iconst (v := 1) hx hb dL_law_951 (by decide) ?_
  refine f_iadd (v := 1) hx hb dL_law_952 (by decide) ?_
  refine va_sld hx hb hX hbl hbA hS (by unfold vp_in; decide) dL_law_953 ?_
  refine f_topi (v := nI N) (f_xs hs1) ?_
  refine lv_aload_n hx hb dL_law_954 rfl (lv_at hl 1 rfl) ?_
  refine f_aft_i (wr := [(o, .inr (13, [.int 0, .ref zb, .ref fg])), (zb, .inr (9, [.int 0, .int 3000, .int 0, .int 0, .int 0, .ref zbp, .ref zbj, .ref zbc, .ref zba, .int 0, .int 0, .int 0, .int 0, .int 0, .int 0])), (zbp, .inr (0, [.int 0, .ref E, .int 0])), (zbj, .inr (0, [.int 0, .ref E, .int 0])), (zbc, .inr (0, [.int 0, .ref E, .int 0])), (zba, .inr (0, [.int 0, .ref E, .int 0])), (fg, .inr (0, [.int 0, .ref E, .int 0]))]) (f_runSW (As := [.ref h, .int (nI N), .ref out]) (rest := []) hx hb hml hown hts (kL_fill_ok l D cI cO cL E M h f sh sp sj sc sa i1 i2 i3 tsh tsp tsj tsc tsa ti1 ti2 ti3 out N g1 g2 H.size) (fcwSW 3 hts q450 q451 q80 q452 rfl rfl (by decide +kernel) ⟨(Nat.le_of_ble_eq_true rfl), (Nat.le_of_ble_eq_true rfl)⟩) hE hP hD hS hA [0, 1, 2, 3, 4, 5, 6, 7, 8, 9, 10, 11, 12, 13, 14, 15, 16, 17, 25] rfl (by decide) rfl hl.1 rfl (Nat.le_of_ble_eq_true rfl) dL_law_955 ⟨(Nat.le_of_ble_eq_true rfl), (Nat.le_of_ble_eq_true rfl)⟩) hP hD hS hA [0, 1, 2, 3, 4, 5, 6, 7, 8, 9, 10, 11, 12, 13, 14, 15, 16, 17, 25] [18, 19, 20, 21, 22, 23, 24] rfl rfl (by decide) (by decide) (fun r u H locs hr0 hP hD hS => ?_)
  subst hr0
  have hP : va_P D vwCl [(o, .inr (13, [.int 0, .ref zb, .ref fg])), (zb, .inr (9, [.int 0, .int 3000, .int 0, .int 0, .int 0, .ref zbp, .ref zbj, .ref zbc, .ref zba, .int 0, .int 0, .int 0, .int 0, .int 0, .int 0])), (zbp, .inr (0, [.int 0, .ref E, .int 0])), (zbj, .inr (0, [.int 0, .ref E, .int 0])), (zbc, .inr (0, [.int 0, .ref E, .int 0])), (zba, .inr (0, [.int 0, .ref E, .int 0])), (fg, .inr (0, [.int 0, .ref E, .int 0])), (out, .inl (cL, 1, .inr (.inl (vp_updL (fun _ => 0) 0 ((3000 + (nI N)).toInt64)))))] H := hP
  have hD : va_D A [(o, .inr (13, [.int 0, .ref zb, .ref fg])), (zb, .inr (9, [.int 0, .int 3000, .int 0, .int 0, .int 0, .ref zbp, .ref zbj, .ref zbc, .ref zba, .int 0, .int 0, .int 0, .int 0, .int 0, .int 0])), (zbp, .inr (0, [.int 0, .ref E, .int 0])), (zbj, .inr (0, [.int 0, .ref E, .int 0])), (zbc, .inr (0, [.int 0, .ref E, .int 0])), (zba, .inr (0, [.int 0, .ref E, .int 0])), (fg, .inr (0, [.int 0, .ref E, .int 0])), (out, .inl (cL, 1, .inr (.inl (vp_updL (fun _ => 0) 0 ((3000 + (nI N)).toInt64)))))] := hD
  refine lv_istore (lv' := [(5, .int 0), (4, .int 0), (3, .ref out), (2, .ref o), (1, .ref h), (0, .ref b)]) hx hb dL_law_958 hl (by decide) rfl (fun ls hl => ?_)
  refine lv_aload_n hx hb dL_law_960 rfl (lv_at hl 3 rfl) ?_
  refine lv_aload_n hx hb dL_law_961 rfl (lv_at hl 5 rfl) ?_
  refine lv_iload hx hb dL_law_962 (lv_at hl 1 rfl) ?_
  refine lv_iconst (v := 1) hx hb dL_law_964 (by decide) ?_
  refine f_iadd (v := 1) hx hb dL_law_965 (by decide) ?_
  refine va_sld hx hb hX hbl hbA hS (by unfold vp_in; decide) dL_law_966 ?_
  refine f_topi (v := nI N) (f_xs hs1) ?_
  refine f_aft_i (wr := [(out, .inl (cL, 1, .inr (.inl (vp_updL (fun _ => 0) 0 ((3000 + (nI N)).toInt64)))))]) (f_runV (As := [.int (nI N)]) (rest := []) hx hb hml hown hts (kX12_fill_ok l D cI cO cL E M o zb zbp zbj zbc zba fg N g1 g2 H.size) (fcwV 1 hts q462 q463 q464 q5 q465 rfl rfl (by decide +kernel) ⟨(Nat.le_of_ble_eq_true rfl), (Nat.le_of_ble_eq_true rfl)⟩) hE hP hD hS hA [0, 1, 2, 3, 4, 5, 6] rfl (by decide) (q0 := 0) (ci := 13) rfl rfl rfl rfl hl.1 rfl (Nat.le_of_ble_eq_true rfl) dL_law_967 ⟨(Nat.le_of_ble_eq_true rfl), (Nat.le_of_ble_eq_true rfl)⟩) hP hD hS hA [0, 1, 2, 3, 4, 5, 6] [7] rfl rfl (by decide) (by decide) (fun r u H locs hr0 hP hD hS => ?_)
  subst hr0
  have hP : va_P D vwCl [(out, .inl (cL, 1, .inr (.inl (vp_updL (fun _ => 0) 0 ((3000 + (nI N)).toInt64))))), (o, .inr (13, [.int 0, .ref zb, .ref fg]))] H := hP
  have hD : va_D A [(out, .inl (cL, 1, .inr (.inl (vp_updL (fun _ => 0) 0 ((3000 + (nI N)).toInt64))))), (o, .inr (13, [.int 0, .ref zb, .ref fg]))] := hD
  refine lv_istore (lv' := [(6, .int (3000 + nI N)), (5, .int 0), (4, .int 0), (3, .ref out), (2, .ref o), (1, .ref h), (0, .ref b)]) hx hb dL_law_970 hl (by decide) rfl (fun ls hl => ?_)
  refine lv_aload_n hx hb dL_law_972 rfl (lv_at hl 4 rfl) ?_
  refine f_aft_i (wr := [(out, .inl (cL, 1, .inr (.inl (vp_updL (fun _ => 0) 0 ((3000 + (nI N)).toInt64)))))]) (f_runV (As := []) (rest := []) hx hb hml hown hts (kX12_thrown l D cI cO cL E M o zb fg 0 H.size) (fcwV 0 hts q186 q187 q188 q5 q189 rfl rfl (by decide +kernel) ⟨(Nat.le_of_ble_eq_true rfl), (Nat.le_of_ble_eq_true rfl)⟩) hE hP hD hS hA [1] rfl (by decide) (q0 := 1) (ci := 13) rfl rfl rfl rfl hl.1 rfl (Nat.le_of_ble_eq_true rfl) dL_law_973 ⟨(Nat.le_of_ble_eq_true rfl), (Nat.le_of_ble_eq_true rfl)⟩) hP hD hS hA [1] [0] rfl rfl (by decide) (by decide) (fun r u H locs hr0 hP hD hS => ?_)
  subst hr0
  have hP : va_P D vwCl [(out, .inl (cL, 1, .inr (.inl (vp_updL (fun _ => 0) 0 ((3000 + (nI N)).toInt64))))), (o, .inr (13, [.int 0, .ref zb, .ref fg]))] H := hP
  have hD : va_D A [(out, .inl (cL, 1, .inr (.inl (vp_updL (fun _ => 0) 0 ((3000 + (nI N)).toInt64))))), (o, .inr (13, [.int 0, .ref zb, .ref fg]))] := hD
  refine lv_iload hx hb dL_law_976 (lv_at hl 1 rfl) ?_
  refine lv_icmp_eq (tgt := 983) hx hb dL_law_978 (by decide) (fun _ => ?_) (fun h => absurd (by decide) h)
  refine lv_iload hx hb dL_law_983 (lv_at hl 1 rfl) ?_
  refine lv_if_ne (tgt := 1000) hx hb dL_law_985 (by decide) (fun h => absurd h (by decide)) (fun _ => ?_)
  refine lv_aload_n hx hb dL_law_988 rfl (lv_at hl 3 rfl) ?_
  refine lv_iconst (v := 0) hx hb dL_law_989 (by decide) ?_
  refine va_lald hx hb hE.1.1 hP 0 2 rfl rfl (by unfold vp_in; decide) dL_law_990 ?_
  refine f_topl (v := ((3000 + (nI N)).toInt64)) (rfl) ?_
  refine lv_iload hx hb dL_law_991 (lv_at hl 0 rfl) ?_
  refine lv_i2l (v := (3000 + nI N).toInt64) hx hb dL_law_993 rfl ?_
  refine W.lcmp hx hb dL_law_994 ?_
  refine f_topi (v := 0) (f_cmp0 _) ?_
  refine lv_if_eq (tgt := 1000) hx hb dL_law_995 (by decide) (fun _ => ?_) (fun h => absurd (by decide) h)
  refine lv_goto (tgt := 1758) hx hb dL_law_1000 (by decide) ?_
  refine W.widen (k := 3000) (n := 30000) (Nat.le_of_ble_eq_true rfl) (Nat.le_of_ble_eq_true rfl) ?_
  exact law_end C hS (lv_sub hl [2, 6] rfl)
set_option maxHeartbeats 4000000 in
set_option maxRecDepth 100000 in
theorem law_fill_a {p : Program} {l : Launch} {e : Env} {s : State} {m : MethodId} {below : List Frame} {meth : Method} {c : Code} {b : Nat} {xs : Nat → Int32} {D : va_G} {cI cO cL : ClassId} {E M : Nat} {A : Nat → Prop} (C : fLC p l s m meth c b xs D cI cO cL E M A) {h f sh sp sj sc sa i1 i2 i3 tsh tsp tsj tsc tsa ti1 ti2 ti3 o zb zbp zbj zbc zba fg out : Nat} (p0 : Int32) (hs1 : (1 : Int32).toNatClampNeg = 1 ∧ xs 1 = p0) (h1 : p0 < 1) {H : Heap} {locs : List Loc} {ls : Array Slot} (hP : va_P D vwCl [(h, .inr (8, [.ref f, .ref sh, .ref tsh])), (f, .inr (0, [.int 0, .ref E, .int 0])), (sh, .inr (6, [.ref sp, .ref sj, .ref sc, .ref sa, .int 0, .int 3000, .int 0, .int 0, .int 0, .int 0, .int 0, .int 0, .int 0, .int 0, .int 0])), (sp, .inr (0, [.int 0, .ref E, .int 0])), (sj, .inr (0, [.int 0, .ref E, .int 0])), (sc, .inr (0, [.int 0, .ref E, .int 0])), (sa, .inr (1, [.ref i1, .ref i2, .ref i3])), (i1, .inl (cI, 9, .inl (fun _ => 0))), (i2, .inl (cI, 9, .inl (fun _ => 0))), (i3, .inl (cI, 9, .inl (fun _ => 0))), (tsh, .inr (6, [.ref tsp, .ref tsj, .ref tsc, .ref tsa, .int 0, .int 3000, .int 0, .int 0, .int 0, .int 0, .int 0, .int 0, .int 0, .int 0, .int 0])), (tsp, .inr (0, [.int 0, .ref E, .int 0])), (tsj, .inr (0, [.int 0, .ref E, .int 0])), (tsc, .inr (0, [.int 0, .ref E, .int 0])), (tsa, .inr (1, [.ref ti1, .ref ti2, .ref ti3])), (ti1, .inl (cI, 9, .inl (fun _ => 0))), (ti2, .inl (cI, 9, .inl (fun _ => 0))), (ti3, .inl (cI, 9, .inl (fun _ => 0))), (o, .inr (13, [.int 0, .ref zb, .ref fg])), (zb, .inr (9, [.int 0, .int 3000, .int 0, .int 0, .int 0, .ref zbp, .ref zbj, .ref zbc, .ref zba, .int 0, .int 0, .int 0, .int 0, .int 0, .int 0])), (zbp, .inr (0, [.int 0, .ref E, .int 0])), (zbj, .inr (0, [.int 0, .ref E, .int 0])), (zbc, .inr (0, [.int 0, .ref E, .int 0])), (zba, .inr (0, [.int 0, .ref E, .int 0])), (fg, .inr (0, [.int 0, .ref E, .int 0])), (out, .inl (cL, 1, .inr (.inl (fun _ => 0))))] H) (hD : va_D A [(h, .inr (8, [.ref f, .ref sh, .ref tsh])), (f, .inr (0, [.int 0, .ref E, .int 0])), (sh, .inr (6, [.ref sp, .ref sj, .ref sc, .ref sa, .int 0, .int 3000, .int 0, .int 0, .int 0, .int 0, .int 0, .int 0, .int 0, .int 0, .int 0])), (sp, .inr (0, [.int 0, .ref E, .int 0])), (sj, .inr (0, [.int 0, .ref E, .int 0])), (sc, .inr (0, [.int 0, .ref E, .int 0])), (sa, .inr (1, [.ref i1, .ref i2, .ref i3])), (i1, .inl (cI, 9, .inl (fun _ => 0))), (i2, .inl (cI, 9, .inl (fun _ => 0))), (i3, .inl (cI, 9, .inl (fun _ => 0))), (tsh, .inr (6, [.ref tsp, .ref tsj, .ref tsc, .ref tsa, .int 0, .int 3000, .int 0, .int 0, .int 0, .int 0, .int 0, .int 0, .int 0, .int 0, .int 0])), (tsp, .inr (0, [.int 0, .ref E, .int 0])), (tsj, .inr (0, [.int 0, .ref E, .int 0])), (tsc, .inr (0, [.int 0, .ref E, .int 0])), (tsa, .inr (1, [.ref ti1, .ref ti2, .ref ti3])), (ti1, .inl (cI, 9, .inl (fun _ => 0))), (ti2, .inl (cI, 9, .inl (fun _ => 0))), (ti3, .inl (cI, 9, .inl (fun _ => 0))), (o, .inr (13, [.int 0, .ref zb, .ref fg])), (zb, .inr (9, [.int 0, .int 3000, .int 0, .int 0, .int 0, .ref zbp, .ref zbj, .ref zbc, .ref zba, .int 0, .int 0, .int 0, .int 0, .int 0, .int 0])), (zbp, .inr (0, [.int 0, .ref E, .int 0])), (zbj, .inr (0, [.int 0, .ref E, .int 0])), (zbc, .inr (0, [.int 0, .ref E, .int 0])), (zba, .inr (0, [.int 0, .ref E, .int 0])), (fg, .inr (0, [.int 0, .ref E, .int 0])), (out, .inl (cL, 1, .inr (.inl (fun _ => 0))))]) (hS : va_S A s.heap H locs) (hl : lv_has ls 9 [(4, .int 0), (3, .ref out), (2, .ref o), (1, .ref h), (0, .ref b)]) : W p l e room_1 s m #[Value.ref b] below meth c H locs 26 148 (lw_Z below #[Value.ref b] s) (F0 m 947 ls []) := by
  obtain ⟨hx, hb, hr, hml, hown, hts, hX, hbl, hlocks, hl9, hE, hA, hA2⟩ := id C
  have hbA : ¬ A b := fun h => absurd (hA2 b h) (Nat.not_le.mpr hbl)
  refine lv_aload_n hx hb dL_law_947 rfl (lv_at hl 3 rfl) ?_
  refine lv_aload_n hx hb dL_law_948 rfl (lv_at hl 4 rfl) ?_
  refine lv_iload hx hb dL_law_949 (lv_at hl 0 rfl) ?_
  refine lv_iconst (v := 1) hx hb dL_law_951 (by decide) ?_
  refine f_iadd (v := 1) hx hb dL_law_952 (by decide) ?_
  refine va_sld hx hb hX hbl hbA hS (by unfold vp_in; decide) dL_law_953 ?_
  refine f_topi (v := p0) (f_xs hs1) ?_
  refine lv_aload_n hx hb dL_law_954 rfl (lv_at hl 1 rfl) ?_
  refine f_aft_i (wr := [(o, .inr (13, [.int 0, .ref zb, .ref fg])), (zb, .inr (9, [.int 0, .int 3000, .int 0, .int 0, .int 0, .ref zbp, .ref zbj, .ref zbc, .ref zba, .int 0, .int 0, .int 0, .int 0, .int 0, .int 0])), (zbp, .inr (0, [.int 0, .ref E, .int 0])), (zbj, .inr (0, [.int 0, .ref E, .int 0])), (zbc, .inr (0, [.int 0, .ref E, .int 0])), (zba, .inr (0, [.int 0, .ref E, .int 0])), (fg, .inr (0, [.int 0, .ref E, .int 0]))]) (f_runSW (As := [.ref h, .int p0, .ref out]) (rest := []) hx hb hml hown hts (kL_fill_a l hl9 D cI cO cL E M h f sh sp sj sc sa i1 i2 i3 tsh tsp tsj tsc tsa ti1 ti2 ti3 out p0 h1 H.size) (fcwSW 3 hts q450 q451 q80 q452 rfl rfl (by decide +kernel) ⟨(Nat.le_of_ble_eq_true rfl), (Nat.le_of_ble_eq_true rfl)⟩) hE hP hD hS hA [0, 1, 2, 3, 4, 5, 6, 7, 8, 9, 10, 11, 12, 13, 14, 15, 16, 17, 25] rfl (by decide) rfl hl.1 rfl (Nat.le_of_ble_eq_true rfl) dL_law_955 ⟨(Nat.le_of_ble_eq_true rfl), (Nat.le_of_ble_eq_true rfl)⟩) hP hD hS hA [0, 1, 2, 3, 4, 5, 6, 7, 8, 9, 10, 11, 12, 13, 14, 15, 16, 17, 25] [18, 19, 20, 21, 22, 23, 24] rfl rfl (by decide) (by decide) (fun r u H locs hr0 hP hD hS => ?_)
  subst hr0
  have hP : va_P D vwCl [(o, .inr (13, [.int 0, .ref zb, .ref fg])), (zb, .inr (9, [.int 0, .int 3000, .int 0, .int 0, .int 0, .ref zbp, .ref zbj, .ref zbc, .ref zba, .int 0, .int 0, .int 0, .int 0, .int 0, .int 0])), (zbp, .inr (0, [.int 0, .ref E, .int 0])), (zbj, .inr (0, [.int 0, .ref E, .int 0])), (zbc, .inr (0, [.int 0, .ref E, .int 0])), (zba, .inr (0, [.int 0, .ref E, .int 0])), (fg, .inr (0, [.int 0, .ref E, .int 0]))] H := hP
  have hD : va_D A [(o, .inr (13, [.int 0, .ref zb, .ref fg])), (zb, .inr (9, [.int 0, .int 3000, .int 0, .int 0, .int 0, .ref zbp, .ref zbj, .ref zbc, .ref zba, .int 0, .int 0, .int 0, .int 0, .int 0, .int 0])), (zbp, .inr (0, [.int 0, .ref E, .int 0])), (zbj, .inr (0, [.int 0, .ref E, .int 0])), (zbc, .inr (0, [.int 0, .ref E, .int 0])), (zba, .inr (0, [.int 0, .ref E, .int 0])), (fg, .inr (0, [.int 0, .ref E, .int 0]))] := hD
  refine lv_istore (lv' := [(5, .int 1), (4, .int 0), (3, .ref out), (2, .ref o), (1, .ref h), (0, .ref b)]) hx hb dL_law_958 hl (by decide) rfl (fun ls hl => ?_)
  refine lv_aload_n hx hb dL_law_960 rfl (lv_at hl 3 rfl) ?_
  refine lv_aload_n hx hb dL_law_961 rfl (lv_at hl 5 rfl) ?_
  refine lv_iload hx hb dL_law_962 (lv_at hl 1 rfl) ?_
  refine lv_iconst (v := 1) hx hb dL_law_964 (by decide) ?_
  refine f_iadd (v := 1) hx hb dL_law_965 (by decide) ?_
  refine va_sld hx hb hX hbl hbA hS (by unfold vp_in; decide) dL_law_966 ?_
  refine f_topi (v := p0) (f_xs hs1) ?_
  refine f_aft_i (wr := []) (f_runV (As := [.int p0]) (rest := []) hx hb hml hown hts (kX12_fill_a l D cI cO cL E M o zb zbp zbj zbc zba fg p0 h1 H.size) (fcwV 1 hts q462 q463 q464 q5 q465 rfl rfl (by decide +kernel) ⟨(Nat.le_of_ble_eq_true rfl), (Nat.le_of_ble_eq_true rfl)⟩) hE hP hD hS hA [0, 1, 2, 3, 4, 5, 6] rfl (by decide) (q0 := 0) (ci := 13) rfl rfl rfl rfl hl.1 rfl (Nat.le_of_ble_eq_true rfl) dL_law_967 ⟨(Nat.le_of_ble_eq_true rfl), (Nat.le_of_ble_eq_true rfl)⟩) hP hD hS hA [0, 1, 2, 3, 4, 5, 6] [] rfl rfl (by decide) (by decide) (fun r u H locs hr0 hP hD hS => ?_)
  subst hr0
  have hP : va_P D vwCl [(o, .inr (13, [.int 1, .ref zb, .ref fg]))] H := hP
  have hD : va_D A [(o, .inr (13, [.int 1, .ref zb, .ref fg]))] := hD
  refine lv_istore (lv' := [(6, .int 0), (5, .int 1), (4, .int 0), (3, .ref out), (2, .ref o), (1, .ref h), (0, .ref b)]) hx hb dL_law_970 hl (by decide) rfl (fun ls hl => ?_)
  refine lv_aload_n hx hb dL_law_972 rfl (lv_at hl 4 rfl) ?_
  refine f_aft_i (wr := []) (f_runV (As := []) (rest := []) hx hb hml hown hts (kX12_thrown l D cI cO cL E M o zb fg 1 H.size) (fcwV 0 hts q186 q187 q188 q5 q189 rfl rfl (by decide +kernel) ⟨(Nat.le_of_ble_eq_true rfl), (Nat.le_of_ble_eq_true rfl)⟩) hE hP hD hS hA [0] rfl (by decide) (q0 := 0) (ci := 13) rfl rfl rfl rfl hl.1 rfl (Nat.le_of_ble_eq_true rfl) dL_law_973 ⟨(Nat.le_of_ble_eq_true rfl), (Nat.le_of_ble_eq_true rfl)⟩) hP hD hS hA [0] [] rfl rfl (by decide) (by decide) (fun r u H locs hr0 hP hD hS => ?_)
  subst hr0
  have hP : va_P D vwCl [(o, .inr (13, [.int 1, .ref zb, .ref fg]))] H := hP
  have hD : va_D A [(o, .inr (13, [.int 1, .ref zb, .ref fg]))] := hD
  refine lv_iload hx hb dL_law_976 (lv_at hl 1 rfl) ?_
  refine lv_icmp_eq (tgt := 983) hx hb dL_law_978 (by decide) (fun _ => ?_) (fun h => absurd (by decide) h)
  refine lv_iload hx hb dL_law_983 (lv_at hl 1 rfl) ?_
  refine lv_if_ne (tgt := 1000) hx hb dL_law_985 (by decide) (fun _ => ?_) (fun h => absurd h (by decide))
  refine lv_goto (tgt := 1758) hx hb dL_law_1000 (by decide) ?_
  refine W.widen (k := 3000) (n := 30000) (Nat.le_of_ble_eq_true rfl) (Nat.le_of_ble_eq_true rfl) ?_
  exact law_end C hS (lv_sub hl [2, 6] rfl)
set_option maxHeartbeats 4000000 in
set_option maxRecDepth 100000 in
theorem law_fill_b {p : Program} {l : Launch} {e : Env} {s : State} {m : MethodId} {below : List Frame} {meth : Method} {c : Code} {b : Nat} {xs : Nat → Int32} {D : va_G} {cI cO cL : ClassId} {E M : Nat} {A : Nat → Prop} (C : fLC p l s m meth c b xs D cI cO cL E M A) {h f sh sp sj sc sa i1 i2 i3 tsh tsp tsj tsc tsa ti1 ti2 ti3 o zb zbp zbj zbc zba fg out : Nat} (p0 : Int32) (hs1 : (1 : Int32).toNatClampNeg = 1 ∧ xs 1 = p0) (h1 : ¬ p0 < 1) (h2 : 5000 < p0) {H : Heap} {locs : List Loc} {ls : Array Slot} (hP : va_P D vwCl [(h, .inr (8, [.ref f, .ref sh, .ref tsh])), (f, .inr (0, [.int 0, .ref E, .int 0])), (sh, .inr (6, [.ref sp, .ref sj, .ref sc, .ref sa, .int 0, .int 3000, .int 0, .int 0, .int 0, .int 0, .int 0, .int 0, .int 0, .int 0, .int 0])), (sp, .inr (0, [.int 0, .ref E, .int 0])), (sj, .inr (0, [.int 0, .ref E, .int 0])), (sc, .inr (0, [.int 0, .ref E, .int 0])), (sa, .inr (1, [.ref i1, .ref i2, .ref i3])), (i1, .inl (cI, 9, .inl (fun _ => 0))), (i2, .inl (cI, 9, .inl (fun _ => 0))), (i3, .inl (cI, 9, .inl (fun _ => 0))), (tsh, .inr (6, [.ref tsp, .ref tsj, .ref tsc, .ref tsa, .int 0, .int 3000, .int 0, .int 0, .int 0, .int 0, .int 0, .int 0, .int 0, .int 0, .int 0])), (tsp, .inr (0, [.int 0, .ref E, .int 0])), (tsj, .inr (0, [.int 0, .ref E, .int 0])), (tsc, .inr (0, [.int 0, .ref E, .int 0])), (tsa, .inr (1, [.ref ti1, .ref ti2, .ref ti3])), (ti1, .inl (cI, 9, .inl (fun _ => 0))), (ti2, .inl (cI, 9, .inl (fun _ => 0))), (ti3, .inl (cI, 9, .inl (fun _ => 0))), (o, .inr (13, [.int 0, .ref zb, .ref fg])), (zb, .inr (9, [.int 0, .int 3000, .int 0, .int 0, .int 0, .ref zbp, .ref zbj, .ref zbc, .ref zba, .int 0, .int 0, .int 0, .int 0, .int 0, .int 0])), (zbp, .inr (0, [.int 0, .ref E, .int 0])), (zbj, .inr (0, [.int 0, .ref E, .int 0])), (zbc, .inr (0, [.int 0, .ref E, .int 0])), (zba, .inr (0, [.int 0, .ref E, .int 0])), (fg, .inr (0, [.int 0, .ref E, .int 0])), (out, .inl (cL, 1, .inr (.inl (fun _ => 0))))] H) (hD : va_D A [(h, .inr (8, [.ref f, .ref sh, .ref tsh])), (f, .inr (0, [.int 0, .ref E, .int 0])), (sh, .inr (6, [.ref sp, .ref sj, .ref sc, .ref sa, .int 0, .int 3000, .int 0, .int 0, .int 0, .int 0, .int 0, .int 0, .int 0, .int 0, .int 0])), (sp, .inr (0, [.int 0, .ref E, .int 0])), (sj, .inr (0, [.int 0, .ref E, .int 0])), (sc, .inr (0, [.int 0, .ref E, .int 0])), (sa, .inr (1, [.ref i1, .ref i2, .ref i3])), (i1, .inl (cI, 9, .inl (fun _ => 0))), (i2, .inl (cI, 9, .inl (fun _ => 0))), (i3, .inl (cI, 9, .inl (fun _ => 0))), (tsh, .inr (6, [.ref tsp, .ref tsj, .ref tsc, .ref tsa, .int 0, .int 3000, .int 0, .int 0, .int 0, .int 0, .int 0, .int 0, .int 0, .int 0, .int 0])), (tsp, .inr (0, [.int 0, .ref E, .int 0])), (tsj, .inr (0, [.int 0, .ref E, .int 0])), (tsc, .inr (0, [.int 0, .ref E, .int 0])), (tsa, .inr (1, [.ref ti1, .ref ti2, .ref ti3])), (ti1, .inl (cI, 9, .inl (fun _ => 0))), (ti2, .inl (cI, 9, .inl (fun _ => 0))), (ti3, .inl (cI, 9, .inl (fun _ => 0))), (o, .inr (13, [.int 0, .ref zb, .ref fg])), (zb, .inr (9, [.int 0, .int 3000, .int 0, .int 0, .int 0, .ref zbp, .ref zbj, .ref zbc, .ref zba, .int 0, .int 0, .int 0, .int 0, .int 0, .int 0])), (zbp, .inr (0, [.int 0, .ref E, .int 0])), (zbj, .inr (0, [.int 0, .ref E, .int 0])), (zbc, .inr (0, [.int 0, .ref E, .int 0])), (zba, .inr (0, [.int 0, .ref E, .int 0])), (fg, .inr (0, [.int 0, .ref E, .int 0])), (out, .inl (cL, 1, .inr (.inl (fun _ => 0))))]) (hS : va_S A s.heap H locs) (hl : lv_has ls 9 [(4, .int 0), (3, .ref out), (2, .ref o), (1, .ref h), (0, .ref b)]) : W p l e room_1 s m #[Value.ref b] below meth c H locs 26 148 (lw_Z below #[Value.ref b] s) (F0 m 947 ls []) := by
  obtain ⟨hx, hb, hr, hml, hown, hts, hX, hbl, hlocks, hl9, hE, hA, hA2⟩ := id C
  have hbA : ¬ A b := fun h => absurd (hA2 b h) (Nat.not_le.mpr hbl)
  refine lv_aload_n hx hb dL_law_947 rfl (lv_at hl 3 rfl) ?_
  refine lv_aload_n hx hb dL_law_948 rfl (lv_at hl 4 rfl) ?_
  refine lv_iload hx hb dL_law_949 (lv_at hl 0 rfl) ?_
  refine lv_iconst (v := 1) hx hb dL_law_951 (by decide) ?_
  refine f_iadd (v := 1) hx hb dL_law_952 (by decide) ?_
  refine va_sld hx hb hX hbl hbA hS (by unfold vp_in; decide) dL_law_953 ?_
  refine f_topi (v := p0) (f_xs hs1) ?_
  refine lv_aload_n hx hb dL_law_954 rfl (lv_at hl 1 rfl) ?_
  refine f_aft_i (wr := [(o, .inr (13, [.int 0, .ref zb, .ref fg])), (zb, .inr (9, [.int 0, .int 3000, .int 0, .int 0, .int 0, .ref zbp, .ref zbj, .ref zbc, .ref zba, .int 0, .int 0, .int 0, .int 0, .int 0, .int 0])), (zbp, .inr (0, [.int 0, .ref E, .int 0])), (zbj, .inr (0, [.int 0, .ref E, .int 0])), (zbc, .inr (0, [.int 0, .ref E, .int 0])), (zba, .inr (0, [.int 0, .ref E, .int 0])), (fg, .inr (0, [.int 0, .ref E, .int 0]))]) (f_runSW (As := [.ref h, .int p0, .ref out]) (rest := []) hx hb hml hown hts (kL_fill_b l hl9 D cI cO cL E M h f sh sp sj sc sa i1 i2 i3 tsh tsp tsj tsc tsa ti1 ti2 ti3 out p0 h1 h2 H.size) (fcwSW 3 hts q450 q451 q80 q452 rfl rfl (by decide +kernel) ⟨(Nat.le_of_ble_eq_true rfl), (Nat.le_of_ble_eq_true rfl)⟩) hE hP hD hS hA [0, 1, 2, 3, 4, 5, 6, 7, 8, 9, 10, 11, 12, 13, 14, 15, 16, 17, 25] rfl (by decide) rfl hl.1 rfl (Nat.le_of_ble_eq_true rfl) dL_law_955 ⟨(Nat.le_of_ble_eq_true rfl), (Nat.le_of_ble_eq_true rfl)⟩) hP hD hS hA [0, 1, 2, 3, 4, 5, 6, 7, 8, 9, 10, 11, 12, 13, 14, 15, 16, 17, 25] [18, 19, 20, 21, 22, 23, 24] rfl rfl (by decide) (by decide) (fun r u H locs hr0 hP hD hS => ?_)
  subst hr0
  have hP : va_P D vwCl [(o, .inr (13, [.int 0, .ref zb, .ref fg])), (zb, .inr (9, [.int 0, .int 3000, .int 0, .int 0, .int 0, .ref zbp, .ref zbj, .ref zbc, .ref zba, .int 0, .int 0, .int 0, .int 0, .int 0, .int 0])), (zbp, .inr (0, [.int 0, .ref E, .int 0])), (zbj, .inr (0, [.int 0, .ref E, .int 0])), (zbc, .inr (0, [.int 0, .ref E, .int 0])), (zba, .inr (0, [.int 0, .ref E, .int 0])), (fg, .inr (0, [.int 0, .ref E, .int 0]))] H := hP
  have hD : va_D A [(o, .inr (13, [.int 0, .ref zb, .ref fg])), (zb, .inr (9, [.int 0, .int 3000, .int 0, .int 0, .int 0, .ref zbp, .ref zbj, .ref zbc, .ref zba, .int 0, .int 0, .int 0, .int 0, .int 0, .int 0])), (zbp, .inr (0, [.int 0, .ref E, .int 0])), (zbj, .inr (0, [.int 0, .ref E, .int 0])), (zbc, .inr (0, [.int 0, .ref E, .int 0])), (zba, .inr (0, [.int 0, .ref E, .int 0])), (fg, .inr (0, [.int 0, .ref E, .int 0]))] := hD
  refine lv_istore (lv' := [(5, .int 1), (4, .int 0), (3, .ref out), (2, .ref o), (1, .ref h), (0, .ref b)]) hx hb dL_law_958 hl (by decide) rfl (fun ls hl => ?_)
  refine lv_aload_n hx hb dL_law_960 rfl (lv_at hl 3 rfl) ?_
  refine lv_aload_n hx hb dL_law_961 rfl (lv_at hl 5 rfl) ?_
  refine lv_iload hx hb dL_law_962 (lv_at hl 1 rfl) ?_
  refine lv_iconst (v := 1) hx hb dL_law_964 (by decide) ?_
  refine f_iadd (v := 1) hx hb dL_law_965 (by decide) ?_
  refine va_sld hx hb hX hbl hbA hS (by unfold vp_in; decide) dL_law_966 ?_
  refine f_topi (v := p0) (f_xs hs1) ?_
  refine f_aft_i (wr := []) (f_runV (As := [.int p0]) (rest := []) hx hb hml hown hts (kX12_fill_b l D cI cO cL E M o zb zbp zbj zbc zba fg p0 h1 h2 H.size) (fcwV 1 hts q462 q463 q464 q5 q465 rfl rfl (by decide +kernel) ⟨(Nat.le_of_ble_eq_true rfl), (Nat.le_of_ble_eq_true rfl)⟩) hE hP hD hS hA [0, 1, 2, 3, 4, 5, 6] rfl (by decide) (q0 := 0) (ci := 13) rfl rfl rfl rfl hl.1 rfl (Nat.le_of_ble_eq_true rfl) dL_law_967 ⟨(Nat.le_of_ble_eq_true rfl), (Nat.le_of_ble_eq_true rfl)⟩) hP hD hS hA [0, 1, 2, 3, 4, 5, 6] [] rfl rfl (by decide) (by decide) (fun r u H locs hr0 hP hD hS => ?_)
  subst hr0
  have hP : va_P D vwCl [(o, .inr (13, [.int 1, .ref zb, .ref fg]))] H := hP
  have hD : va_D A [(o, .inr (13, [.int 1, .ref zb, .ref fg]))] := hD
  refine lv_istore (lv' := [(6, .int 0), (5, .int 1), (4, .int 0), (3, .ref out), (2, .ref o), (1, .ref h), (0, .ref b)]) hx hb dL_law_970 hl (by decide) rfl (fun ls hl => ?_)
  refine lv_aload_n hx hb dL_law_972 rfl (lv_at hl 4 rfl) ?_
  refine f_aft_i (wr := []) (f_runV (As := []) (rest := []) hx hb hml hown hts (kX12_thrown l D cI cO cL E M o zb fg 1 H.size) (fcwV 0 hts q186 q187 q188 q5 q189 rfl rfl (by decide +kernel) ⟨(Nat.le_of_ble_eq_true rfl), (Nat.le_of_ble_eq_true rfl)⟩) hE hP hD hS hA [0] rfl (by decide) (q0 := 0) (ci := 13) rfl rfl rfl rfl hl.1 rfl (Nat.le_of_ble_eq_true rfl) dL_law_973 ⟨(Nat.le_of_ble_eq_true rfl), (Nat.le_of_ble_eq_true rfl)⟩) hP hD hS hA [0] [] rfl rfl (by decide) (by decide) (fun r u H locs hr0 hP hD hS => ?_)
  subst hr0
  have hP : va_P D vwCl [(o, .inr (13, [.int 1, .ref zb, .ref fg]))] H := hP
  have hD : va_D A [(o, .inr (13, [.int 1, .ref zb, .ref fg]))] := hD
  refine lv_iload hx hb dL_law_976 (lv_at hl 1 rfl) ?_
  refine lv_icmp_eq (tgt := 983) hx hb dL_law_978 (by decide) (fun _ => ?_) (fun h => absurd (by decide) h)
  refine lv_iload hx hb dL_law_983 (lv_at hl 1 rfl) ?_
  refine lv_if_ne (tgt := 1000) hx hb dL_law_985 (by decide) (fun _ => ?_) (fun h => absurd h (by decide))
  refine lv_goto (tgt := 1758) hx hb dL_law_1000 (by decide) ?_
  refine W.widen (k := 3000) (n := 30000) (Nat.le_of_ble_eq_true rfl) (Nat.le_of_ble_eq_true rfl) ?_
  exact law_end C hS (lv_sub hl [2, 6] rfl)
set_option maxHeartbeats 4000000 in
set_option maxRecDepth 100000 in
theorem law_pass_ok {p : Program} {l : Launch} {e : Env} {s : State} {m : MethodId} {below : List Frame} {meth : Method} {c : Code} {b : Nat} {xs : Nat → Int32} {D : va_G} {cI cO cL : ClassId} {E M : Nat} {A : Nat → Prop} (C : fLC p l s m meth c b xs D cI cO cL E M A) {h f sh sp sj sc sa i1 i2 i3 tsh tsp tsj tsc tsa ti1 ti2 ti3 o zb zbp zbj zbc zba fg out : Nat} (N : Nat) (hs1 : (1 : Int32).toNatClampNeg = 1 ∧ xs 1 = nI N) (g1 : 1 ≤ N) (g2 : N ≤ 100) {H : Heap} {locs : List Loc} {ls : Array Slot} (hP : va_P D vwCl [(h, .inr (8, [.ref f, .ref sh, .ref tsh])), (f, .inr (0, [.int 0, .ref E, .int 0])), (sh, .inr (6, [.ref sp, .ref sj, .ref sc, .ref sa, .int 0, .int 3000, .int 0, .int 0, .int 0, .int 0, .int 0, .int 0, .int 0, .int 0, .int 0])), (sp, .inr (0, [.int 0, .ref E, .int 0])), (sj, .inr (0, [.int 0, .ref E, .int 0])), (sc, .inr (0, [.int 0, .ref E, .int 0])), (sa, .inr (1, [.ref i1, .ref i2, .ref i3])), (i1, .inl (cI, 9, .inl (fun _ => 0))), (i2, .inl (cI, 9, .inl (fun _ => 0))), (i3, .inl (cI, 9, .inl (fun _ => 0))), (tsh, .inr (6, [.ref tsp, .ref tsj, .ref tsc, .ref tsa, .int 0, .int 3000, .int 0, .int 0, .int 0, .int 0, .int 0, .int 0, .int 0, .int 0, .int 0])), (tsp, .inr (0, [.int 0, .ref E, .int 0])), (tsj, .inr (0, [.int 0, .ref E, .int 0])), (tsc, .inr (0, [.int 0, .ref E, .int 0])), (tsa, .inr (1, [.ref ti1, .ref ti2, .ref ti3])), (ti1, .inl (cI, 9, .inl (fun _ => 0))), (ti2, .inl (cI, 9, .inl (fun _ => 0))), (ti3, .inl (cI, 9, .inl (fun _ => 0))), (o, .inr (13, [.int 0, .ref zb, .ref fg])), (zb, .inr (9, [.int 0, .int 3000, .int 0, .int 0, .int 0, .ref zbp, .ref zbj, .ref zbc, .ref zba, .int 0, .int 0, .int 0, .int 0, .int 0, .int 0])), (zbp, .inr (0, [.int 0, .ref E, .int 0])), (zbj, .inr (0, [.int 0, .ref E, .int 0])), (zbc, .inr (0, [.int 0, .ref E, .int 0])), (zba, .inr (0, [.int 0, .ref E, .int 0])), (fg, .inr (0, [.int 0, .ref E, .int 0])), (out, .inl (cL, 1, .inr (.inl (fun _ => 0))))] H) (hD : va_D A [(h, .inr (8, [.ref f, .ref sh, .ref tsh])), (f, .inr (0, [.int 0, .ref E, .int 0])), (sh, .inr (6, [.ref sp, .ref sj, .ref sc, .ref sa, .int 0, .int 3000, .int 0, .int 0, .int 0, .int 0, .int 0, .int 0, .int 0, .int 0, .int 0])), (sp, .inr (0, [.int 0, .ref E, .int 0])), (sj, .inr (0, [.int 0, .ref E, .int 0])), (sc, .inr (0, [.int 0, .ref E, .int 0])), (sa, .inr (1, [.ref i1, .ref i2, .ref i3])), (i1, .inl (cI, 9, .inl (fun _ => 0))), (i2, .inl (cI, 9, .inl (fun _ => 0))), (i3, .inl (cI, 9, .inl (fun _ => 0))), (tsh, .inr (6, [.ref tsp, .ref tsj, .ref tsc, .ref tsa, .int 0, .int 3000, .int 0, .int 0, .int 0, .int 0, .int 0, .int 0, .int 0, .int 0, .int 0])), (tsp, .inr (0, [.int 0, .ref E, .int 0])), (tsj, .inr (0, [.int 0, .ref E, .int 0])), (tsc, .inr (0, [.int 0, .ref E, .int 0])), (tsa, .inr (1, [.ref ti1, .ref ti2, .ref ti3])), (ti1, .inl (cI, 9, .inl (fun _ => 0))), (ti2, .inl (cI, 9, .inl (fun _ => 0))), (ti3, .inl (cI, 9, .inl (fun _ => 0))), (o, .inr (13, [.int 0, .ref zb, .ref fg])), (zb, .inr (9, [.int 0, .int 3000, .int 0, .int 0, .int 0, .ref zbp, .ref zbj, .ref zbc, .ref zba, .int 0, .int 0, .int 0, .int 0, .int 0, .int 0])), (zbp, .inr (0, [.int 0, .ref E, .int 0])), (zbj, .inr (0, [.int 0, .ref E, .int 0])), (zbc, .inr (0, [.int 0, .ref E, .int 0])), (zba, .inr (0, [.int 0, .ref E, .int 0])), (fg, .inr (0, [.int 0, .ref E, .int 0])), (out, .inl (cL, 1, .inr (.inl (fun _ => 0))))]) (hS : va_S A s.heap H locs) (hl : lv_has ls 9 [(4, .int 0), (3, .ref out), (2, .ref o), (1, .ref h), (0, .ref b)]) : W p l e room_1 s m #[Value.ref b] below meth c H locs 26 148 (lw_Z below #[Value.ref b] s) (F0 m 1071 ls []) := by
  obtain ⟨hx, hb, hr, hml, hown, hts, hX, hbl, hlocks, hl9, hE, hA, hA2⟩ := id C
  have hbA : ¬ A b := fun h => absurd (hA2 b h) (Nat.not_le.mpr hbl)
  refine lv_aload_n hx hb dL_law_1071 rfl (lv_at hl 3 rfl) ?_
  refine lv_aload_n hx hb dL_law_1072 rfl (lv_at hl 4 rfl) ?_
  refine lv_iload hx hb dL_law_1073 (lv_at hl 0 rfl) ?_
  refine lv_iconst (v := 1) hx hb dL_law_1075 (by decide) ?_
  refine f_iadd (v := 1) hx hb dL_law_1076 (by decide) ?_
  refine va_sld hx hb hX hbl hbA hS (by unfold vp_in; decide) dL_law_1077 ?_
  refine f_topi (v := nI N) (f_xs hs1) ?_
  refine lv_aload_n hx hb dL_law_1078 rfl (lv_at hl 1 rfl) ?_
  refine f_aft_i (wr := [(o, .inr (13, [.int 0, .ref zb, .ref fg])), (zb, .inr (9, [.int 0, .int 3000, .int 0, .int 0, .int 0, .ref zbp, .ref zbj, .ref zbc, .ref zba, .int 0, .int 0, .int 0, .int 0, .int 0, .int 0])), (zbp, .inr (0, [.int 0, .ref E, .int 0])), (zbj, .inr (0, [.int 0, .ref E, .int 0])), (zbc, .inr (0, [.int 0, .ref E, .int 0])), (zba, .inr (0, [.int 0, .ref E, .int 0])), (fg, .inr (0, [.int 0, .ref E, .int 0]))]) (f_runSW (As := [.ref h, .int (nI N), .ref out]) (rest := []) hx hb hml hown hts (kL_pass_ok l D cI cO cL E M h f sh sp sj sc sa i1 i2 i3 tsh tsp tsj tsc tsa ti1 ti2 ti3 out N g1 g2 H.size) (fcwSW 3 hts q517 q518 q80 q519 rfl rfl (by decide +kernel) ⟨(Nat.le_of_ble_eq_true rfl), (Nat.le_of_ble_eq_true rfl)⟩) hE hP hD hS hA [0, 1, 2, 3, 4, 5, 6, 7, 8, 9, 10, 11, 12, 13, 14, 15, 16, 17, 25] rfl (by decide) rfl hl.1 rfl (Nat.le_of_ble_eq_true rfl) dL_law_1079 ⟨(Nat.le_of_ble_eq_true rfl), (Nat.le_of_ble_eq_true rfl)⟩) hP hD hS hA [0, 1, 2, 3, 4, 5, 6, 7, 8, 9, 10, 11, 12, 13, 14, 15, 16, 17, 25] [18, 19, 20, 21, 22, 23, 24] rfl rfl (by decide) (by decide) (fun r u H locs hr0 hP hD hS => ?_)
  subst hr0
  have hP : va_P D vwCl [(o, .inr (13, [.int 0, .ref zb, .ref fg])), (zb, .inr (9, [.int 0, .int 3000, .int 0, .int 0, .int 0, .ref zbp, .ref zbj, .ref zbc, .ref zba, .int 0, .int 0, .int 0, .int 0, .int 0, .int 0])), (zbp, .inr (0, [.int 0, .ref E, .int 0])), (zbj, .inr (0, [.int 0, .ref E, .int 0])), (zbc, .inr (0, [.int 0, .ref E, .int 0])), (zba, .inr (0, [.int 0, .ref E, .int 0])), (fg, .inr (0, [.int 0, .ref E, .int 0])), (out, .inl (cL, 1, .inr (.inl (fun _ => 0))))] H := hP
  have hD : va_D A [(o, .inr (13, [.int 0, .ref zb, .ref fg])), (zb, .inr (9, [.int 0, .int 3000, .int 0, .int 0, .int 0, .ref zbp, .ref zbj, .ref zbc, .ref zba, .int 0, .int 0, .int 0, .int 0, .int 0, .int 0])), (zbp, .inr (0, [.int 0, .ref E, .int 0])), (zbj, .inr (0, [.int 0, .ref E, .int 0])), (zbc, .inr (0, [.int 0, .ref E, .int 0])), (zba, .inr (0, [.int 0, .ref E, .int 0])), (fg, .inr (0, [.int 0, .ref E, .int 0])), (out, .inl (cL, 1, .inr (.inl (fun _ => 0))))] := hD
  refine lv_istore (lv' := [(5, .int 0), (4, .int 0), (3, .ref out), (2, .ref o), (1, .ref h), (0, .ref b)]) hx hb dL_law_1082 hl (by decide) rfl (fun ls hl => ?_)
  refine lv_aload_n hx hb dL_law_1084 rfl (lv_at hl 3 rfl) ?_
  refine lv_aload_n hx hb dL_law_1085 rfl (lv_at hl 5 rfl) ?_
  refine lv_iload hx hb dL_law_1086 (lv_at hl 1 rfl) ?_
  refine lv_iconst (v := 1) hx hb dL_law_1088 (by decide) ?_
  refine f_iadd (v := 1) hx hb dL_law_1089 (by decide) ?_
  refine va_sld hx hb hX hbl hbA hS (by unfold vp_in; decide) dL_law_1090 ?_
  refine f_topi (v := nI N) (f_xs hs1) ?_
  refine f_aft_i (wr := [(out, .inl (cL, 1, .inr (.inl (fun _ => 0))))]) (f_runV (As := [.int (nI N)]) (rest := []) hx hb hml hown hts (kX12_pass_ok l D cI cO cL E M o zb zbp zbj zbc zba fg N g1 g2 H.size) (fcwV 1 hts q691 q692 q693 q5 q694 rfl rfl (by decide +kernel) ⟨(Nat.le_of_ble_eq_true rfl), (Nat.le_of_ble_eq_true rfl)⟩) hE hP hD hS hA [0, 1, 2, 3, 4, 5, 6] rfl (by decide) (q0 := 0) (ci := 13) rfl rfl rfl rfl hl.1 rfl (Nat.le_of_ble_eq_true rfl) dL_law_1091 ⟨(Nat.le_of_ble_eq_true rfl), (Nat.le_of_ble_eq_true rfl)⟩) hP hD hS hA [0, 1, 2, 3, 4, 5, 6] [7] rfl rfl (by decide) (by decide) (fun r u H locs hr0 hP hD hS => ?_)
  subst hr0
  have hP : va_P D vwCl [(out, .inl (cL, 1, .inr (.inl (fun _ => 0)))), (o, .inr (13, [.int 0, .ref zb, .ref fg]))] H := hP
  have hD : va_D A [(out, .inl (cL, 1, .inr (.inl (fun _ => 0)))), (o, .inr (13, [.int 0, .ref zb, .ref fg]))] := hD
  refine lv_istore (lv' := [(6, .int 0), (5, .int 0), (4, .int 0), (3, .ref out), (2, .ref o), (1, .ref h), (0, .ref b)]) hx hb dL_law_1094 hl (by decide) rfl (fun ls hl => ?_)
  refine lv_aload_n hx hb dL_law_1096 rfl (lv_at hl 4 rfl) ?_
  refine f_aft_i (wr := [(out, .inl (cL, 1, .inr (.inl (fun _ => 0))))]) (f_runV (As := []) (rest := []) hx hb hml hown hts (kX12_thrown l D cI cO cL E M o zb fg 0 H.size) (fcwV 0 hts q186 q187 q188 q5 q189 rfl rfl (by decide +kernel) ⟨(Nat.le_of_ble_eq_true rfl), (Nat.le_of_ble_eq_true rfl)⟩) hE hP hD hS hA [1] rfl (by decide) (q0 := 1) (ci := 13) rfl rfl rfl rfl hl.1 rfl (Nat.le_of_ble_eq_true rfl) dL_law_1097 ⟨(Nat.le_of_ble_eq_true rfl), (Nat.le_of_ble_eq_true rfl)⟩) hP hD hS hA [1] [0] rfl rfl (by decide) (by decide) (fun r u H locs hr0 hP hD hS => ?_)
  subst hr0
  have hP : va_P D vwCl [(out, .inl (cL, 1, .inr (.inl (fun _ => 0)))), (o, .inr (13, [.int 0, .ref zb, .ref fg]))] H := hP
  have hD : va_D A [(out, .inl (cL, 1, .inr (.inl (fun _ => 0)))), (o, .inr (13, [.int 0, .ref zb, .ref fg]))] := hD
  refine lv_iload hx hb dL_law_1100 (lv_at hl 1 rfl) ?_
  refine lv_icmp_eq (tgt := 1107) hx hb dL_law_1102 (by decide) (fun _ => ?_) (fun h => absurd (by decide) h)
  refine lv_iload hx hb dL_law_1107 (lv_at hl 1 rfl) ?_
  refine lv_if_ne (tgt := 1124) hx hb dL_law_1109 (by decide) (fun h => absurd h (by decide)) (fun _ => ?_)
  refine lv_aload_n hx hb dL_law_1112 rfl (lv_at hl 3 rfl) ?_
  refine lv_iconst (v := 0) hx hb dL_law_1113 (by decide) ?_
  refine va_lald hx hb hE.1.1 hP 0 2 rfl rfl (by unfold vp_in; decide) dL_law_1114 ?_
  refine f_topl (v := 0) (rfl) ?_
  refine lv_iload hx hb dL_law_1115 (lv_at hl 0 rfl) ?_
  refine lv_i2l (v := 0) hx hb dL_law_1117 (by decide) ?_
  refine W.lcmp hx hb dL_law_1118 ?_
  refine f_topi (v := 0) (f_cmp0 _) ?_
  refine lv_if_eq (tgt := 1124) hx hb dL_law_1119 (by decide) (fun _ => ?_) (fun h => absurd (by decide) h)
  refine lv_goto (tgt := 1758) hx hb dL_law_1124 (by decide) ?_
  refine W.widen (k := 3000) (n := 30000) (Nat.le_of_ble_eq_true rfl) (Nat.le_of_ble_eq_true rfl) ?_
  exact law_end C hS (lv_sub hl [2, 6] rfl)
set_option maxHeartbeats 4000000 in
set_option maxRecDepth 100000 in
theorem law_pass_a {p : Program} {l : Launch} {e : Env} {s : State} {m : MethodId} {below : List Frame} {meth : Method} {c : Code} {b : Nat} {xs : Nat → Int32} {D : va_G} {cI cO cL : ClassId} {E M : Nat} {A : Nat → Prop} (C : fLC p l s m meth c b xs D cI cO cL E M A) {h f sh sp sj sc sa i1 i2 i3 tsh tsp tsj tsc tsa ti1 ti2 ti3 o zb zbp zbj zbc zba fg out : Nat} (p0 : Int32) (hs1 : (1 : Int32).toNatClampNeg = 1 ∧ xs 1 = p0) (h1 : p0 < 1) {H : Heap} {locs : List Loc} {ls : Array Slot} (hP : va_P D vwCl [(h, .inr (8, [.ref f, .ref sh, .ref tsh])), (f, .inr (0, [.int 0, .ref E, .int 0])), (sh, .inr (6, [.ref sp, .ref sj, .ref sc, .ref sa, .int 0, .int 3000, .int 0, .int 0, .int 0, .int 0, .int 0, .int 0, .int 0, .int 0, .int 0])), (sp, .inr (0, [.int 0, .ref E, .int 0])), (sj, .inr (0, [.int 0, .ref E, .int 0])), (sc, .inr (0, [.int 0, .ref E, .int 0])), (sa, .inr (1, [.ref i1, .ref i2, .ref i3])), (i1, .inl (cI, 9, .inl (fun _ => 0))), (i2, .inl (cI, 9, .inl (fun _ => 0))), (i3, .inl (cI, 9, .inl (fun _ => 0))), (tsh, .inr (6, [.ref tsp, .ref tsj, .ref tsc, .ref tsa, .int 0, .int 3000, .int 0, .int 0, .int 0, .int 0, .int 0, .int 0, .int 0, .int 0, .int 0])), (tsp, .inr (0, [.int 0, .ref E, .int 0])), (tsj, .inr (0, [.int 0, .ref E, .int 0])), (tsc, .inr (0, [.int 0, .ref E, .int 0])), (tsa, .inr (1, [.ref ti1, .ref ti2, .ref ti3])), (ti1, .inl (cI, 9, .inl (fun _ => 0))), (ti2, .inl (cI, 9, .inl (fun _ => 0))), (ti3, .inl (cI, 9, .inl (fun _ => 0))), (o, .inr (13, [.int 0, .ref zb, .ref fg])), (zb, .inr (9, [.int 0, .int 3000, .int 0, .int 0, .int 0, .ref zbp, .ref zbj, .ref zbc, .ref zba, .int 0, .int 0, .int 0, .int 0, .int 0, .int 0])), (zbp, .inr (0, [.int 0, .ref E, .int 0])), (zbj, .inr (0, [.int 0, .ref E, .int 0])), (zbc, .inr (0, [.int 0, .ref E, .int 0])), (zba, .inr (0, [.int 0, .ref E, .int 0])), (fg, .inr (0, [.int 0, .ref E, .int 0])), (out, .inl (cL, 1, .inr (.inl (fun _ => 0))))] H) (hD : va_D A [(h, .inr (8, [.ref f, .ref sh, .ref tsh])), (f, .inr (0, [.int 0, .ref E, .int 0])), (sh, .inr (6, [.ref sp, .ref sj, .ref sc, .ref sa, .int 0, .int 3000, .int 0, .int 0, .int 0, .int 0, .int 0, .int 0, .int 0, .int 0, .int 0])), (sp, .inr (0, [.int 0, .ref E, .int 0])), (sj, .inr (0, [.int 0, .ref E, .int 0])), (sc, .inr (0, [.int 0, .ref E, .int 0])), (sa, .inr (1, [.ref i1, .ref i2, .ref i3])), (i1, .inl (cI, 9, .inl (fun _ => 0))), (i2, .inl (cI, 9, .inl (fun _ => 0))), (i3, .inl (cI, 9, .inl (fun _ => 0))), (tsh, .inr (6, [.ref tsp, .ref tsj, .ref tsc, .ref tsa, .int 0, .int 3000, .int 0, .int 0, .int 0, .int 0, .int 0, .int 0, .int 0, .int 0, .int 0])), (tsp, .inr (0, [.int 0, .ref E, .int 0])), (tsj, .inr (0, [.int 0, .ref E, .int 0])), (tsc, .inr (0, [.int 0, .ref E, .int 0])), (tsa, .inr (1, [.ref ti1, .ref ti2, .ref ti3])), (ti1, .inl (cI, 9, .inl (fun _ => 0))), (ti2, .inl (cI, 9, .inl (fun _ => 0))), (ti3, .inl (cI, 9, .inl (fun _ => 0))), (o, .inr (13, [.int 0, .ref zb, .ref fg])), (zb, .inr (9, [.int 0, .int 3000, .int 0, .int 0, .int 0, .ref zbp, .ref zbj, .ref zbc, .ref zba, .int 0, .int 0, .int 0, .int 0, .int 0, .int 0])), (zbp, .inr (0, [.int 0, .ref E, .int 0])), (zbj, .inr (0, [.int 0, .ref E, .int 0])), (zbc, .inr (0, [.int 0, .ref E, .int 0])), (zba, .inr (0, [.int 0, .ref E, .int 0])), (fg, .inr (0, [.int 0, .ref E, .int 0])), (out, .inl (cL, 1, .inr (.inl (fun _ => 0))))]) (hS : va_S A s.heap H locs) (hl : lv_has ls 9 [(4, .int 0), (3, .ref out), (2, .ref o), (1, .ref h), (0, .ref b)]) : W p l e room_1 s m #[Value.ref b] below meth c H locs 26 148 (lw_Z below #[Value.ref b] s) (F0 m 1071 ls []) := by
  obtain ⟨hx, hb, hr, hml, hown, hts, hX, hbl, hlocks, hl9, hE, hA, hA2⟩ := id C
  have hbA : ¬ A b := fun h => absurd (hA2 b h) (Nat.not_le.mpr hbl)
  refine lv_aload_n hx hb dL_law_1071 rfl (lv_at hl 3 rfl) ?_
  refine lv_aload_n hx hb dL_law_1072 rfl (lv_at hl 4 rfl) ?_
  refine lv_iload hx hb dL_law_1073 (lv_at hl 0 rfl) ?_
  refine lv_iconst (v := 1) hx hb dL_law_1075 (by decide) ?_
  refine f_iadd (v := 1) hx hb dL_law_1076 (by decide) ?_
  refine va_sld hx hb hX hbl hbA hS (by unfold vp_in; decide) dL_law_1077 ?_
  refine f_topi (v := p0) (f_xs hs1) ?_
  refine lv_aload_n hx hb dL_law_1078 rfl (lv_at hl 1 rfl) ?_
  refine f_aft_i (wr := [(o, .inr (13, [.int 0, .ref zb, .ref fg])), (zb, .inr (9, [.int 0, .int 3000, .int 0, .int 0, .int 0, .ref zbp, .ref zbj, .ref zbc, .ref zba, .int 0, .int 0, .int 0, .int 0, .int 0, .int 0])), (zbp, .inr (0, [.int 0, .ref E, .int 0])), (zbj, .inr (0, [.int 0, .ref E, .int 0])), (zbc, .inr (0, [.int 0, .ref E, .int 0])), (zba, .inr (0, [.int 0, .ref E, .int 0])), (fg, .inr (0, [.int 0, .ref E, .int 0]))]) (f_runSW (As := [.ref h, .int p0, .ref out]) (rest := []) hx hb hml hown hts (kL_pass_a l hl9 D cI cO cL E M h f sh sp sj sc sa i1 i2 i3 tsh tsp tsj tsc tsa ti1 ti2 ti3 out p0 h1 H.size) (fcwSW 3 hts q517 q518 q80 q519 rfl rfl (by decide +kernel) ⟨(Nat.le_of_ble_eq_true rfl), (Nat.le_of_ble_eq_true rfl)⟩) hE hP hD hS hA [0, 1, 2, 3, 4, 5, 6, 7, 8, 9, 10, 11, 12, 13, 14, 15, 16, 17, 25] rfl (by decide) rfl hl.1 rfl (Nat.le_of_ble_eq_true rfl) dL_law_1079 ⟨(Nat.le_of_ble_eq_true rfl), (Nat.le_of_ble_eq_true rfl)⟩) hP hD hS hA [0, 1, 2, 3, 4, 5, 6, 7, 8, 9, 10, 11, 12, 13, 14, 15, 16, 17, 25] [18, 19, 20, 21, 22, 23, 24] rfl rfl (by decide) (by decide) (fun r u H locs hr0 hP hD hS => ?_)
  subst hr0
  have hP : va_P D vwCl [(o, .inr (13, [.int 0, .ref zb, .ref fg])), (zb, .inr (9, [.int 0, .int 3000, .int 0, .int 0, .int 0, .ref zbp, .ref zbj, .ref zbc, .ref zba, .int 0, .int 0, .int 0, .int 0, .int 0, .int 0])), (zbp, .inr (0, [.int 0, .ref E, .int 0])), (zbj, .inr (0, [.int 0, .ref E, .int 0])), (zbc, .inr (0, [.int 0, .ref E, .int 0])), (zba, .inr (0, [.int 0, .ref E, .int 0])), (fg, .inr (0, [.int 0, .ref E, .int 0]))] H := hP
  have hD : va_D A [(o, .inr (13, [.int 0, .ref zb, .ref fg])), (zb, .inr (9, [.int 0, .int 3000, .int 0, .int 0, .int 0, .ref zbp, .ref zbj, .ref zbc, .ref zba, .int 0, .int 0, .int 0, .int 0, .int 0, .int 0])), (zbp, .inr (0, [.int 0, .ref E, .int 0])), (zbj, .inr (0, [.int 0, .ref E, .int 0])), (zbc, .inr (0, [.int 0, .ref E, .int 0])), (zba, .inr (0, [.int 0, .ref E, .int 0])), (fg, .inr (0, [.int 0, .ref E, .int 0]))] := hD
  refine lv_istore (lv' := [(5, .int 1), (4, .int 0), (3, .ref out), (2, .ref o), (1, .ref h), (0, .ref b)]) hx hb dL_law_1082 hl (by decide) rfl (fun ls hl => ?_)
  refine lv_aload_n hx hb dL_law_1084 rfl (lv_at hl 3 rfl) ?_
  refine lv_aload_n hx hb dL_law_1085 rfl (lv_at hl 5 rfl) ?_
  refine lv_iload hx hb dL_law_1086 (lv_at hl 1 rfl) ?_
  refine lv_iconst (v := 1) hx hb dL_law_1088 (by decide) ?_
  refine f_iadd (v := 1) hx hb dL_law_1089 (by decide) ?_
  refine va_sld hx hb hX hbl hbA hS (by unfold vp_in; decide) dL_law_1090 ?_
  refine f_topi (v := p0) (f_xs hs1) ?_
  refine f_aft_i (wr := []) (f_runV (As := [.int p0]) (rest := []) hx hb hml hown hts (kX12_pass_a l D cI cO cL E M o zb zbp zbj zbc zba fg p0 h1 H.size) (fcwV 1 hts q691 q692 q693 q5 q694 rfl rfl (by decide +kernel) ⟨(Nat.le_of_ble_eq_true rfl), (Nat.le_of_ble_eq_true rfl)⟩) hE hP hD hS hA [0, 1, 2, 3, 4, 5, 6] rfl (by decide) (q0 := 0) (ci := 13) rfl rfl rfl rfl hl.1 rfl (Nat.le_of_ble_eq_true rfl) dL_law_1091 ⟨(Nat.le_of_ble_eq_true rfl), (Nat.le_of_ble_eq_true rfl)⟩) hP hD hS hA [0, 1, 2, 3, 4, 5, 6] [] rfl rfl (by decide) (by decide) (fun r u H locs hr0 hP hD hS => ?_)
  subst hr0
  have hP : va_P D vwCl [(o, .inr (13, [.int 1, .ref zb, .ref fg]))] H := hP
  have hD : va_D A [(o, .inr (13, [.int 1, .ref zb, .ref fg]))] := hD
  refine lv_istore (lv' := [(6, .int 0), (5, .int 1), (4, .int 0), (3, .ref out), (2, .ref o), (1, .ref h), (0, .ref b)]) hx hb dL_law_1094 hl (by decide) rfl (fun ls hl => ?_)
  refine lv_aload_n hx hb dL_law_1096 rfl (lv_at hl 4 rfl) ?_
  refine f_aft_i (wr := []) (f_runV (As := []) (rest := []) hx hb hml hown hts (kX12_thrown l D cI cO cL E M o zb fg 1 H.size) (fcwV 0 hts q186 q187 q188 q5 q189 rfl rfl (by decide +kernel) ⟨(Nat.le_of_ble_eq_true rfl), (Nat.le_of_ble_eq_true rfl)⟩) hE hP hD hS hA [0] rfl (by decide) (q0 := 0) (ci := 13) rfl rfl rfl rfl hl.1 rfl (Nat.le_of_ble_eq_true rfl) dL_law_1097 ⟨(Nat.le_of_ble_eq_true rfl), (Nat.le_of_ble_eq_true rfl)⟩) hP hD hS hA [0] [] rfl rfl (by decide) (by decide) (fun r u H locs hr0 hP hD hS => ?_)
  subst hr0
  have hP : va_P D vwCl [(o, .inr (13, [.int 1, .ref zb, .ref fg]))] H := hP
  have hD : va_D A [(o, .inr (13, [.int 1, .ref zb, .ref fg]))] := hD
  refine lv_iload hx hb dL_law_1100 (lv_at hl 1 rfl) ?_
  refine lv_icmp_eq (tgt := 1107) hx hb dL_law_1102 (by decide) (fun _ => ?_) (fun h => absurd (by decide) h)
  refine lv_iload hx hb dL_law_1107 (lv_at hl 1 rfl) ?_
  refine lv_if_ne (tgt := 1124) hx hb dL_law_1109 (by decide) (fun _ => ?_) (fun h => absurd h (by decide))
  refine lv_goto (tgt := 1758) hx hb dL_law_1124 (by decide) ?_
  refine W.widen (k := 3000) (n := 30000) (Nat.le_of_ble_eq_true rfl) (Nat.le_of_ble_eq_true rfl) ?_
  exact law_end C hS (lv_sub hl [2, 6] rfl)
set_option maxHeartbeats 4000000 in
set_option maxRecDepth 100000 in
theorem law_pass_b {p : Program} {l : Launch} {e : Env} {s : State} {m : MethodId} {below : List Frame} {meth : Method} {c : Code} {b : Nat} {xs : Nat → Int32} {D : va_G} {cI cO cL : ClassId} {E M : Nat} {A : Nat → Prop} (C : fLC p l s m meth c b xs D cI cO cL E M A) {h f sh sp sj sc sa i1 i2 i3 tsh tsp tsj tsc tsa ti1 ti2 ti3 o zb zbp zbj zbc zba fg out : Nat} (p0 : Int32) (hs1 : (1 : Int32).toNatClampNeg = 1 ∧ xs 1 = p0) (h1 : ¬ p0 < 1) (h2 : 100 < p0) {H : Heap} {locs : List Loc} {ls : Array Slot} (hP : va_P D vwCl [(h, .inr (8, [.ref f, .ref sh, .ref tsh])), (f, .inr (0, [.int 0, .ref E, .int 0])), (sh, .inr (6, [.ref sp, .ref sj, .ref sc, .ref sa, .int 0, .int 3000, .int 0, .int 0, .int 0, .int 0, .int 0, .int 0, .int 0, .int 0, .int 0])), (sp, .inr (0, [.int 0, .ref E, .int 0])), (sj, .inr (0, [.int 0, .ref E, .int 0])), (sc, .inr (0, [.int 0, .ref E, .int 0])), (sa, .inr (1, [.ref i1, .ref i2, .ref i3])), (i1, .inl (cI, 9, .inl (fun _ => 0))), (i2, .inl (cI, 9, .inl (fun _ => 0))), (i3, .inl (cI, 9, .inl (fun _ => 0))), (tsh, .inr (6, [.ref tsp, .ref tsj, .ref tsc, .ref tsa, .int 0, .int 3000, .int 0, .int 0, .int 0, .int 0, .int 0, .int 0, .int 0, .int 0, .int 0])), (tsp, .inr (0, [.int 0, .ref E, .int 0])), (tsj, .inr (0, [.int 0, .ref E, .int 0])), (tsc, .inr (0, [.int 0, .ref E, .int 0])), (tsa, .inr (1, [.ref ti1, .ref ti2, .ref ti3])), (ti1, .inl (cI, 9, .inl (fun _ => 0))), (ti2, .inl (cI, 9, .inl (fun _ => 0))), (ti3, .inl (cI, 9, .inl (fun _ => 0))), (o, .inr (13, [.int 0, .ref zb, .ref fg])), (zb, .inr (9, [.int 0, .int 3000, .int 0, .int 0, .int 0, .ref zbp, .ref zbj, .ref zbc, .ref zba, .int 0, .int 0, .int 0, .int 0, .int 0, .int 0])), (zbp, .inr (0, [.int 0, .ref E, .int 0])), (zbj, .inr (0, [.int 0, .ref E, .int 0])), (zbc, .inr (0, [.int 0, .ref E, .int 0])), (zba, .inr (0, [.int 0, .ref E, .int 0])), (fg, .inr (0, [.int 0, .ref E, .int 0])), (out, .inl (cL, 1, .inr (.inl (fun _ => 0))))] H) (hD : va_D A [(h, .inr (8, [.ref f, .ref sh, .ref tsh])), (f, .inr (0, [.int 0, .ref E, .int 0])), (sh, .inr (6, [.ref sp, .ref sj, .ref sc, .ref sa, .int 0, .int 3000, .int 0, .int 0, .int 0, .int 0, .int 0, .int 0, .int 0, .int 0, .int 0])), (sp, .inr (0, [.int 0, .ref E, .int 0])), (sj, .inr (0, [.int 0, .ref E, .int 0])), (sc, .inr (0, [.int 0, .ref E, .int 0])), (sa, .inr (1, [.ref i1, .ref i2, .ref i3])), (i1, .inl (cI, 9, .inl (fun _ => 0))), (i2, .inl (cI, 9, .inl (fun _ => 0))), (i3, .inl (cI, 9, .inl (fun _ => 0))), (tsh, .inr (6, [.ref tsp, .ref tsj, .ref tsc, .ref tsa, .int 0, .int 3000, .int 0, .int 0, .int 0, .int 0, .int 0, .int 0, .int 0, .int 0, .int 0])), (tsp, .inr (0, [.int 0, .ref E, .int 0])), (tsj, .inr (0, [.int 0, .ref E, .int 0])), (tsc, .inr (0, [.int 0, .ref E, .int 0])), (tsa, .inr (1, [.ref ti1, .ref ti2, .ref ti3])), (ti1, .inl (cI, 9, .inl (fun _ => 0))), (ti2, .inl (cI, 9, .inl (fun _ => 0))), (ti3, .inl (cI, 9, .inl (fun _ => 0))), (o, .inr (13, [.int 0, .ref zb, .ref fg])), (zb, .inr (9, [.int 0, .int 3000, .int 0, .int 0, .int 0, .ref zbp, .ref zbj, .ref zbc, .ref zba, .int 0, .int 0, .int 0, .int 0, .int 0, .int 0])), (zbp, .inr (0, [.int 0, .ref E, .int 0])), (zbj, .inr (0, [.int 0, .ref E, .int 0])), (zbc, .inr (0, [.int 0, .ref E, .int 0])), (zba, .inr (0, [.int 0, .ref E, .int 0])), (fg, .inr (0, [.int 0, .ref E, .int 0])), (out, .inl (cL, 1, .inr (.inl (fun _ => 0))))]) (hS : va_S A s.heap H locs) (hl : lv_has ls 9 [(4, .int 0), (3, .ref out), (2, .ref o), (1, .ref h), (0, .ref b)]) : W p l e room_1 s m #[Value.ref b] below meth c H locs 26 148 (lw_Z below #[Value.ref b] s) (F0 m 1071 ls []) := by
  obtain ⟨hx, hb, hr, hml, hown, hts, hX, hbl, hlocks, hl9, hE, hA, hA2⟩ := id C
  have hbA : ¬ A b := fun h => absurd (hA2 b h) (Nat.not_le.mpr hbl)
  refine lv_aload_n hx hb dL_law_1071 rfl (lv_at hl 3 rfl) ?_
  refine lv_aload_n hx hb dL_law_1072 rfl (lv_at hl 4 rfl) ?_
  refine lv_iload hx hb dL_law_1073 (lv_at hl 0 rfl) ?_
  refine lv_iconst (v := 1) hx hb dL_law_1075 (by decide) ?_
  refine f_iadd (v := 1) hx hb dL_law_1076 (by decide) ?_
  refine va_sld hx hb hX hbl hbA hS (by unfold vp_in; decide) dL_law_1077 ?_
  refine f_topi (v := p0) (f_xs hs1) ?_
  refine lv_aload_n hx hb dL_law_1078 rfl (lv_at hl 1 rfl) ?_
  refine f_aft_i (wr := [(o, .inr (13, [.int 0, .ref zb, .ref fg])), (zb, .inr (9, [.int 0, .int 3000, .int 0, .int 0, .int 0, .ref zbp, .ref zbj, .ref zbc, .ref zba, .int 0, .int 0, .int 0, .int 0, .int 0, .int 0])), (zbp, .inr (0, [.int 0, .ref E, .int 0])), (zbj, .inr (0, [.int 0, .ref E, .int 0])), (zbc, .inr (0, [.int 0, .ref E, .int 0])), (zba, .inr (0, [.int 0, .ref E, .int 0])), (fg, .inr (0, [.int 0, .ref E, .int 0]))]) (f_runSW (As := [.ref h, .int p0, .ref out]) (rest := []) hx hb hml hown hts (kL_pass_b l hl9 D cI cO cL E M h f sh sp sj sc sa i1 i2 i3 tsh tsp tsj tsc tsa ti1 ti2 ti3 out p0 h1 h2 H.size) (fcwSW 3 hts q517 q518 q80 q519 rfl rfl (by decide +kernel) ⟨(Nat.le_of_ble_eq_true rfl), (Nat.le_of_ble_eq_true rfl)⟩) hE hP hD hS hA [0, 1, 2, 3, 4, 5, 6, 7, 8, 9, 10, 11, 12, 13, 14, 15, 16, 17, 25] rfl (by decide) rfl hl.1 rfl (Nat.le_of_ble_eq_true rfl) dL_law_1079 ⟨(Nat.le_of_ble_eq_true rfl), (Nat.le_of_ble_eq_true rfl)⟩) hP hD hS hA [0, 1, 2, 3, 4, 5, 6, 7, 8, 9, 10, 11, 12, 13, 14, 15, 16, 17, 25] [18, 19, 20, 21, 22, 23, 24] rfl rfl (by decide) (by decide) (fun r u H locs hr0 hP hD hS => ?_)
  subst hr0
  have hP : va_P D vwCl [(o, .inr (13, [.int 0, .ref zb, .ref fg])), (zb, .inr (9, [.int 0, .int 3000, .int 0, .int 0, .int 0, .ref zbp, .ref zbj, .ref zbc, .ref zba, .int 0, .int 0, .int 0, .int 0, .int 0, .int 0])), (zbp, .inr (0, [.int 0, .ref E, .int 0])), (zbj, .inr (0, [.int 0, .ref E, .int 0])), (zbc, .inr (0, [.int 0, .ref E, .int 0])), (zba, .inr (0, [.int 0, .ref E, .int 0])), (fg, .inr (0, [.int 0, .ref E, .int 0]))] H := hP
  have hD : va_D A [(o, .inr (13, [.int 0, .ref zb, .ref fg])), (zb, .inr (9, [.int 0, .int 3000, .int 0, .int 0, .int 0, .ref zbp, .ref zbj, .ref zbc, .ref zba, .int 0, .int 0, .int 0, .int 0, .int 0, .int 0])), (zbp, .inr (0, [.int 0, .ref E, .int 0])), (zbj, .inr (0, [.int 0, .ref E, .int 0])), (zbc, .inr (0, [.int 0, .ref E, .int 0])), (zba, .inr (0, [.int 0, .ref E, .int 0])), (fg, .inr (0, [.int 0, .ref E, .int 0]))] := hD
  refine lv_istore (lv' := [(5, .int 1), (4, .int 0), (3, .ref out), (2, .ref o), (1, .ref h), (0, .ref b)]) hx hb dL_law_1082 hl (by decide) rfl (fun ls hl => ?_)
  refine lv_aload_n hx hb dL_law_1084 rfl (lv_at hl 3 rfl) ?_
  refine lv_aload_n hx hb dL_law_1085 rfl (lv_at hl 5 rfl) ?_
  refine lv_iload hx hb dL_law_1086 (lv_at hl 1 rfl) ?_
  refine lv_iconst (v := 1) hx hb dL_law_1088 (by decide) ?_
  refine f_iadd (v := 1) hx hb dL_law_1089 (by decide) ?_
  refine va_sld hx hb hX hbl hbA hS (by unfold vp_in; decide) dL_law_1090 ?_
  refine f_topi (v := p0) (f_xs hs1) ?_
  refine f_aft_i (wr := []) (f_runV (As := [.int p0]) (rest := []) hx hb hml hown hts (kX12_pass_b l D cI cO cL E M o zb zbp zbj zbc zba fg p0 h1 h2 H.size) (fcwV 1 hts q691 q692 q693 q5 q694 rfl rfl (by decide +kernel) ⟨(Nat.le_of_ble_eq_true rfl), (Nat.le_of_ble_eq_true rfl)⟩) hE hP hD hS hA [0, 1, 2, 3, 4, 5, 6] rfl (by decide) (q0 := 0) (ci := 13) rfl rfl rfl rfl hl.1 rfl (Nat.le_of_ble_eq_true rfl) dL_law_1091 ⟨(Nat.le_of_ble_eq_true rfl), (Nat.le_of_ble_eq_true rfl)⟩) hP hD hS hA [0, 1, 2, 3, 4, 5, 6] [] rfl rfl (by decide) (by decide) (fun r u H locs hr0 hP hD hS => ?_)
  subst hr0
  have hP : va_P D vwCl [(o, .inr (13, [.int 1, .ref zb, .ref fg]))] H := hP
  have hD : va_D A [(o, .inr (13, [.int 1, .ref zb, .ref fg]))] := hD
  refine lv_istore (lv' := [(6, .int 0), (5, .int 1), (4, .int 0), (3, .ref out), (2, .ref o), (1, .ref h), (0, .ref b)]) hx hb dL_law_1094 hl (by decide) rfl (fun ls hl => ?_)
  refine lv_aload_n hx hb dL_law_1096 rfl (lv_at hl 4 rfl) ?_
  refine f_aft_i (wr := []) (f_runV (As := []) (rest := []) hx hb hml hown hts (kX12_thrown l D cI cO cL E M o zb fg 1 H.size) (fcwV 0 hts q186 q187 q188 q5 q189 rfl rfl (by decide +kernel) ⟨(Nat.le_of_ble_eq_true rfl), (Nat.le_of_ble_eq_true rfl)⟩) hE hP hD hS hA [0] rfl (by decide) (q0 := 0) (ci := 13) rfl rfl rfl rfl hl.1 rfl (Nat.le_of_ble_eq_true rfl) dL_law_1097 ⟨(Nat.le_of_ble_eq_true rfl), (Nat.le_of_ble_eq_true rfl)⟩) hP hD hS hA [0] [] rfl rfl (by decide) (by decide) (fun r u H locs hr0 hP hD hS => ?_)
  subst hr0
  have hP : va_P D vwCl [(o, .inr (13, [.int 1, .ref zb, .ref fg]))] H := hP
  have hD : va_D A [(o, .inr (13, [.int 1, .ref zb, .ref fg]))] := hD
  refine lv_iload hx hb dL_law_1100 (lv_at hl 1 rfl) ?_
  refine lv_icmp_eq (tgt := 1107) hx hb dL_law_1102 (by decide) (fun _ => ?_) (fun h => absurd (by decide) h)
  refine lv_iload hx hb dL_law_1107 (lv_at hl 1 rfl) ?_
  refine lv_if_ne (tgt := 1124) hx hb dL_law_1109 (by decide) (fun _ => ?_) (fun h => absurd h (by decide))
  refine lv_goto (tgt := 1758) hx hb dL_law_1124 (by decide) ?_
  refine W.widen (k := 3000) (n := 30000) (Nat.le_of_ble_eq_true rfl) (Nat.le_of_ble_eq_true rfl) ?_
  exact law_end C hS (lv_sub hl [2, 6] rfl)
set_option maxHeartbeats 4000000 in
set_option maxRecDepth 100000 in
theorem law_falls_ok {p : Program} {l : Launch} {e : Env} {s : State} {m : MethodId} {below : List Frame} {meth : Method} {c : Code} {b : Nat} {xs : Nat → Int32} {D : va_G} {cI cO cL : ClassId} {E M : Nat} {A : Nat → Prop} (C : fLC p l s m meth c b xs D cI cO cL E M A) {h f sh sp sj sc sa i1 i2 i3 tsh tsp tsj tsc tsa ti1 ti2 ti3 o zb zbp zbj zbc zba fg out : Nat} (N : Nat) (hs1 : (1 : Int32).toNatClampNeg = 1 ∧ xs 1 = nI N) (g1 : 1 ≤ N) (g2 : N ≤ 8) {H : Heap} {locs : List Loc} {ls : Array Slot} (hP : va_P D vwCl [(h, .inr (8, [.ref f, .ref sh, .ref tsh])), (f, .inr (0, [.int 0, .ref E, .int 0])), (sh, .inr (6, [.ref sp, .ref sj, .ref sc, .ref sa, .int 0, .int 3000, .int 0, .int 0, .int 0, .int 0, .int 0, .int 0, .int 0, .int 0, .int 0])), (sp, .inr (0, [.int 0, .ref E, .int 0])), (sj, .inr (0, [.int 0, .ref E, .int 0])), (sc, .inr (0, [.int 0, .ref E, .int 0])), (sa, .inr (1, [.ref i1, .ref i2, .ref i3])), (i1, .inl (cI, 9, .inl (fun _ => 0))), (i2, .inl (cI, 9, .inl (fun _ => 0))), (i3, .inl (cI, 9, .inl (fun _ => 0))), (tsh, .inr (6, [.ref tsp, .ref tsj, .ref tsc, .ref tsa, .int 0, .int 3000, .int 0, .int 0, .int 0, .int 0, .int 0, .int 0, .int 0, .int 0, .int 0])), (tsp, .inr (0, [.int 0, .ref E, .int 0])), (tsj, .inr (0, [.int 0, .ref E, .int 0])), (tsc, .inr (0, [.int 0, .ref E, .int 0])), (tsa, .inr (1, [.ref ti1, .ref ti2, .ref ti3])), (ti1, .inl (cI, 9, .inl (fun _ => 0))), (ti2, .inl (cI, 9, .inl (fun _ => 0))), (ti3, .inl (cI, 9, .inl (fun _ => 0))), (o, .inr (13, [.int 0, .ref zb, .ref fg])), (zb, .inr (9, [.int 0, .int 3000, .int 0, .int 0, .int 0, .ref zbp, .ref zbj, .ref zbc, .ref zba, .int 0, .int 0, .int 0, .int 0, .int 0, .int 0])), (zbp, .inr (0, [.int 0, .ref E, .int 0])), (zbj, .inr (0, [.int 0, .ref E, .int 0])), (zbc, .inr (0, [.int 0, .ref E, .int 0])), (zba, .inr (0, [.int 0, .ref E, .int 0])), (fg, .inr (0, [.int 0, .ref E, .int 0])), (out, .inl (cL, 1, .inr (.inl (fun _ => 0))))] H) (hD : va_D A [(h, .inr (8, [.ref f, .ref sh, .ref tsh])), (f, .inr (0, [.int 0, .ref E, .int 0])), (sh, .inr (6, [.ref sp, .ref sj, .ref sc, .ref sa, .int 0, .int 3000, .int 0, .int 0, .int 0, .int 0, .int 0, .int 0, .int 0, .int 0, .int 0])), (sp, .inr (0, [.int 0, .ref E, .int 0])), (sj, .inr (0, [.int 0, .ref E, .int 0])), (sc, .inr (0, [.int 0, .ref E, .int 0])), (sa, .inr (1, [.ref i1, .ref i2, .ref i3])), (i1, .inl (cI, 9, .inl (fun _ => 0))), (i2, .inl (cI, 9, .inl (fun _ => 0))), (i3, .inl (cI, 9, .inl (fun _ => 0))), (tsh, .inr (6, [.ref tsp, .ref tsj, .ref tsc, .ref tsa, .int 0, .int 3000, .int 0, .int 0, .int 0, .int 0, .int 0, .int 0, .int 0, .int 0, .int 0])), (tsp, .inr (0, [.int 0, .ref E, .int 0])), (tsj, .inr (0, [.int 0, .ref E, .int 0])), (tsc, .inr (0, [.int 0, .ref E, .int 0])), (tsa, .inr (1, [.ref ti1, .ref ti2, .ref ti3])), (ti1, .inl (cI, 9, .inl (fun _ => 0))), (ti2, .inl (cI, 9, .inl (fun _ => 0))), (ti3, .inl (cI, 9, .inl (fun _ => 0))), (o, .inr (13, [.int 0, .ref zb, .ref fg])), (zb, .inr (9, [.int 0, .int 3000, .int 0, .int 0, .int 0, .ref zbp, .ref zbj, .ref zbc, .ref zba, .int 0, .int 0, .int 0, .int 0, .int 0, .int 0])), (zbp, .inr (0, [.int 0, .ref E, .int 0])), (zbj, .inr (0, [.int 0, .ref E, .int 0])), (zbc, .inr (0, [.int 0, .ref E, .int 0])), (zba, .inr (0, [.int 0, .ref E, .int 0])), (fg, .inr (0, [.int 0, .ref E, .int 0])), (out, .inl (cL, 1, .inr (.inl (fun _ => 0))))]) (hS : va_S A s.heap H locs) (hl : lv_has ls 9 [(4, .int 0), (3, .ref out), (2, .ref o), (1, .ref h), (0, .ref b)]) : W p l e room_1 s m #[Value.ref b] below meth c H locs 26 148 (lw_Z below #[Value.ref b] s) (F0 m 1263 ls []) := by
  obtain ⟨hx, hb, hr, hml, hown, hts, hX, hbl, hlocks, hl9, hE, hA, hA2⟩ := id C
  have hbA : ¬ A b := fun h => absurd (hA2 b h) (Nat.not_le.mpr hbl)
  refine lv_aload_n hx hb dL_law_1263 rfl (lv_at hl 3 rfl) ?_
  refine lv_aload_n hx hb dL_law_1264 rfl (lv_at hl 4 rfl) ?_
  refine lv_iload hx hb dL_law_1265 (lv_at hl 0 rfl) ?_
  refine lv_iconst (v := 1) hx hb dL_law_1267 (by decide) ?_
  refine f_iadd (v := 1) hx hb dL_law_1268 (by decide) ?_
  refine va_sld hx hb hX hbl hbA hS (by unfold vp_in; decide) dL_law_1269 ?_
  refine f_topi (v := nI N) (f_xs hs1) ?_
  refine lv_aload_n hx hb dL_law_1270 rfl (lv_at hl 1 rfl) ?_
  refine f_aft_i (wr := [(o, .inr (13, [.int 0, .ref zb, .ref fg])), (zb, .inr (9, [.int 0, .int 3000, .int 0, .int 0, .int 0, .ref zbp, .ref zbj, .ref zbc, .ref zba, .int 0, .int 0, .int 0, .int 0, .int 0, .int 0])), (zbp, .inr (0, [.int 0, .ref E, .int 0])), (zbj, .inr (0, [.int 0, .ref E, .int 0])), (zbc, .inr (0, [.int 0, .ref E, .int 0])), (zba, .inr (0, [.int 0, .ref E, .int 0])), (fg, .inr (0, [.int 0, .ref E, .int 0]))]) (f_runSW (As := [.ref h, .int (nI N), .ref out]) (rest := []) hx hb hml hown hts (kL_falls_ok l D cI cO cL E M h f sh sp sj sc sa i1 i2 i3 tsh tsp tsj tsc tsa ti1 ti2 ti3 out N g1 g2 H.size) (fcwSW 3 hts q862 q863 q80 q864 rfl rfl (by decide +kernel) ⟨(Nat.le_of_ble_eq_true rfl), (Nat.le_of_ble_eq_true rfl)⟩) hE hP hD hS hA [0, 1, 2, 3, 4, 5, 6, 7, 8, 9, 10, 11, 12, 13, 14, 15, 16, 17, 25] rfl (by decide) rfl hl.1 rfl (Nat.le_of_ble_eq_true rfl) dL_law_1271 ⟨(Nat.le_of_ble_eq_true rfl), (Nat.le_of_ble_eq_true rfl)⟩) hP hD hS hA [0, 1, 2, 3, 4, 5, 6, 7, 8, 9, 10, 11, 12, 13, 14, 15, 16, 17, 25] [18, 19, 20, 21, 22, 23, 24] rfl rfl (by decide) (by decide) (fun r u H locs hr0 hP hD hS => ?_)
  subst hr0
  have hP : va_P D vwCl [(o, .inr (13, [.int 0, .ref zb, .ref fg])), (zb, .inr (9, [.int 0, .int 3000, .int 0, .int 0, .int 0, .ref zbp, .ref zbj, .ref zbc, .ref zba, .int 0, .int 0, .int 0, .int 0, .int 0, .int 0])), (zbp, .inr (0, [.int 0, .ref E, .int 0])), (zbj, .inr (0, [.int 0, .ref E, .int 0])), (zbc, .inr (0, [.int 0, .ref E, .int 0])), (zba, .inr (0, [.int 0, .ref E, .int 0])), (fg, .inr (0, [.int 0, .ref E, .int 0])), (out, .inl (cL, 1, .inr (.inl (fun _ => 0))))] H := hP
  have hD : va_D A [(o, .inr (13, [.int 0, .ref zb, .ref fg])), (zb, .inr (9, [.int 0, .int 3000, .int 0, .int 0, .int 0, .ref zbp, .ref zbj, .ref zbc, .ref zba, .int 0, .int 0, .int 0, .int 0, .int 0, .int 0])), (zbp, .inr (0, [.int 0, .ref E, .int 0])), (zbj, .inr (0, [.int 0, .ref E, .int 0])), (zbc, .inr (0, [.int 0, .ref E, .int 0])), (zba, .inr (0, [.int 0, .ref E, .int 0])), (fg, .inr (0, [.int 0, .ref E, .int 0])), (out, .inl (cL, 1, .inr (.inl (fun _ => 0))))] := hD
  refine lv_istore (lv' := [(5, .int 0), (4, .int 0), (3, .ref out), (2, .ref o), (1, .ref h), (0, .ref b)]) hx hb dL_law_1274 hl (by decide) rfl (fun ls hl => ?_)
  refine lv_aload_n hx hb dL_law_1276 rfl (lv_at hl 3 rfl) ?_
  refine lv_aload_n hx hb dL_law_1277 rfl (lv_at hl 5 rfl) ?_
  refine lv_iload hx hb dL_law_1278 (lv_at hl 1 rfl) ?_
  refine lv_iconst (v := 1) hx hb dL_law_1280 (by decide) ?_
  refine f_iadd (v := 1) hx hb dL_law_1281 (by decide) ?_
  refine va_sld hx hb hX hbl hbA hS (by unfold vp_in; decide) dL_law_1282 ?_
  refine f_topi (v := nI N) (f_xs hs1) ?_
  refine f_aft_i (wr := [(out, .inl (cL, 1, .inr (.inl (fun _ => 0))))]) (f_runV (As := [.int (nI N)]) (rest := []) hx hb hml hown hts (kX12_falls_ok l D cI cO cL E M o zb zbp zbj zbc zba fg N g1 g2 H.size) (fcwV 1 hts q871 q872 q873 q5 q874 rfl rfl (by decide +kernel) ⟨(Nat.le_of_ble_eq_true rfl), (Nat.le_of_ble_eq_true rfl)⟩) hE hP hD hS hA [0, 1, 2, 3, 4, 5, 6] rfl (by decide) (q0 := 0) (ci := 13) rfl rfl rfl rfl hl.1 rfl (Nat.le_of_ble_eq_true rfl) dL_law_1283 ⟨(Nat.le_of_ble_eq_true rfl), (Nat.le_of_ble_eq_true rfl)⟩) hP hD hS hA [0, 1, 2, 3, 4, 5, 6] [7] rfl rfl (by decide) (by decide) (fun r u H locs hr0 hP hD hS => ?_)
  subst hr0
  have hP : va_P D vwCl [(out, .inl (cL, 1, .inr (.inl (fun _ => 0)))), (o, .inr (13, [.int 0, .ref zb, .ref fg]))] H := hP
  have hD : va_D A [(out, .inl (cL, 1, .inr (.inl (fun _ => 0)))), (o, .inr (13, [.int 0, .ref zb, .ref fg]))] := hD
  refine lv_istore (lv' := [(6, .int 0), (5, .int 0), (4, .int 0), (3, .ref out), (2, .ref o), (1, .ref h), (0, .ref b)]) hx hb dL_law_1286 hl (by decide) rfl (fun ls hl => ?_)
  refine lv_aload_n hx hb dL_law_1288 rfl (lv_at hl 4 rfl) ?_
  refine f_aft_i (wr := [(out, .inl (cL, 1, .inr (.inl (fun _ => 0))))]) (f_runV (As := []) (rest := []) hx hb hml hown hts (kX12_thrown l D cI cO cL E M o zb fg 0 H.size) (fcwV 0 hts q186 q187 q188 q5 q189 rfl rfl (by decide +kernel) ⟨(Nat.le_of_ble_eq_true rfl), (Nat.le_of_ble_eq_true rfl)⟩) hE hP hD hS hA [1] rfl (by decide) (q0 := 1) (ci := 13) rfl rfl rfl rfl hl.1 rfl (Nat.le_of_ble_eq_true rfl) dL_law_1289 ⟨(Nat.le_of_ble_eq_true rfl), (Nat.le_of_ble_eq_true rfl)⟩) hP hD hS hA [1] [0] rfl rfl (by decide) (by decide) (fun r u H locs hr0 hP hD hS => ?_)
  subst hr0
  have hP : va_P D vwCl [(out, .inl (cL, 1, .inr (.inl (fun _ => 0)))), (o, .inr (13, [.int 0, .ref zb, .ref fg]))] H := hP
  have hD : va_D A [(out, .inl (cL, 1, .inr (.inl (fun _ => 0)))), (o, .inr (13, [.int 0, .ref zb, .ref fg]))] := hD
  refine lv_iload hx hb dL_law_1292 (lv_at hl 1 rfl) ?_
  refine lv_icmp_eq (tgt := 1299) hx hb dL_law_1294 (by decide) (fun _ => ?_) (fun h => absurd (by decide) h)
  refine lv_iload hx hb dL_law_1299 (lv_at hl 1 rfl) ?_
  refine lv_if_ne (tgt := 1316) hx hb dL_law_1301 (by decide) (fun h => absurd h (by decide)) (fun _ => ?_)
  refine lv_aload_n hx hb dL_law_1304 rfl (lv_at hl 3 rfl) ?_
  refine lv_iconst (v := 0) hx hb dL_law_1305 (by decide) ?_
  refine va_lald hx hb hE.1.1 hP 0 2 rfl rfl (by unfold vp_in; decide) dL_law_1306 ?_
  refine f_topl (v := 0) (rfl) ?_
  refine lv_iload hx hb dL_law_1307 (lv_at hl 0 rfl) ?_
  refine lv_i2l (v := 0) hx hb dL_law_1309 (by decide) ?_
  refine W.lcmp hx hb dL_law_1310 ?_
  refine f_topi (v := 0) (f_cmp0 _) ?_
  refine lv_if_eq (tgt := 1316) hx hb dL_law_1311 (by decide) (fun _ => ?_) (fun h => absurd (by decide) h)
  refine lv_goto (tgt := 1758) hx hb dL_law_1316 (by decide) ?_
  refine W.widen (k := 3000) (n := 30000) (Nat.le_of_ble_eq_true rfl) (Nat.le_of_ble_eq_true rfl) ?_
  exact law_end C hS (lv_sub hl [2, 6] rfl)
set_option maxHeartbeats 4000000 in
set_option maxRecDepth 100000 in
theorem law_falls_a {p : Program} {l : Launch} {e : Env} {s : State} {m : MethodId} {below : List Frame} {meth : Method} {c : Code} {b : Nat} {xs : Nat → Int32} {D : va_G} {cI cO cL : ClassId} {E M : Nat} {A : Nat → Prop} (C : fLC p l s m meth c b xs D cI cO cL E M A) {h f sh sp sj sc sa i1 i2 i3 tsh tsp tsj tsc tsa ti1 ti2 ti3 o zb zbp zbj zbc zba fg out : Nat} (p0 : Int32) (hs1 : (1 : Int32).toNatClampNeg = 1 ∧ xs 1 = p0) (h1 : p0 < 1) {H : Heap} {locs : List Loc} {ls : Array Slot} (hP : va_P D vwCl [(h, .inr (8, [.ref f, .ref sh, .ref tsh])), (f, .inr (0, [.int 0, .ref E, .int 0])), (sh, .inr (6, [.ref sp, .ref sj, .ref sc, .ref sa, .int 0, .int 3000, .int 0, .int 0, .int 0, .int 0, .int 0, .int 0, .int 0, .int 0, .int 0])), (sp, .inr (0, [.int 0, .ref E, .int 0])), (sj, .inr (0, [.int 0, .ref E, .int 0])), (sc, .inr (0, [.int 0, .ref E, .int 0])), (sa, .inr (1, [.ref i1, .ref i2, .ref i3])), (i1, .inl (cI, 9, .inl (fun _ => 0))), (i2, .inl (cI, 9, .inl (fun _ => 0))), (i3, .inl (cI, 9, .inl (fun _ => 0))), (tsh, .inr (6, [.ref tsp, .ref tsj, .ref tsc, .ref tsa, .int 0, .int 3000, .int 0, .int 0, .int 0, .int 0, .int 0, .int 0, .int 0, .int 0, .int 0])), (tsp, .inr (0, [.int 0, .ref E, .int 0])), (tsj, .inr (0, [.int 0, .ref E, .int 0])), (tsc, .inr (0, [.int 0, .ref E, .int 0])), (tsa, .inr (1, [.ref ti1, .ref ti2, .ref ti3])), (ti1, .inl (cI, 9, .inl (fun _ => 0))), (ti2, .inl (cI, 9, .inl (fun _ => 0))), (ti3, .inl (cI, 9, .inl (fun _ => 0))), (o, .inr (13, [.int 0, .ref zb, .ref fg])), (zb, .inr (9, [.int 0, .int 3000, .int 0, .int 0, .int 0, .ref zbp, .ref zbj, .ref zbc, .ref zba, .int 0, .int 0, .int 0, .int 0, .int 0, .int 0])), (zbp, .inr (0, [.int 0, .ref E, .int 0])), (zbj, .inr (0, [.int 0, .ref E, .int 0])), (zbc, .inr (0, [.int 0, .ref E, .int 0])), (zba, .inr (0, [.int 0, .ref E, .int 0])), (fg, .inr (0, [.int 0, .ref E, .int 0])), (out, .inl (cL, 1, .inr (.inl (fun _ => 0))))] H) (hD : va_D A [(h, .inr (8, [.ref f, .ref sh, .ref tsh])), (f, .inr (0, [.int 0, .ref E, .int 0])), (sh, .inr (6, [.ref sp, .ref sj, .ref sc, .ref sa, .int 0, .int 3000, .int 0, .int 0, .int 0, .int 0, .int 0, .int 0, .int 0, .int 0, .int 0])), (sp, .inr (0, [.int 0, .ref E, .int 0])), (sj, .inr (0, [.int 0, .ref E, .int 0])), (sc, .inr (0, [.int 0, .ref E, .int 0])), (sa, .inr (1, [.ref i1, .ref i2, .ref i3])), (i1, .inl (cI, 9, .inl (fun _ => 0))), (i2, .inl (cI, 9, .inl (fun _ => 0))), (i3, .inl (cI, 9, .inl (fun _ => 0))), (tsh, .inr (6, [.ref tsp, .ref tsj, .ref tsc, .ref tsa, .int 0, .int 3000, .int 0, .int 0, .int 0, .int 0, .int 0, .int 0, .int 0, .int 0, .int 0])), (tsp, .inr (0, [.int 0, .ref E, .int 0])), (tsj, .inr (0, [.int 0, .ref E, .int 0])), (tsc, .inr (0, [.int 0, .ref E, .int 0])), (tsa, .inr (1, [.ref ti1, .ref ti2, .ref ti3])), (ti1, .inl (cI, 9, .inl (fun _ => 0))), (ti2, .inl (cI, 9, .inl (fun _ => 0))), (ti3, .inl (cI, 9, .inl (fun _ => 0))), (o, .inr (13, [.int 0, .ref zb, .ref fg])), (zb, .inr (9, [.int 0, .int 3000, .int 0, .int 0, .int 0, .ref zbp, .ref zbj, .ref zbc, .ref zba, .int 0, .int 0, .int 0, .int 0, .int 0, .int 0])), (zbp, .inr (0, [.int 0, .ref E, .int 0])), (zbj, .inr (0, [.int 0, .ref E, .int 0])), (zbc, .inr (0, [.int 0, .ref E, .int 0])), (zba, .inr (0, [.int 0, .ref E, .int 0])), (fg, .inr (0, [.int 0, .ref E, .int 0])), (out, .inl (cL, 1, .inr (.inl (fun _ => 0))))]) (hS : va_S A s.heap H locs) (hl : lv_has ls 9 [(4, .int 0), (3, .ref out), (2, .ref o), (1, .ref h), (0, .ref b)]) : W p l e room_1 s m #[Value.ref b] below meth c H locs 26 148 (lw_Z below #[Value.ref b] s) (F0 m 1263 ls []) := by
  obtain ⟨hx, hb, hr, hml, hown, hts, hX, hbl, hlocks, hl9, hE, hA, hA2⟩ := id C
  have hbA : ¬ A b := fun h => absurd (hA2 b h) (Nat.not_le.mpr hbl)
  refine lv_aload_n hx hb dL_law_1263 rfl (lv_at hl 3 rfl) ?_
  refine lv_aload_n hx hb dL_law_1264 rfl (lv_at hl 4 rfl) ?_
  refine lv_iload hx hb dL_law_1265 (lv_at hl 0 rfl) ?_
  refine lv_iconst (v := 1) hx hb dL_law_1267 (by decide) ?_
  refine f_iadd (v := 1) hx hb dL_law_1268 (by decide) ?_
  refine va_sld hx hb hX hbl hbA hS (by unfold vp_in; decide) dL_law_1269 ?_
  refine f_topi (v := p0) (f_xs hs1) ?_
  refine lv_aload_n hx hb dL_law_1270 rfl (lv_at hl 1 rfl) ?_
  refine f_aft_i (wr := [(o, .inr (13, [.int 0, .ref zb, .ref fg])), (zb, .inr (9, [.int 0, .int 3000, .int 0, .int 0, .int 0, .ref zbp, .ref zbj, .ref zbc, .ref zba, .int 0, .int 0, .int 0, .int 0, .int 0, .int 0])), (zbp, .inr (0, [.int 0, .ref E, .int 0])), (zbj, .inr (0, [.int 0, .ref E, .int 0])), (zbc, .inr (0, [.int 0, .ref E, .int 0])), (zba, .inr (0, [.int 0, .ref E, .int 0])), (fg, .inr (0, [.int 0, .ref E, .int 0]))]) (f_runSW (As := [.ref h, .int p0, .ref out]) (rest := []) hx hb hml hown hts (kL_falls_a l hl9 D cI cO cL E M h f sh sp sj sc sa i1 i2 i3 tsh tsp tsj tsc tsa ti1 ti2 ti3 out p0 h1 H.size) (fcwSW 3 hts q862 q863 q80 q864 rfl rfl (by decide +kernel) ⟨(Nat.le_of_ble_eq_true rfl), (Nat.le_of_ble_eq_true rfl)⟩) hE hP hD hS hA [0, 1, 2, 3, 4, 5, 6, 7, 8, 9, 10, 11, 12, 13, 14, 15, 16, 17, 25] rfl (by decide) rfl hl.1 rfl (Nat.le_of_ble_eq_true rfl) dL_law_1271 ⟨(Nat.le_of_ble_eq_true rfl), (Nat.le_of_ble_eq_true rfl)⟩) hP hD hS hA [0, 1, 2, 3, 4, 5, 6, 7, 8, 9, 10, 11, 12, 13, 14, 15, 16, 17, 25] [18, 19, 20, 21, 22, 23, 24] rfl rfl (by decide) (by decide) (fun r u H locs hr0 hP hD hS => ?_)
  subst hr0
  have hP : va_P D vwCl [(o, .inr (13, [.int 0, .ref zb, .ref fg])), (zb, .inr (9, [.int 0, .int 3000, .int 0, .int 0, .int 0, .ref zbp, .ref zbj, .ref zbc, .ref zba, .int 0, .int 0, .int 0, .int 0, .int 0, .int 0])), (zbp, .inr (0, [.int 0, .ref E, .int 0])), (zbj, .inr (0, [.int 0, .ref E, .int 0])), (zbc, .inr (0, [.int 0, .ref E, .int 0])), (zba, .inr (0, [.int 0, .ref E, .int 0])), (fg, .inr (0, [.int 0, .ref E, .int 0]))] H := hP
  have hD : va_D A [(o, .inr (13, [.int 0, .ref zb, .ref fg])), (zb, .inr (9, [.int 0, .int 3000, .int 0, .int 0, .int 0, .ref zbp, .ref zbj, .ref zbc, .ref zba, .int 0, .int 0, .int 0, .int 0, .int 0, .int 0])), (zbp, .inr (0, [.int 0, .ref E, .int 0])), (zbj, .inr (0, [.int 0, .ref E, .int 0])), (zbc, .inr (0, [.int 0, .ref E, .int 0])), (zba, .inr (0, [.int 0, .ref E, .int 0])), (fg, .inr (0, [.int 0, .ref E, .int 0]))] := hD
  refine lv_istore (lv' := [(5, .int 1), (4, .int 0), (3, .ref out), (2, .ref o), (1, .ref h), (0, .ref b)]) hx hb dL_law_1274 hl (by decide) rfl (fun ls hl => ?_)
  refine lv_aload_n hx hb dL_law_1276 rfl (lv_at hl 3 rfl) ?_
  refine lv_aload_n hx hb dL_law_1277 rfl (lv_at hl 5 rfl) ?_
  refine lv_iload hx hb dL_law_1278 (lv_at hl 1 rfl) ?_
  refine lv_iconst (v := 1) hx hb dL_law_1280 (by decide) ?_
  refine f_iadd (v := 1) hx hb dL_law_1281 (by decide) ?_
  refine va_sld hx hb hX hbl hbA hS (by unfold vp_in; decide) dL_law_1282 ?_
  refine f_topi (v := p0) (f_xs hs1) ?_
  refine f_aft_i (wr := []) (f_runV (As := [.int p0]) (rest := []) hx hb hml hown hts (kX12_falls_a l D cI cO cL E M o zb zbp zbj zbc zba fg p0 h1 H.size) (fcwV 1 hts q871 q872 q873 q5 q874 rfl rfl (by decide +kernel) ⟨(Nat.le_of_ble_eq_true rfl), (Nat.le_of_ble_eq_true rfl)⟩) hE hP hD hS hA [0, 1, 2, 3, 4, 5, 6] rfl (by decide) (q0 := 0) (ci := 13) rfl rfl rfl rfl hl.1 rfl (Nat.le_of_ble_eq_true rfl) dL_law_1283 ⟨(Nat.le_of_ble_eq_true rfl), (Nat.le_of_ble_eq_true rfl)⟩) hP hD hS hA [0, 1, 2, 3, 4, 5, 6] [] rfl rfl (by decide) (by decide) (fun r u H locs hr0 hP hD hS => ?_)
  subst hr0
  have hP : va_P D vwCl [(o, .inr (13, [.int 1, .ref zb, .ref fg]))] H := hP
  have hD : va_D A [(o, .inr (13, [.int 1, .ref zb, .ref fg]))] := hD
  refine lv_istore (lv' := [(6, .int 0), (5, .int 1), (4, .int 0), (3, .ref out), (2, .ref o), (1, .ref h), (0, .ref b)]) hx hb dL_law_1286 hl (by decide) rfl (fun ls hl => ?_)
  refine lv_aload_n hx hb dL_law_1288 rfl (lv_at hl 4 rfl) ?_
  refine f_aft_i (wr := []) (f_runV (As := []) (rest := []) hx hb hml hown hts (kX12_thrown l D cI cO cL E M o zb fg 1 H.size) (fcwV 0 hts q186 q187 q188 q5 q189 rfl rfl (by decide +kernel) ⟨(Nat.le_of_ble_eq_true rfl), (Nat.le_of_ble_eq_true rfl)⟩) hE hP hD hS hA [0] rfl (by decide) (q0 := 0) (ci := 13) rfl rfl rfl rfl hl.1 rfl (Nat.le_of_ble_eq_true rfl) dL_law_1289 ⟨(Nat.le_of_ble_eq_true rfl), (Nat.le_of_ble_eq_true rfl)⟩) hP hD hS hA [0] [] rfl rfl (by decide) (by decide) (fun r u H locs hr0 hP hD hS => ?_)
  subst hr0
  have hP : va_P D vwCl [(o, .inr (13, [.int 1, .ref zb, .ref fg]))] H := hP
  have hD : va_D A [(o, .inr (13, [.int 1, .ref zb, .ref fg]))] := hD
  refine lv_iload hx hb dL_law_1292 (lv_at hl 1 rfl) ?_
  refine lv_icmp_eq (tgt := 1299) hx hb dL_law_1294 (by decide) (fun _ => ?_) (fun h => absurd (by decide) h)
  refine lv_iload hx hb dL_law_1299 (lv_at hl 1 rfl) ?_
  refine lv_if_ne (tgt := 1316) hx hb dL_law_1301 (by decide) (fun _ => ?_) (fun h => absurd h (by decide))
  refine lv_goto (tgt := 1758) hx hb dL_law_1316 (by decide) ?_
  refine W.widen (k := 3000) (n := 30000) (Nat.le_of_ble_eq_true rfl) (Nat.le_of_ble_eq_true rfl) ?_
  exact law_end C hS (lv_sub hl [2, 6] rfl)
set_option maxHeartbeats 4000000 in
set_option maxRecDepth 100000 in
theorem law_falls_b {p : Program} {l : Launch} {e : Env} {s : State} {m : MethodId} {below : List Frame} {meth : Method} {c : Code} {b : Nat} {xs : Nat → Int32} {D : va_G} {cI cO cL : ClassId} {E M : Nat} {A : Nat → Prop} (C : fLC p l s m meth c b xs D cI cO cL E M A) {h f sh sp sj sc sa i1 i2 i3 tsh tsp tsj tsc tsa ti1 ti2 ti3 o zb zbp zbj zbc zba fg out : Nat} (p0 : Int32) (hs1 : (1 : Int32).toNatClampNeg = 1 ∧ xs 1 = p0) (h1 : ¬ p0 < 1) (h2 : 8 < p0) {H : Heap} {locs : List Loc} {ls : Array Slot} (hP : va_P D vwCl [(h, .inr (8, [.ref f, .ref sh, .ref tsh])), (f, .inr (0, [.int 0, .ref E, .int 0])), (sh, .inr (6, [.ref sp, .ref sj, .ref sc, .ref sa, .int 0, .int 3000, .int 0, .int 0, .int 0, .int 0, .int 0, .int 0, .int 0, .int 0, .int 0])), (sp, .inr (0, [.int 0, .ref E, .int 0])), (sj, .inr (0, [.int 0, .ref E, .int 0])), (sc, .inr (0, [.int 0, .ref E, .int 0])), (sa, .inr (1, [.ref i1, .ref i2, .ref i3])), (i1, .inl (cI, 9, .inl (fun _ => 0))), (i2, .inl (cI, 9, .inl (fun _ => 0))), (i3, .inl (cI, 9, .inl (fun _ => 0))), (tsh, .inr (6, [.ref tsp, .ref tsj, .ref tsc, .ref tsa, .int 0, .int 3000, .int 0, .int 0, .int 0, .int 0, .int 0, .int 0, .int 0, .int 0, .int 0])), (tsp, .inr (0, [.int 0, .ref E, .int 0])), (tsj, .inr (0, [.int 0, .ref E, .int 0])), (tsc, .inr (0, [.int 0, .ref E, .int 0])), (tsa, .inr (1, [.ref ti1, .ref ti2, .ref ti3])), (ti1, .inl (cI, 9, .inl (fun _ => 0))), (ti2, .inl (cI, 9, .inl (fun _ => 0))), (ti3, .inl (cI, 9, .inl (fun _ => 0))), (o, .inr (13, [.int 0, .ref zb, .ref fg])), (zb, .inr (9, [.int 0, .int 3000, .int 0, .int 0, .int 0, .ref zbp, .ref zbj, .ref zbc, .ref zba, .int 0, .int 0, .int 0, .int 0, .int 0, .int 0])), (zbp, .inr (0, [.int 0, .ref E, .int 0])), (zbj, .inr (0, [.int 0, .ref E, .int 0])), (zbc, .inr (0, [.int 0, .ref E, .int 0])), (zba, .inr (0, [.int 0, .ref E, .int 0])), (fg, .inr (0, [.int 0, .ref E, .int 0])), (out, .inl (cL, 1, .inr (.inl (fun _ => 0))))] H) (hD : va_D A [(h, .inr (8, [.ref f, .ref sh, .ref tsh])), (f, .inr (0, [.int 0, .ref E, .int 0])), (sh, .inr (6, [.ref sp, .ref sj, .ref sc, .ref sa, .int 0, .int 3000, .int 0, .int 0, .int 0, .int 0, .int 0, .int 0, .int 0, .int 0, .int 0])), (sp, .inr (0, [.int 0, .ref E, .int 0])), (sj, .inr (0, [.int 0, .ref E, .int 0])), (sc, .inr (0, [.int 0, .ref E, .int 0])), (sa, .inr (1, [.ref i1, .ref i2, .ref i3])), (i1, .inl (cI, 9, .inl (fun _ => 0))), (i2, .inl (cI, 9, .inl (fun _ => 0))), (i3, .inl (cI, 9, .inl (fun _ => 0))), (tsh, .inr (6, [.ref tsp, .ref tsj, .ref tsc, .ref tsa, .int 0, .int 3000, .int 0, .int 0, .int 0, .int 0, .int 0, .int 0, .int 0, .int 0, .int 0])), (tsp, .inr (0, [.int 0, .ref E, .int 0])), (tsj, .inr (0, [.int 0, .ref E, .int 0])), (tsc, .inr (0, [.int 0, .ref E, .int 0])), (tsa, .inr (1, [.ref ti1, .ref ti2, .ref ti3])), (ti1, .inl (cI, 9, .inl (fun _ => 0))), (ti2, .inl (cI, 9, .inl (fun _ => 0))), (ti3, .inl (cI, 9, .inl (fun _ => 0))), (o, .inr (13, [.int 0, .ref zb, .ref fg])), (zb, .inr (9, [.int 0, .int 3000, .int 0, .int 0, .int 0, .ref zbp, .ref zbj, .ref zbc, .ref zba, .int 0, .int 0, .int 0, .int 0, .int 0, .int 0])), (zbp, .inr (0, [.int 0, .ref E, .int 0])), (zbj, .inr (0, [.int 0, .ref E, .int 0])), (zbc, .inr (0, [.int 0, .ref E, .int 0])), (zba, .inr (0, [.int 0, .ref E, .int 0])), (fg, .inr (0, [.int 0, .ref E, .int 0])), (out, .inl (cL, 1, .inr (.inl (fun _ => 0))))]) (hS : va_S A s.heap H locs) (hl : lv_has ls 9 [(4, .int 0), (3, .ref out), (2, .ref o), (1, .ref h), (0, .ref b)]) : W p l e room_1 s m #[Value.ref b] below meth c H locs 26 148 (lw_Z below #[Value.ref b] s) (F0 m 1263 ls []) := by
  obtain ⟨hx, hb, hr, hml, hown, hts, hX, hbl, hlocks, hl9, hE, hA, hA2⟩ := id C
  have hbA : ¬ A b := fun h => absurd (hA2 b h) (Nat.not_le.mpr hbl)
  refine lv_aload_n hx hb dL_law_1263 rfl (lv_at hl 3 rfl) ?_
  refine lv_aload_n hx hb dL_law_1264 rfl (lv_at hl 4 rfl) ?_
  refine lv_iload hx hb dL_law_1265 (lv_at hl 0 rfl) ?_
  refine lv_iconst (v := 1) hx hb dL_law_1267 (by decide) ?_
  refine f_iadd (v := 1) hx hb dL_law_1268 (by decide) ?_
  refine va_sld hx hb hX hbl hbA hS (by unfold vp_in; decide) dL_law_1269 ?_
  refine f_topi (v := p0) (f_xs hs1) ?_
  refine lv_aload_n hx hb dL_law_1270 rfl (lv_at hl 1 rfl) ?_
  refine f_aft_i (wr := [(o, .inr (13, [.int 0, .ref zb, .ref fg])), (zb, .inr (9, [.int 0, .int 3000, .int 0, .int 0, .int 0, .ref zbp, .ref zbj, .ref zbc, .ref zba, .int 0, .int 0, .int 0, .int 0, .int 0, .int 0])), (zbp, .inr (0, [.int 0, .ref E, .int 0])), (zbj, .inr (0, [.int 0, .ref E, .int 0])), (zbc, .inr (0, [.int 0, .ref E, .int 0])), (zba, .inr (0, [.int 0, .ref E, .int 0])), (fg, .inr (0, [.int 0, .ref E, .int 0]))]) (f_runSW (As := [.ref h, .int p0, .ref out]) (rest := []) hx hb hml hown hts (kL_falls_b l hl9 D cI cO cL E M h f sh sp sj sc sa i1 i2 i3 tsh tsp tsj tsc tsa ti1 ti2 ti3 out p0 h1 h2 H.size) (fcwSW 3 hts q862 q863 q80 q864 rfl rfl (by decide +kernel) ⟨(Nat.le_of_ble_eq_true rfl), (Nat.le_of_ble_eq_true rfl)⟩) hE hP hD hS hA [0, 1, 2, 3, 4, 5, 6, 7, 8, 9, 10, 11, 12, 13, 14, 15, 16, 17, 25] rfl (by decide) rfl hl.1 rfl (Nat.le_of_ble_eq_true rfl) dL_law_1271 ⟨(Nat.le_of_ble_eq_true rfl), (Nat.le_of_ble_eq_true rfl)⟩) hP hD hS hA [0, 1, 2, 3, 4, 5, 6, 7, 8, 9, 10, 11, 12, 13, 14, 15, 16, 17, 25] [18, 19, 20, 21, 22, 23, 24] rfl rfl (by decide) (by decide) (fun r u H locs hr0 hP hD hS => ?_)
  subst hr0
  have hP : va_P D vwCl [(o, .inr (13, [.int 0, .ref zb, .ref fg])), (zb, .inr (9, [.int 0, .int 3000, .int 0, .int 0, .int 0, .ref zbp, .ref zbj, .ref zbc, .ref zba, .int 0, .int 0, .int 0, .int 0, .int 0, .int 0])), (zbp, .inr (0, [.int 0, .ref E, .int 0])), (zbj, .inr (0, [.int 0, .ref E, .int 0])), (zbc, .inr (0, [.int 0, .ref E, .int 0])), (zba, .inr (0, [.int 0, .ref E, .int 0])), (fg, .inr (0, [.int 0, .ref E, .int 0]))] H := hP
  have hD : va_D A [(o, .inr (13, [.int 0, .ref zb, .ref fg])), (zb, .inr (9, [.int 0, .int 3000, .int 0, .int 0, .int 0, .ref zbp, .ref zbj, .ref zbc, .ref zba, .int 0, .int 0, .int 0, .int 0, .int 0, .int 0])), (zbp, .inr (0, [.int 0, .ref E, .int 0])), (zbj, .inr (0, [.int 0, .ref E, .int 0])), (zbc, .inr (0, [.int 0, .ref E, .int 0])), (zba, .inr (0, [.int 0, .ref E, .int 0])), (fg, .inr (0, [.int 0, .ref E, .int 0]))] := hD
  refine lv_istore (lv' := [(5, .int 1), (4, .int 0), (3, .ref out), (2, .ref o), (1, .ref h), (0, .ref b)]) hx hb dL_law_1274 hl (by decide) rfl (fun ls hl => ?_)
  refine lv_aload_n hx hb dL_law_1276 rfl (lv_at hl 3 rfl) ?_
  refine lv_aload_n hx hb dL_law_1277 rfl (lv_at hl 5 rfl) ?_
  refine lv_iload hx hb dL_law_1278 (lv_at hl 1 rfl) ?_
  refine lv_iconst (v := 1) hx hb dL_law_1280 (by decide) ?_
  refine f_iadd (v := 1) hx hb dL_law_1281 (by decide) ?_
  refine va_sld hx hb hX hbl hbA hS (by unfold vp_in; decide) dL_law_1282 ?_
  refine f_topi (v := p0) (f_xs hs1) ?_
  refine f_aft_i (wr := []) (f_runV (As := [.int p0]) (rest := []) hx hb hml hown hts (kX12_falls_b l D cI cO cL E M o zb zbp zbj zbc zba fg p0 h1 h2 H.size) (fcwV 1 hts q871 q872 q873 q5 q874 rfl rfl (by decide +kernel) ⟨(Nat.le_of_ble_eq_true rfl), (Nat.le_of_ble_eq_true rfl)⟩) hE hP hD hS hA [0, 1, 2, 3, 4, 5, 6] rfl (by decide) (q0 := 0) (ci := 13) rfl rfl rfl rfl hl.1 rfl (Nat.le_of_ble_eq_true rfl) dL_law_1283 ⟨(Nat.le_of_ble_eq_true rfl), (Nat.le_of_ble_eq_true rfl)⟩) hP hD hS hA [0, 1, 2, 3, 4, 5, 6] [] rfl rfl (by decide) (by decide) (fun r u H locs hr0 hP hD hS => ?_)
  subst hr0
  have hP : va_P D vwCl [(o, .inr (13, [.int 1, .ref zb, .ref fg]))] H := hP
  have hD : va_D A [(o, .inr (13, [.int 1, .ref zb, .ref fg]))] := hD
  refine lv_istore (lv' := [(6, .int 0), (5, .int 1), (4, .int 0), (3, .ref out), (2, .ref o), (1, .ref h), (0, .ref b)]) hx hb dL_law_1286 hl (by decide) rfl (fun ls hl => ?_)
  refine lv_aload_n hx hb dL_law_1288 rfl (lv_at hl 4 rfl) ?_
  refine f_aft_i (wr := []) (f_runV (As := []) (rest := []) hx hb hml hown hts (kX12_thrown l D cI cO cL E M o zb fg 1 H.size) (fcwV 0 hts q186 q187 q188 q5 q189 rfl rfl (by decide +kernel) ⟨(Nat.le_of_ble_eq_true rfl), (Nat.le_of_ble_eq_true rfl)⟩) hE hP hD hS hA [0] rfl (by decide) (q0 := 0) (ci := 13) rfl rfl rfl rfl hl.1 rfl (Nat.le_of_ble_eq_true rfl) dL_law_1289 ⟨(Nat.le_of_ble_eq_true rfl), (Nat.le_of_ble_eq_true rfl)⟩) hP hD hS hA [0] [] rfl rfl (by decide) (by decide) (fun r u H locs hr0 hP hD hS => ?_)
  subst hr0
  have hP : va_P D vwCl [(o, .inr (13, [.int 1, .ref zb, .ref fg]))] H := hP
  have hD : va_D A [(o, .inr (13, [.int 1, .ref zb, .ref fg]))] := hD
  refine lv_iload hx hb dL_law_1292 (lv_at hl 1 rfl) ?_
  refine lv_icmp_eq (tgt := 1299) hx hb dL_law_1294 (by decide) (fun _ => ?_) (fun h => absurd (by decide) h)
  refine lv_iload hx hb dL_law_1299 (lv_at hl 1 rfl) ?_
  refine lv_if_ne (tgt := 1316) hx hb dL_law_1301 (by decide) (fun _ => ?_) (fun h => absurd h (by decide))
  refine lv_goto (tgt := 1758) hx hb dL_law_1316 (by decide) ?_
  refine W.widen (k := 3000) (n := 30000) (Nat.le_of_ble_eq_true rfl) (Nat.le_of_ble_eq_true rfl) ?_
  exact law_end C hS (lv_sub hl [2, 6] rfl)
set_option maxHeartbeats 4000000 in
set_option maxRecDepth 100000 in
theorem law_many_0 {p : Program} {l : Launch} {e : Env} {s : State} {m : MethodId} {below : List Frame} {meth : Method} {c : Code} {b : Nat} {xs : Nat → Int32} {D : va_G} {cI cO cL : ClassId} {E M : Nat} {A : Nat → Prop} (C : fLC p l s m meth c b xs D cI cO cL E M A) {h f sh sp sj sc sa i1 i2 i3 tsh tsp tsj tsc tsa ti1 ti2 ti3 o zb zbp zbj zbc zba fg out : Nat}  (hs1 : (1 : Int32).toNatClampNeg = 1 ∧ xs 1 = 0)  {H : Heap} {locs : List Loc} {ls : Array Slot} (hP : va_P D vwCl [(h, .inr (8, [.ref f, .ref sh, .ref tsh])), (f, .inr (0, [.int 0, .ref E, .int 0])), (sh, .inr (6, [.ref sp, .ref sj, .ref sc, .ref sa, .int 0, .int 3000, .int 0, .int 0, .int 0, .int 0, .int 0, .int 0, .int 0, .int 0, .int 0])), (sp, .inr (0, [.int 0, .ref E, .int 0])), (sj, .inr (0, [.int 0, .ref E, .int 0])), (sc, .inr (0, [.int 0, .ref E, .int 0])), (sa, .inr (1, [.ref i1, .ref i2, .ref i3])), (i1, .inl (cI, 9, .inl (fun _ => 0))), (i2, .inl (cI, 9, .inl (fun _ => 0))), (i3, .inl (cI, 9, .inl (fun _ => 0))), (tsh, .inr (6, [.ref tsp, .ref tsj, .ref tsc, .ref tsa, .int 0, .int 3000, .int 0, .int 0, .int 0, .int 0, .int 0, .int 0, .int 0, .int 0, .int 0])), (tsp, .inr (0, [.int 0, .ref E, .int 0])), (tsj, .inr (0, [.int 0, .ref E, .int 0])), (tsc, .inr (0, [.int 0, .ref E, .int 0])), (tsa, .inr (1, [.ref ti1, .ref ti2, .ref ti3])), (ti1, .inl (cI, 9, .inl (fun _ => 0))), (ti2, .inl (cI, 9, .inl (fun _ => 0))), (ti3, .inl (cI, 9, .inl (fun _ => 0))), (o, .inr (13, [.int 0, .ref zb, .ref fg])), (zb, .inr (9, [.int 0, .int 3000, .int 0, .int 0, .int 0, .ref zbp, .ref zbj, .ref zbc, .ref zba, .int 0, .int 0, .int 0, .int 0, .int 0, .int 0])), (zbp, .inr (0, [.int 0, .ref E, .int 0])), (zbj, .inr (0, [.int 0, .ref E, .int 0])), (zbc, .inr (0, [.int 0, .ref E, .int 0])), (zba, .inr (0, [.int 0, .ref E, .int 0])), (fg, .inr (0, [.int 0, .ref E, .int 0])), (out, .inl (cL, 1, .inr (.inl (fun _ => 0))))] H) (hD : va_D A [(h, .inr (8, [.ref f, .ref sh, .ref tsh])), (f, .inr (0, [.int 0, .ref E, .int 0])), (sh, .inr (6, [.ref sp, .ref sj, .ref sc, .ref sa, .int 0, .int 3000, .int 0, .int 0, .int 0, .int 0, .int 0, .int 0, .int 0, .int 0, .int 0])), (sp, .inr (0, [.int 0, .ref E, .int 0])), (sj, .inr (0, [.int 0, .ref E, .int 0])), (sc, .inr (0, [.int 0, .ref E, .int 0])), (sa, .inr (1, [.ref i1, .ref i2, .ref i3])), (i1, .inl (cI, 9, .inl (fun _ => 0))), (i2, .inl (cI, 9, .inl (fun _ => 0))), (i3, .inl (cI, 9, .inl (fun _ => 0))), (tsh, .inr (6, [.ref tsp, .ref tsj, .ref tsc, .ref tsa, .int 0, .int 3000, .int 0, .int 0, .int 0, .int 0, .int 0, .int 0, .int 0, .int 0, .int 0])), (tsp, .inr (0, [.int 0, .ref E, .int 0])), (tsj, .inr (0, [.int 0, .ref E, .int 0])), (tsc, .inr (0, [.int 0, .ref E, .int 0])), (tsa, .inr (1, [.ref ti1, .ref ti2, .ref ti3])), (ti1, .inl (cI, 9, .inl (fun _ => 0))), (ti2, .inl (cI, 9, .inl (fun _ => 0))), (ti3, .inl (cI, 9, .inl (fun _ => 0))), (o, .inr (13, [.int 0, .ref zb, .ref fg])), (zb, .inr (9, [.int 0, .int 3000, .int 0, .int 0, .int 0, .ref zbp, .ref zbj, .ref zbc, .ref zba, .int 0, .int 0, .int 0, .int 0, .int 0, .int 0])), (zbp, .inr (0, [.int 0, .ref E, .int 0])), (zbj, .inr (0, [.int 0, .ref E, .int 0])), (zbc, .inr (0, [.int 0, .ref E, .int 0])), (zba, .inr (0, [.int 0, .ref E, .int 0])), (fg, .inr (0, [.int 0, .ref E, .int 0])), (out, .inl (cL, 1, .inr (.inl (fun _ => 0))))]) (hS : va_S A s.heap H locs) (hl : lv_has ls 9 [(4, .int 0), (3, .ref out), (2, .ref o), (1, .ref h), (0, .ref b)]) : W p l e room_1 s m #[Value.ref b] below meth c H locs 26 148 (lw_Z below #[Value.ref b] s) (F0 m 1375 ls []) := by
  obtain ⟨hx, hb, hr, hml, hown, hts, hX, hbl, hlocks, hl9, hE, hA, hA2⟩ := id C
  have hbA : ¬ A b := fun h => absurd (hA2 b h) (Nat.not_le.mpr hbl)
  refine lv_aload_n hx hb dL_law_1375 rfl (lv_at hl 3 rfl) ?_
  refine lv_aload_n hx hb dL_law_1376 rfl (lv_at hl 4 rfl) ?_
  refine lv_iload hx hb dL_law_1377 (lv_at hl 0 rfl) ?_
  refine lv_iconst (v := 1) hx hb dL_law_1379 (by decide) ?_
  refine f_iadd (v := 1) hx hb dL_law_1380 (by decide) ?_
  refine va_sld hx hb hX hbl hbA hS (by unfold vp_in; decide) dL_law_1381 ?_
  refine f_topi (v := 0) (f_xs hs1) ?_
  refine lv_aload_n hx hb dL_law_1382 rfl (lv_at hl 1 rfl) ?_
  refine f_aft_i (wr := [(o, .inr (13, [.int 0, .ref zb, .ref fg])), (zb, .inr (9, [.int 0, .int 3000, .int 0, .int 0, .int 0, .ref zbp, .ref zbj, .ref zbc, .ref zba, .int 0, .int 0, .int 0, .int 0, .int 0, .int 0])), (zbp, .inr (0, [.int 0, .ref E, .int 0])), (zbj, .inr (0, [.int 0, .ref E, .int 0])), (zbc, .inr (0, [.int 0, .ref E, .int 0])), (zba, .inr (0, [.int 0, .ref E, .int 0])), (fg, .inr (0, [.int 0, .ref E, .int 0]))]) (f_runSW (As := [.ref h, .int 0, .ref out]) (rest := []) hx hb hml hown hts (kL_many_0 l D cI cO cL E M h f sh sp sj sc sa i1 i2 i3 tsh tsp tsj tsc tsa ti1 ti2 ti3 out H.size) (fcwSW 3 hts q907 q908 q80 q909 rfl rfl (by decide +kernel) ⟨(Nat.le_of_ble_eq_true rfl), (Nat.le_of_ble_eq_true rfl)⟩) hE hP hD hS hA [0, 1, 2, 3, 4, 5, 6, 7, 8, 9, 10, 11, 12, 13, 14, 15, 16, 17, 25] rfl (by decide) rfl hl.1 rfl (Nat.le_of_ble_eq_true rfl) dL_law_1383 ⟨(Nat.le_of_ble_eq_true rfl), (Nat.le_of_ble_eq_true rfl)⟩) hP hD hS hA [0, 1, 2, 3, 4, 5, 6, 7, 8, 9, 10, 11, 12, 13, 14, 15, 16, 17, 25] [18, 19, 20, 21, 22, 23, 24] rfl rfl (by decide) (by decide) (fun r u H locs hr0 hP hD hS => ?_)
  subst hr0
  have hP : va_P D vwCl [(o, .inr (13, [.int 0, .ref zb, .ref fg])), (zb, .inr (9, [.int 0, .int 3000, .int 0, .int 0, .int 0, .ref zbp, .ref zbj, .ref zbc, .ref zba, .int 0, .int 0, .int 0, .int 0, .int 0, .int 0])), (zbp, .inr (0, [.int 0, .ref E, .int 0])), (zbj, .inr (0, [.int 0, .ref E, .int 0])), (zbc, .inr (0, [.int 0, .ref E, .int 0])), (zba, .inr (0, [.int 0, .ref E, .int 0])), (fg, .inr (0, [.int 0, .ref E, .int 0])), (out, .inl (cL, 1, .inr (.inl (fun _ => 0))))] H := hP
  have hD : va_D A [(o, .inr (13, [.int 0, .ref zb, .ref fg])), (zb, .inr (9, [.int 0, .int 3000, .int 0, .int 0, .int 0, .ref zbp, .ref zbj, .ref zbc, .ref zba, .int 0, .int 0, .int 0, .int 0, .int 0, .int 0])), (zbp, .inr (0, [.int 0, .ref E, .int 0])), (zbj, .inr (0, [.int 0, .ref E, .int 0])), (zbc, .inr (0, [.int 0, .ref E, .int 0])), (zba, .inr (0, [.int 0, .ref E, .int 0])), (fg, .inr (0, [.int 0, .ref E, .int 0])), (out, .inl (cL, 1, .inr (.inl (fun _ => 0))))] := hD
  refine lv_istore (lv' := [(5, .int 0), (4, .int 0), (3, .ref out), (2, .ref o), (1, .ref h), (0, .ref b)]) hx hb dL_law_1386 hl (by decide) rfl (fun ls hl => ?_)
  refine lv_aload_n hx hb dL_law_1388 rfl (lv_at hl 3 rfl) ?_
  refine lv_aload_n hx hb dL_law_1389 rfl (lv_at hl 5 rfl) ?_
  refine lv_iload hx hb dL_law_1390 (lv_at hl 1 rfl) ?_
  refine lv_iconst (v := 1) hx hb dL_law_1392 (by decide) ?_
  refine f_iadd (v := 1) hx hb dL_law_1393 (by decide) ?_
  refine va_sld hx hb hX hbl hbA hS (by unfold vp_in; decide) dL_law_1394 ?_
  refine f_topi (v := 0) (f_xs hs1) ?_
  refine f_aft_i (wr := [(out, .inl (cL, 1, .inr (.inl (fun _ => 0))))]) (f_runV (As := [.int 0]) (rest := []) hx hb hml hown hts (kX12_many_0 l D cI cO cL E M o zb zbp zbj zbc zba fg H.size) (fcwV 1 hts q930 q931 q932 q5 q933 rfl rfl (by decide +kernel) ⟨(Nat.le_of_ble_eq_true rfl), (Nat.le_of_ble_eq_true rfl)⟩) hE hP hD hS hA [0, 1, 2, 3, 4, 5, 6] rfl (by decide) (q0 := 0) (ci := 13) rfl rfl rfl rfl hl.1 rfl (Nat.le_of_ble_eq_true rfl) dL_law_1395 ⟨(Nat.le_of_ble_eq_true rfl), (Nat.le_of_ble_eq_true rfl)⟩) hP hD hS hA [0, 1, 2, 3, 4, 5, 6] [7] rfl rfl (by decide) (by decide) (fun r u H locs hr0 hP hD hS => ?_)
  subst hr0
  have hP : va_P D vwCl [(out, .inl (cL, 1, .inr (.inl (fun _ => 0)))), (o, .inr (13, [.int 0, .ref zb, .ref fg]))] H := hP
  have hD : va_D A [(out, .inl (cL, 1, .inr (.inl (fun _ => 0)))), (o, .inr (13, [.int 0, .ref zb, .ref fg]))] := hD
  refine lv_istore (lv' := [(6, .int 0), (5, .int 0), (4, .int 0), (3, .ref out), (2, .ref o), (1, .ref h), (0, .ref b)]) hx hb dL_law_1398 hl (by decide) rfl (fun ls hl => ?_)
  refine lv_aload_n hx hb dL_law_1400 rfl (lv_at hl 4 rfl) ?_
  refine f_aft_i (wr := [(out, .inl (cL, 1, .inr (.inl (fun _ => 0))))]) (f_runV (As := []) (rest := []) hx hb hml hown hts (kX12_thrown l D cI cO cL E M o zb fg 0 H.size) (fcwV 0 hts q186 q187 q188 q5 q189 rfl rfl (by decide +kernel) ⟨(Nat.le_of_ble_eq_true rfl), (Nat.le_of_ble_eq_true rfl)⟩) hE hP hD hS hA [1] rfl (by decide) (q0 := 1) (ci := 13) rfl rfl rfl rfl hl.1 rfl (Nat.le_of_ble_eq_true rfl) dL_law_1401 ⟨(Nat.le_of_ble_eq_true rfl), (Nat.le_of_ble_eq_true rfl)⟩) hP hD hS hA [1] [0] rfl rfl (by decide) (by decide) (fun r u H locs hr0 hP hD hS => ?_)
  subst hr0
  have hP : va_P D vwCl [(out, .inl (cL, 1, .inr (.inl (fun _ => 0)))), (o, .inr (13, [.int 0, .ref zb, .ref fg]))] H := hP
  have hD : va_D A [(out, .inl (cL, 1, .inr (.inl (fun _ => 0)))), (o, .inr (13, [.int 0, .ref zb, .ref fg]))] := hD
  refine lv_iload hx hb dL_law_1404 (lv_at hl 1 rfl) ?_
  refine lv_icmp_eq (tgt := 1411) hx hb dL_law_1406 (by decide) (fun _ => ?_) (fun h => absurd (by decide) h)
  refine lv_iload hx hb dL_law_1411 (lv_at hl 1 rfl) ?_
  refine lv_if_ne (tgt := 1428) hx hb dL_law_1413 (by decide) (fun h => absurd h (by decide)) (fun _ => ?_)
  refine lv_aload_n hx hb dL_law_1416 rfl (lv_at hl 3 rfl) ?_
  refine lv_iconst (v := 0) hx hb dL_law_1417 (by decide) ?_
  refine va_lald hx hb hE.1.1 hP 0 2 rfl rfl (by unfold vp_in; decide) dL_law_1418 ?_
  refine f_topl (v := 0) (rfl) ?_
  refine lv_iload hx hb dL_law_1419 (lv_at hl 0 rfl) ?_
  refine lv_i2l (v := 0) hx hb dL_law_1421 (by decide) ?_
  refine W.lcmp hx hb dL_law_1422 ?_
  refine f_topi (v := 0) (f_cmp0 _) ?_
  refine lv_if_eq (tgt := 1428) hx hb dL_law_1423 (by decide) (fun _ => ?_) (fun h => absurd (by decide) h)
  refine lv_goto (tgt := 1758) hx hb dL_law_1428 (by decide) ?_
  refine W.widen (k := 3000) (n := 30000) (Nat.le_of_ble_eq_true rfl) (Nat.le_of_ble_eq_true rfl) ?_
  exact law_end C hS (lv_sub hl [2, 6] rfl)
set_option maxHeartbeats 4000000 in
set_option maxRecDepth 100000 in
theorem law_many_1 {p : Program} {l : Launch} {e : Env} {s : State} {m : MethodId} {below : List Frame} {meth : Method} {c : Code} {b : Nat} {xs : Nat → Int32} {D : va_G} {cI cO cL : ClassId} {E M : Nat} {A : Nat → Prop} (C : fLC p l s m meth c b xs D cI cO cL E M A) {h f sh sp sj sc sa i1 i2 i3 tsh tsp tsj tsc tsa ti1 ti2 ti3 o zb zbp zbj zbc zba fg out : Nat}  (hs1 : (1 : Int32).toNatClampNeg = 1 ∧ xs 1 = 1)  {H : Heap} {locs : List Loc} {ls : Array Slot} (hP : va_P D vwCl [(h, .inr (8, [.ref f, .ref sh, .ref tsh])), (f, .inr (0, [.int 0, .ref E, .int 0])), (sh, .inr (6, [.ref sp, .ref sj, .ref sc, .ref sa, .int 0, .int 3000, .int 0, .int 0, .int 0, .int 0, .int 0, .int 0, .int 0, .int 0, .int 0])), (sp, .inr (0, [.int 0, .ref E, .int 0])), (sj, .inr (0, [.int 0, .ref E, .int 0])), (sc, .inr (0, [.int 0, .ref E, .int 0])), (sa, .inr (1, [.ref i1, .ref i2, .ref i3])), (i1, .inl (cI, 9, .inl (fun _ => 0))), (i2, .inl (cI, 9, .inl (fun _ => 0))), (i3, .inl (cI, 9, .inl (fun _ => 0))), (tsh, .inr (6, [.ref tsp, .ref tsj, .ref tsc, .ref tsa, .int 0, .int 3000, .int 0, .int 0, .int 0, .int 0, .int 0, .int 0, .int 0, .int 0, .int 0])), (tsp, .inr (0, [.int 0, .ref E, .int 0])), (tsj, .inr (0, [.int 0, .ref E, .int 0])), (tsc, .inr (0, [.int 0, .ref E, .int 0])), (tsa, .inr (1, [.ref ti1, .ref ti2, .ref ti3])), (ti1, .inl (cI, 9, .inl (fun _ => 0))), (ti2, .inl (cI, 9, .inl (fun _ => 0))), (ti3, .inl (cI, 9, .inl (fun _ => 0))), (o, .inr (13, [.int 0, .ref zb, .ref fg])), (zb, .inr (9, [.int 0, .int 3000, .int 0, .int 0, .int 0, .ref zbp, .ref zbj, .ref zbc, .ref zba, .int 0, .int 0, .int 0, .int 0, .int 0, .int 0])), (zbp, .inr (0, [.int 0, .ref E, .int 0])), (zbj, .inr (0, [.int 0, .ref E, .int 0])), (zbc, .inr (0, [.int 0, .ref E, .int 0])), (zba, .inr (0, [.int 0, .ref E, .int 0])), (fg, .inr (0, [.int 0, .ref E, .int 0])), (out, .inl (cL, 1, .inr (.inl (fun _ => 0))))] H) (hD : va_D A [(h, .inr (8, [.ref f, .ref sh, .ref tsh])), (f, .inr (0, [.int 0, .ref E, .int 0])), (sh, .inr (6, [.ref sp, .ref sj, .ref sc, .ref sa, .int 0, .int 3000, .int 0, .int 0, .int 0, .int 0, .int 0, .int 0, .int 0, .int 0, .int 0])), (sp, .inr (0, [.int 0, .ref E, .int 0])), (sj, .inr (0, [.int 0, .ref E, .int 0])), (sc, .inr (0, [.int 0, .ref E, .int 0])), (sa, .inr (1, [.ref i1, .ref i2, .ref i3])), (i1, .inl (cI, 9, .inl (fun _ => 0))), (i2, .inl (cI, 9, .inl (fun _ => 0))), (i3, .inl (cI, 9, .inl (fun _ => 0))), (tsh, .inr (6, [.ref tsp, .ref tsj, .ref tsc, .ref tsa, .int 0, .int 3000, .int 0, .int 0, .int 0, .int 0, .int 0, .int 0, .int 0, .int 0, .int 0])), (tsp, .inr (0, [.int 0, .ref E, .int 0])), (tsj, .inr (0, [.int 0, .ref E, .int 0])), (tsc, .inr (0, [.int 0, .ref E, .int 0])), (tsa, .inr (1, [.ref ti1, .ref ti2, .ref ti3])), (ti1, .inl (cI, 9, .inl (fun _ => 0))), (ti2, .inl (cI, 9, .inl (fun _ => 0))), (ti3, .inl (cI, 9, .inl (fun _ => 0))), (o, .inr (13, [.int 0, .ref zb, .ref fg])), (zb, .inr (9, [.int 0, .int 3000, .int 0, .int 0, .int 0, .ref zbp, .ref zbj, .ref zbc, .ref zba, .int 0, .int 0, .int 0, .int 0, .int 0, .int 0])), (zbp, .inr (0, [.int 0, .ref E, .int 0])), (zbj, .inr (0, [.int 0, .ref E, .int 0])), (zbc, .inr (0, [.int 0, .ref E, .int 0])), (zba, .inr (0, [.int 0, .ref E, .int 0])), (fg, .inr (0, [.int 0, .ref E, .int 0])), (out, .inl (cL, 1, .inr (.inl (fun _ => 0))))]) (hS : va_S A s.heap H locs) (hl : lv_has ls 9 [(4, .int 0), (3, .ref out), (2, .ref o), (1, .ref h), (0, .ref b)]) : W p l e room_1 s m #[Value.ref b] below meth c H locs 26 148 (lw_Z below #[Value.ref b] s) (F0 m 1375 ls []) := by
  obtain ⟨hx, hb, hr, hml, hown, hts, hX, hbl, hlocks, hl9, hE, hA, hA2⟩ := id C
  have hbA : ¬ A b := fun h => absurd (hA2 b h) (Nat.not_le.mpr hbl)
  refine lv_aload_n hx hb dL_law_1375 rfl (lv_at hl 3 rfl) ?_
  refine lv_aload_n hx hb dL_law_1376 rfl (lv_at hl 4 rfl) ?_
  refine lv_iload hx hb dL_law_1377 (lv_at hl 0 rfl) ?_
  refine lv_iconst (v := 1) hx hb dL_law_1379 (by decide) ?_
  refine f_iadd (v := 1) hx hb dL_law_1380 (by decide) ?_
  refine va_sld hx hb hX hbl hbA hS (by unfold vp_in; decide) dL_law_1381 ?_
  refine f_topi (v := 1) (f_xs hs1) ?_
  refine lv_aload_n hx hb dL_law_1382 rfl (lv_at hl 1 rfl) ?_
  refine f_aft_i (wr := [(o, .inr (13, [.int 0, .ref zb, .ref fg])), (zb, .inr (9, [.int 0, .int 3000, .int 0, .int 0, .int 0, .ref zbp, .ref zbj, .ref zbc, .ref zba, .int 0, .int 0, .int 0, .int 0, .int 0, .int 0])), (zbp, .inr (0, [.int 0, .ref E, .int 0])), (zbj, .inr (0, [.int 0, .ref E, .int 0])), (zbc, .inr (0, [.int 0, .ref E, .int 0])), (zba, .inr (0, [.int 0, .ref E, .int 0])), (fg, .inr (0, [.int 0, .ref E, .int 0]))]) (f_runSW (As := [.ref h, .int 1, .ref out]) (rest := []) hx hb hml hown hts (kL_many_1 l D cI cO cL E M h f sh sp sj sc sa i1 i2 i3 tsh tsp tsj tsc tsa ti1 ti2 ti3 out H.size) (fcwSW 3 hts q907 q908 q80 q909 rfl rfl (by decide +kernel) ⟨(Nat.le_of_ble_eq_true rfl), (Nat.le_of_ble_eq_true rfl)⟩) hE hP hD hS hA [0, 1, 2, 3, 4, 5, 6, 7, 8, 9, 10, 11, 12, 13, 14, 15, 16, 17, 25] rfl (by decide) rfl hl.1 rfl (Nat.le_of_ble_eq_true rfl) dL_law_1383 ⟨(Nat.le_of_ble_eq_true rfl), (Nat.le_of_ble_eq_true rfl)⟩) hP hD hS hA [0, 1, 2, 3, 4, 5, 6, 7, 8, 9, 10, 11, 12, 13, 14, 15, 16, 17, 25] [18, 19, 20, 21, 22, 23, 24] rfl rfl (by decide) (by decide) (fun r u H locs hr0 hP hD hS => ?_)
  subst hr0
  have hP : va_P D vwCl [(o, .inr (13, [.int 0, .ref zb, .ref fg])), (zb, .inr (9, [.int 0, .int 3000, .int 0, .int 0, .int 0, .ref zbp, .ref zbj, .ref zbc, .ref zba, .int 0, .int 0, .int 0, .int 0, .int 0, .int 0])), (zbp, .inr (0, [.int 0, .ref E, .int 0])), (zbj, .inr (0, [.int 0, .ref E, .int 0])), (zbc, .inr (0, [.int 0, .ref E, .int 0])), (zba, .inr (0, [.int 0, .ref E, .int 0])), (fg, .inr (0, [.int 0, .ref E, .int 0])), (out, .inl (cL, 1, .inr (.inl (fun _ => 0))))] H := hP
  have hD : va_D A [(o, .inr (13, [.int 0, .ref zb, .ref fg])), (zb, .inr (9, [.int 0, .int 3000, .int 0, .int 0, .int 0, .ref zbp, .ref zbj, .ref zbc, .ref zba, .int 0, .int 0, .int 0, .int 0, .int 0, .int 0])), (zbp, .inr (0, [.int 0, .ref E, .int 0])), (zbj, .inr (0, [.int 0, .ref E, .int 0])), (zbc, .inr (0, [.int 0, .ref E, .int 0])), (zba, .inr (0, [.int 0, .ref E, .int 0])), (fg, .inr (0, [.int 0, .ref E, .int 0])), (out, .inl (cL, 1, .inr (.inl (fun _ => 0))))] := hD
  refine lv_istore (lv' := [(5, .int 0), (4, .int 0), (3, .ref out), (2, .ref o), (1, .ref h), (0, .ref b)]) hx hb dL_law_1386 hl (by decide) rfl (fun ls hl => ?_)
  refine lv_aload_n hx hb dL_law_1388 rfl (lv_at hl 3 rfl) ?_
  refine lv_aload_n hx hb dL_law_1389 rfl (lv_at hl 5 rfl) ?_
  refine lv_iload hx hb dL_law_1390 (lv_at hl 1 rfl) ?_
  refine lv_iconst (v := 1) hx hb dL_law_1392 (by decide) ?_
  refine f_iadd (v := 1) hx hb dL_law_1393 (by decide) ?_
  refine va_sld hx hb hX hbl hbA hS (by unfold vp_in; decide) dL_law_1394 ?_
  refine f_topi (v := 1) (f_xs hs1) ?_
  refine f_aft_i (wr := [(out, .inl (cL, 1, .inr (.inl (fun _ => 0))))]) (f_runV (As := [.int 1]) (rest := []) hx hb hml hown hts (kX12_many_1 l D cI cO cL E M o zb zbp zbj zbc zba fg H.size) (fcwV 1 hts q930 q931 q932 q5 q933 rfl rfl (by decide +kernel) ⟨(Nat.le_of_ble_eq_true rfl), (Nat.le_of_ble_eq_true rfl)⟩) hE hP hD hS hA [0, 1, 2, 3, 4, 5, 6] rfl (by decide) (q0 := 0) (ci := 13) rfl rfl rfl rfl hl.1 rfl (Nat.le_of_ble_eq_true rfl) dL_law_1395 ⟨(Nat.le_of_ble_eq_true rfl), (Nat.le_of_ble_eq_true rfl)⟩) hP hD hS hA [0, 1, 2, 3, 4, 5, 6] [7] rfl rfl (by decide) (by decide) (fun r u H locs hr0 hP hD hS => ?_)
  subst hr0
  have hP : va_P D vwCl [(out, .inl (cL, 1, .inr (.inl (fun _ => 0)))), (o, .inr (13, [.int 0, .ref zb, .ref fg]))] H := hP
  have hD : va_D A [(out, .inl (cL, 1, .inr (.inl (fun _ => 0)))), (o, .inr (13, [.int 0, .ref zb, .ref fg]))] := hD
  refine lv_istore (lv' := [(6, .int 0), (5, .int 0), (4, .int 0), (3, .ref out), (2, .ref o), (1, .ref h), (0, .ref b)]) hx hb dL_law_1398 hl (by decide) rfl (fun ls hl => ?_)
  refine lv_aload_n hx hb dL_law_1400 rfl (lv_at hl 4 rfl) ?_
  refine f_aft_i (wr := [(out, .inl (cL, 1, .inr (.inl (fun _ => 0))))]) (f_runV (As := []) (rest := []) hx hb hml hown hts (kX12_thrown l D cI cO cL E M o zb fg 0 H.size) (fcwV 0 hts q186 q187 q188 q5 q189 rfl rfl (by decide +kernel) ⟨(Nat.le_of_ble_eq_true rfl), (Nat.le_of_ble_eq_true rfl)⟩) hE hP hD hS hA [1] rfl (by decide) (q0 := 1) (ci := 13) rfl rfl rfl rfl hl.1 rfl (Nat.le_of_ble_eq_true rfl) dL_law_1401 ⟨(Nat.le_of_ble_eq_true rfl), (Nat.le_of_ble_eq_true rfl)⟩) hP hD hS hA [1] [0] rfl rfl (by decide) (by decide) (fun r u H locs hr0 hP hD hS => ?_)
  subst hr0
  have hP : va_P D vwCl [(out, .inl (cL, 1, .inr (.inl (fun _ => 0)))), (o, .inr (13, [.int 0, .ref zb, .ref fg]))] H := hP
  have hD : va_D A [(out, .inl (cL, 1, .inr (.inl (fun _ => 0)))), (o, .inr (13, [.int 0, .ref zb, .ref fg]))] := hD
  refine lv_iload hx hb dL_law_1404 (lv_at hl 1 rfl) ?_
  refine lv_icmp_eq (tgt := 1411) hx hb dL_law_1406 (by decide) (fun _ => ?_) (fun h => absurd (by decide) h)
  refine lv_iload hx hb dL_law_1411 (lv_at hl 1 rfl) ?_
  refine lv_if_ne (tgt := 1428) hx hb dL_law_1413 (by decide) (fun h => absurd h (by decide)) (fun _ => ?_)
  refine lv_aload_n hx hb dL_law_1416 rfl (lv_at hl 3 rfl) ?_
  refine lv_iconst (v := 0) hx hb dL_law_1417 (by decide) ?_
  refine va_lald hx hb hE.1.1 hP 0 2 rfl rfl (by unfold vp_in; decide) dL_law_1418 ?_
  refine f_topl (v := 0) (rfl) ?_
  refine lv_iload hx hb dL_law_1419 (lv_at hl 0 rfl) ?_
  refine lv_i2l (v := 0) hx hb dL_law_1421 (by decide) ?_
  refine W.lcmp hx hb dL_law_1422 ?_
  refine f_topi (v := 0) (f_cmp0 _) ?_
  refine lv_if_eq (tgt := 1428) hx hb dL_law_1423 (by decide) (fun _ => ?_) (fun h => absurd (by decide) h)
  refine lv_goto (tgt := 1758) hx hb dL_law_1428 (by decide) ?_
  refine W.widen (k := 3000) (n := 30000) (Nat.le_of_ble_eq_true rfl) (Nat.le_of_ble_eq_true rfl) ?_
  exact law_end C hS (lv_sub hl [2, 6] rfl)
set_option maxHeartbeats 4000000 in
set_option maxRecDepth 100000 in
theorem law_many_2 {p : Program} {l : Launch} {e : Env} {s : State} {m : MethodId} {below : List Frame} {meth : Method} {c : Code} {b : Nat} {xs : Nat → Int32} {D : va_G} {cI cO cL : ClassId} {E M : Nat} {A : Nat → Prop} (C : fLC p l s m meth c b xs D cI cO cL E M A) {h f sh sp sj sc sa i1 i2 i3 tsh tsp tsj tsc tsa ti1 ti2 ti3 o zb zbp zbj zbc zba fg out : Nat}  (hs1 : (1 : Int32).toNatClampNeg = 1 ∧ xs 1 = 2)  {H : Heap} {locs : List Loc} {ls : Array Slot} (hP : va_P D vwCl [(h, .inr (8, [.ref f, .ref sh, .ref tsh])), (f, .inr (0, [.int 0, .ref E, .int 0])), (sh, .inr (6, [.ref sp, .ref sj, .ref sc, .ref sa, .int 0, .int 3000, .int 0, .int 0, .int 0, .int 0, .int 0, .int 0, .int 0, .int 0, .int 0])), (sp, .inr (0, [.int 0, .ref E, .int 0])), (sj, .inr (0, [.int 0, .ref E, .int 0])), (sc, .inr (0, [.int 0, .ref E, .int 0])), (sa, .inr (1, [.ref i1, .ref i2, .ref i3])), (i1, .inl (cI, 9, .inl (fun _ => 0))), (i2, .inl (cI, 9, .inl (fun _ => 0))), (i3, .inl (cI, 9, .inl (fun _ => 0))), (tsh, .inr (6, [.ref tsp, .ref tsj, .ref tsc, .ref tsa, .int 0, .int 3000, .int 0, .int 0, .int 0, .int 0, .int 0, .int 0, .int 0, .int 0, .int 0])), (tsp, .inr (0, [.int 0, .ref E, .int 0])), (tsj, .inr (0, [.int 0, .ref E, .int 0])), (tsc, .inr (0, [.int 0, .ref E, .int 0])), (tsa, .inr (1, [.ref ti1, .ref ti2, .ref ti3])), (ti1, .inl (cI, 9, .inl (fun _ => 0))), (ti2, .inl (cI, 9, .inl (fun _ => 0))), (ti3, .inl (cI, 9, .inl (fun _ => 0))), (o, .inr (13, [.int 0, .ref zb, .ref fg])), (zb, .inr (9, [.int 0, .int 3000, .int 0, .int 0, .int 0, .ref zbp, .ref zbj, .ref zbc, .ref zba, .int 0, .int 0, .int 0, .int 0, .int 0, .int 0])), (zbp, .inr (0, [.int 0, .ref E, .int 0])), (zbj, .inr (0, [.int 0, .ref E, .int 0])), (zbc, .inr (0, [.int 0, .ref E, .int 0])), (zba, .inr (0, [.int 0, .ref E, .int 0])), (fg, .inr (0, [.int 0, .ref E, .int 0])), (out, .inl (cL, 1, .inr (.inl (fun _ => 0))))] H) (hD : va_D A [(h, .inr (8, [.ref f, .ref sh, .ref tsh])), (f, .inr (0, [.int 0, .ref E, .int 0])), (sh, .inr (6, [.ref sp, .ref sj, .ref sc, .ref sa, .int 0, .int 3000, .int 0, .int 0, .int 0, .int 0, .int 0, .int 0, .int 0, .int 0, .int 0])), (sp, .inr (0, [.int 0, .ref E, .int 0])), (sj, .inr (0, [.int 0, .ref E, .int 0])), (sc, .inr (0, [.int 0, .ref E, .int 0])), (sa, .inr (1, [.ref i1, .ref i2, .ref i3])), (i1, .inl (cI, 9, .inl (fun _ => 0))), (i2, .inl (cI, 9, .inl (fun _ => 0))), (i3, .inl (cI, 9, .inl (fun _ => 0))), (tsh, .inr (6, [.ref tsp, .ref tsj, .ref tsc, .ref tsa, .int 0, .int 3000, .int 0, .int 0, .int 0, .int 0, .int 0, .int 0, .int 0, .int 0, .int 0])), (tsp, .inr (0, [.int 0, .ref E, .int 0])), (tsj, .inr (0, [.int 0, .ref E, .int 0])), (tsc, .inr (0, [.int 0, .ref E, .int 0])), (tsa, .inr (1, [.ref ti1, .ref ti2, .ref ti3])), (ti1, .inl (cI, 9, .inl (fun _ => 0))), (ti2, .inl (cI, 9, .inl (fun _ => 0))), (ti3, .inl (cI, 9, .inl (fun _ => 0))), (o, .inr (13, [.int 0, .ref zb, .ref fg])), (zb, .inr (9, [.int 0, .int 3000, .int 0, .int 0, .int 0, .ref zbp, .ref zbj, .ref zbc, .ref zba, .int 0, .int 0, .int 0, .int 0, .int 0, .int 0])), (zbp, .inr (0, [.int 0, .ref E, .int 0])), (zbj, .inr (0, [.int 0, .ref E, .int 0])), (zbc, .inr (0, [.int 0, .ref E, .int 0])), (zba, .inr (0, [.int 0, .ref E, .int 0])), (fg, .inr (0, [.int 0, .ref E, .int 0])), (out, .inl (cL, 1, .inr (.inl (fun _ => 0))))]) (hS : va_S A s.heap H locs) (hl : lv_has ls 9 [(4, .int 0), (3, .ref out), (2, .ref o), (1, .ref h), (0, .ref b)]) : W p l e room_1 s m #[Value.ref b] below meth c H locs 26 148 (lw_Z below #[Value.ref b] s) (F0 m 1375 ls []) := by
  obtain ⟨hx, hb, hr, hml, hown, hts, hX, hbl, hlocks, hl9, hE, hA, hA2⟩ := id C
  have hbA : ¬ A b := fun h => absurd (hA2 b h) (Nat.not_le.mpr hbl)
  refine lv_aload_n hx hb dL_law_1375 rfl (lv_at hl 3 rfl) ?_
  refine lv_aload_n hx hb dL_law_1376 rfl (lv_at hl 4 rfl) ?_
  refine lv_iload hx hb dL_law_1377 (lv_at hl 0 rfl) ?_
  refine lv_iconst (v := 1) hx hb dL_law_1379 (by decide) ?_
  refine f_iadd (v := 1) hx hb dL_law_1380 (by decide) ?_
  refine va_sld hx hb hX hbl hbA hS (by unfold vp_in; decide) dL_law_1381 ?_
  refine f_topi (v := 2) (f_xs hs1) ?_
  refine lv_aload_n hx hb dL_law_1382 rfl (lv_at hl 1 rfl) ?_
  refine f_aft_i (wr := [(o, .inr (13, [.int 0, .ref zb, .ref fg])), (zb, .inr (9, [.int 0, .int 3000, .int 0, .int 0, .int 0, .ref zbp, .ref zbj, .ref zbc, .ref zba, .int 0, .int 0, .int 0, .int 0, .int 0, .int 0])), (zbp, .inr (0, [.int 0, .ref E, .int 0])), (zbj, .inr (0, [.int 0, .ref E, .int 0])), (zbc, .inr (0, [.int 0, .ref E, .int 0])), (zba, .inr (0, [.int 0, .ref E, .int 0])), (fg, .inr (0, [.int 0, .ref E, .int 0]))]) (f_runSW (As := [.ref h, .int 2, .ref out]) (rest := []) hx hb hml hown hts (kL_many_2 l D cI cO cL E M h f sh sp sj sc sa i1 i2 i3 tsh tsp tsj tsc tsa ti1 ti2 ti3 out H.size) (fcwSW 3 hts q907 q908 q80 q909 rfl rfl (by decide +kernel) ⟨(Nat.le_of_ble_eq_true rfl), (Nat.le_of_ble_eq_true rfl)⟩) hE hP hD hS hA [0, 1, 2, 3, 4, 5, 6, 7, 8, 9, 10, 11, 12, 13, 14, 15, 16, 17, 25] rfl (by decide) rfl hl.1 rfl (Nat.le_of_ble_eq_true rfl) dL_law_1383 ⟨(Nat.le_of_ble_eq_true rfl), (Nat.le_of_ble_eq_true rfl)⟩) hP hD hS hA [0, 1, 2, 3, 4, 5, 6, 7, 8, 9, 10, 11, 12, 13, 14, 15, 16, 17, 25] [18, 19, 20, 21, 22, 23, 24] rfl rfl (by decide) (by decide) (fun r u H locs hr0 hP hD hS => ?_)
  subst hr0
  have hP : va_P D vwCl [(o, .inr (13, [.int 0, .ref zb, .ref fg])), (zb, .inr (9, [.int 0, .int 3000, .int 0, .int 0, .int 0, .ref zbp, .ref zbj, .ref zbc, .ref zba, .int 0, .int 0, .int 0, .int 0, .int 0, .int 0])), (zbp, .inr (0, [.int 0, .ref E, .int 0])), (zbj, .inr (0, [.int 0, .ref E, .int 0])), (zbc, .inr (0, [.int 0, .ref E, .int 0])), (zba, .inr (0, [.int 0, .ref E, .int 0])), (fg, .inr (0, [.int 0, .ref E, .int 0])), (out, .inl (cL, 1, .inr (.inl (fun _ => 0))))] H := hP
  have hD : va_D A [(o, .inr (13, [.int 0, .ref zb, .ref fg])), (zb, .inr (9, [.int 0, .int 3000, .int 0, .int 0, .int 0, .ref zbp, .ref zbj, .ref zbc, .ref zba, .int 0, .int 0, .int 0, .int 0, .int 0, .int 0])), (zbp, .inr (0, [.int 0, .ref E, .int 0])), (zbj, .inr (0, [.int 0, .ref E, .int 0])), (zbc, .inr (0, [.int 0, .ref E, .int 0])), (zba, .inr (0, [.int 0, .ref E, .int 0])), (fg, .inr (0, [.int 0, .ref E, .int 0])), (out, .inl (cL, 1, .inr (.inl (fun _ => 0))))] := hD
  refine lv_istore (lv' := [(5, .int 0), (4, .int 0), (3, .ref out), (2, .ref o), (1, .ref h), (0, .ref b)]) hx hb dL_law_1386 hl (by decide) rfl (fun ls hl => ?_)
  refine lv_aload_n hx hb dL_law_1388 rfl (lv_at hl 3 rfl) ?_
  refine lv_aload_n hx hb dL_law_1389 rfl (lv_at hl 5 rfl) ?_
  refine lv_iload hx hb dL_law_1390 (lv_at hl 1 rfl) ?_
  refine lv_iconst (v := 1) hx hb dL_law_1392 (by decide) ?_
  refine f_iadd (v := 1) hx hb dL_law_1393 (by decide) ?_
  refine va_sld hx hb hX hbl hbA hS (by unfold vp_in; decide) dL_law_1394 ?_
  refine f_topi (v := 2) (f_xs hs1) ?_
  refine f_aft_i (wr := [(out, .inl (cL, 1, .inr (.inl (fun _ => 0))))]) (f_runV (As := [.int 2]) (rest := []) hx hb hml hown hts (kX12_many_2 l D cI cO cL E M o zb zbp zbj zbc zba fg H.size) (fcwV 1 hts q930 q931 q932 q5 q933 rfl rfl (by decide +kernel) ⟨(Nat.le_of_ble_eq_true rfl), (Nat.le_of_ble_eq_true rfl)⟩) hE hP hD hS hA [0, 1, 2, 3, 4, 5, 6] rfl (by decide) (q0 := 0) (ci := 13) rfl rfl rfl rfl hl.1 rfl (Nat.le_of_ble_eq_true rfl) dL_law_1395 ⟨(Nat.le_of_ble_eq_true rfl), (Nat.le_of_ble_eq_true rfl)⟩) hP hD hS hA [0, 1, 2, 3, 4, 5, 6] [7] rfl rfl (by decide) (by decide) (fun r u H locs hr0 hP hD hS => ?_)
  subst hr0
  have hP : va_P D vwCl [(out, .inl (cL, 1, .inr (.inl (fun _ => 0)))), (o, .inr (13, [.int 0, .ref zb, .ref fg]))] H := hP
  have hD : va_D A [(out, .inl (cL, 1, .inr (.inl (fun _ => 0)))), (o, .inr (13, [.int 0, .ref zb, .ref fg]))] := hD
  refine lv_istore (lv' := [(6, .int 0), (5, .int 0), (4, .int 0), (3, .ref out), (2, .ref o), (1, .ref h), (0, .ref b)]) hx hb dL_law_1398 hl (by decide) rfl (fun ls hl => ?_)
  refine lv_aload_n hx hb dL_law_1400 rfl (lv_at hl 4 rfl) ?_
  refine f_aft_i (wr := [(out, .inl (cL, 1, .inr (.inl (fun _ => 0))))]) (f_runV (As := []) (rest := []) hx hb hml hown hts (kX12_thrown l D cI cO cL E M o zb fg 0 H.size) (fcwV 0 hts q186 q187 q188 q5 q189 rfl rfl (by decide +kernel) ⟨(Nat.le_of_ble_eq_true rfl), (Nat.le_of_ble_eq_true rfl)⟩) hE hP hD hS hA [1] rfl (by decide) (q0 := 1) (ci := 13) rfl rfl rfl rfl hl.1 rfl (Nat.le_of_ble_eq_true rfl) dL_law_1401 ⟨(Nat.le_of_ble_eq_true rfl), (Nat.le_of_ble_eq_true rfl)⟩) hP hD hS hA [1] [0] rfl rfl (by decide) (by decide) (fun r u H locs hr0 hP hD hS => ?_)
  subst hr0
  have hP : va_P D vwCl [(out, .inl (cL, 1, .inr (.inl (fun _ => 0)))), (o, .inr (13, [.int 0, .ref zb, .ref fg]))] H := hP
  have hD : va_D A [(out, .inl (cL, 1, .inr (.inl (fun _ => 0)))), (o, .inr (13, [.int 0, .ref zb, .ref fg]))] := hD
  refine lv_iload hx hb dL_law_1404 (lv_at hl 1 rfl) ?_
  refine lv_icmp_eq (tgt := 1411) hx hb dL_law_1406 (by decide) (fun _ => ?_) (fun h => absurd (by decide) h)
  refine lv_iload hx hb dL_law_1411 (lv_at hl 1 rfl) ?_
  refine lv_if_ne (tgt := 1428) hx hb dL_law_1413 (by decide) (fun h => absurd h (by decide)) (fun _ => ?_)
  refine lv_aload_n hx hb dL_law_1416 rfl (lv_at hl 3 rfl) ?_
  refine lv_iconst (v := 0) hx hb dL_law_1417 (by decide) ?_
  refine va_lald hx hb hE.1.1 hP 0 2 rfl rfl (by unfold vp_in; decide) dL_law_1418 ?_
  refine f_topl (v := 0) (rfl) ?_
  refine lv_iload hx hb dL_law_1419 (lv_at hl 0 rfl) ?_
  refine lv_i2l (v := 0) hx hb dL_law_1421 (by decide) ?_
  refine W.lcmp hx hb dL_law_1422 ?_
  refine f_topi (v := 0) (f_cmp0 _) ?_
  refine lv_if_eq (tgt := 1428) hx hb dL_law_1423 (by decide) (fun _ => ?_) (fun h => absurd (by decide) h)
  refine lv_goto (tgt := 1758) hx hb dL_law_1428 (by decide) ?_
  refine W.widen (k := 3000) (n := 30000) (Nat.le_of_ble_eq_true rfl) (Nat.le_of_ble_eq_true rfl) ?_
  exact law_end C hS (lv_sub hl [2, 6] rfl)
set_option maxHeartbeats 4000000 in
set_option maxRecDepth 100000 in
theorem law_many_3 {p : Program} {l : Launch} {e : Env} {s : State} {m : MethodId} {below : List Frame} {meth : Method} {c : Code} {b : Nat} {xs : Nat → Int32} {D : va_G} {cI cO cL : ClassId} {E M : Nat} {A : Nat → Prop} (C : fLC p l s m meth c b xs D cI cO cL E M A) {h f sh sp sj sc sa i1 i2 i3 tsh tsp tsj tsc tsa ti1 ti2 ti3 o zb zbp zbj zbc zba fg out : Nat}  (hs1 : (1 : Int32).toNatClampNeg = 1 ∧ xs 1 = 3)  {H : Heap} {locs : List Loc} {ls : Array Slot} (hP : va_P D vwCl [(h, .inr (8, [.ref f, .ref sh, .ref tsh])), (f, .inr (0, [.int 0, .ref E, .int 0])), (sh, .inr (6, [.ref sp, .ref sj, .ref sc, .ref sa, .int 0, .int 3000, .int 0, .int 0, .int 0, .int 0, .int 0, .int 0, .int 0, .int 0, .int 0])), (sp, .inr (0, [.int 0, .ref E, .int 0])), (sj, .inr (0, [.int 0, .ref E, .int 0])), (sc, .inr (0, [.int 0, .ref E, .int 0])), (sa, .inr (1, [.ref i1, .ref i2, .ref i3])), (i1, .inl (cI, 9, .inl (fun _ => 0))), (i2, .inl (cI, 9, .inl (fun _ => 0))), (i3, .inl (cI, 9, .inl (fun _ => 0))), (tsh, .inr (6, [.ref tsp, .ref tsj, .ref tsc, .ref tsa, .int 0, .int 3000, .int 0, .int 0, .int 0, .int 0, .int 0, .int 0, .int 0, .int 0, .int 0])), (tsp, .inr (0, [.int 0, .ref E, .int 0])), (tsj, .inr (0, [.int 0, .ref E, .int 0])), (tsc, .inr (0, [.int 0, .ref E, .int 0])), (tsa, .inr (1, [.ref ti1, .ref ti2, .ref ti3])), (ti1, .inl (cI, 9, .inl (fun _ => 0))), (ti2, .inl (cI, 9, .inl (fun _ => 0))), (ti3, .inl (cI, 9, .inl (fun _ => 0))), (o, .inr (13, [.int 0, .ref zb, .ref fg])), (zb, .inr (9, [.int 0, .int 3000, .int 0, .int 0, .int 0, .ref zbp, .ref zbj, .ref zbc, .ref zba, .int 0, .int 0, .int 0, .int 0, .int 0, .int 0])), (zbp, .inr (0, [.int 0, .ref E, .int 0])), (zbj, .inr (0, [.int 0, .ref E, .int 0])), (zbc, .inr (0, [.int 0, .ref E, .int 0])), (zba, .inr (0, [.int 0, .ref E, .int 0])), (fg, .inr (0, [.int 0, .ref E, .int 0])), (out, .inl (cL, 1, .inr (.inl (fun _ => 0))))] H) (hD : va_D A [(h, .inr (8, [.ref f, .ref sh, .ref tsh])), (f, .inr (0, [.int 0, .ref E, .int 0])), (sh, .inr (6, [.ref sp, .ref sj, .ref sc, .ref sa, .int 0, .int 3000, .int 0, .int 0, .int 0, .int 0, .int 0, .int 0, .int 0, .int 0, .int 0])), (sp, .inr (0, [.int 0, .ref E, .int 0])), (sj, .inr (0, [.int 0, .ref E, .int 0])), (sc, .inr (0, [.int 0, .ref E, .int 0])), (sa, .inr (1, [.ref i1, .ref i2, .ref i3])), (i1, .inl (cI, 9, .inl (fun _ => 0))), (i2, .inl (cI, 9, .inl (fun _ => 0))), (i3, .inl (cI, 9, .inl (fun _ => 0))), (tsh, .inr (6, [.ref tsp, .ref tsj, .ref tsc, .ref tsa, .int 0, .int 3000, .int 0, .int 0, .int 0, .int 0, .int 0, .int 0, .int 0, .int 0, .int 0])), (tsp, .inr (0, [.int 0, .ref E, .int 0])), (tsj, .inr (0, [.int 0, .ref E, .int 0])), (tsc, .inr (0, [.int 0, .ref E, .int 0])), (tsa, .inr (1, [.ref ti1, .ref ti2, .ref ti3])), (ti1, .inl (cI, 9, .inl (fun _ => 0))), (ti2, .inl (cI, 9, .inl (fun _ => 0))), (ti3, .inl (cI, 9, .inl (fun _ => 0))), (o, .inr (13, [.int 0, .ref zb, .ref fg])), (zb, .inr (9, [.int 0, .int 3000, .int 0, .int 0, .int 0, .ref zbp, .ref zbj, .ref zbc, .ref zba, .int 0, .int 0, .int 0, .int 0, .int 0, .int 0])), (zbp, .inr (0, [.int 0, .ref E, .int 0])), (zbj, .inr (0, [.int 0, .ref E, .int 0])), (zbc, .inr (0, [.int 0, .ref E, .int 0])), (zba, .inr (0, [.int 0, .ref E, .int 0])), (fg, .inr (0, [.int 0, .ref E, .int 0])), (out, .inl (cL, 1, .inr (.inl (fun _ => 0))))]) (hS : va_S A s.heap H locs) (hl : lv_has ls 9 [(4, .int 0), (3, .ref out), (2, .ref o), (1, .ref h), (0, .ref b)]) : W p l e room_1 s m #[Value.ref b] below meth c H locs 26 148 (lw_Z below #[Value.ref b] s) (F0 m 1375 ls []) := by
  obtain ⟨hx, hb, hr, hml, hown, hts, hX, hbl, hlocks, hl9, hE, hA, hA2⟩ := id C
  have hbA : ¬ A b := fun h => absurd (hA2 b h) (Nat.not_le.mpr hbl)
  refine lv_aload_n hx hb dL_law_1375 rfl (lv_at hl 3 rfl) ?_
  refine lv_aload_n hx hb dL_law_1376 rfl (lv_at hl 4 rfl) ?_
  refine lv_iload hx hb dL_law_1377 (lv_at hl 0 rfl) ?_
  refine lv_iconst (v := 1) hx hb dL_law_1379 (by decide) ?_
  refine f_iadd (v := 1) hx hb dL_law_1380 (by decide) ?_
  refine va_sld hx hb hX hbl hbA hS (by unfold vp_in; decide) dL_law_1381 ?_
  refine f_topi (v := 3) (f_xs hs1) ?_
  refine lv_aload_n hx hb dL_law_1382 rfl (lv_at hl 1 rfl) ?_
  refine f_aft_i (wr := [(o, .inr (13, [.int 0, .ref zb, .ref fg])), (zb, .inr (9, [.int 0, .int 3000, .int 0, .int 0, .int 0, .ref zbp, .ref zbj, .ref zbc, .ref zba, .int 0, .int 0, .int 0, .int 0, .int 0, .int 0])), (zbp, .inr (0, [.int 0, .ref E, .int 0])), (zbj, .inr (0, [.int 0, .ref E, .int 0])), (zbc, .inr (0, [.int 0, .ref E, .int 0])), (zba, .inr (0, [.int 0, .ref E, .int 0])), (fg, .inr (0, [.int 0, .ref E, .int 0]))]) (f_runSW (As := [.ref h, .int 3, .ref out]) (rest := []) hx hb hml hown hts (kL_many_3 l D cI cO cL E M h f sh sp sj sc sa i1 i2 i3 tsh tsp tsj tsc tsa ti1 ti2 ti3 out H.size) (fcwSW 3 hts q907 q908 q80 q909 rfl rfl (by decide +kernel) ⟨(Nat.le_of_ble_eq_true rfl), (Nat.le_of_ble_eq_true rfl)⟩) hE hP hD hS hA [0, 1, 2, 3, 4, 5, 6, 7, 8, 9, 10, 11, 12, 13, 14, 15, 16, 17, 25] rfl (by decide) rfl hl.1 rfl (Nat.le_of_ble_eq_true rfl) dL_law_1383 ⟨(Nat.le_of_ble_eq_true rfl), (Nat.le_of_ble_eq_true rfl)⟩) hP hD hS hA [0, 1, 2, 3, 4, 5, 6, 7, 8, 9, 10, 11, 12, 13, 14, 15, 16, 17, 25] [18, 19, 20, 21, 22, 23, 24] rfl rfl (by decide) (by decide) (fun r u H locs hr0 hP hD hS => ?_)
  subst hr0
  have hP : va_P D vwCl [(o, .inr (13, [.int 0, .ref zb, .ref fg])), (zb, .inr (9, [.int 0, .int 3000, .int 0, .int 0, .int 0, .ref zbp, .ref zbj, .ref zbc, .ref zba, .int 0, .int 0, .int 0, .int 0, .int 0, .int 0])), (zbp, .inr (0, [.int 0, .ref E, .int 0])), (zbj, .inr (0, [.int 0, .ref E, .int 0])), (zbc, .inr (0, [.int 0, .ref E, .int 0])), (zba, .inr (0, [.int 0, .ref E, .int 0])), (fg, .inr (0, [.int 0, .ref E, .int 0])), (out, .inl (cL, 1, .inr (.inl (fun _ => 0))))] H := hP
  have hD : va_D A [(o, .inr (13, [.int 0, .ref zb, .ref fg])), (zb, .inr (9, [.int 0, .int 3000, .int 0, .int 0, .int 0, .ref zbp, .ref zbj, .ref zbc, .ref zba, .int 0, .int 0, .int 0, .int 0, .int 0, .int 0])), (zbp, .inr (0, [.int 0, .ref E, .int 0])), (zbj, .inr (0, [.int 0, .ref E, .int 0])), (zbc, .inr (0, [.int 0, .ref E, .int 0])), (zba, .inr (0, [.int 0, .ref E, .int 0])), (fg, .inr (0, [.int 0, .ref E, .int 0])), (out, .inl (cL, 1, .inr (.inl (fun _ => 0))))] := hD
  refine lv_istore (lv' := [(5, .int 0), (4, .int 0), (3, .ref out), (2, .ref o), (1, .ref h), (0, .ref b)]) hx hb dL_law_1386 hl (by decide) rfl (fun ls hl => ?_)
  refine lv_aload_n hx hb dL_law_1388 rfl (lv_at hl 3 rfl) ?_
  refine lv_aload_n hx hb dL_law_1389 rfl (lv_at hl 5 rfl) ?_
  refine lv_iload hx hb dL_law_1390 (lv_at hl 1 rfl) ?_
  refine lv_iconst (v := 1) hx hb dL_law_1392 (by decide) ?_
  refine f_iadd (v := 1) hx hb dL_law_1393 (by decide) ?_
  refine va_sld hx hb hX hbl hbA hS (by unfold vp_in; decide) dL_law_1394 ?_
  refine f_topi (v := 3) (f_xs hs1) ?_
  refine f_aft_i (wr := [(out, .inl (cL, 1, .inr (.inl (fun _ => 0))))]) (f_runV (As := [.int 3]) (rest := []) hx hb hml hown hts (kX12_many_3 l D cI cO cL E M o zb zbp zbj zbc zba fg H.size) (fcwV 1 hts q930 q931 q932 q5 q933 rfl rfl (by decide +kernel) ⟨(Nat.le_of_ble_eq_true rfl), (Nat.le_of_ble_eq_true rfl)⟩) hE hP hD hS hA [0, 1, 2, 3, 4, 5, 6] rfl (by decide) (q0 := 0) (ci := 13) rfl rfl rfl rfl hl.1 rfl (Nat.le_of_ble_eq_true rfl) dL_law_1395 ⟨(Nat.le_of_ble_eq_true rfl), (Nat.le_of_ble_eq_true rfl)⟩) hP hD hS hA [0, 1, 2, 3, 4, 5, 6] [7] rfl rfl (by decide) (by decide) (fun r u H locs hr0 hP hD hS => ?_)
  subst hr0
  have hP : va_P D vwCl [(out, .inl (cL, 1, .inr (.inl (fun _ => 0)))), (o, .inr (13, [.int 0, .ref zb, .ref fg]))] H := hP
  have hD : va_D A [(out, .inl (cL, 1, .inr (.inl (fun _ => 0)))), (o, .inr (13, [.int 0, .ref zb, .ref fg]))] := hD
  refine lv_istore (lv' := [(6, .int 0), (5, .int 0), (4, .int 0), (3, .ref out), (2, .ref o), (1, .ref h), (0, .ref b)]) hx hb dL_law_1398 hl (by decide) rfl (fun ls hl => ?_)
  refine lv_aload_n hx hb dL_law_1400 rfl (lv_at hl 4 rfl) ?_
  refine f_aft_i (wr := [(out, .inl (cL, 1, .inr (.inl (fun _ => 0))))]) (f_runV (As := []) (rest := []) hx hb hml hown hts (kX12_thrown l D cI cO cL E M o zb fg 0 H.size) (fcwV 0 hts q186 q187 q188 q5 q189 rfl rfl (by decide +kernel) ⟨(Nat.le_of_ble_eq_true rfl), (Nat.le_of_ble_eq_true rfl)⟩) hE hP hD hS hA [1] rfl (by decide) (q0 := 1) (ci := 13) rfl rfl rfl rfl hl.1 rfl (Nat.le_of_ble_eq_true rfl) dL_law_1401 ⟨(Nat.le_of_ble_eq_true rfl), (Nat.le_of_ble_eq_true rfl)⟩) hP hD hS hA [1] [0] rfl rfl (by decide) (by decide) (fun r u H locs hr0 hP hD hS => ?_)
  subst hr0
  have hP : va_P D vwCl [(out, .inl (cL, 1, .inr (.inl (fun _ => 0)))), (o, .inr (13, [.int 0, .ref zb, .ref fg]))] H := hP
  have hD : va_D A [(out, .inl (cL, 1, .inr (.inl (fun _ => 0)))), (o, .inr (13, [.int 0, .ref zb, .ref fg]))] := hD
  refine lv_iload hx hb dL_law_1404 (lv_at hl 1 rfl) ?_
  refine lv_icmp_eq (tgt := 1411) hx hb dL_law_1406 (by decide) (fun _ => ?_) (fun h => absurd (by decide) h)
  refine lv_iload hx hb dL_law_1411 (lv_at hl 1 rfl) ?_
  refine lv_if_ne (tgt := 1428) hx hb dL_law_1413 (by decide) (fun h => absurd h (by decide)) (fun _ => ?_)
  refine lv_aload_n hx hb dL_law_1416 rfl (lv_at hl 3 rfl) ?_
  refine lv_iconst (v := 0) hx hb dL_law_1417 (by decide) ?_
  refine va_lald hx hb hE.1.1 hP 0 2 rfl rfl (by unfold vp_in; decide) dL_law_1418 ?_
  refine f_topl (v := 0) (rfl) ?_
  refine lv_iload hx hb dL_law_1419 (lv_at hl 0 rfl) ?_
  refine lv_i2l (v := 0) hx hb dL_law_1421 (by decide) ?_
  refine W.lcmp hx hb dL_law_1422 ?_
  refine f_topi (v := 0) (f_cmp0 _) ?_
  refine lv_if_eq (tgt := 1428) hx hb dL_law_1423 (by decide) (fun _ => ?_) (fun h => absurd (by decide) h)
  refine lv_goto (tgt := 1758) hx hb dL_law_1428 (by decide) ?_
  refine W.widen (k := 3000) (n := 30000) (Nat.le_of_ble_eq_true rfl) (Nat.le_of_ble_eq_true rfl) ?_
  exact law_end C hS (lv_sub hl [2, 6] rfl)
set_option maxHeartbeats 4000000 in
set_option maxRecDepth 100000 in
theorem law_many_4 {p : Program} {l : Launch} {e : Env} {s : State} {m : MethodId} {below : List Frame} {meth : Method} {c : Code} {b : Nat} {xs : Nat → Int32} {D : va_G} {cI cO cL : ClassId} {E M : Nat} {A : Nat → Prop} (C : fLC p l s m meth c b xs D cI cO cL E M A) {h f sh sp sj sc sa i1 i2 i3 tsh tsp tsj tsc tsa ti1 ti2 ti3 o zb zbp zbj zbc zba fg out : Nat}  (hs1 : (1 : Int32).toNatClampNeg = 1 ∧ xs 1 = 4)  {H : Heap} {locs : List Loc} {ls : Array Slot} (hP : va_P D vwCl [(h, .inr (8, [.ref f, .ref sh, .ref tsh])), (f, .inr (0, [.int 0, .ref E, .int 0])), (sh, .inr (6, [.ref sp, .ref sj, .ref sc, .ref sa, .int 0, .int 3000, .int 0, .int 0, .int 0, .int 0, .int 0, .int 0, .int 0, .int 0, .int 0])), (sp, .inr (0, [.int 0, .ref E, .int 0])), (sj, .inr (0, [.int 0, .ref E, .int 0])), (sc, .inr (0, [.int 0, .ref E, .int 0])), (sa, .inr (1, [.ref i1, .ref i2, .ref i3])), (i1, .inl (cI, 9, .inl (fun _ => 0))), (i2, .inl (cI, 9, .inl (fun _ => 0))), (i3, .inl (cI, 9, .inl (fun _ => 0))), (tsh, .inr (6, [.ref tsp, .ref tsj, .ref tsc, .ref tsa, .int 0, .int 3000, .int 0, .int 0, .int 0, .int 0, .int 0, .int 0, .int 0, .int 0, .int 0])), (tsp, .inr (0, [.int 0, .ref E, .int 0])), (tsj, .inr (0, [.int 0, .ref E, .int 0])), (tsc, .inr (0, [.int 0, .ref E, .int 0])), (tsa, .inr (1, [.ref ti1, .ref ti2, .ref ti3])), (ti1, .inl (cI, 9, .inl (fun _ => 0))), (ti2, .inl (cI, 9, .inl (fun _ => 0))), (ti3, .inl (cI, 9, .inl (fun _ => 0))), (o, .inr (13, [.int 0, .ref zb, .ref fg])), (zb, .inr (9, [.int 0, .int 3000, .int 0, .int 0, .int 0, .ref zbp, .ref zbj, .ref zbc, .ref zba, .int 0, .int 0, .int 0, .int 0, .int 0, .int 0])), (zbp, .inr (0, [.int 0, .ref E, .int 0])), (zbj, .inr (0, [.int 0, .ref E, .int 0])), (zbc, .inr (0, [.int 0, .ref E, .int 0])), (zba, .inr (0, [.int 0, .ref E, .int 0])), (fg, .inr (0, [.int 0, .ref E, .int 0])), (out, .inl (cL, 1, .inr (.inl (fun _ => 0))))] H) (hD : va_D A [(h, .inr (8, [.ref f, .ref sh, .ref tsh])), (f, .inr (0, [.int 0, .ref E, .int 0])), (sh, .inr (6, [.ref sp, .ref sj, .ref sc, .ref sa, .int 0, .int 3000, .int 0, .int 0, .int 0, .int 0, .int 0, .int 0, .int 0, .int 0, .int 0])), (sp, .inr (0, [.int 0, .ref E, .int 0])), (sj, .inr (0, [.int 0, .ref E, .int 0])), (sc, .inr (0, [.int 0, .ref E, .int 0])), (sa, .inr (1, [.ref i1, .ref i2, .ref i3])), (i1, .inl (cI, 9, .inl (fun _ => 0))), (i2, .inl (cI, 9, .inl (fun _ => 0))), (i3, .inl (cI, 9, .inl (fun _ => 0))), (tsh, .inr (6, [.ref tsp, .ref tsj, .ref tsc, .ref tsa, .int 0, .int 3000, .int 0, .int 0, .int 0, .int 0, .int 0, .int 0, .int 0, .int 0, .int 0])), (tsp, .inr (0, [.int 0, .ref E, .int 0])), (tsj, .inr (0, [.int 0, .ref E, .int 0])), (tsc, .inr (0, [.int 0, .ref E, .int 0])), (tsa, .inr (1, [.ref ti1, .ref ti2, .ref ti3])), (ti1, .inl (cI, 9, .inl (fun _ => 0))), (ti2, .inl (cI, 9, .inl (fun _ => 0))), (ti3, .inl (cI, 9, .inl (fun _ => 0))), (o, .inr (13, [.int 0, .ref zb, .ref fg])), (zb, .inr (9, [.int 0, .int 3000, .int 0, .int 0, .int 0, .ref zbp, .ref zbj, .ref zbc, .ref zba, .int 0, .int 0, .int 0, .int 0, .int 0, .int 0])), (zbp, .inr (0, [.int 0, .ref E, .int 0])), (zbj, .inr (0, [.int 0, .ref E, .int 0])), (zbc, .inr (0, [.int 0, .ref E, .int 0])), (zba, .inr (0, [.int 0, .ref E, .int 0])), (fg, .inr (0, [.int 0, .ref E, .int 0])), (out, .inl (cL, 1, .inr (.inl (fun _ => 0))))]) (hS : va_S A s.heap H locs) (hl : lv_has ls 9 [(4, .int 0), (3, .ref out), (2, .ref o), (1, .ref h), (0, .ref b)]) : W p l e room_1 s m #[Value.ref b] below meth c H locs 26 148 (lw_Z below #[Value.ref b] s) (F0 m 1375 ls []) := by
  obtain ⟨hx, hb, hr, hml, hown, hts, hX, hbl, hlocks, hl9, hE, hA, hA2⟩ := id C
  have hbA : ¬ A b := fun h => absurd (hA2 b h) (Nat.not_le.mpr hbl)
  refine lv_aload_n hx hb dL_law_1375 rfl (lv_at hl 3 rfl) ?_
  refine lv_aload_n hx hb dL_law_1376 rfl (lv_at hl 4 rfl) ?_
  refine lv_iload hx hb dL_law_1377 (lv_at hl 0 rfl) ?_
  refine lv_iconst (v := 1) hx hb dL_law_1379 (by decide) ?_
  refine f_iadd (v := 1) hx hb dL_law_1380 (by decide) ?_
  refine va_sld hx hb hX hbl hbA hS (by unfold vp_in; decide) dL_law_1381 ?_
  refine f_topi (v := 4) (f_xs hs1) ?_
  refine lv_aload_n hx hb dL_law_1382 rfl (lv_at hl 1 rfl) ?_
  refine f_aft_i (wr := [(o, .inr (13, [.int 0, .ref zb, .ref fg])), (zb, .inr (9, [.int 0, .int 3000, .int 0, .int 0, .int 0, .ref zbp, .ref zbj, .ref zbc, .ref zba, .int 0, .int 0, .int 0, .int 0, .int 0, .int 0])), (zbp, .inr (0, [.int 0, .ref E, .int 0])), (zbj, .inr (0, [.int 0, .ref E, .int 0])), (zbc, .inr (0, [.int 0, .ref E, .int 0])), (zba, .inr (0, [.int 0, .ref E, .int 0])), (fg, .inr (0, [.int 0, .ref E, .int 0]))]) (f_runSW (As := [.ref h, .int 4, .ref out]) (rest := []) hx hb hml hown hts (kL_many_4 l D cI cO cL E M h f sh sp sj sc sa i1 i2 i3 tsh tsp tsj tsc tsa ti1 ti2 ti3 out H.size) (fcwSW 3 hts q907 q908 q80 q909 rfl rfl (by decide +kernel) ⟨(Nat.le_of_ble_eq_true rfl), (Nat.le_of_ble_eq_true rfl)⟩) hE hP hD hS hA [0, 1, 2, 3, 4, 5, 6, 7, 8, 9, 10, 11, 12, 13, 14, 15, 16, 17, 25] rfl (by decide) rfl hl.1 rfl (Nat.le_of_ble_eq_true rfl) dL_law_1383 ⟨(Nat.le_of_ble_eq_true rfl), (Nat.le_of_ble_eq_true rfl)⟩) hP hD hS hA [0, 1, 2, 3, 4, 5, 6, 7, 8, 9, 10, 11, 12, 13, 14, 15, 16, 17, 25] [18, 19, 20, 21, 22, 23, 24] rfl rfl (by decide) (by decide) (fun r u H locs hr0 hP hD hS => ?_)
  subst hr0
  have hP : va_P D vwCl [(o, .inr (13, [.int 0, .ref zb, .ref fg])), (zb, .inr (9, [.int 0, .int 3000, .int 0, .int 0, .int 0, .ref zbp, .ref zbj, .ref zbc, .ref zba, .int 0, .int 0, .int 0, .int 0, .int 0, .int 0])), (zbp, .inr (0, [.int 0, .ref E, .int 0])), (zbj, .inr (0, [.int 0, .ref E, .int 0])), (zbc, .inr (0, [.int 0, .ref E, .int 0])), (zba, .inr (0, [.int 0, .ref E, .int 0])), (fg, .inr (0, [.int 0, .ref E, .int 0])), (out, .inl (cL, 1, .inr (.inl (fun _ => 0))))] H := hP
  have hD : va_D A [(o, .inr (13, [.int 0, .ref zb, .ref fg])), (zb, .inr (9, [.int 0, .int 3000, .int 0, .int 0, .int 0, .ref zbp, .ref zbj, .ref zbc, .ref zba, .int 0, .int 0, .int 0, .int 0, .int 0, .int 0])), (zbp, .inr (0, [.int 0, .ref E, .int 0])), (zbj, .inr (0, [.int 0, .ref E, .int 0])), (zbc, .inr (0, [.int 0, .ref E, .int 0])), (zba, .inr (0, [.int 0, .ref E, .int 0])), (fg, .inr (0, [.int 0, .ref E, .int 0])), (out, .inl (cL, 1, .inr (.inl (fun _ => 0))))] := hD
  refine lv_istore (lv' := [(5, .int 0), (4, .int 0), (3, .ref out), (2, .ref o), (1, .ref h), (0, .ref b)]) hx hb dL_law_1386 hl (by decide) rfl (fun ls hl => ?_)
  refine lv_aload_n hx hb dL_law_1388 rfl (lv_at hl 3 rfl) ?_
  refine lv_aload_n hx hb dL_law_1389 rfl (lv_at hl 5 rfl) ?_
  refine lv_iload hx hb dL_law_1390 (lv_at hl 1 rfl) ?_
  refine lv_iconst (v := 1) hx hb dL_law_1392 (by decide) ?_
  refine f_iadd (v := 1) hx hb dL_law_1393 (by decide) ?_
  refine va_sld hx hb hX hbl hbA hS (by unfold vp_in; decide) dL_law_1394 ?_
  refine f_topi (v := 4) (f_xs hs1) ?_
  refine f_aft_i (wr := [(out, .inl (cL, 1, .inr (.inl (fun _ => 0))))]) (f_runV (As := [.int 4]) (rest := []) hx hb hml hown hts (kX12_many_4 l D cI cO cL E M o zb zbp zbj zbc zba fg H.size) (fcwV 1 hts q930 q931 q932 q5 q933 rfl rfl (by decide +kernel) ⟨(Nat.le_of_ble_eq_true rfl), (Nat.le_of_ble_eq_true rfl)⟩) hE hP hD hS hA [0, 1, 2, 3, 4, 5, 6] rfl (by decide) (q0 := 0) (ci := 13) rfl rfl rfl rfl hl.1 rfl (Nat.le_of_ble_eq_true rfl) dL_law_1395 ⟨(Nat.le_of_ble_eq_true rfl), (Nat.le_of_ble_eq_true rfl)⟩) hP hD hS hA [0, 1, 2, 3, 4, 5, 6] [7] rfl rfl (by decide) (by decide) (fun r u H locs hr0 hP hD hS => ?_)
  subst hr0
  have hP : va_P D vwCl [(out, .inl (cL, 1, .inr (.inl (fun _ => 0)))), (o, .inr (13, [.int 0, .ref zb, .ref fg]))] H := hP
  have hD : va_D A [(out, .inl (cL, 1, .inr (.inl (fun _ => 0)))), (o, .inr (13, [.int 0, .ref zb, .ref fg]))] := hD
  refine lv_istore (lv' := [(6, .int 0), (5, .int 0), (4, .int 0), (3, .ref out), (2, .ref o), (1, .ref h), (0, .ref b)]) hx hb dL_law_1398 hl (by decide) rfl (fun ls hl => ?_)
  refine lv_aload_n hx hb dL_law_1400 rfl (lv_at hl 4 rfl) ?_
  refine f_aft_i (wr := [(out, .inl (cL, 1, .inr (.inl (fun _ => 0))))]) (f_runV (As := []) (rest := []) hx hb hml hown hts (kX12_thrown l D cI cO cL E M o zb fg 0 H.size) (fcwV 0 hts q186 q187 q188 q5 q189 rfl rfl (by decide +kernel) ⟨(Nat.le_of_ble_eq_true rfl), (Nat.le_of_ble_eq_true rfl)⟩) hE hP hD hS hA [1] rfl (by decide) (q0 := 1) (ci := 13) rfl rfl rfl rfl hl.1 rfl (Nat.le_of_ble_eq_true rfl) dL_law_1401 ⟨(Nat.le_of_ble_eq_true rfl), (Nat.le_of_ble_eq_true rfl)⟩) hP hD hS hA [1] [0] rfl rfl (by decide) (by decide) (fun r u H locs hr0 hP hD hS => ?_)
  subst hr0
  have hP : va_P D vwCl [(out, .inl (cL, 1, .inr (.inl (fun _ => 0)))), (o, .inr (13, [.int 0, .ref zb, .ref fg]))] H := hP
  have hD : va_D A [(out, .inl (cL, 1, .inr (.inl (fun _ => 0)))), (o, .inr (13, [.int 0, .ref zb, .ref fg]))] := hD
  refine lv_iload hx hb dL_law_1404 (lv_at hl 1 rfl) ?_
  refine lv_icmp_eq (tgt := 1411) hx hb dL_law_1406 (by decide) (fun _ => ?_) (fun h => absurd (by decide) h)
  refine lv_iload hx hb dL_law_1411 (lv_at hl 1 rfl) ?_
  refine lv_if_ne (tgt := 1428) hx hb dL_law_1413 (by decide) (fun h => absurd h (by decide)) (fun _ => ?_)
  refine lv_aload_n hx hb dL_law_1416 rfl (lv_at hl 3 rfl) ?_
  refine lv_iconst (v := 0) hx hb dL_law_1417 (by decide) ?_
  refine va_lald hx hb hE.1.1 hP 0 2 rfl rfl (by unfold vp_in; decide) dL_law_1418 ?_
  refine f_topl (v := 0) (rfl) ?_
  refine lv_iload hx hb dL_law_1419 (lv_at hl 0 rfl) ?_
  refine lv_i2l (v := 0) hx hb dL_law_1421 (by decide) ?_
  refine W.lcmp hx hb dL_law_1422 ?_
  refine f_topi (v := 0) (f_cmp0 _) ?_
  refine lv_if_eq (tgt := 1428) hx hb dL_law_1423 (by decide) (fun _ => ?_) (fun h => absurd (by decide) h)
  refine lv_goto (tgt := 1758) hx hb dL_law_1428 (by decide) ?_
  refine W.widen (k := 3000) (n := 30000) (Nat.le_of_ble_eq_true rfl) (Nat.le_of_ble_eq_true rfl) ?_
  exact law_end C hS (lv_sub hl [2, 6] rfl)
set_option maxHeartbeats 4000000 in
set_option maxRecDepth 100000 in
theorem law_many_5 {p : Program} {l : Launch} {e : Env} {s : State} {m : MethodId} {below : List Frame} {meth : Method} {c : Code} {b : Nat} {xs : Nat → Int32} {D : va_G} {cI cO cL : ClassId} {E M : Nat} {A : Nat → Prop} (C : fLC p l s m meth c b xs D cI cO cL E M A) {h f sh sp sj sc sa i1 i2 i3 tsh tsp tsj tsc tsa ti1 ti2 ti3 o zb zbp zbj zbc zba fg out : Nat}  (hs1 : (1 : Int32).toNatClampNeg = 1 ∧ xs 1 = 5)  {H : Heap} {locs : List Loc} {ls : Array Slot} (hP : va_P D vwCl [(h, .inr (8, [.ref f, .ref sh, .ref tsh])), (f, .inr (0, [.int 0, .ref E, .int 0])), (sh, .inr (6, [.ref sp, .ref sj, .ref sc, .ref sa, .int 0, .int 3000, .int 0, .int 0, .int 0, .int 0, .int 0, .int 0, .int 0, .int 0, .int 0])), (sp, .inr (0, [.int 0, .ref E, .int 0])), (sj, .inr (0, [.int 0, .ref E, .int 0])), (sc, .inr (0, [.int 0, .ref E, .int 0])), (sa, .inr (1, [.ref i1, .ref i2, .ref i3])), (i1, .inl (cI, 9, .inl (fun _ => 0))), (i2, .inl (cI, 9, .inl (fun _ => 0))), (i3, .inl (cI, 9, .inl (fun _ => 0))), (tsh, .inr (6, [.ref tsp, .ref tsj, .ref tsc, .ref tsa, .int 0, .int 3000, .int 0, .int 0, .int 0, .int 0, .int 0, .int 0, .int 0, .int 0, .int 0])), (tsp, .inr (0, [.int 0, .ref E, .int 0])), (tsj, .inr (0, [.int 0, .ref E, .int 0])), (tsc, .inr (0, [.int 0, .ref E, .int 0])), (tsa, .inr (1, [.ref ti1, .ref ti2, .ref ti3])), (ti1, .inl (cI, 9, .inl (fun _ => 0))), (ti2, .inl (cI, 9, .inl (fun _ => 0))), (ti3, .inl (cI, 9, .inl (fun _ => 0))), (o, .inr (13, [.int 0, .ref zb, .ref fg])), (zb, .inr (9, [.int 0, .int 3000, .int 0, .int 0, .int 0, .ref zbp, .ref zbj, .ref zbc, .ref zba, .int 0, .int 0, .int 0, .int 0, .int 0, .int 0])), (zbp, .inr (0, [.int 0, .ref E, .int 0])), (zbj, .inr (0, [.int 0, .ref E, .int 0])), (zbc, .inr (0, [.int 0, .ref E, .int 0])), (zba, .inr (0, [.int 0, .ref E, .int 0])), (fg, .inr (0, [.int 0, .ref E, .int 0])), (out, .inl (cL, 1, .inr (.inl (fun _ => 0))))] H) (hD : va_D A [(h, .inr (8, [.ref f, .ref sh, .ref tsh])), (f, .inr (0, [.int 0, .ref E, .int 0])), (sh, .inr (6, [.ref sp, .ref sj, .ref sc, .ref sa, .int 0, .int 3000, .int 0, .int 0, .int 0, .int 0, .int 0, .int 0, .int 0, .int 0, .int 0])), (sp, .inr (0, [.int 0, .ref E, .int 0])), (sj, .inr (0, [.int 0, .ref E, .int 0])), (sc, .inr (0, [.int 0, .ref E, .int 0])), (sa, .inr (1, [.ref i1, .ref i2, .ref i3])), (i1, .inl (cI, 9, .inl (fun _ => 0))), (i2, .inl (cI, 9, .inl (fun _ => 0))), (i3, .inl (cI, 9, .inl (fun _ => 0))), (tsh, .inr (6, [.ref tsp, .ref tsj, .ref tsc, .ref tsa, .int 0, .int 3000, .int 0, .int 0, .int 0, .int 0, .int 0, .int 0, .int 0, .int 0, .int 0])), (tsp, .inr (0, [.int 0, .ref E, .int 0])), (tsj, .inr (0, [.int 0, .ref E, .int 0])), (tsc, .inr (0, [.int 0, .ref E, .int 0])), (tsa, .inr (1, [.ref ti1, .ref ti2, .ref ti3])), (ti1, .inl (cI, 9, .inl (fun _ => 0))), (ti2, .inl (cI, 9, .inl (fun _ => 0))), (ti3, .inl (cI, 9, .inl (fun _ => 0))), (o, .inr (13, [.int 0, .ref zb, .ref fg])), (zb, .inr (9, [.int 0, .int 3000, .int 0, .int 0, .int 0, .ref zbp, .ref zbj, .ref zbc, .ref zba, .int 0, .int 0, .int 0, .int 0, .int 0, .int 0])), (zbp, .inr (0, [.int 0, .ref E, .int 0])), (zbj, .inr (0, [.int 0, .ref E, .int 0])), (zbc, .inr (0, [.int 0, .ref E, .int 0])), (zba, .inr (0, [.int 0, .ref E, .int 0])), (fg, .inr (0, [.int 0, .ref E, .int 0])), (out, .inl (cL, 1, .inr (.inl (fun _ => 0))))]) (hS : va_S A s.heap H locs) (hl : lv_has ls 9 [(4, .int 0), (3, .ref out), (2, .ref o), (1, .ref h), (0, .ref b)]) : W p l e room_1 s m #[Value.ref b] below meth c H locs 26 148 (lw_Z below #[Value.ref b] s) (F0 m 1375 ls []) := by
  obtain ⟨hx, hb, hr, hml, hown, hts, hX, hbl, hlocks, hl9, hE, hA, hA2⟩ := id C
  have hbA : ¬ A b := fun h => absurd (hA2 b h) (Nat.not_le.mpr hbl)
  refine lv_aload_n hx hb dL_law_1375 rfl (lv_at hl 3 rfl) ?_
  refine lv_aload_n hx hb dL_law_1376 rfl (lv_at hl 4 rfl) ?_
  refine lv_iload hx hb dL_law_1377 (lv_at hl 0 rfl) ?_
  refine lv_iconst (v := 1) hx hb dL_law_1379 (by decide) ?_
  refine f_iadd (v := 1) hx hb dL_law_1380 (by decide) ?_
  refine va_sld hx hb hX hbl hbA hS (by unfold vp_in; decide) dL_law_1381 ?_
  refine f_topi (v := 5) (f_xs hs1) ?_
  refine lv_aload_n hx hb dL_law_1382 rfl (lv_at hl 1 rfl) ?_
  refine f_aft_i (wr := [(o, .inr (13, [.int 0, .ref zb, .ref fg])), (zb, .inr (9, [.int 0, .int 3000, .int 0, .int 0, .int 0, .ref zbp, .ref zbj, .ref zbc, .ref zba, .int 0, .int 0, .int 0, .int 0, .int 0, .int 0])), (zbp, .inr (0, [.int 0, .ref E, .int 0])), (zbj, .inr (0, [.int 0, .ref E, .int 0])), (zbc, .inr (0, [.int 0, .ref E, .int 0])), (zba, .inr (0, [.int 0, .ref E, .int 0])), (fg, .inr (0, [.int 0, .ref E, .int 0]))]) (f_runSW (As := [.ref h, .int 5, .ref out]) (rest := []) hx hb hml hown hts (kL_many_5 l D cI cO cL E M h f sh sp sj sc sa i1 i2 i3 tsh tsp tsj tsc tsa ti1 ti2 ti3 out H.size) (fcwSW 3 hts q907 q908 q80 q909 rfl rfl (by decide +kernel) ⟨(Nat.le_of_ble_eq_true rfl), (Nat.le_of_ble_eq_true rfl)⟩) hE hP hD hS hA [0, 1, 2, 3, 4, 5, 6, 7, 8, 9, 10, 11, 12, 13, 14, 15, 16, 17, 25] rfl (by decide) rfl hl.1 rfl (Nat.le_of_ble_eq_true rfl) dL_law_1383 ⟨(Nat.le_of_ble_eq_true rfl), (Nat.le_of_ble_eq_true rfl)⟩) hP hD hS hA [0, 1, 2, 3, 4, 5, 6, 7, 8, 9, 10, 11, 12, 13, 14, 15, 16, 17, 25] [18, 19, 20, 21, 22, 23, 24] rfl rfl (by decide) (by decide) (fun r u H locs hr0 hP hD hS => ?_)
  subst hr0
  have hP : va_P D vwCl [(o, .inr (13, [.int 0, .ref zb, .ref fg])), (zb, .inr (9, [.int 0, .int 3000, .int 0, .int 0, .int 0, .ref zbp, .ref zbj, .ref zbc, .ref zba, .int 0, .int 0, .int 0, .int 0, .int 0, .int 0])), (zbp, .inr (0, [.int 0, .ref E, .int 0])), (zbj, .inr (0, [.int 0, .ref E, .int 0])), (zbc, .inr (0, [.int 0, .ref E, .int 0])), (zba, .inr (0, [.int 0, .ref E, .int 0])), (fg, .inr (0, [.int 0, .ref E, .int 0])), (out, .inl (cL, 1, .inr (.inl (vp_updL (fun _ => 0) 0 3000))))] H := hP
  have hD : va_D A [(o, .inr (13, [.int 0, .ref zb, .ref fg])), (zb, .inr (9, [.int 0, .int 3000, .int 0, .int 0, .int 0, .ref zbp, .ref zbj, .ref zbc, .ref zba, .int 0, .int 0, .int 0, .int 0, .int 0, .int 0])), (zbp, .inr (0, [.int 0, .ref E, .int 0])), (zbj, .inr (0, [.int 0, .ref E, .int 0])), (zbc, .inr (0, [.int 0, .ref E, .int 0])), (zba, .inr (0, [.int 0, .ref E, .int 0])), (fg, .inr (0, [.int 0, .ref E, .int 0])), (out, .inl (cL, 1, .inr (.inl (vp_updL (fun _ => 0) 0 3000))))] := hD
  refine lv_istore (lv' := [(5, .int 0), (4, .int 0), (3, .ref out), (2, .ref o), (1, .ref h), (0, .ref b)]) hx hb dL_law_1386 hl (by decide) rfl (fun ls hl => ?_)
  refine lv_aload_n hx hb dL_law_1388 rfl (lv_at hl 3 rfl) ?_
  refine lv_aload_n hx hb dL_law_1389 rfl (lv_at hl 5 rfl) ?_
  refine lv_iload hx hb dL_law_1390 (lv_at hl 1 rfl) ?_
  refine lv_iconst (v := 1) hx hb dL_law_1392 (by decide) ?_
  refine f_iadd (v := 1) hx hb dL_law_1393 (by decide) ?_
  refine va_sld hx hb hX hbl hbA hS (by unfold vp_in; decide) dL_law_1394 ?_
  refine f_topi (v := 5) (f_xs hs1) ?_
  refine f_aft_i (wr := [(out, .inl (cL, 1, .inr (.inl (vp_updL (fun _ => 0) 0 3000))))]) (f_runV (As := [.int 5]) (rest := []) hx hb hml hown hts (kX12_many_5 l D cI cO cL E M o zb zbp zbj zbc zba fg H.size) (fcwV 1 hts q930 q931 q932 q5 q933 rfl rfl (by decide +kernel) ⟨(Nat.le_of_ble_eq_true rfl), (Nat.le_of_ble_eq_true rfl)⟩) hE hP hD hS hA [0, 1, 2, 3, 4, 5, 6] rfl (by decide) (q0 := 0) (ci := 13) rfl rfl rfl rfl hl.1 rfl (Nat.le_of_ble_eq_true rfl) dL_law_1395 ⟨(Nat.le_of_ble_eq_true rfl), (Nat.le_of_ble_eq_true rfl)⟩) hP hD hS hA [0, 1, 2, 3, 4, 5, 6] [7] rfl rfl (by decide) (by decide) (fun r u H locs hr0 hP hD hS => ?_)
  subst hr0
  have hP : va_P D vwCl [(out, .inl (cL, 1, .inr (.inl (vp_updL (fun _ => 0) 0 3000)))), (o, .inr (13, [.int 0, .ref zb, .ref fg]))] H := hP
  have hD : va_D A [(out, .inl (cL, 1, .inr (.inl (vp_updL (fun _ => 0) 0 3000)))), (o, .inr (13, [.int 0, .ref zb, .ref fg]))] := hD
  refine lv_istore (lv' := [(6, .int 3000), (5, .int 0), (4, .int 0), (3, .ref out), (2, .ref o), (1, .ref h), (0, .ref b)]) hx hb dL_law_1398 hl (by decide) rfl (fun ls hl => ?_)
  refine lv_aload_n hx hb dL_law_1400 rfl (lv_at hl 4 rfl) ?_
  refine f_aft_i (wr := [(out, .inl (cL, 1, .inr (.inl (vp_updL (fun _ => 0) 0 3000))))]) (f_runV (As := []) (rest := []) hx hb hml hown hts (kX12_thrown l D cI cO cL E M o zb fg 0 H.size) (fcwV 0 hts q186 q187 q188 q5 q189 rfl rfl (by decide +kernel) ⟨(Nat.le_of_ble_eq_true rfl), (Nat.le_of_ble_eq_true rfl)⟩) hE hP hD hS hA [1] rfl (by decide) (q0 := 1) (ci := 13) rfl rfl rfl rfl hl.1 rfl (Nat.le_of_ble_eq_true rfl) dL_law_1401 ⟨(Nat.le_of_ble_eq_true rfl), (Nat.le_of_ble_eq_true rfl)⟩) hP hD hS hA [1] [0] rfl rfl (by decide) (by decide) (fun r u H locs hr0 hP hD hS => ?_)
  subst hr0
  have hP : va_P D vwCl [(out, .inl (cL, 1, .inr (.inl (vp_updL (fun _ => 0) 0 3000)))), (o, .inr (13, [.int 0, .ref zb, .ref fg]))] H := hP
  have hD : va_D A [(out, .inl (cL, 1, .inr (.inl (vp_updL (fun _ => 0) 0 3000)))), (o, .inr (13, [.int 0, .ref zb, .ref fg]))] := hD
  refine lv_iload hx hb dL_law_1404 (lv_at hl 1 rfl) ?_
  refine lv_icmp_eq (tgt := 1411) hx hb dL_law_1406 (by decide) (fun _ => ?_) (fun h => absurd (by decide) h)
  refine lv_iload hx hb dL_law_1411 (lv_at hl 1 rfl) ?_
  refine lv_if_ne (tgt := 1428) hx hb dL_law_1413 (by decide) (fun h => absurd h (by decide)) (fun _ => ?_)
  refine lv_aload_n hx hb dL_law_1416 rfl (lv_at hl 3 rfl) ?_
  refine lv_iconst (v := 0) hx hb dL_law_1417 (by decide) ?_
  refine va_lald hx hb hE.1.1 hP 0 2 rfl rfl (by unfold vp_in; decide) dL_law_1418 ?_
  refine f_topl (v := 3000) (rfl) ?_
  refine lv_iload hx hb dL_law_1419 (lv_at hl 0 rfl) ?_
  refine lv_i2l (v := 3000) hx hb dL_law_1421 (by decide) ?_
  refine W.lcmp hx hb dL_law_1422 ?_
  refine f_topi (v := 0) (f_cmp0 _) ?_
  refine lv_if_eq (tgt := 1428) hx hb dL_law_1423 (by decide) (fun _ => ?_) (fun h => absurd (by decide) h)
  refine lv_goto (tgt := 1758) hx hb dL_law_1428 (by decide) ?_
  refine W.widen (k := 3000) (n := 30000) (Nat.le_of_ble_eq_true rfl) (Nat.le_of_ble_eq_true rfl) ?_
  exact law_end C hS (lv_sub hl [2, 6] rfl)
set_option maxHeartbeats 4000000 in
set_option maxRecDepth 100000 in
theorem law_many_6 {p : Program} {l : Launch} {e : Env} {s : State} {m : MethodId} {below : List Frame} {meth : Method} {c : Code} {b : Nat} {xs : Nat → Int32} {D : va_G} {cI cO cL : ClassId} {E M : Nat} {A : Nat → Prop} (C : fLC p l s m meth c b xs D cI cO cL E M A) {h f sh sp sj sc sa i1 i2 i3 tsh tsp tsj tsc tsa ti1 ti2 ti3 o zb zbp zbj zbc zba fg out : Nat}  (hs1 : (1 : Int32).toNatClampNeg = 1 ∧ xs 1 = 6)  {H : Heap} {locs : List Loc} {ls : Array Slot} (hP : va_P D vwCl [(h, .inr (8, [.ref f, .ref sh, .ref tsh])), (f, .inr (0, [.int 0, .ref E, .int 0])), (sh, .inr (6, [.ref sp, .ref sj, .ref sc, .ref sa, .int 0, .int 3000, .int 0, .int 0, .int 0, .int 0, .int 0, .int 0, .int 0, .int 0, .int 0])), (sp, .inr (0, [.int 0, .ref E, .int 0])), (sj, .inr (0, [.int 0, .ref E, .int 0])), (sc, .inr (0, [.int 0, .ref E, .int 0])), (sa, .inr (1, [.ref i1, .ref i2, .ref i3])), (i1, .inl (cI, 9, .inl (fun _ => 0))), (i2, .inl (cI, 9, .inl (fun _ => 0))), (i3, .inl (cI, 9, .inl (fun _ => 0))), (tsh, .inr (6, [.ref tsp, .ref tsj, .ref tsc, .ref tsa, .int 0, .int 3000, .int 0, .int 0, .int 0, .int 0, .int 0, .int 0, .int 0, .int 0, .int 0])), (tsp, .inr (0, [.int 0, .ref E, .int 0])), (tsj, .inr (0, [.int 0, .ref E, .int 0])), (tsc, .inr (0, [.int 0, .ref E, .int 0])), (tsa, .inr (1, [.ref ti1, .ref ti2, .ref ti3])), (ti1, .inl (cI, 9, .inl (fun _ => 0))), (ti2, .inl (cI, 9, .inl (fun _ => 0))), (ti3, .inl (cI, 9, .inl (fun _ => 0))), (o, .inr (13, [.int 0, .ref zb, .ref fg])), (zb, .inr (9, [.int 0, .int 3000, .int 0, .int 0, .int 0, .ref zbp, .ref zbj, .ref zbc, .ref zba, .int 0, .int 0, .int 0, .int 0, .int 0, .int 0])), (zbp, .inr (0, [.int 0, .ref E, .int 0])), (zbj, .inr (0, [.int 0, .ref E, .int 0])), (zbc, .inr (0, [.int 0, .ref E, .int 0])), (zba, .inr (0, [.int 0, .ref E, .int 0])), (fg, .inr (0, [.int 0, .ref E, .int 0])), (out, .inl (cL, 1, .inr (.inl (fun _ => 0))))] H) (hD : va_D A [(h, .inr (8, [.ref f, .ref sh, .ref tsh])), (f, .inr (0, [.int 0, .ref E, .int 0])), (sh, .inr (6, [.ref sp, .ref sj, .ref sc, .ref sa, .int 0, .int 3000, .int 0, .int 0, .int 0, .int 0, .int 0, .int 0, .int 0, .int 0, .int 0])), (sp, .inr (0, [.int 0, .ref E, .int 0])), (sj, .inr (0, [.int 0, .ref E, .int 0])), (sc, .inr (0, [.int 0, .ref E, .int 0])), (sa, .inr (1, [.ref i1, .ref i2, .ref i3])), (i1, .inl (cI, 9, .inl (fun _ => 0))), (i2, .inl (cI, 9, .inl (fun _ => 0))), (i3, .inl (cI, 9, .inl (fun _ => 0))), (tsh, .inr (6, [.ref tsp, .ref tsj, .ref tsc, .ref tsa, .int 0, .int 3000, .int 0, .int 0, .int 0, .int 0, .int 0, .int 0, .int 0, .int 0, .int 0])), (tsp, .inr (0, [.int 0, .ref E, .int 0])), (tsj, .inr (0, [.int 0, .ref E, .int 0])), (tsc, .inr (0, [.int 0, .ref E, .int 0])), (tsa, .inr (1, [.ref ti1, .ref ti2, .ref ti3])), (ti1, .inl (cI, 9, .inl (fun _ => 0))), (ti2, .inl (cI, 9, .inl (fun _ => 0))), (ti3, .inl (cI, 9, .inl (fun _ => 0))), (o, .inr (13, [.int 0, .ref zb, .ref fg])), (zb, .inr (9, [.int 0, .int 3000, .int 0, .int 0, .int 0, .ref zbp, .ref zbj, .ref zbc, .ref zba, .int 0, .int 0, .int 0, .int 0, .int 0, .int 0])), (zbp, .inr (0, [.int 0, .ref E, .int 0])), (zbj, .inr (0, [.int 0, .ref E, .int 0])), (zbc, .inr (0, [.int 0, .ref E, .int 0])), (zba, .inr (0, [.int 0, .ref E, .int 0])), (fg, .inr (0, [.int 0, .ref E, .int 0])), (out, .inl (cL, 1, .inr (.inl (fun _ => 0))))]) (hS : va_S A s.heap H locs) (hl : lv_has ls 9 [(4, .int 0), (3, .ref out), (2, .ref o), (1, .ref h), (0, .ref b)]) : W p l e room_1 s m #[Value.ref b] below meth c H locs 26 148 (lw_Z below #[Value.ref b] s) (F0 m 1375 ls []) := by
  obtain ⟨hx, hb, hr, hml, hown, hts, hX, hbl, hlocks, hl9, hE, hA, hA2⟩ := id C
  have hbA : ¬ A b := fun h => absurd (hA2 b h) (Nat.not_le.mpr hbl)
  refine lv_aload_n hx hb dL_law_1375 rfl (lv_at hl 3 rfl) ?_
  refine lv_aload_n hx hb dL_law_1376 rfl (lv_at hl 4 rfl) ?_
  refine lv_iload hx hb dL_law_1377 (lv_at hl 0 rfl) ?_
  refine lv_iconst (v := 1) hx hb dL_law_1379 (by decide) ?_
  refine f_iadd (v := 1) hx hb dL_law_1380 (by decide) ?_
  refine va_sld hx hb hX hbl hbA hS (by unfold vp_in; decide) dL_law_1381 ?_
  refine f_topi (v := 6) (f_xs hs1) ?_
  refine lv_aload_n hx hb dL_law_1382 rfl (lv_at hl 1 rfl) ?_
  refine f_aft_i (wr := [(o, .inr (13, [.int 0, .ref zb, .ref fg])), (zb, .inr (9, [.int 0, .int 3000, .int 0, .int 0, .int 0, .ref zbp, .ref zbj, .ref zbc, .ref zba, .int 0, .int 0, .int 0, .int 0, .int 0, .int 0])), (zbp, .inr (0, [.int 0, .ref E, .int 0])), (zbj, .inr (0, [.int 0, .ref E, .int 0])), (zbc, .inr (0, [.int 0, .ref E, .int 0])), (zba, .inr (0, [.int 0, .ref E, .int 0])), (fg, .inr (0, [.int 0, .ref E, .int 0]))]) (f_runSW (As := [.ref h, .int 6, .ref out]) (rest := []) hx hb hml hown hts (kL_many_6 l D cI cO cL E M h f sh sp sj sc sa i1 i2 i3 tsh tsp tsj tsc tsa ti1 ti2 ti3 out H.size) (fcwSW 3 hts q907 q908 q80 q909 rfl rfl (by decide +kernel) ⟨(Nat.le_of_ble_eq_true rfl), (Nat.le_of_ble_eq_true rfl)⟩) hE hP hD hS hA [0, 1, 2, 3, 4, 5, 6, 7, 8, 9, 10, 11, 12, 13, 14, 15, 16, 17, 25] rfl (by decide) rfl hl.1 rfl (Nat.le_of_ble_eq_true rfl) dL_law_1383 ⟨(Nat.le_of_ble_eq_true rfl), (Nat.le_of_ble_eq_true rfl)⟩) hP hD hS hA [0, 1, 2, 3, 4, 5, 6, 7, 8, 9, 10, 11, 12, 13, 14, 15, 16, 17, 25] [18, 19, 20, 21, 22, 23, 24] rfl rfl (by decide) (by decide) (fun r u H locs hr0 hP hD hS => ?_)
  subst hr0
  have hP : va_P D vwCl [(o, .inr (13, [.int 0, .ref zb, .ref fg])), (zb, .inr (9, [.int 0, .int 3000, .int 0, .int 0, .int 0, .ref zbp, .ref zbj, .ref zbc, .ref zba, .int 0, .int 0, .int 0, .int 0, .int 0, .int 0])), (zbp, .inr (0, [.int 0, .ref E, .int 0])), (zbj, .inr (0, [.int 0, .ref E, .int 0])), (zbc, .inr (0, [.int 0, .ref E, .int 0])), (zba, .inr (0, [.int 0, .ref E, .int 0])), (fg, .inr (0, [.int 0, .ref E, .int 0])), (out, .inl (cL, 1, .inr (.inl (fun _ => 0))))] H := hP
  have hD : va_D A [(o, .inr (13, [.int 0, .ref zb, .ref fg])), (zb, .inr (9, [.int 0, .int 3000, .int 0, .int 0, .int 0, .ref zbp, .ref zbj, .ref zbc, .ref zba, .int 0, .int 0, .int 0, .int 0, .int 0, .int 0])), (zbp, .inr (0, [.int 0, .ref E, .int 0])), (zbj, .inr (0, [.int 0, .ref E, .int 0])), (zbc, .inr (0, [.int 0, .ref E, .int 0])), (zba, .inr (0, [.int 0, .ref E, .int 0])), (fg, .inr (0, [.int 0, .ref E, .int 0])), (out, .inl (cL, 1, .inr (.inl (fun _ => 0))))] := hD
  refine lv_istore (lv' := [(5, .int 0), (4, .int 0), (3, .ref out), (2, .ref o), (1, .ref h), (0, .ref b)]) hx hb dL_law_1386 hl (by decide) rfl (fun ls hl => ?_)
  refine lv_aload_n hx hb dL_law_1388 rfl (lv_at hl 3 rfl) ?_
  refine lv_aload_n hx hb dL_law_1389 rfl (lv_at hl 5 rfl) ?_
  refine lv_iload hx hb dL_law_1390 (lv_at hl 1 rfl) ?_
  refine lv_iconst (v := 1) hx hb dL_law_1392 (by decide) ?_
  refine f_iadd (v := 1) hx hb dL_law_1393 (by decide) ?_
  refine va_sld hx hb hX hbl hbA hS (by unfold vp_in; decide) dL_law_1394 ?_
  refine f_topi (v := 6) (f_xs hs1) ?_
  refine f_aft_i (wr := [(out, .inl (cL, 1, .inr (.inl (fun _ => 0))))]) (f_runV (As := [.int 6]) (rest := []) hx hb hml hown hts (kX12_many_6 l D cI cO cL E M o zb zbp zbj zbc zba fg H.size) (fcwV 1 hts q930 q931 q932 q5 q933 rfl rfl (by decide +kernel) ⟨(Nat.le_of_ble_eq_true rfl), (Nat.le_of_ble_eq_true rfl)⟩) hE hP hD hS hA [0, 1, 2, 3, 4, 5, 6] rfl (by decide) (q0 := 0) (ci := 13) rfl rfl rfl rfl hl.1 rfl (Nat.le_of_ble_eq_true rfl) dL_law_1395 ⟨(Nat.le_of_ble_eq_true rfl), (Nat.le_of_ble_eq_true rfl)⟩) hP hD hS hA [0, 1, 2, 3, 4, 5, 6] [7] rfl rfl (by decide) (by decide) (fun r u H locs hr0 hP hD hS => ?_)
  subst hr0
  have hP : va_P D vwCl [(out, .inl (cL, 1, .inr (.inl (fun _ => 0)))), (o, .inr (13, [.int 0, .ref zb, .ref fg]))] H := hP
  have hD : va_D A [(out, .inl (cL, 1, .inr (.inl (fun _ => 0)))), (o, .inr (13, [.int 0, .ref zb, .ref fg]))] := hD
  refine lv_istore (lv' := [(6, .int 0), (5, .int 0), (4, .int 0), (3, .ref out), (2, .ref o), (1, .ref h), (0, .ref b)]) hx hb dL_law_1398 hl (by decide) rfl (fun ls hl => ?_)
  refine lv_aload_n hx hb dL_law_1400 rfl (lv_at hl 4 rfl) ?_
  refine f_aft_i (wr := [(out, .inl (cL, 1, .inr (.inl (fun _ => 0))))]) (f_runV (As := []) (rest := []) hx hb hml hown hts (kX12_thrown l D cI cO cL E M o zb fg 0 H.size) (fcwV 0 hts q186 q187 q188 q5 q189 rfl rfl (by decide +kernel) ⟨(Nat.le_of_ble_eq_true rfl), (Nat.le_of_ble_eq_true rfl)⟩) hE hP hD hS hA [1] rfl (by decide) (q0 := 1) (ci := 13) rfl rfl rfl rfl hl.1 rfl (Nat.le_of_ble_eq_true rfl) dL_law_1401 ⟨(Nat.le_of_ble_eq_true rfl), (Nat.le_of_ble_eq_true rfl)⟩) hP hD hS hA [1] [0] rfl rfl (by decide) (by decide) (fun r u H locs hr0 hP hD hS => ?_)
  subst hr0
  have hP : va_P D vwCl [(out, .inl (cL, 1, .inr (.inl (fun _ => 0)))), (o, .inr (13, [.int 0, .ref zb, .ref fg]))] H := hP
  have hD : va_D A [(out, .inl (cL, 1, .inr (.inl (fun _ => 0)))), (o, .inr (13, [.int 0, .ref zb, .ref fg]))] := hD
  refine lv_iload hx hb dL_law_1404 (lv_at hl 1 rfl) ?_
  refine lv_icmp_eq (tgt := 1411) hx hb dL_law_1406 (by decide) (fun _ => ?_) (fun h => absurd (by decide) h)
  refine lv_iload hx hb dL_law_1411 (lv_at hl 1 rfl) ?_
  refine lv_if_ne (tgt := 1428) hx hb dL_law_1413 (by decide) (fun h => absurd h (by decide)) (fun _ => ?_)
  refine lv_aload_n hx hb dL_law_1416 rfl (lv_at hl 3 rfl) ?_
  refine lv_iconst (v := 0) hx hb dL_law_1417 (by decide) ?_
  refine va_lald hx hb hE.1.1 hP 0 2 rfl rfl (by unfold vp_in; decide) dL_law_1418 ?_
  refine f_topl (v := 0) (rfl) ?_
  refine lv_iload hx hb dL_law_1419 (lv_at hl 0 rfl) ?_
  refine lv_i2l (v := 0) hx hb dL_law_1421 (by decide) ?_
  refine W.lcmp hx hb dL_law_1422 ?_
  refine f_topi (v := 0) (f_cmp0 _) ?_
  refine lv_if_eq (tgt := 1428) hx hb dL_law_1423 (by decide) (fun _ => ?_) (fun h => absurd (by decide) h)
  refine lv_goto (tgt := 1758) hx hb dL_law_1428 (by decide) ?_
  refine W.widen (k := 3000) (n := 30000) (Nat.le_of_ble_eq_true rfl) (Nat.le_of_ble_eq_true rfl) ?_
  exact law_end C hS (lv_sub hl [2, 6] rfl)
set_option maxHeartbeats 4000000 in
set_option maxRecDepth 100000 in
theorem law_many_7 {p : Program} {l : Launch} {e : Env} {s : State} {m : MethodId} {below : List Frame} {meth : Method} {c : Code} {b : Nat} {xs : Nat → Int32} {D : va_G} {cI cO cL : ClassId} {E M : Nat} {A : Nat → Prop} (C : fLC p l s m meth c b xs D cI cO cL E M A) {h f sh sp sj sc sa i1 i2 i3 tsh tsp tsj tsc tsa ti1 ti2 ti3 o zb zbp zbj zbc zba fg out : Nat}  (hs1 : (1 : Int32).toNatClampNeg = 1 ∧ xs 1 = 7)  {H : Heap} {locs : List Loc} {ls : Array Slot} (hP : va_P D vwCl [(h, .inr (8, [.ref f, .ref sh, .ref tsh])), (f, .inr (0, [.int 0, .ref E, .int 0])), (sh, .inr (6, [.ref sp, .ref sj, .ref sc, .ref sa, .int 0, .int 3000, .int 0, .int 0, .int 0, .int 0, .int 0, .int 0, .int 0, .int 0, .int 0])), (sp, .inr (0, [.int 0, .ref E, .int 0])), (sj, .inr (0, [.int 0, .ref E, .int 0])), (sc, .inr (0, [.int 0, .ref E, .int 0])), (sa, .inr (1, [.ref i1, .ref i2, .ref i3])), (i1, .inl (cI, 9, .inl (fun _ => 0))), (i2, .inl (cI, 9, .inl (fun _ => 0))), (i3, .inl (cI, 9, .inl (fun _ => 0))), (tsh, .inr (6, [.ref tsp, .ref tsj, .ref tsc, .ref tsa, .int 0, .int 3000, .int 0, .int 0, .int 0, .int 0, .int 0, .int 0, .int 0, .int 0, .int 0])), (tsp, .inr (0, [.int 0, .ref E, .int 0])), (tsj, .inr (0, [.int 0, .ref E, .int 0])), (tsc, .inr (0, [.int 0, .ref E, .int 0])), (tsa, .inr (1, [.ref ti1, .ref ti2, .ref ti3])), (ti1, .inl (cI, 9, .inl (fun _ => 0))), (ti2, .inl (cI, 9, .inl (fun _ => 0))), (ti3, .inl (cI, 9, .inl (fun _ => 0))), (o, .inr (13, [.int 0, .ref zb, .ref fg])), (zb, .inr (9, [.int 0, .int 3000, .int 0, .int 0, .int 0, .ref zbp, .ref zbj, .ref zbc, .ref zba, .int 0, .int 0, .int 0, .int 0, .int 0, .int 0])), (zbp, .inr (0, [.int 0, .ref E, .int 0])), (zbj, .inr (0, [.int 0, .ref E, .int 0])), (zbc, .inr (0, [.int 0, .ref E, .int 0])), (zba, .inr (0, [.int 0, .ref E, .int 0])), (fg, .inr (0, [.int 0, .ref E, .int 0])), (out, .inl (cL, 1, .inr (.inl (fun _ => 0))))] H) (hD : va_D A [(h, .inr (8, [.ref f, .ref sh, .ref tsh])), (f, .inr (0, [.int 0, .ref E, .int 0])), (sh, .inr (6, [.ref sp, .ref sj, .ref sc, .ref sa, .int 0, .int 3000, .int 0, .int 0, .int 0, .int 0, .int 0, .int 0, .int 0, .int 0, .int 0])), (sp, .inr (0, [.int 0, .ref E, .int 0])), (sj, .inr (0, [.int 0, .ref E, .int 0])), (sc, .inr (0, [.int 0, .ref E, .int 0])), (sa, .inr (1, [.ref i1, .ref i2, .ref i3])), (i1, .inl (cI, 9, .inl (fun _ => 0))), (i2, .inl (cI, 9, .inl (fun _ => 0))), (i3, .inl (cI, 9, .inl (fun _ => 0))), (tsh, .inr (6, [.ref tsp, .ref tsj, .ref tsc, .ref tsa, .int 0, .int 3000, .int 0, .int 0, .int 0, .int 0, .int 0, .int 0, .int 0, .int 0, .int 0])), (tsp, .inr (0, [.int 0, .ref E, .int 0])), (tsj, .inr (0, [.int 0, .ref E, .int 0])), (tsc, .inr (0, [.int 0, .ref E, .int 0])), (tsa, .inr (1, [.ref ti1, .ref ti2, .ref ti3])), (ti1, .inl (cI, 9, .inl (fun _ => 0))), (ti2, .inl (cI, 9, .inl (fun _ => 0))), (ti3, .inl (cI, 9, .inl (fun _ => 0))), (o, .inr (13, [.int 0, .ref zb, .ref fg])), (zb, .inr (9, [.int 0, .int 3000, .int 0, .int 0, .int 0, .ref zbp, .ref zbj, .ref zbc, .ref zba, .int 0, .int 0, .int 0, .int 0, .int 0, .int 0])), (zbp, .inr (0, [.int 0, .ref E, .int 0])), (zbj, .inr (0, [.int 0, .ref E, .int 0])), (zbc, .inr (0, [.int 0, .ref E, .int 0])), (zba, .inr (0, [.int 0, .ref E, .int 0])), (fg, .inr (0, [.int 0, .ref E, .int 0])), (out, .inl (cL, 1, .inr (.inl (fun _ => 0))))]) (hS : va_S A s.heap H locs) (hl : lv_has ls 9 [(4, .int 0), (3, .ref out), (2, .ref o), (1, .ref h), (0, .ref b)]) : W p l e room_1 s m #[Value.ref b] below meth c H locs 26 148 (lw_Z below #[Value.ref b] s) (F0 m 1375 ls []) := by
  obtain ⟨hx, hb, hr, hml, hown, hts, hX, hbl, hlocks, hl9, hE, hA, hA2⟩ := id C
  have hbA : ¬ A b := fun h => absurd (hA2 b h) (Nat.not_le.mpr hbl)
  refine lv_aload_n hx hb dL_law_1375 rfl (lv_at hl 3 rfl) ?_
  refine lv_aload_n hx hb dL_law_1376 rfl (lv_at hl 4 rfl) ?_
  refine lv_iload hx hb dL_law_1377 (lv_at hl 0 rfl) ?_
  refine lv_iconst (v := 1) hx hb dL_law_1379 (by decide) ?_
  refine f_iadd (v := 1) hx hb dL_law_1380 (by decide) ?_
  refine va_sld hx hb hX hbl hbA hS (by unfold vp_in; decide) dL_law_1381 ?_
  refine f_topi (v := 7) (f_xs hs1) ?_
  refine lv_aload_n hx hb dL_law_1382 rfl (lv_at hl 1 rfl) ?_
  refine f_aft_i (wr := [(o, .inr (13, [.int 0, .ref zb, .ref fg])), (zb, .inr (9, [.int 0, .int 3000, .int 0, .int 0, .int 0, .ref zbp, .ref zbj, .ref zbc, .ref zba, .int 0, .int 0, .int 0, .int 0, .int 0, .int 0])), (zbp, .inr (0, [.int 0, .ref E, .int 0])), (zbj, .inr (0, [.int 0, .ref E, .int 0])), (zbc, .inr (0, [.int 0, .ref E, .int 0])), (zba, .inr (0, [.int 0, .ref E, .int 0])), (fg, .inr (0, [.int 0, .ref E, .int 0]))]) (f_runSW (As := [.ref h, .int 7, .ref out]) (rest := []) hx hb hml hown hts (kL_many_7 l D cI cO cL E M h f sh sp sj sc sa i1 i2 i3 tsh tsp tsj tsc tsa ti1 ti2 ti3 out H.size) (fcwSW 3 hts q907 q908 q80 q909 rfl rfl (by decide +kernel) ⟨(Nat.le_of_ble_eq_true rfl), (Nat.le_of_ble_eq_true rfl)⟩) hE hP hD hS hA [0, 1, 2, 3, 4, 5, 6, 7, 8, 9, 10, 11, 12, 13, 14, 15, 16, 17, 25] rfl (by decide) rfl hl.1 rfl (Nat.le_of_ble_eq_true rfl) dL_law_1383 ⟨(Nat.le_of_ble_eq_true rfl), (Nat.le_of_ble_eq_true rfl)⟩) hP hD hS hA [0, 1, 2, 3, 4, 5, 6, 7, 8, 9, 10, 11, 12, 13, 14, 15, 16, 17, 25] [18, 19, 20, 21, 22, 23, 24] rfl rfl (by decide) (by decide) (fun r u H locs hr0 hP hD hS => ?_)
  subst hr0
  have hP : va_P D vwCl [(o, .inr (13, [.int 0, .ref zb, .ref fg])), (zb, .inr (9, [.int 0, .int 3000, .int 0, .int 0, .int 0, .ref zbp, .ref zbj, .ref zbc, .ref zba, .int 0, .int 0, .int 0, .int 0, .int 0, .int 0])), (zbp, .inr (0, [.int 0, .ref E, .int 0])), (zbj, .inr (0, [.int 0, .ref E, .int 0])), (zbc, .inr (0, [.int 0, .ref E, .int 0])), (zba, .inr (0, [.int 0, .ref E, .int 0])), (fg, .inr (0, [.int 0, .ref E, .int 0])), (out, .inl (cL, 1, .inr (.inl (fun _ => 0))))] H := hP
  have hD : va_D A [(o, .inr (13, [.int 0, .ref zb, .ref fg])), (zb, .inr (9, [.int 0, .int 3000, .int 0, .int 0, .int 0, .ref zbp, .ref zbj, .ref zbc, .ref zba, .int 0, .int 0, .int 0, .int 0, .int 0, .int 0])), (zbp, .inr (0, [.int 0, .ref E, .int 0])), (zbj, .inr (0, [.int 0, .ref E, .int 0])), (zbc, .inr (0, [.int 0, .ref E, .int 0])), (zba, .inr (0, [.int 0, .ref E, .int 0])), (fg, .inr (0, [.int 0, .ref E, .int 0])), (out, .inl (cL, 1, .inr (.inl (fun _ => 0))))] := hD
  refine lv_istore (lv' := [(5, .int 0), (4, .int 0), (3, .ref out), (2, .ref o), (1, .ref h), (0, .ref b)]) hx hb dL_law_1386 hl (by decide) rfl (fun ls hl => ?_)
  refine lv_aload_n hx hb dL_law_1388 rfl (lv_at hl 3 rfl) ?_
  refine lv_aload_n hx hb dL_law_1389 rfl (lv_at hl 5 rfl) ?_
  refine lv_iload hx hb dL_law_1390 (lv_at hl 1 rfl) ?_
  refine lv_iconst (v := 1) hx hb dL_law_1392 (by decide) ?_
  refine f_iadd (v := 1) hx hb dL_law_1393 (by decide) ?_
  refine va_sld hx hb hX hbl hbA hS (by unfold vp_in; decide) dL_law_1394 ?_
  refine f_topi (v := 7) (f_xs hs1) ?_
  refine f_aft_i (wr := [(out, .inl (cL, 1, .inr (.inl (fun _ => 0))))]) (f_runV (As := [.int 7]) (rest := []) hx hb hml hown hts (kX12_many_7 l D cI cO cL E M o zb zbp zbj zbc zba fg H.size) (fcwV 1 hts q930 q931 q932 q5 q933 rfl rfl (by decide +kernel) ⟨(Nat.le_of_ble_eq_true rfl), (Nat.le_of_ble_eq_true rfl)⟩) hE hP hD hS hA [0, 1, 2, 3, 4, 5, 6] rfl (by decide) (q0 := 0) (ci := 13) rfl rfl rfl rfl hl.1 rfl (Nat.le_of_ble_eq_true rfl) dL_law_1395 ⟨(Nat.le_of_ble_eq_true rfl), (Nat.le_of_ble_eq_true rfl)⟩) hP hD hS hA [0, 1, 2, 3, 4, 5, 6] [7] rfl rfl (by decide) (by decide) (fun r u H locs hr0 hP hD hS => ?_)
  subst hr0
  have hP : va_P D vwCl [(out, .inl (cL, 1, .inr (.inl (fun _ => 0)))), (o, .inr (13, [.int 0, .ref zb, .ref fg]))] H := hP
  have hD : va_D A [(out, .inl (cL, 1, .inr (.inl (fun _ => 0)))), (o, .inr (13, [.int 0, .ref zb, .ref fg]))] := hD
  refine lv_istore (lv' := [(6, .int 0), (5, .int 0), (4, .int 0), (3, .ref out), (2, .ref o), (1, .ref h), (0, .ref b)]) hx hb dL_law_1398 hl (by decide) rfl (fun ls hl => ?_)
  refine lv_aload_n hx hb dL_law_1400 rfl (lv_at hl 4 rfl) ?_
  refine f_aft_i (wr := [(out, .inl (cL, 1, .inr (.inl (fun _ => 0))))]) (f_runV (As := []) (rest := []) hx hb hml hown hts (kX12_thrown l D cI cO cL E M o zb fg 0 H.size) (fcwV 0 hts q186 q187 q188 q5 q189 rfl rfl (by decide +kernel) ⟨(Nat.le_of_ble_eq_true rfl), (Nat.le_of_ble_eq_true rfl)⟩) hE hP hD hS hA [1] rfl (by decide) (q0 := 1) (ci := 13) rfl rfl rfl rfl hl.1 rfl (Nat.le_of_ble_eq_true rfl) dL_law_1401 ⟨(Nat.le_of_ble_eq_true rfl), (Nat.le_of_ble_eq_true rfl)⟩) hP hD hS hA [1] [0] rfl rfl (by decide) (by decide) (fun r u H locs hr0 hP hD hS => ?_)
  subst hr0
  have hP : va_P D vwCl [(out, .inl (cL, 1, .inr (.inl (fun _ => 0)))), (o, .inr (13, [.int 0, .ref zb, .ref fg]))] H := hP
  have hD : va_D A [(out, .inl (cL, 1, .inr (.inl (fun _ => 0)))), (o, .inr (13, [.int 0, .ref zb, .ref fg]))] := hD
  refine lv_iload hx hb dL_law_1404 (lv_at hl 1 rfl) ?_
  refine lv_icmp_eq (tgt := 1411) hx hb dL_law_1406 (by decide) (fun _ => ?_) (fun h => absurd (by decide) h)
  refine lv_iload hx hb dL_law_1411 (lv_at hl 1 rfl) ?_
  refine lv_if_ne (tgt := 1428) hx hb dL_law_1413 (by decide) (fun h => absurd h (by decide)) (fun _ => ?_)
  refine lv_aload_n hx hb dL_law_1416 rfl (lv_at hl 3 rfl) ?_
  refine lv_iconst (v := 0) hx hb dL_law_1417 (by decide) ?_
  refine va_lald hx hb hE.1.1 hP 0 2 rfl rfl (by unfold vp_in; decide) dL_law_1418 ?_
  refine f_topl (v := 0) (rfl) ?_
  refine lv_iload hx hb dL_law_1419 (lv_at hl 0 rfl) ?_
  refine lv_i2l (v := 0) hx hb dL_law_1421 (by decide) ?_
  refine W.lcmp hx hb dL_law_1422 ?_
  refine f_topi (v := 0) (f_cmp0 _) ?_
  refine lv_if_eq (tgt := 1428) hx hb dL_law_1423 (by decide) (fun _ => ?_) (fun h => absurd (by decide) h)
  refine lv_goto (tgt := 1758) hx hb dL_law_1428 (by decide) ?_
  refine W.widen (k := 3000) (n := 30000) (Nat.le_of_ble_eq_true rfl) (Nat.le_of_ble_eq_true rfl) ?_
  exact law_end C hS (lv_sub hl [2, 6] rfl)
set_option maxHeartbeats 4000000 in
set_option maxRecDepth 100000 in
theorem law_many_8 {p : Program} {l : Launch} {e : Env} {s : State} {m : MethodId} {below : List Frame} {meth : Method} {c : Code} {b : Nat} {xs : Nat → Int32} {D : va_G} {cI cO cL : ClassId} {E M : Nat} {A : Nat → Prop} (C : fLC p l s m meth c b xs D cI cO cL E M A) {h f sh sp sj sc sa i1 i2 i3 tsh tsp tsj tsc tsa ti1 ti2 ti3 o zb zbp zbj zbc zba fg out : Nat}  (hs1 : (1 : Int32).toNatClampNeg = 1 ∧ xs 1 = 8)  {H : Heap} {locs : List Loc} {ls : Array Slot} (hP : va_P D vwCl [(h, .inr (8, [.ref f, .ref sh, .ref tsh])), (f, .inr (0, [.int 0, .ref E, .int 0])), (sh, .inr (6, [.ref sp, .ref sj, .ref sc, .ref sa, .int 0, .int 3000, .int 0, .int 0, .int 0, .int 0, .int 0, .int 0, .int 0, .int 0, .int 0])), (sp, .inr (0, [.int 0, .ref E, .int 0])), (sj, .inr (0, [.int 0, .ref E, .int 0])), (sc, .inr (0, [.int 0, .ref E, .int 0])), (sa, .inr (1, [.ref i1, .ref i2, .ref i3])), (i1, .inl (cI, 9, .inl (fun _ => 0))), (i2, .inl (cI, 9, .inl (fun _ => 0))), (i3, .inl (cI, 9, .inl (fun _ => 0))), (tsh, .inr (6, [.ref tsp, .ref tsj, .ref tsc, .ref tsa, .int 0, .int 3000, .int 0, .int 0, .int 0, .int 0, .int 0, .int 0, .int 0, .int 0, .int 0])), (tsp, .inr (0, [.int 0, .ref E, .int 0])), (tsj, .inr (0, [.int 0, .ref E, .int 0])), (tsc, .inr (0, [.int 0, .ref E, .int 0])), (tsa, .inr (1, [.ref ti1, .ref ti2, .ref ti3])), (ti1, .inl (cI, 9, .inl (fun _ => 0))), (ti2, .inl (cI, 9, .inl (fun _ => 0))), (ti3, .inl (cI, 9, .inl (fun _ => 0))), (o, .inr (13, [.int 0, .ref zb, .ref fg])), (zb, .inr (9, [.int 0, .int 3000, .int 0, .int 0, .int 0, .ref zbp, .ref zbj, .ref zbc, .ref zba, .int 0, .int 0, .int 0, .int 0, .int 0, .int 0])), (zbp, .inr (0, [.int 0, .ref E, .int 0])), (zbj, .inr (0, [.int 0, .ref E, .int 0])), (zbc, .inr (0, [.int 0, .ref E, .int 0])), (zba, .inr (0, [.int 0, .ref E, .int 0])), (fg, .inr (0, [.int 0, .ref E, .int 0])), (out, .inl (cL, 1, .inr (.inl (fun _ => 0))))] H) (hD : va_D A [(h, .inr (8, [.ref f, .ref sh, .ref tsh])), (f, .inr (0, [.int 0, .ref E, .int 0])), (sh, .inr (6, [.ref sp, .ref sj, .ref sc, .ref sa, .int 0, .int 3000, .int 0, .int 0, .int 0, .int 0, .int 0, .int 0, .int 0, .int 0, .int 0])), (sp, .inr (0, [.int 0, .ref E, .int 0])), (sj, .inr (0, [.int 0, .ref E, .int 0])), (sc, .inr (0, [.int 0, .ref E, .int 0])), (sa, .inr (1, [.ref i1, .ref i2, .ref i3])), (i1, .inl (cI, 9, .inl (fun _ => 0))), (i2, .inl (cI, 9, .inl (fun _ => 0))), (i3, .inl (cI, 9, .inl (fun _ => 0))), (tsh, .inr (6, [.ref tsp, .ref tsj, .ref tsc, .ref tsa, .int 0, .int 3000, .int 0, .int 0, .int 0, .int 0, .int 0, .int 0, .int 0, .int 0, .int 0])), (tsp, .inr (0, [.int 0, .ref E, .int 0])), (tsj, .inr (0, [.int 0, .ref E, .int 0])), (tsc, .inr (0, [.int 0, .ref E, .int 0])), (tsa, .inr (1, [.ref ti1, .ref ti2, .ref ti3])), (ti1, .inl (cI, 9, .inl (fun _ => 0))), (ti2, .inl (cI, 9, .inl (fun _ => 0))), (ti3, .inl (cI, 9, .inl (fun _ => 0))), (o, .inr (13, [.int 0, .ref zb, .ref fg])), (zb, .inr (9, [.int 0, .int 3000, .int 0, .int 0, .int 0, .ref zbp, .ref zbj, .ref zbc, .ref zba, .int 0, .int 0, .int 0, .int 0, .int 0, .int 0])), (zbp, .inr (0, [.int 0, .ref E, .int 0])), (zbj, .inr (0, [.int 0, .ref E, .int 0])), (zbc, .inr (0, [.int 0, .ref E, .int 0])), (zba, .inr (0, [.int 0, .ref E, .int 0])), (fg, .inr (0, [.int 0, .ref E, .int 0])), (out, .inl (cL, 1, .inr (.inl (fun _ => 0))))]) (hS : va_S A s.heap H locs) (hl : lv_has ls 9 [(4, .int 0), (3, .ref out), (2, .ref o), (1, .ref h), (0, .ref b)]) : W p l e room_1 s m #[Value.ref b] below meth c H locs 26 148 (lw_Z below #[Value.ref b] s) (F0 m 1375 ls []) := by
  obtain ⟨hx, hb, hr, hml, hown, hts, hX, hbl, hlocks, hl9, hE, hA, hA2⟩ := id C
  have hbA : ¬ A b := fun h => absurd (hA2 b h) (Nat.not_le.mpr hbl)
  refine lv_aload_n hx hb dL_law_1375 rfl (lv_at hl 3 rfl) ?_
  refine lv_aload_n hx hb dL_law_1376 rfl (lv_at hl 4 rfl) ?_
  refine lv_iload hx hb dL_law_1377 (lv_at hl 0 rfl) ?_
  refine lv_iconst (v := 1) hx hb dL_law_1379 (by decide) ?_
  refine f_iadd (v := 1) hx hb dL_law_1380 (by decide) ?_
  refine va_sld hx hb hX hbl hbA hS (by unfold vp_in; decide) dL_law_1381 ?_
  refine f_topi (v := 8) (f_xs hs1) ?_
  refine lv_aload_n hx hb dL_law_1382 rfl (lv_at hl 1 rfl) ?_
  refine f_aft_i (wr := [(o, .inr (13, [.int 0, .ref zb, .ref fg])), (zb, .inr (9, [.int 0, .int 3000, .int 0, .int 0, .int 0, .ref zbp, .ref zbj, .ref zbc, .ref zba, .int 0, .int 0, .int 0, .int 0, .int 0, .int 0])), (zbp, .inr (0, [.int 0, .ref E, .int 0])), (zbj, .inr (0, [.int 0, .ref E, .int 0])), (zbc, .inr (0, [.int 0, .ref E, .int 0])), (zba, .inr (0, [.int 0, .ref E, .int 0])), (fg, .inr (0, [.int 0, .ref E, .int 0]))]) (f_runSW (As := [.ref h, .int 8, .ref out]) (rest := []) hx hb hml hown hts (kL_many_8 l D cI cO cL E M h f sh sp sj sc sa i1 i2 i3 tsh tsp tsj tsc tsa ti1 ti2 ti3 out H.size) (fcwSW 3 hts q907 q908 q80 q909 rfl rfl (by decide +kernel) ⟨(Nat.le_of_ble_eq_true rfl), (Nat.le_of_ble_eq_true rfl)⟩) hE hP hD hS hA [0, 1, 2, 3, 4, 5, 6, 7, 8, 9, 10, 11, 12, 13, 14, 15, 16, 17, 25] rfl (by decide) rfl hl.1 rfl (Nat.le_of_ble_eq_true rfl) dL_law_1383 ⟨(Nat.le_of_ble_eq_true rfl), (Nat.le_of_ble_eq_true rfl)⟩) hP hD hS hA [0, 1, 2, 3, 4, 5, 6, 7, 8, 9, 10, 11, 12, 13, 14, 15, 16, 17, 25] [18, 19, 20, 21, 22, 23, 24] rfl rfl (by decide) (by decide) (fun r u H locs hr0 hP hD hS => ?_)
  subst hr0
  have hP : va_P D vwCl [(o, .inr (13, [.int 0, .ref zb, .ref fg])), (zb, .inr (9, [.int 0, .int 3000, .int 0, .int 0, .int 0, .ref zbp, .ref zbj, .ref zbc, .ref zba, .int 0, .int 0, .int 0, .int 0, .int 0, .int 0])), (zbp, .inr (0, [.int 0, .ref E, .int 0])), (zbj, .inr (0, [.int 0, .ref E, .int 0])), (zbc, .inr (0, [.int 0, .ref E, .int 0])), (zba, .inr (0, [.int 0, .ref E, .int 0])), (fg, .inr (0, [.int 0, .ref E, .int 0])), (out, .inl (cL, 1, .inr (.inl (fun _ => 0))))] H := hP
  have hD : va_D A [(o, .inr (13, [.int 0, .ref zb, .ref fg])), (zb, .inr (9, [.int 0, .int 3000, .int 0, .int 0, .int 0, .ref zbp, .ref zbj, .ref zbc, .ref zba, .int 0, .int 0, .int 0, .int 0, .int 0, .int 0])), (zbp, .inr (0, [.int 0, .ref E, .int 0])), (zbj, .inr (0, [.int 0, .ref E, .int 0])), (zbc, .inr (0, [.int 0, .ref E, .int 0])), (zba, .inr (0, [.int 0, .ref E, .int 0])), (fg, .inr (0, [.int 0, .ref E, .int 0])), (out, .inl (cL, 1, .inr (.inl (fun _ => 0))))] := hD
  refine lv_istore (lv' := [(5, .int 0), (4, .int 0), (3, .ref out), (2, .ref o), (1, .ref h), (0, .ref b)]) hx hb dL_law_1386 hl (by decide) rfl (fun ls hl => ?_)
  refine lv_aload_n hx hb dL_law_1388 rfl (lv_at hl 3 rfl) ?_
  refine lv_aload_n hx hb dL_law_1389 rfl (lv_at hl 5 rfl) ?_
  refine lv_iload hx hb dL_law_1390 (lv_at hl 1 rfl) ?_
  refine lv_iconst (v := 1) hx hb dL_law_1392 (by decide) ?_
  refine f_iadd (v := 1) hx hb dL_law_1393 (by decide) ?_
  refine va_sld hx hb hX hbl hbA hS (by unfold vp_in; decide) dL_law_1394 ?_
  refine f_topi (v := 8) (f_xs hs1) ?_
  refine f_aft_i (wr := [(out, .inl (cL, 1, .inr (.inl (fun _ => 0))))]) (f_runV (As := [.int 8]) (rest := []) hx hb hml hown hts (kX12_many_8 l D cI cO cL E M o zb zbp zbj zbc zba fg H.size) (fcwV 1 hts q930 q931 q932 q5 q933 rfl rfl (by decide +kernel) ⟨(Nat.le_of_ble_eq_true rfl), (Nat.le_of_ble_eq_true rfl)⟩) hE hP hD hS hA [0, 1, 2, 3, 4, 5, 6] rfl (by decide) (q0 := 0) (ci := 13) rfl rfl rfl rfl hl.1 rfl (Nat.le_of_ble_eq_true rfl) dL_law_1395 ⟨(Nat.le_of_ble_eq_true rfl), (Nat.le_of_ble_eq_true rfl)⟩) hP hD hS hA [0, 1, 2, 3, 4, 5, 6] [7] rfl rfl (by decide) (by decide) (fun r u H locs hr0 hP hD hS => ?_)
  subst hr0
  have hP : va_P D vwCl [(out, .inl (cL, 1, .inr (.inl (fun _ => 0)))), (o, .inr (13, [.int 0, .ref zb, .ref fg]))] H := hP
  have hD : va_D A [(out, .inl (cL, 1, .inr (.inl (fun _ => 0)))), (o, .inr (13, [.int 0, .ref zb, .ref fg]))] := hD
  refine lv_istore (lv' := [(6, .int 0), (5, .int 0), (4, .int 0), (3, .ref out), (2, .ref o), (1, .ref h), (0, .ref b)]) hx hb dL_law_1398 hl (by decide) rfl (fun ls hl => ?_)
  refine lv_aload_n hx hb dL_law_1400 rfl (lv_at hl 4 rfl) ?_
  refine f_aft_i (wr := [(out, .inl (cL, 1, .inr (.inl (fun _ => 0))))]) (f_runV (As := []) (rest := []) hx hb hml hown hts (kX12_thrown l D cI cO cL E M o zb fg 0 H.size) (fcwV 0 hts q186 q187 q188 q5 q189 rfl rfl (by decide +kernel) ⟨(Nat.le_of_ble_eq_true rfl), (Nat.le_of_ble_eq_true rfl)⟩) hE hP hD hS hA [1] rfl (by decide) (q0 := 1) (ci := 13) rfl rfl rfl rfl hl.1 rfl (Nat.le_of_ble_eq_true rfl) dL_law_1401 ⟨(Nat.le_of_ble_eq_true rfl), (Nat.le_of_ble_eq_true rfl)⟩) hP hD hS hA [1] [0] rfl rfl (by decide) (by decide) (fun r u H locs hr0 hP hD hS => ?_)
  subst hr0
  have hP : va_P D vwCl [(out, .inl (cL, 1, .inr (.inl (fun _ => 0)))), (o, .inr (13, [.int 0, .ref zb, .ref fg]))] H := hP
  have hD : va_D A [(out, .inl (cL, 1, .inr (.inl (fun _ => 0)))), (o, .inr (13, [.int 0, .ref zb, .ref fg]))] := hD
  refine lv_iload hx hb dL_law_1404 (lv_at hl 1 rfl) ?_
  refine lv_icmp_eq (tgt := 1411) hx hb dL_law_1406 (by decide) (fun _ => ?_) (fun h => absurd (by decide) h)
  refine lv_iload hx hb dL_law_1411 (lv_at hl 1 rfl) ?_
  refine lv_if_ne (tgt := 1428) hx hb dL_law_1413 (by decide) (fun h => absurd h (by decide)) (fun _ => ?_)
  refine lv_aload_n hx hb dL_law_1416 rfl (lv_at hl 3 rfl) ?_
  refine lv_iconst (v := 0) hx hb dL_law_1417 (by decide) ?_
  refine va_lald hx hb hE.1.1 hP 0 2 rfl rfl (by unfold vp_in; decide) dL_law_1418 ?_
  refine f_topl (v := 0) (rfl) ?_
  refine lv_iload hx hb dL_law_1419 (lv_at hl 0 rfl) ?_
  refine lv_i2l (v := 0) hx hb dL_law_1421 (by decide) ?_
  refine W.lcmp hx hb dL_law_1422 ?_
  refine f_topi (v := 0) (f_cmp0 _) ?_
  refine lv_if_eq (tgt := 1428) hx hb dL_law_1423 (by decide) (fun _ => ?_) (fun h => absurd (by decide) h)
  refine lv_goto (tgt := 1758) hx hb dL_law_1428 (by decide) ?_
  refine W.widen (k := 3000) (n := 30000) (Nat.le_of_ble_eq_true rfl) (Nat.le_of_ble_eq_true rfl) ?_
  exact law_end C hS (lv_sub hl [2, 6] rfl)
set_option maxHeartbeats 4000000 in
set_option maxRecDepth 100000 in
theorem law_many_9 {p : Program} {l : Launch} {e : Env} {s : State} {m : MethodId} {below : List Frame} {meth : Method} {c : Code} {b : Nat} {xs : Nat → Int32} {D : va_G} {cI cO cL : ClassId} {E M : Nat} {A : Nat → Prop} (C : fLC p l s m meth c b xs D cI cO cL E M A) {h f sh sp sj sc sa i1 i2 i3 tsh tsp tsj tsc tsa ti1 ti2 ti3 o zb zbp zbj zbc zba fg out : Nat}  (hs1 : (1 : Int32).toNatClampNeg = 1 ∧ xs 1 = 9)  {H : Heap} {locs : List Loc} {ls : Array Slot} (hP : va_P D vwCl [(h, .inr (8, [.ref f, .ref sh, .ref tsh])), (f, .inr (0, [.int 0, .ref E, .int 0])), (sh, .inr (6, [.ref sp, .ref sj, .ref sc, .ref sa, .int 0, .int 3000, .int 0, .int 0, .int 0, .int 0, .int 0, .int 0, .int 0, .int 0, .int 0])), (sp, .inr (0, [.int 0, .ref E, .int 0])), (sj, .inr (0, [.int 0, .ref E, .int 0])), (sc, .inr (0, [.int 0, .ref E, .int 0])), (sa, .inr (1, [.ref i1, .ref i2, .ref i3])), (i1, .inl (cI, 9, .inl (fun _ => 0))), (i2, .inl (cI, 9, .inl (fun _ => 0))), (i3, .inl (cI, 9, .inl (fun _ => 0))), (tsh, .inr (6, [.ref tsp, .ref tsj, .ref tsc, .ref tsa, .int 0, .int 3000, .int 0, .int 0, .int 0, .int 0, .int 0, .int 0, .int 0, .int 0, .int 0])), (tsp, .inr (0, [.int 0, .ref E, .int 0])), (tsj, .inr (0, [.int 0, .ref E, .int 0])), (tsc, .inr (0, [.int 0, .ref E, .int 0])), (tsa, .inr (1, [.ref ti1, .ref ti2, .ref ti3])), (ti1, .inl (cI, 9, .inl (fun _ => 0))), (ti2, .inl (cI, 9, .inl (fun _ => 0))), (ti3, .inl (cI, 9, .inl (fun _ => 0))), (o, .inr (13, [.int 0, .ref zb, .ref fg])), (zb, .inr (9, [.int 0, .int 3000, .int 0, .int 0, .int 0, .ref zbp, .ref zbj, .ref zbc, .ref zba, .int 0, .int 0, .int 0, .int 0, .int 0, .int 0])), (zbp, .inr (0, [.int 0, .ref E, .int 0])), (zbj, .inr (0, [.int 0, .ref E, .int 0])), (zbc, .inr (0, [.int 0, .ref E, .int 0])), (zba, .inr (0, [.int 0, .ref E, .int 0])), (fg, .inr (0, [.int 0, .ref E, .int 0])), (out, .inl (cL, 1, .inr (.inl (fun _ => 0))))] H) (hD : va_D A [(h, .inr (8, [.ref f, .ref sh, .ref tsh])), (f, .inr (0, [.int 0, .ref E, .int 0])), (sh, .inr (6, [.ref sp, .ref sj, .ref sc, .ref sa, .int 0, .int 3000, .int 0, .int 0, .int 0, .int 0, .int 0, .int 0, .int 0, .int 0, .int 0])), (sp, .inr (0, [.int 0, .ref E, .int 0])), (sj, .inr (0, [.int 0, .ref E, .int 0])), (sc, .inr (0, [.int 0, .ref E, .int 0])), (sa, .inr (1, [.ref i1, .ref i2, .ref i3])), (i1, .inl (cI, 9, .inl (fun _ => 0))), (i2, .inl (cI, 9, .inl (fun _ => 0))), (i3, .inl (cI, 9, .inl (fun _ => 0))), (tsh, .inr (6, [.ref tsp, .ref tsj, .ref tsc, .ref tsa, .int 0, .int 3000, .int 0, .int 0, .int 0, .int 0, .int 0, .int 0, .int 0, .int 0, .int 0])), (tsp, .inr (0, [.int 0, .ref E, .int 0])), (tsj, .inr (0, [.int 0, .ref E, .int 0])), (tsc, .inr (0, [.int 0, .ref E, .int 0])), (tsa, .inr (1, [.ref ti1, .ref ti2, .ref ti3])), (ti1, .inl (cI, 9, .inl (fun _ => 0))), (ti2, .inl (cI, 9, .inl (fun _ => 0))), (ti3, .inl (cI, 9, .inl (fun _ => 0))), (o, .inr (13, [.int 0, .ref zb, .ref fg])), (zb, .inr (9, [.int 0, .int 3000, .int 0, .int 0, .int 0, .ref zbp, .ref zbj, .ref zbc, .ref zba, .int 0, .int 0, .int 0, .int 0, .int 0, .int 0])), (zbp, .inr (0, [.int 0, .ref E, .int 0])), (zbj, .inr (0, [.int 0, .ref E, .int 0])), (zbc, .inr (0, [.int 0, .ref E, .int 0])), (zba, .inr (0, [.int 0, .ref E, .int 0])), (fg, .inr (0, [.int 0, .ref E, .int 0])), (out, .inl (cL, 1, .inr (.inl (fun _ => 0))))]) (hS : va_S A s.heap H locs) (hl : lv_has ls 9 [(4, .int 0), (3, .ref out), (2, .ref o), (1, .ref h), (0, .ref b)]) : W p l e room_1 s m #[Value.ref b] below meth c H locs 26 148 (lw_Z below #[Value.ref b] s) (F0 m 1375 ls []) := by
  obtain ⟨hx, hb, hr, hml, hown, hts, hX, hbl, hlocks, hl9, hE, hA, hA2⟩ := id C
  have hbA : ¬ A b := fun h => absurd (hA2 b h) (Nat.not_le.mpr hbl)
  refine lv_aload_n hx hb dL_law_1375 rfl (lv_at hl 3 rfl) ?_
  refine lv_aload_n hx hb dL_law_1376 rfl (lv_at hl 4 rfl) ?_
  refine lv_iload hx hb dL_law_1377 (lv_at hl 0 rfl) ?_
  refine lv_iconst (v := 1) hx hb dL_law_1379 (by decide) ?_
  refine f_iadd (v := 1) hx hb dL_law_1380 (by decide) ?_
  refine va_sld hx hb hX hbl hbA hS (by unfold vp_in; decide) dL_law_1381 ?_
  refine f_topi (v := 9) (f_xs hs1) ?_
  refine lv_aload_n hx hb dL_law_1382 rfl (lv_at hl 1 rfl) ?_
  refine f_aft_i (wr := [(o, .inr (13, [.int 0, .ref zb, .ref fg])), (zb, .inr (9, [.int 0, .int 3000, .int 0, .int 0, .int 0, .ref zbp, .ref zbj, .ref zbc, .ref zba, .int 0, .int 0, .int 0, .int 0, .int 0, .int 0])), (zbp, .inr (0, [.int 0, .ref E, .int 0])), (zbj, .inr (0, [.int 0, .ref E, .int 0])), (zbc, .inr (0, [.int 0, .ref E, .int 0])), (zba, .inr (0, [.int 0, .ref E, .int 0])), (fg, .inr (0, [.int 0, .ref E, .int 0]))]) (f_runSW (As := [.ref h, .int 9, .ref out]) (rest := []) hx hb hml hown hts (kL_many_9 l D cI cO cL E M h f sh sp sj sc sa i1 i2 i3 tsh tsp tsj tsc tsa ti1 ti2 ti3 out H.size) (fcwSW 3 hts q907 q908 q80 q909 rfl rfl (by decide +kernel) ⟨(Nat.le_of_ble_eq_true rfl), (Nat.le_of_ble_eq_true rfl)⟩) hE hP hD hS hA [0, 1, 2, 3, 4, 5, 6, 7, 8, 9, 10, 11, 12, 13, 14, 15, 16, 17, 25] rfl (by decide) rfl hl.1 rfl (Nat.le_of_ble_eq_true rfl) dL_law_1383 ⟨(Nat.le_of_ble_eq_true rfl), (Nat.le_of_ble_eq_true rfl)⟩) hP hD hS hA [0, 1, 2, 3, 4, 5, 6, 7, 8, 9, 10, 11, 12, 13, 14, 15, 16, 17, 25] [18, 19, 20, 21, 22, 23, 24] rfl rfl (by decide) (by decide) (fun r u H locs hr0 hP hD hS => ?_)
  subst hr0
  have hP : va_P D vwCl [(o, .inr (13, [.int 0, .ref zb, .ref fg])), (zb, .inr (9, [.int 0, .int 3000, .int 0, .int 0, .int 0, .ref zbp, .ref zbj, .ref zbc, .ref zba, .int 0, .int 0, .int 0, .int 0, .int 0, .int 0])), (zbp, .inr (0, [.int 0, .ref E, .int 0])), (zbj, .inr (0, [.int 0, .ref E, .int 0])), (zbc, .inr (0, [.int 0, .ref E, .int 0])), (zba, .inr (0, [.int 0, .ref E, .int 0])), (fg, .inr (0, [.int 0, .ref E, .int 0])), (out, .inl (cL, 1, .inr (.inl (fun _ => 0))))] H := hP
  have hD : va_D A [(o, .inr (13, [.int 0, .ref zb, .ref fg])), (zb, .inr (9, [.int 0, .int 3000, .int 0, .int 0, .int 0, .ref zbp, .ref zbj, .ref zbc, .ref zba, .int 0, .int 0, .int 0, .int 0, .int 0, .int 0])), (zbp, .inr (0, [.int 0, .ref E, .int 0])), (zbj, .inr (0, [.int 0, .ref E, .int 0])), (zbc, .inr (0, [.int 0, .ref E, .int 0])), (zba, .inr (0, [.int 0, .ref E, .int 0])), (fg, .inr (0, [.int 0, .ref E, .int 0])), (out, .inl (cL, 1, .inr (.inl (fun _ => 0))))] := hD
  refine lv_istore (lv' := [(5, .int 0), (4, .int 0), (3, .ref out), (2, .ref o), (1, .ref h), (0, .ref b)]) hx hb dL_law_1386 hl (by decide) rfl (fun ls hl => ?_)
  refine lv_aload_n hx hb dL_law_1388 rfl (lv_at hl 3 rfl) ?_
  refine lv_aload_n hx hb dL_law_1389 rfl (lv_at hl 5 rfl) ?_
  refine lv_iload hx hb dL_law_1390 (lv_at hl 1 rfl) ?_
  refine lv_iconst (v := 1) hx hb dL_law_1392 (by decide) ?_
  refine f_iadd (v := 1) hx hb dL_law_1393 (by decide) ?_
  refine va_sld hx hb hX hbl hbA hS (by unfold vp_in; decide) dL_law_1394 ?_
  refine f_topi (v := 9) (f_xs hs1) ?_
  refine f_aft_i (wr := [(out, .inl (cL, 1, .inr (.inl (fun _ => 0))))]) (f_runV (As := [.int 9]) (rest := []) hx hb hml hown hts (kX12_many_9 l D cI cO cL E M o zb zbp zbj zbc zba fg H.size) (fcwV 1 hts q930 q931 q932 q5 q933 rfl rfl (by decide +kernel) ⟨(Nat.le_of_ble_eq_true rfl), (Nat.le_of_ble_eq_true rfl)⟩) hE hP hD hS hA [0, 1, 2, 3, 4, 5, 6] rfl (by decide) (q0 := 0) (ci := 13) rfl rfl rfl rfl hl.1 rfl (Nat.le_of_ble_eq_true rfl) dL_law_1395 ⟨(Nat.le_of_ble_eq_true rfl), (Nat.le_of_ble_eq_true rfl)⟩) hP hD hS hA [0, 1, 2, 3, 4, 5, 6] [7] rfl rfl (by decide) (by decide) (fun r u H locs hr0 hP hD hS => ?_)
  subst hr0
  have hP : va_P D vwCl [(out, .inl (cL, 1, .inr (.inl (fun _ => 0)))), (o, .inr (13, [.int 0, .ref zb, .ref fg]))] H := hP
  have hD : va_D A [(out, .inl (cL, 1, .inr (.inl (fun _ => 0)))), (o, .inr (13, [.int 0, .ref zb, .ref fg]))] := hD
  refine lv_istore (lv' := [(6, .int 0), (5, .int 0), (4, .int 0), (3, .ref out), (2, .ref o), (1, .ref h), (0, .ref b)]) hx hb dL_law_1398 hl (by decide) rfl (fun ls hl => ?_)
  refine lv_aload_n hx hb dL_law_1400 rfl (lv_at hl 4 rfl) ?_
  refine f_aft_i (wr := [(out, .inl (cL, 1, .inr (.inl (fun _ => 0))))]) (f_runV (As := []) (rest := []) hx hb hml hown hts (kX12_thrown l D cI cO cL E M o zb fg 0 H.size) (fcwV 0 hts q186 q187 q188 q5 q189 rfl rfl (by decide +kernel) ⟨(Nat.le_of_ble_eq_true rfl), (Nat.le_of_ble_eq_true rfl)⟩) hE hP hD hS hA [1] rfl (by decide) (q0 := 1) (ci := 13) rfl rfl rfl rfl hl.1 rfl (Nat.le_of_ble_eq_true rfl) dL_law_1401 ⟨(Nat.le_of_ble_eq_true rfl), (Nat.le_of_ble_eq_true rfl)⟩) hP hD hS hA [1] [0] rfl rfl (by decide) (by decide) (fun r u H locs hr0 hP hD hS => ?_)
  subst hr0
  have hP : va_P D vwCl [(out, .inl (cL, 1, .inr (.inl (fun _ => 0)))), (o, .inr (13, [.int 0, .ref zb, .ref fg]))] H := hP
  have hD : va_D A [(out, .inl (cL, 1, .inr (.inl (fun _ => 0)))), (o, .inr (13, [.int 0, .ref zb, .ref fg]))] := hD
  refine lv_iload hx hb dL_law_1404 (lv_at hl 1 rfl) ?_
  refine lv_icmp_eq (tgt := 1411) hx hb dL_law_1406 (by decide) (fun _ => ?_) (fun h => absurd (by decide) h)
  refine lv_iload hx hb dL_law_1411 (lv_at hl 1 rfl) ?_
  refine lv_if_ne (tgt := 1428) hx hb dL_law_1413 (by decide) (fun h => absurd h (by decide)) (fun _ => ?_)
  refine lv_aload_n hx hb dL_law_1416 rfl (lv_at hl 3 rfl) ?_
  refine lv_iconst (v := 0) hx hb dL_law_1417 (by decide) ?_
  refine va_lald hx hb hE.1.1 hP 0 2 rfl rfl (by unfold vp_in; decide) dL_law_1418 ?_
  refine f_topl (v := 0) (rfl) ?_
  refine lv_iload hx hb dL_law_1419 (lv_at hl 0 rfl) ?_
  refine lv_i2l (v := 0) hx hb dL_law_1421 (by decide) ?_
  refine W.lcmp hx hb dL_law_1422 ?_
  refine f_topi (v := 0) (f_cmp0 _) ?_
  refine lv_if_eq (tgt := 1428) hx hb dL_law_1423 (by decide) (fun _ => ?_) (fun h => absurd (by decide) h)
  refine lv_goto (tgt := 1758) hx hb dL_law_1428 (by decide) ?_
  refine W.widen (k := 3000) (n := 30000) (Nat.le_of_ble_eq_true rfl) (Nat.le_of_ble_eq_true rfl) ?_
  exact law_end C hS (lv_sub hl [2, 6] rfl)
set_option maxHeartbeats 4000000 in
set_option maxRecDepth 100000 in
theorem law_many_10 {p : Program} {l : Launch} {e : Env} {s : State} {m : MethodId} {below : List Frame} {meth : Method} {c : Code} {b : Nat} {xs : Nat → Int32} {D : va_G} {cI cO cL : ClassId} {E M : Nat} {A : Nat → Prop} (C : fLC p l s m meth c b xs D cI cO cL E M A) {h f sh sp sj sc sa i1 i2 i3 tsh tsp tsj tsc tsa ti1 ti2 ti3 o zb zbp zbj zbc zba fg out : Nat}  (hs1 : (1 : Int32).toNatClampNeg = 1 ∧ xs 1 = 10)  {H : Heap} {locs : List Loc} {ls : Array Slot} (hP : va_P D vwCl [(h, .inr (8, [.ref f, .ref sh, .ref tsh])), (f, .inr (0, [.int 0, .ref E, .int 0])), (sh, .inr (6, [.ref sp, .ref sj, .ref sc, .ref sa, .int 0, .int 3000, .int 0, .int 0, .int 0, .int 0, .int 0, .int 0, .int 0, .int 0, .int 0])), (sp, .inr (0, [.int 0, .ref E, .int 0])), (sj, .inr (0, [.int 0, .ref E, .int 0])), (sc, .inr (0, [.int 0, .ref E, .int 0])), (sa, .inr (1, [.ref i1, .ref i2, .ref i3])), (i1, .inl (cI, 9, .inl (fun _ => 0))), (i2, .inl (cI, 9, .inl (fun _ => 0))), (i3, .inl (cI, 9, .inl (fun _ => 0))), (tsh, .inr (6, [.ref tsp, .ref tsj, .ref tsc, .ref tsa, .int 0, .int 3000, .int 0, .int 0, .int 0, .int 0, .int 0, .int 0, .int 0, .int 0, .int 0])), (tsp, .inr (0, [.int 0, .ref E, .int 0])), (tsj, .inr (0, [.int 0, .ref E, .int 0])), (tsc, .inr (0, [.int 0, .ref E, .int 0])), (tsa, .inr (1, [.ref ti1, .ref ti2, .ref ti3])), (ti1, .inl (cI, 9, .inl (fun _ => 0))), (ti2, .inl (cI, 9, .inl (fun _ => 0))), (ti3, .inl (cI, 9, .inl (fun _ => 0))), (o, .inr (13, [.int 0, .ref zb, .ref fg])), (zb, .inr (9, [.int 0, .int 3000, .int 0, .int 0, .int 0, .ref zbp, .ref zbj, .ref zbc, .ref zba, .int 0, .int 0, .int 0, .int 0, .int 0, .int 0])), (zbp, .inr (0, [.int 0, .ref E, .int 0])), (zbj, .inr (0, [.int 0, .ref E, .int 0])), (zbc, .inr (0, [.int 0, .ref E, .int 0])), (zba, .inr (0, [.int 0, .ref E, .int 0])), (fg, .inr (0, [.int 0, .ref E, .int 0])), (out, .inl (cL, 1, .inr (.inl (fun _ => 0))))] H) (hD : va_D A [(h, .inr (8, [.ref f, .ref sh, .ref tsh])), (f, .inr (0, [.int 0, .ref E, .int 0])), (sh, .inr (6, [.ref sp, .ref sj, .ref sc, .ref sa, .int 0, .int 3000, .int 0, .int 0, .int 0, .int 0, .int 0, .int 0, .int 0, .int 0, .int 0])), (sp, .inr (0, [.int 0, .ref E, .int 0])), (sj, .inr (0, [.int 0, .ref E, .int 0])), (sc, .inr (0, [.int 0, .ref E, .int 0])), (sa, .inr (1, [.ref i1, .ref i2, .ref i3])), (i1, .inl (cI, 9, .inl (fun _ => 0))), (i2, .inl (cI, 9, .inl (fun _ => 0))), (i3, .inl (cI, 9, .inl (fun _ => 0))), (tsh, .inr (6, [.ref tsp, .ref tsj, .ref tsc, .ref tsa, .int 0, .int 3000, .int 0, .int 0, .int 0, .int 0, .int 0, .int 0, .int 0, .int 0, .int 0])), (tsp, .inr (0, [.int 0, .ref E, .int 0])), (tsj, .inr (0, [.int 0, .ref E, .int 0])), (tsc, .inr (0, [.int 0, .ref E, .int 0])), (tsa, .inr (1, [.ref ti1, .ref ti2, .ref ti3])), (ti1, .inl (cI, 9, .inl (fun _ => 0))), (ti2, .inl (cI, 9, .inl (fun _ => 0))), (ti3, .inl (cI, 9, .inl (fun _ => 0))), (o, .inr (13, [.int 0, .ref zb, .ref fg])), (zb, .inr (9, [.int 0, .int 3000, .int 0, .int 0, .int 0, .ref zbp, .ref zbj, .ref zbc, .ref zba, .int 0, .int 0, .int 0, .int 0, .int 0, .int 0])), (zbp, .inr (0, [.int 0, .ref E, .int 0])), (zbj, .inr (0, [.int 0, .ref E, .int 0])), (zbc, .inr (0, [.int 0, .ref E, .int 0])), (zba, .inr (0, [.int 0, .ref E, .int 0])), (fg, .inr (0, [.int 0, .ref E, .int 0])), (out, .inl (cL, 1, .inr (.inl (fun _ => 0))))]) (hS : va_S A s.heap H locs) (hl : lv_has ls 9 [(4, .int 0), (3, .ref out), (2, .ref o), (1, .ref h), (0, .ref b)]) : W p l e room_1 s m #[Value.ref b] below meth c H locs 26 148 (lw_Z below #[Value.ref b] s) (F0 m 1375 ls []) := by
  obtain ⟨hx, hb, hr, hml, hown, hts, hX, hbl, hlocks, hl9, hE, hA, hA2⟩ := id C
  have hbA : ¬ A b := fun h => absurd (hA2 b h) (Nat.not_le.mpr hbl)
  refine lv_aload_n hx hb dL_law_1375 rfl (lv_at hl 3 rfl) ?_
  refine lv_aload_n hx hb dL_law_1376 rfl (lv_at hl 4 rfl) ?_
  refine lv_iload hx hb dL_law_1377 (lv_at hl 0 rfl) ?_
  refine lv_iconst (v := 1) hx hb dL_law_1379 (by decide) ?_
  refine f_iadd (v := 1) hx hb dL_law_1380 (by decide) ?_
  refine va_sld hx hb hX hbl hbA hS (by unfold vp_in; decide) dL_law_1381 ?_
  refine f_topi (v := 10) (f_xs hs1) ?_
  refine lv_aload_n hx hb dL_law_1382 rfl (lv_at hl 1 rfl) ?_
  refine f_aft_i (wr := [(o, .inr (13, [.int 0, .ref zb, .ref fg])), (zb, .inr (9, [.int 0, .int 3000, .int 0, .int 0, .int 0, .ref zbp, .ref zbj, .ref zbc, .ref zba, .int 0, .int 0, .int 0, .int 0, .int 0, .int 0])), (zbp, .inr (0, [.int 0, .ref E, .int 0])), (zbj, .inr (0, [.int 0, .ref E, .int 0])), (zbc, .inr (0, [.int 0, .ref E, .int 0])), (zba, .inr (0, [.int 0, .ref E, .int 0])), (fg, .inr (0, [.int 0, .ref E, .int 0]))]) (f_runSW (As := [.ref h, .int 10, .ref out]) (rest := []) hx hb hml hown hts (kL_many_10 l D cI cO cL E M h f sh sp sj sc sa i1 i2 i3 tsh tsp tsj tsc tsa ti1 ti2 ti3 out H.size) (fcwSW 3 hts q907 q908 q80 q909 rfl rfl (by decide +kernel) ⟨(Nat.le_of_ble_eq_true rfl), (Nat.le_of_ble_eq_true rfl)⟩) hE hP hD hS hA [0, 1, 2, 3, 4, 5, 6, 7, 8, 9, 10, 11, 12, 13, 14, 15, 16, 17, 25] rfl (by decide) rfl hl.1 rfl (Nat.le_of_ble_eq_true rfl) dL_law_1383 ⟨(Nat.le_of_ble_eq_true rfl), (Nat.le_of_ble_eq_true rfl)⟩) hP hD hS hA [0, 1, 2, 3, 4, 5, 6, 7, 8, 9, 10, 11, 12, 13, 14, 15, 16, 17, 25] [18, 19, 20, 21, 22, 23, 24] rfl rfl (by decide) (by decide) (fun r u H locs hr0 hP hD hS => ?_)
  subst hr0
  have hP : va_P D vwCl [(o, .inr (13, [.int 0, .ref zb, .ref fg])), (zb, .inr (9, [.int 0, .int 3000, .int 0, .int 0, .int 0, .ref zbp, .ref zbj, .ref zbc, .ref zba, .int 0, .int 0, .int 0, .int 0, .int 0, .int 0])), (zbp, .inr (0, [.int 0, .ref E, .int 0])), (zbj, .inr (0, [.int 0, .ref E, .int 0])), (zbc, .inr (0, [.int 0, .ref E, .int 0])), (zba, .inr (0, [.int 0, .ref E, .int 0])), (fg, .inr (0, [.int 0, .ref E, .int 0])), (out, .inl (cL, 1, .inr (.inl (fun _ => 0))))] H := hP
  have hD : va_D A [(o, .inr (13, [.int 0, .ref zb, .ref fg])), (zb, .inr (9, [.int 0, .int 3000, .int 0, .int 0, .int 0, .ref zbp, .ref zbj, .ref zbc, .ref zba, .int 0, .int 0, .int 0, .int 0, .int 0, .int 0])), (zbp, .inr (0, [.int 0, .ref E, .int 0])), (zbj, .inr (0, [.int 0, .ref E, .int 0])), (zbc, .inr (0, [.int 0, .ref E, .int 0])), (zba, .inr (0, [.int 0, .ref E, .int 0])), (fg, .inr (0, [.int 0, .ref E, .int 0])), (out, .inl (cL, 1, .inr (.inl (fun _ => 0))))] := hD
  refine lv_istore (lv' := [(5, .int 0), (4, .int 0), (3, .ref out), (2, .ref o), (1, .ref h), (0, .ref b)]) hx hb dL_law_1386 hl (by decide) rfl (fun ls hl => ?_)
  refine lv_aload_n hx hb dL_law_1388 rfl (lv_at hl 3 rfl) ?_
  refine lv_aload_n hx hb dL_law_1389 rfl (lv_at hl 5 rfl) ?_
  refine lv_iload hx hb dL_law_1390 (lv_at hl 1 rfl) ?_
  refine lv_iconst (v := 1) hx hb dL_law_1392 (by decide) ?_
  refine f_iadd (v := 1) hx hb dL_law_1393 (by decide) ?_
  refine va_sld hx hb hX hbl hbA hS (by unfold vp_in; decide) dL_law_1394 ?_
  refine f_topi (v := 10) (f_xs hs1) ?_
  refine f_aft_i (wr := [(out, .inl (cL, 1, .inr (.inl (fun _ => 0))))]) (f_runV (As := [.int 10]) (rest := []) hx hb hml hown hts (kX12_many_10 l D cI cO cL E M o zb zbp zbj zbc zba fg H.size) (fcwV 1 hts q930 q931 q932 q5 q933 rfl rfl (by decide +kernel) ⟨(Nat.le_of_ble_eq_true rfl), (Nat.le_of_ble_eq_true rfl)⟩) hE hP hD hS hA [0, 1, 2, 3, 4, 5, 6] rfl (by decide) (q0 := 0) (ci := 13) rfl rfl rfl rfl hl.1 rfl (Nat.le_of_ble_eq_true rfl) dL_law_1395 ⟨(Nat.le_of_ble_eq_true rfl), (Nat.le_of_ble_eq_true rfl)⟩) hP hD hS hA [0, 1, 2, 3, 4, 5, 6] [7] rfl rfl (by decide) (by decide) (fun r u H locs hr0 hP hD hS => ?_)
  subst hr0
  have hP : va_P D vwCl [(out, .inl (cL, 1, .inr (.inl (fun _ => 0)))), (o, .inr (13, [.int 0, .ref zb, .ref fg]))] H := hP
  have hD : va_D A [(out, .inl (cL, 1, .inr (.inl (fun _ => 0)))), (o, .inr (13, [.int 0, .ref zb, .ref fg]))] := hD
  refine lv_istore (lv' := [(6, .int 0), (5, .int 0), (4, .int 0), (3, .ref out), (2, .ref o), (1, .ref h), (0, .ref b)]) hx hb dL_law_1398 hl (by decide) rfl (fun ls hl => ?_)
  refine lv_aload_n hx hb dL_law_1400 rfl (lv_at hl 4 rfl) ?_
  refine f_aft_i (wr := [(out, .inl (cL, 1, .inr (.inl (fun _ => 0))))]) (f_runV (As := []) (rest := []) hx hb hml hown hts (kX12_thrown l D cI cO cL E M o zb fg 0 H.size) (fcwV 0 hts q186 q187 q188 q5 q189 rfl rfl (by decide +kernel) ⟨(Nat.le_of_ble_eq_true rfl), (Nat.le_of_ble_eq_true rfl)⟩) hE hP hD hS hA [1] rfl (by decide) (q0 := 1) (ci := 13) rfl rfl rfl rfl hl.1 rfl (Nat.le_of_ble_eq_true rfl) dL_law_1401 ⟨(Nat.le_of_ble_eq_true rfl), (Nat.le_of_ble_eq_true rfl)⟩) hP hD hS hA [1] [0] rfl rfl (by decide) (by decide) (fun r u H locs hr0 hP hD hS => ?_)
  subst hr0
  have hP : va_P D vwCl [(out, .inl (cL, 1, .inr (.inl (fun _ => 0)))), (o, .inr (13, [.int 0, .ref zb, .ref fg]))] H := hP
  have hD : va_D A [(out, .inl (cL, 1, .inr (.inl (fun _ => 0)))), (o, .inr (13, [.int 0, .ref zb, .ref fg]))] := hD
  refine lv_iload hx hb dL_law_1404 (lv_at hl 1 rfl) ?_
  refine lv_icmp_eq (tgt := 1411) hx hb dL_law_1406 (by decide) (fun _ => ?_) (fun h => absurd (by decide) h)
  refine lv_iload hx hb dL_law_1411 (lv_at hl 1 rfl) ?_
  refine lv_if_ne (tgt := 1428) hx hb dL_law_1413 (by decide) (fun h => absurd h (by decide)) (fun _ => ?_)
  refine lv_aload_n hx hb dL_law_1416 rfl (lv_at hl 3 rfl) ?_
  refine lv_iconst (v := 0) hx hb dL_law_1417 (by decide) ?_
  refine va_lald hx hb hE.1.1 hP 0 2 rfl rfl (by unfold vp_in; decide) dL_law_1418 ?_
  refine f_topl (v := 0) (rfl) ?_
  refine lv_iload hx hb dL_law_1419 (lv_at hl 0 rfl) ?_
  refine lv_i2l (v := 0) hx hb dL_law_1421 (by decide) ?_
  refine W.lcmp hx hb dL_law_1422 ?_
  refine f_topi (v := 0) (f_cmp0 _) ?_
  refine lv_if_eq (tgt := 1428) hx hb dL_law_1423 (by decide) (fun _ => ?_) (fun h => absurd (by decide) h)
  refine lv_goto (tgt := 1758) hx hb dL_law_1428 (by decide) ?_
  refine W.widen (k := 3000) (n := 30000) (Nat.le_of_ble_eq_true rfl) (Nat.le_of_ble_eq_true rfl) ?_
  exact law_end C hS (lv_sub hl [2, 6] rfl)
set_option maxHeartbeats 4000000 in
set_option maxRecDepth 100000 in
theorem law_many_11 {p : Program} {l : Launch} {e : Env} {s : State} {m : MethodId} {below : List Frame} {meth : Method} {c : Code} {b : Nat} {xs : Nat → Int32} {D : va_G} {cI cO cL : ClassId} {E M : Nat} {A : Nat → Prop} (C : fLC p l s m meth c b xs D cI cO cL E M A) {h f sh sp sj sc sa i1 i2 i3 tsh tsp tsj tsc tsa ti1 ti2 ti3 o zb zbp zbj zbc zba fg out : Nat}  (hs1 : (1 : Int32).toNatClampNeg = 1 ∧ xs 1 = 11)  {H : Heap} {locs : List Loc} {ls : Array Slot} (hP : va_P D vwCl [(h, .inr (8, [.ref f, .ref sh, .ref tsh])), (f, .inr (0, [.int 0, .ref E, .int 0])), (sh, .inr (6, [.ref sp, .ref sj, .ref sc, .ref sa, .int 0, .int 3000, .int 0, .int 0, .int 0, .int 0, .int 0, .int 0, .int 0, .int 0, .int 0])), (sp, .inr (0, [.int 0, .ref E, .int 0])), (sj, .inr (0, [.int 0, .ref E, .int 0])), (sc, .inr (0, [.int 0, .ref E, .int 0])), (sa, .inr (1, [.ref i1, .ref i2, .ref i3])), (i1, .inl (cI, 9, .inl (fun _ => 0))), (i2, .inl (cI, 9, .inl (fun _ => 0))), (i3, .inl (cI, 9, .inl (fun _ => 0))), (tsh, .inr (6, [.ref tsp, .ref tsj, .ref tsc, .ref tsa, .int 0, .int 3000, .int 0, .int 0, .int 0, .int 0, .int 0, .int 0, .int 0, .int 0, .int 0])), (tsp, .inr (0, [.int 0, .ref E, .int 0])), (tsj, .inr (0, [.int 0, .ref E, .int 0])), (tsc, .inr (0, [.int 0, .ref E, .int 0])), (tsa, .inr (1, [.ref ti1, .ref ti2, .ref ti3])), (ti1, .inl (cI, 9, .inl (fun _ => 0))), (ti2, .inl (cI, 9, .inl (fun _ => 0))), (ti3, .inl (cI, 9, .inl (fun _ => 0))), (o, .inr (13, [.int 0, .ref zb, .ref fg])), (zb, .inr (9, [.int 0, .int 3000, .int 0, .int 0, .int 0, .ref zbp, .ref zbj, .ref zbc, .ref zba, .int 0, .int 0, .int 0, .int 0, .int 0, .int 0])), (zbp, .inr (0, [.int 0, .ref E, .int 0])), (zbj, .inr (0, [.int 0, .ref E, .int 0])), (zbc, .inr (0, [.int 0, .ref E, .int 0])), (zba, .inr (0, [.int 0, .ref E, .int 0])), (fg, .inr (0, [.int 0, .ref E, .int 0])), (out, .inl (cL, 1, .inr (.inl (fun _ => 0))))] H) (hD : va_D A [(h, .inr (8, [.ref f, .ref sh, .ref tsh])), (f, .inr (0, [.int 0, .ref E, .int 0])), (sh, .inr (6, [.ref sp, .ref sj, .ref sc, .ref sa, .int 0, .int 3000, .int 0, .int 0, .int 0, .int 0, .int 0, .int 0, .int 0, .int 0, .int 0])), (sp, .inr (0, [.int 0, .ref E, .int 0])), (sj, .inr (0, [.int 0, .ref E, .int 0])), (sc, .inr (0, [.int 0, .ref E, .int 0])), (sa, .inr (1, [.ref i1, .ref i2, .ref i3])), (i1, .inl (cI, 9, .inl (fun _ => 0))), (i2, .inl (cI, 9, .inl (fun _ => 0))), (i3, .inl (cI, 9, .inl (fun _ => 0))), (tsh, .inr (6, [.ref tsp, .ref tsj, .ref tsc, .ref tsa, .int 0, .int 3000, .int 0, .int 0, .int 0, .int 0, .int 0, .int 0, .int 0, .int 0, .int 0])), (tsp, .inr (0, [.int 0, .ref E, .int 0])), (tsj, .inr (0, [.int 0, .ref E, .int 0])), (tsc, .inr (0, [.int 0, .ref E, .int 0])), (tsa, .inr (1, [.ref ti1, .ref ti2, .ref ti3])), (ti1, .inl (cI, 9, .inl (fun _ => 0))), (ti2, .inl (cI, 9, .inl (fun _ => 0))), (ti3, .inl (cI, 9, .inl (fun _ => 0))), (o, .inr (13, [.int 0, .ref zb, .ref fg])), (zb, .inr (9, [.int 0, .int 3000, .int 0, .int 0, .int 0, .ref zbp, .ref zbj, .ref zbc, .ref zba, .int 0, .int 0, .int 0, .int 0, .int 0, .int 0])), (zbp, .inr (0, [.int 0, .ref E, .int 0])), (zbj, .inr (0, [.int 0, .ref E, .int 0])), (zbc, .inr (0, [.int 0, .ref E, .int 0])), (zba, .inr (0, [.int 0, .ref E, .int 0])), (fg, .inr (0, [.int 0, .ref E, .int 0])), (out, .inl (cL, 1, .inr (.inl (fun _ => 0))))]) (hS : va_S A s.heap H locs) (hl : lv_has ls 9 [(4, .int 0), (3, .ref out), (2, .ref o), (1, .ref h), (0, .ref b)]) : W p l e room_1 s m #[Value.ref b] below meth c H locs 26 148 (lw_Z below #[Value.ref b] s) (F0 m 1375 ls []) := by
  obtain ⟨hx, hb, hr, hml, hown, hts, hX, hbl, hlocks, hl9, hE, hA, hA2⟩ := id C
  have hbA : ¬ A b := fun h => absurd (hA2 b h) (Nat.not_le.mpr hbl)
  refine lv_aload_n hx hb dL_law_1375 rfl (lv_at hl 3 rfl) ?_
  refine lv_aload_n hx hb dL_law_1376 rfl (lv_at hl 4 rfl) ?_
  refine lv_iload hx hb dL_law_1377 (lv_at hl 0 rfl) ?_
  refine lv_iconst (v := 1) hx hb dL_law_1379 (by decide) ?_
  refine f_iadd (v := 1) hx hb dL_law_1380 (by decide) ?_
  refine va_sld hx hb hX hbl hbA hS (by unfold vp_in; decide) dL_law_1381 ?_
  refine f_topi (v := 11) (f_xs hs1) ?_
  refine lv_aload_n hx hb dL_law_1382 rfl (lv_at hl 1 rfl) ?_
  refine f_aft_i (wr := [(o, .inr (13, [.int 0, .ref zb, .ref fg])), (zb, .inr (9, [.int 0, .int 3000, .int 0, .int 0, .int 0, .ref zbp, .ref zbj, .ref zbc, .ref zba, .int 0, .int 0, .int 0, .int 0, .int 0, .int 0])), (zbp, .inr (0, [.int 0, .ref E, .int 0])), (zbj, .inr (0, [.int 0, .ref E, .int 0])), (zbc, .inr (0, [.int 0, .ref E, .int 0])), (zba, .inr (0, [.int 0, .ref E, .int 0])), (fg, .inr (0, [.int 0, .ref E, .int 0]))]) (f_runSW (As := [.ref h, .int 11, .ref out]) (rest := []) hx hb hml hown hts (kL_many_11 l D cI cO cL E M h f sh sp sj sc sa i1 i2 i3 tsh tsp tsj tsc tsa ti1 ti2 ti3 out H.size) (fcwSW 3 hts q907 q908 q80 q909 rfl rfl (by decide +kernel) ⟨(Nat.le_of_ble_eq_true rfl), (Nat.le_of_ble_eq_true rfl)⟩) hE hP hD hS hA [0, 1, 2, 3, 4, 5, 6, 7, 8, 9, 10, 11, 12, 13, 14, 15, 16, 17, 25] rfl (by decide) rfl hl.1 rfl (Nat.le_of_ble_eq_true rfl) dL_law_1383 ⟨(Nat.le_of_ble_eq_true rfl), (Nat.le_of_ble_eq_true rfl)⟩) hP hD hS hA [0, 1, 2, 3, 4, 5, 6, 7, 8, 9, 10, 11, 12, 13, 14, 15, 16, 17, 25] [18, 19, 20, 21, 22, 23, 24] rfl rfl (by decide) (by decide) (fun r u H locs hr0 hP hD hS => ?_)
  subst hr0
  have hP : va_P D vwCl [(o, .inr (13, [.int 0, .ref zb, .ref fg])), (zb, .inr (9, [.int 0, .int 3000, .int 0, .int 0, .int 0, .ref zbp, .ref zbj, .ref zbc, .ref zba, .int 0, .int 0, .int 0, .int 0, .int 0, .int 0])), (zbp, .inr (0, [.int 0, .ref E, .int 0])), (zbj, .inr (0, [.int 0, .ref E, .int 0])), (zbc, .inr (0, [.int 0, .ref E, .int 0])), (zba, .inr (0, [.int 0, .ref E, .int 0])), (fg, .inr (0, [.int 0, .ref E, .int 0])), (out, .inl (cL, 1, .inr (.inl (fun _ => 0))))] H := hP
  have hD : va_D A [(o, .inr (13, [.int 0, .ref zb, .ref fg])), (zb, .inr (9, [.int 0, .int 3000, .int 0, .int 0, .int 0, .ref zbp, .ref zbj, .ref zbc, .ref zba, .int 0, .int 0, .int 0, .int 0, .int 0, .int 0])), (zbp, .inr (0, [.int 0, .ref E, .int 0])), (zbj, .inr (0, [.int 0, .ref E, .int 0])), (zbc, .inr (0, [.int 0, .ref E, .int 0])), (zba, .inr (0, [.int 0, .ref E, .int 0])), (fg, .inr (0, [.int 0, .ref E, .int 0])), (out, .inl (cL, 1, .inr (.inl (fun _ => 0))))] := hD
  refine lv_istore (lv' := [(5, .int 0), (4, .int 0), (3, .ref out), (2, .ref o), (1, .ref h), (0, .ref b)]) hx hb dL_law_1386 hl (by decide) rfl (fun ls hl => ?_)
  refine lv_aload_n hx hb dL_law_1388 rfl (lv_at hl 3 rfl) ?_
  refine lv_aload_n hx hb dL_law_1389 rfl (lv_at hl 5 rfl) ?_
  refine lv_iload hx hb dL_law_1390 (lv_at hl 1 rfl) ?_
  refine lv_iconst (v := 1) hx hb dL_law_1392 (by decide) ?_
  refine f_iadd (v := 1) hx hb dL_law_1393 (by decide) ?_
  refine va_sld hx hb hX hbl hbA hS (by unfold vp_in; decide) dL_law_1394 ?_
  refine f_topi (v := 11) (f_xs hs1) ?_
  refine f_aft_i (wr := [(out, .inl (cL, 1, .inr (.inl (fun _ => 0))))]) (f_runV (As := [.int 11]) (rest := []) hx hb hml hown hts (kX12_many_11 l D cI cO cL E M o zb zbp zbj zbc zba fg H.size) (fcwV 1 hts q930 q931 q932 q5 q933 rfl rfl (by decide +kernel) ⟨(Nat.le_of_ble_eq_true rfl), (Nat.le_of_ble_eq_true rfl)⟩) hE hP hD hS hA [0, 1, 2, 3, 4, 5, 6] rfl (by decide) (q0 := 0) (ci := 13) rfl rfl rfl rfl hl.1 rfl (Nat.le_of_ble_eq_true rfl) dL_law_1395 ⟨(Nat.le_of_ble_eq_true rfl), (Nat.le_of_ble_eq_true rfl)⟩) hP hD hS hA [0, 1, 2, 3, 4, 5, 6] [7] rfl rfl (by decide) (by decide) (fun r u H locs hr0 hP hD hS => ?_)
  subst hr0
  have hP : va_P D vwCl [(out, .inl (cL, 1, .inr (.inl (fun _ => 0)))), (o, .inr (13, [.int 0, .ref zb, .ref fg]))] H := hP
  have hD : va_D A [(out, .inl (cL, 1, .inr (.inl (fun _ => 0)))), (o, .inr (13, [.int 0, .ref zb, .ref fg]))] := hD
  refine lv_istore (lv' := [(6, .int 0), (5, .int 0), (4, .int 0), (3, .ref out), (2, .ref o), (1, .ref h), (0, .ref b)]) hx hb dL_law_1398 hl (by decide) rfl (fun ls hl => ?_)
  refine lv_aload_n hx hb dL_law_1400 rfl (lv_at hl 4 rfl) ?_
  refine f_aft_i (wr := [(out, .inl (cL, 1, .inr (.inl (fun _ => 0))))]) (f_runV (As := []) (rest := []) hx hb hml hown hts (kX12_thrown l D cI cO cL E M o zb fg 0 H.size) (fcwV 0 hts q186 q187 q188 q5 q189 rfl rfl (by decide +kernel) ⟨(Nat.le_of_ble_eq_true rfl), (Nat.le_of_ble_eq_true rfl)⟩) hE hP hD hS hA [1] rfl (by decide) (q0 := 1) (ci := 13) rfl rfl rfl rfl hl.1 rfl (Nat.le_of_ble_eq_true rfl) dL_law_1401 ⟨(Nat.le_of_ble_eq_true rfl), (Nat.le_of_ble_eq_true rfl)⟩) hP hD hS hA [1] [0] rfl rfl (by decide) (by decide) (fun r u H locs hr0 hP hD hS => ?_)
  subst hr0
  have hP : va_P D vwCl [(out, .inl (cL, 1, .inr (.inl (fun _ => 0)))), (o, .inr (13, [.int 0, .ref zb, .ref fg]))] H := hP
  have hD : va_D A [(out, .inl (cL, 1, .inr (.inl (fun _ => 0)))), (o, .inr (13, [.int 0, .ref zb, .ref fg]))] := hD
  refine lv_iload hx hb dL_law_1404 (lv_at hl 1 rfl) ?_
  refine lv_icmp_eq (tgt := 1411) hx hb dL_law_1406 (by decide) (fun _ => ?_) (fun h => absurd (by decide) h)
  refine lv_iload hx hb dL_law_1411 (lv_at hl 1 rfl) ?_
  refine lv_if_ne (tgt := 1428) hx hb dL_law_1413 (by decide) (fun h => absurd h (by decide)) (fun _ => ?_)
  refine lv_aload_n hx hb dL_law_1416 rfl (lv_at hl 3 rfl) ?_
  refine lv_iconst (v := 0) hx hb dL_law_1417 (by decide) ?_
  refine va_lald hx hb hE.1.1 hP 0 2 rfl rfl (by unfold vp_in; decide) dL_law_1418 ?_
  refine f_topl (v := 0) (rfl) ?_
  refine lv_iload hx hb dL_law_1419 (lv_at hl 0 rfl) ?_
  refine lv_i2l (v := 0) hx hb dL_law_1421 (by decide) ?_
  refine W.lcmp hx hb dL_law_1422 ?_
  refine f_topi (v := 0) (f_cmp0 _) ?_
  refine lv_if_eq (tgt := 1428) hx hb dL_law_1423 (by decide) (fun _ => ?_) (fun h => absurd (by decide) h)
  refine lv_goto (tgt := 1758) hx hb dL_law_1428 (by decide) ?_
  refine W.widen (k := 3000) (n := 30000) (Nat.le_of_ble_eq_true rfl) (Nat.le_of_ble_eq_true rfl) ?_
  exact law_end C hS (lv_sub hl [2, 6] rfl)
set_option maxHeartbeats 4000000 in
set_option maxRecDepth 100000 in
theorem law_many_12 {p : Program} {l : Launch} {e : Env} {s : State} {m : MethodId} {below : List Frame} {meth : Method} {c : Code} {b : Nat} {xs : Nat → Int32} {D : va_G} {cI cO cL : ClassId} {E M : Nat} {A : Nat → Prop} (C : fLC p l s m meth c b xs D cI cO cL E M A) {h f sh sp sj sc sa i1 i2 i3 tsh tsp tsj tsc tsa ti1 ti2 ti3 o zb zbp zbj zbc zba fg out : Nat}  (hs1 : (1 : Int32).toNatClampNeg = 1 ∧ xs 1 = 12)  {H : Heap} {locs : List Loc} {ls : Array Slot} (hP : va_P D vwCl [(h, .inr (8, [.ref f, .ref sh, .ref tsh])), (f, .inr (0, [.int 0, .ref E, .int 0])), (sh, .inr (6, [.ref sp, .ref sj, .ref sc, .ref sa, .int 0, .int 3000, .int 0, .int 0, .int 0, .int 0, .int 0, .int 0, .int 0, .int 0, .int 0])), (sp, .inr (0, [.int 0, .ref E, .int 0])), (sj, .inr (0, [.int 0, .ref E, .int 0])), (sc, .inr (0, [.int 0, .ref E, .int 0])), (sa, .inr (1, [.ref i1, .ref i2, .ref i3])), (i1, .inl (cI, 9, .inl (fun _ => 0))), (i2, .inl (cI, 9, .inl (fun _ => 0))), (i3, .inl (cI, 9, .inl (fun _ => 0))), (tsh, .inr (6, [.ref tsp, .ref tsj, .ref tsc, .ref tsa, .int 0, .int 3000, .int 0, .int 0, .int 0, .int 0, .int 0, .int 0, .int 0, .int 0, .int 0])), (tsp, .inr (0, [.int 0, .ref E, .int 0])), (tsj, .inr (0, [.int 0, .ref E, .int 0])), (tsc, .inr (0, [.int 0, .ref E, .int 0])), (tsa, .inr (1, [.ref ti1, .ref ti2, .ref ti3])), (ti1, .inl (cI, 9, .inl (fun _ => 0))), (ti2, .inl (cI, 9, .inl (fun _ => 0))), (ti3, .inl (cI, 9, .inl (fun _ => 0))), (o, .inr (13, [.int 0, .ref zb, .ref fg])), (zb, .inr (9, [.int 0, .int 3000, .int 0, .int 0, .int 0, .ref zbp, .ref zbj, .ref zbc, .ref zba, .int 0, .int 0, .int 0, .int 0, .int 0, .int 0])), (zbp, .inr (0, [.int 0, .ref E, .int 0])), (zbj, .inr (0, [.int 0, .ref E, .int 0])), (zbc, .inr (0, [.int 0, .ref E, .int 0])), (zba, .inr (0, [.int 0, .ref E, .int 0])), (fg, .inr (0, [.int 0, .ref E, .int 0])), (out, .inl (cL, 1, .inr (.inl (fun _ => 0))))] H) (hD : va_D A [(h, .inr (8, [.ref f, .ref sh, .ref tsh])), (f, .inr (0, [.int 0, .ref E, .int 0])), (sh, .inr (6, [.ref sp, .ref sj, .ref sc, .ref sa, .int 0, .int 3000, .int 0, .int 0, .int 0, .int 0, .int 0, .int 0, .int 0, .int 0, .int 0])), (sp, .inr (0, [.int 0, .ref E, .int 0])), (sj, .inr (0, [.int 0, .ref E, .int 0])), (sc, .inr (0, [.int 0, .ref E, .int 0])), (sa, .inr (1, [.ref i1, .ref i2, .ref i3])), (i1, .inl (cI, 9, .inl (fun _ => 0))), (i2, .inl (cI, 9, .inl (fun _ => 0))), (i3, .inl (cI, 9, .inl (fun _ => 0))), (tsh, .inr (6, [.ref tsp, .ref tsj, .ref tsc, .ref tsa, .int 0, .int 3000, .int 0, .int 0, .int 0, .int 0, .int 0, .int 0, .int 0, .int 0, .int 0])), (tsp, .inr (0, [.int 0, .ref E, .int 0])), (tsj, .inr (0, [.int 0, .ref E, .int 0])), (tsc, .inr (0, [.int 0, .ref E, .int 0])), (tsa, .inr (1, [.ref ti1, .ref ti2, .ref ti3])), (ti1, .inl (cI, 9, .inl (fun _ => 0))), (ti2, .inl (cI, 9, .inl (fun _ => 0))), (ti3, .inl (cI, 9, .inl (fun _ => 0))), (o, .inr (13, [.int 0, .ref zb, .ref fg])), (zb, .inr (9, [.int 0, .int 3000, .int 0, .int 0, .int 0, .ref zbp, .ref zbj, .ref zbc, .ref zba, .int 0, .int 0, .int 0, .int 0, .int 0, .int 0])), (zbp, .inr (0, [.int 0, .ref E, .int 0])), (zbj, .inr (0, [.int 0, .ref E, .int 0])), (zbc, .inr (0, [.int 0, .ref E, .int 0])), (zba, .inr (0, [.int 0, .ref E, .int 0])), (fg, .inr (0, [.int 0, .ref E, .int 0])), (out, .inl (cL, 1, .inr (.inl (fun _ => 0))))]) (hS : va_S A s.heap H locs) (hl : lv_has ls 9 [(4, .int 0), (3, .ref out), (2, .ref o), (1, .ref h), (0, .ref b)]) : W p l e room_1 s m #[Value.ref b] below meth c H locs 26 148 (lw_Z below #[Value.ref b] s) (F0 m 1375 ls []) := by
  obtain ⟨hx, hb, hr, hml, hown, hts, hX, hbl, hlocks, hl9, hE, hA, hA2⟩ := id C
  have hbA : ¬ A b := fun h => absurd (hA2 b h) (Nat.not_le.mpr hbl)
  refine lv_aload_n hx hb dL_law_1375 rfl (lv_at hl 3 rfl) ?_
  refine lv_aload_n hx hb dL_law_1376 rfl (lv_at hl 4 rfl) ?_
  refine lv_iload hx hb dL_law_1377 (lv_at hl 0 rfl) ?_
  refine lv_iconst (v := 1) hx hb dL_law_1379 (by decide) ?_
  refine f_iadd (v := 1) hx hb dL_law_1380 (by decide) ?_
  refine va_sld hx hb hX hbl hbA hS (by unfold vp_in; decide) dL_law_1381 ?_
  refine f_topi (v := 12) (f_xs hs1) ?_
  refine lv_aload_n hx hb dL_law_1382 rfl (lv_at hl 1 rfl) ?_
  refine f_aft_i (wr := [(o, .inr (13, [.int 0, .ref zb, .ref fg])), (zb, .inr (9, [.int 0, .int 3000, .int 0, .int 0, .int 0, .ref zbp, .ref zbj, .ref zbc, .ref zba, .int 0, .int 0, .int 0, .int 0, .int 0, .int 0])), (zbp, .inr (0, [.int 0, .ref E, .int 0])), (zbj, .inr (0, [.int 0, .ref E, .int 0])), (zbc, .inr (0, [.int 0, .ref E, .int 0])), (zba, .inr (0, [.int 0, .ref E, .int 0])), (fg, .inr (0, [.int 0, .ref E, .int 0]))]) (f_runSW (As := [.ref h, .int 12, .ref out]) (rest := []) hx hb hml hown hts (kL_many_12 l D cI cO cL E M h f sh sp sj sc sa i1 i2 i3 tsh tsp tsj tsc tsa ti1 ti2 ti3 out H.size) (fcwSW 3 hts q907 q908 q80 q909 rfl rfl (by decide +kernel) ⟨(Nat.le_of_ble_eq_true rfl), (Nat.le_of_ble_eq_true rfl)⟩) hE hP hD hS hA [0, 1, 2, 3, 4, 5, 6, 7, 8, 9, 10, 11, 12, 13, 14, 15, 16, 17, 25] rfl (by decide) rfl hl.1 rfl (Nat.le_of_ble_eq_true rfl) dL_law_1383 ⟨(Nat.le_of_ble_eq_true rfl), (Nat.le_of_ble_eq_true rfl)⟩) hP hD hS hA [0, 1, 2, 3, 4, 5, 6, 7, 8, 9, 10, 11, 12, 13, 14, 15, 16, 17, 25] [18, 19, 20, 21, 22, 23, 24] rfl rfl (by decide) (by decide) (fun r u H locs hr0 hP hD hS => ?_)
  subst hr0
  have hP : va_P D vwCl [(o, .inr (13, [.int 0, .ref zb, .ref fg])), (zb, .inr (9, [.int 0, .int 3000, .int 0, .int 0, .int 0, .ref zbp, .ref zbj, .ref zbc, .ref zba, .int 0, .int 0, .int 0, .int 0, .int 0, .int 0])), (zbp, .inr (0, [.int 0, .ref E, .int 0])), (zbj, .inr (0, [.int 0, .ref E, .int 0])), (zbc, .inr (0, [.int 0, .ref E, .int 0])), (zba, .inr (0, [.int 0, .ref E, .int 0])), (fg, .inr (0, [.int 0, .ref E, .int 0])), (out, .inl (cL, 1, .inr (.inl (fun _ => 0))))] H := hP
  have hD : va_D A [(o, .inr (13, [.int 0, .ref zb, .ref fg])), (zb, .inr (9, [.int 0, .int 3000, .int 0, .int 0, .int 0, .ref zbp, .ref zbj, .ref zbc, .ref zba, .int 0, .int 0, .int 0, .int 0, .int 0, .int 0])), (zbp, .inr (0, [.int 0, .ref E, .int 0])), (zbj, .inr (0, [.int 0, .ref E, .int 0])), (zbc, .inr (0, [.int 0, .ref E, .int 0])), (zba, .inr (0, [.int 0, .ref E, .int 0])), (fg, .inr (0, [.int 0, .ref E, .int 0])), (out, .inl (cL, 1, .inr (.inl (fun _ => 0))))] := hD
  refine lv_istore (lv' := [(5, .int 0), (4, .int 0), (3, .ref out), (2, .ref o), (1, .ref h), (0, .ref b)]) hx hb dL_law_1386 hl (by decide) rfl (fun ls hl => ?_)
  refine lv_aload_n hx hb dL_law_1388 rfl (lv_at hl 3 rfl) ?_
  refine lv_aload_n hx hb dL_law_1389 rfl (lv_at hl 5 rfl) ?_
  refine lv_iload hx hb dL_law_1390 (lv_at hl 1 rfl) ?_
  refine lv_iconst (v := 1) hx hb dL_law_1392 (by decide) ?_
  refine f_iadd (v := 1) hx hb dL_law_1393 (by decide) ?_
  refine va_sld hx hb hX hbl hbA hS (by unfold vp_in; decide) dL_law_1394 ?_
  refine f_topi (v := 12) (f_xs hs1) ?_
  refine f_aft_i (wr := [(out, .inl (cL, 1, .inr (.inl (fun _ => 0))))]) (f_runV (As := [.int 12]) (rest := []) hx hb hml hown hts (kX12_many_12 l D cI cO cL E M o zb zbp zbj zbc zba fg H.size) (fcwV 1 hts q930 q931 q932 q5 q933 rfl rfl (by decide +kernel) ⟨(Nat.le_of_ble_eq_true rfl), (Nat.le_of_ble_eq_true rfl)⟩) hE hP hD hS hA [0, 1, 2, 3, 4, 5, 6] rfl (by decide) (q0 := 0) (ci := 13) rfl rfl rfl rfl hl.1 rfl (Nat.le_of_ble_eq_true rfl) dL_law_1395 ⟨(Nat.le_of_ble_eq_true rfl), (Nat.le_of_ble_eq_true rfl)⟩) hP hD hS hA [0, 1, 2, 3, 4, 5, 6] [7] rfl rfl (by decide) (by decide) (fun r u H locs hr0 hP hD hS => ?_)
  subst hr0
  have hP : va_P D vwCl [(out, .inl (cL, 1, .inr (.inl (fun _ => 0)))), (o, .inr (13, [.int 0, .ref zb, .ref fg]))] H := hP
  have hD : va_D A [(out, .inl (cL, 1, .inr (.inl (fun _ => 0)))), (o, .inr (13, [.int 0, .ref zb, .ref fg]))] := hD
  refine lv_istore (lv' := [(6, .int 0), (5, .int 0), (4, .int 0), (3, .ref out), (2, .ref o), (1, .ref h), (0, .ref b)]) hx hb dL_law_1398 hl (by decide) rfl (fun ls hl => ?_)
  refine lv_aload_n hx hb dL_law_1400 rfl (lv_at hl 4 rfl) ?_
  refine f_aft_i (wr := [(out, .inl (cL, 1, .inr (.inl (fun _ => 0))))]) (f_runV (As := []) (rest := []) hx hb hml hown hts (kX12_thrown l D cI cO cL E M o zb fg 0 H.size) (fcwV 0 hts q186 q187 q188 q5 q189 rfl rfl (by decide +kernel) ⟨(Nat.le_of_ble_eq_true rfl), (Nat.le_of_ble_eq_true rfl)⟩) hE hP hD hS hA [1] rfl (by decide) (q0 := 1) (ci := 13) rfl rfl rfl rfl hl.1 rfl (Nat.le_of_ble_eq_true rfl) dL_law_1401 ⟨(Nat.le_of_ble_eq_true rfl), (Nat.le_of_ble_eq_true rfl)⟩) hP hD hS hA [1] [0] rfl rfl (by decide) (by decide) (fun r u H locs hr0 hP hD hS => ?_)
  subst hr0
  have hP : va_P D vwCl [(out, .inl (cL, 1, .inr (.inl (fun _ => 0)))), (o, .inr (13, [.int 0, .ref zb, .ref fg]))] H := hP
  have hD : va_D A [(out, .inl (cL, 1, .inr (.inl (fun _ => 0)))), (o, .inr (13, [.int 0, .ref zb, .ref fg]))] := hD
  refine lv_iload hx hb dL_law_1404 (lv_at hl 1 rfl) ?_
  refine lv_icmp_eq (tgt := 1411) hx hb dL_law_1406 (by decide) (fun _ => ?_) (fun h => absurd (by decide) h)
  refine lv_iload hx hb dL_law_1411 (lv_at hl 1 rfl) ?_
  refine lv_if_ne (tgt := 1428) hx hb dL_law_1413 (by decide) (fun h => absurd h (by decide)) (fun _ => ?_)
  refine lv_aload_n hx hb dL_law_1416 rfl (lv_at hl 3 rfl) ?_
  refine lv_iconst (v := 0) hx hb dL_law_1417 (by decide) ?_
  refine va_lald hx hb hE.1.1 hP 0 2 rfl rfl (by unfold vp_in; decide) dL_law_1418 ?_
  refine f_topl (v := 0) (rfl) ?_
  refine lv_iload hx hb dL_law_1419 (lv_at hl 0 rfl) ?_
  refine lv_i2l (v := 0) hx hb dL_law_1421 (by decide) ?_
  refine W.lcmp hx hb dL_law_1422 ?_
  refine f_topi (v := 0) (f_cmp0 _) ?_
  refine lv_if_eq (tgt := 1428) hx hb dL_law_1423 (by decide) (fun _ => ?_) (fun h => absurd (by decide) h)
  refine lv_goto (tgt := 1758) hx hb dL_law_1428 (by decide) ?_
  refine W.widen (k := 3000) (n := 30000) (Nat.le_of_ble_eq_true rfl) (Nat.le_of_ble_eq_true rfl) ?_
  exact law_end C hS (lv_sub hl [2, 6] rfl)
set_option maxHeartbeats 4000000 in
set_option maxRecDepth 100000 in
theorem law_many_13 {p : Program} {l : Launch} {e : Env} {s : State} {m : MethodId} {below : List Frame} {meth : Method} {c : Code} {b : Nat} {xs : Nat → Int32} {D : va_G} {cI cO cL : ClassId} {E M : Nat} {A : Nat → Prop} (C : fLC p l s m meth c b xs D cI cO cL E M A) {h f sh sp sj sc sa i1 i2 i3 tsh tsp tsj tsc tsa ti1 ti2 ti3 o zb zbp zbj zbc zba fg out : Nat}  (hs1 : (1 : Int32).toNatClampNeg = 1 ∧ xs 1 = 13)  {H : Heap} {locs : List Loc} {ls : Array Slot} (hP : va_P D vwCl [(h, .inr (8, [.ref f, .ref sh, .ref tsh])), (f, .inr (0, [.int 0, .ref E, .int 0])), (sh, .inr (6, [.ref sp, .ref sj, .ref sc, .ref sa, .int 0, .int 3000, .int 0, .int 0, .int 0, .int 0, .int 0, .int 0, .int 0, .int 0, .int 0])), (sp, .inr (0, [.int 0, .ref E, .int 0])), (sj, .inr (0, [.int 0, .ref E, .int 0])), (sc, .inr (0, [.int 0, .ref E, .int 0])), (sa, .inr (1, [.ref i1, .ref i2, .ref i3])), (i1, .inl (cI, 9, .inl (fun _ => 0))), (i2, .inl (cI, 9, .inl (fun _ => 0))), (i3, .inl (cI, 9, .inl (fun _ => 0))), (tsh, .inr (6, [.ref tsp, .ref tsj, .ref tsc, .ref tsa, .int 0, .int 3000, .int 0, .int 0, .int 0, .int 0, .int 0, .int 0, .int 0, .int 0, .int 0])), (tsp, .inr (0, [.int 0, .ref E, .int 0])), (tsj, .inr (0, [.int 0, .ref E, .int 0])), (tsc, .inr (0, [.int 0, .ref E, .int 0])), (tsa, .inr (1, [.ref ti1, .ref ti2, .ref ti3])), (ti1, .inl (cI, 9, .inl (fun _ => 0))), (ti2, .inl (cI, 9, .inl (fun _ => 0))), (ti3, .inl (cI, 9, .inl (fun _ => 0))), (o, .inr (13, [.int 0, .ref zb, .ref fg])), (zb, .inr (9, [.int 0, .int 3000, .int 0, .int 0, .int 0, .ref zbp, .ref zbj, .ref zbc, .ref zba, .int 0, .int 0, .int 0, .int 0, .int 0, .int 0])), (zbp, .inr (0, [.int 0, .ref E, .int 0])), (zbj, .inr (0, [.int 0, .ref E, .int 0])), (zbc, .inr (0, [.int 0, .ref E, .int 0])), (zba, .inr (0, [.int 0, .ref E, .int 0])), (fg, .inr (0, [.int 0, .ref E, .int 0])), (out, .inl (cL, 1, .inr (.inl (fun _ => 0))))] H) (hD : va_D A [(h, .inr (8, [.ref f, .ref sh, .ref tsh])), (f, .inr (0, [.int 0, .ref E, .int 0])), (sh, .inr (6, [.ref sp, .ref sj, .ref sc, .ref sa, .int 0, .int 3000, .int 0, .int 0, .int 0, .int 0, .int 0, .int 0, .int 0, .int 0, .int 0])), (sp, .inr (0, [.int 0, .ref E, .int 0])), (sj, .inr (0, [.int 0, .ref E, .int 0])), (sc, .inr (0, [.int 0, .ref E, .int 0])), (sa, .inr (1, [.ref i1, .ref i2, .ref i3])), (i1, .inl (cI, 9, .inl (fun _ => 0))), (i2, .inl (cI, 9, .inl (fun _ => 0))), (i3, .inl (cI, 9, .inl (fun _ => 0))), (tsh, .inr (6, [.ref tsp, .ref tsj, .ref tsc, .ref tsa, .int 0, .int 3000, .int 0, .int 0, .int 0, .int 0, .int 0, .int 0, .int 0, .int 0, .int 0])), (tsp, .inr (0, [.int 0, .ref E, .int 0])), (tsj, .inr (0, [.int 0, .ref E, .int 0])), (tsc, .inr (0, [.int 0, .ref E, .int 0])), (tsa, .inr (1, [.ref ti1, .ref ti2, .ref ti3])), (ti1, .inl (cI, 9, .inl (fun _ => 0))), (ti2, .inl (cI, 9, .inl (fun _ => 0))), (ti3, .inl (cI, 9, .inl (fun _ => 0))), (o, .inr (13, [.int 0, .ref zb, .ref fg])), (zb, .inr (9, [.int 0, .int 3000, .int 0, .int 0, .int 0, .ref zbp, .ref zbj, .ref zbc, .ref zba, .int 0, .int 0, .int 0, .int 0, .int 0, .int 0])), (zbp, .inr (0, [.int 0, .ref E, .int 0])), (zbj, .inr (0, [.int 0, .ref E, .int 0])), (zbc, .inr (0, [.int 0, .ref E, .int 0])), (zba, .inr (0, [.int 0, .ref E, .int 0])), (fg, .inr (0, [.int 0, .ref E, .int 0])), (out, .inl (cL, 1, .inr (.inl (fun _ => 0))))]) (hS : va_S A s.heap H locs) (hl : lv_has ls 9 [(4, .int 0), (3, .ref out), (2, .ref o), (1, .ref h), (0, .ref b)]) : W p l e room_1 s m #[Value.ref b] below meth c H locs 26 148 (lw_Z below #[Value.ref b] s) (F0 m 1375 ls []) := by
  obtain ⟨hx, hb, hr, hml, hown, hts, hX, hbl, hlocks, hl9, hE, hA, hA2⟩ := id C
  have hbA : ¬ A b := fun h => absurd (hA2 b h) (Nat.not_le.mpr hbl)
  refine lv_aload_n hx hb dL_law_1375 rfl (lv_at hl 3 rfl) ?_
  refine lv_aload_n hx hb dL_law_1376 rfl (lv_at hl 4 rfl) ?_
  refine lv_iload hx hb dL_law_1377 (lv_at hl 0 rfl) ?_
  refine lv_iconst (v := 1) hx hb dL_law_1379 (by decide) ?_
  refine f_iadd (v := 1) hx hb dL_law_1380 (by decide) ?_
  refine va_sld hx hb hX hbl hbA hS (by unfold vp_in; decide) dL_law_1381 ?_
  refine f_topi (v := 13) (f_xs hs1) ?_
  refine lv_aload_n hx hb dL_law_1382 rfl (lv_at hl 1 rfl) ?_
  refine f_aft_i (wr := [(o, .inr (13, [.int 0, .ref zb, .ref fg])), (zb, .inr (9, [.int 0, .int 3000, .int 0, .int 0, .int 0, .ref zbp, .ref zbj, .ref zbc, .ref zba, .int 0, .int 0, .int 0, .int 0, .int 0, .int 0])), (zbp, .inr (0, [.int 0, .ref E, .int 0])), (zbj, .inr (0, [.int 0, .ref E, .int 0])), (zbc, .inr (0, [.int 0, .ref E, .int 0])), (zba, .inr (0, [.int 0, .ref E, .int 0])), (fg, .inr (0, [.int 0, .ref E, .int 0]))]) (f_runSW (As := [.ref h, .int 13, .ref out]) (rest := []) hx hb hml hown hts (kL_many_13 l D cI cO cL E M h f sh sp sj sc sa i1 i2 i3 tsh tsp tsj tsc tsa ti1 ti2 ti3 out H.size) (fcwSW 3 hts q907 q908 q80 q909 rfl rfl (by decide +kernel) ⟨(Nat.le_of_ble_eq_true rfl), (Nat.le_of_ble_eq_true rfl)⟩) hE hP hD hS hA [0, 1, 2, 3, 4, 5, 6, 7, 8, 9, 10, 11, 12, 13, 14, 15, 16, 17, 25] rfl (by decide) rfl hl.1 rfl (Nat.le_of_ble_eq_true rfl) dL_law_1383 ⟨(Nat.le_of_ble_eq_true rfl), (Nat.le_of_ble_eq_true rfl)⟩) hP hD hS hA [0, 1, 2, 3, 4, 5, 6, 7, 8, 9, 10, 11, 12, 13, 14, 15, 16, 17, 25] [18, 19, 20, 21, 22, 23, 24] rfl rfl (by decide) (by decide) (fun r u H locs hr0 hP hD hS => ?_)
  subst hr0
  have hP : va_P D vwCl [(o, .inr (13, [.int 0, .ref zb, .ref fg])), (zb, .inr (9, [.int 0, .int 3000, .int 0, .int 0, .int 0, .ref zbp, .ref zbj, .ref zbc, .ref zba, .int 0, .int 0, .int 0, .int 0, .int 0, .int 0])), (zbp, .inr (0, [.int 0, .ref E, .int 0])), (zbj, .inr (0, [.int 0, .ref E, .int 0])), (zbc, .inr (0, [.int 0, .ref E, .int 0])), (zba, .inr (0, [.int 0, .ref E, .int 0])), (fg, .inr (0, [.int 0, .ref E, .int 0])), (out, .inl (cL, 1, .inr (.inl (fun _ => 0))))] H := hP
  have hD : va_D A [(o, .inr (13, [.int 0, .ref zb, .ref fg])), (zb, .inr (9, [.int 0, .int 3000, .int 0, .int 0, .int 0, .ref zbp, .ref zbj, .ref zbc, .ref zba, .int 0, .int 0, .int 0, .int 0, .int 0, .int 0])), (zbp, .inr (0, [.int 0, .ref E, .int 0])), (zbj, .inr (0, [.int 0, .ref E, .int 0])), (zbc, .inr (0, [.int 0, .ref E, .int 0])), (zba, .inr (0, [.int 0, .ref E, .int 0])), (fg, .inr (0, [.int 0, .ref E, .int 0])), (out, .inl (cL, 1, .inr (.inl (fun _ => 0))))] := hD
  refine lv_istore (lv' := [(5, .int 0), (4, .int 0), (3, .ref out), (2, .ref o), (1, .ref h), (0, .ref b)]) hx hb dL_law_1386 hl (by decide) rfl (fun ls hl => ?_)
  refine lv_aload_n hx hb dL_law_1388 rfl (lv_at hl 3 rfl) ?_
  refine lv_aload_n hx hb dL_law_1389 rfl (lv_at hl 5 rfl) ?_
  refine lv_iload hx hb dL_law_1390 (lv_at hl 1 rfl) ?_
  refine lv_iconst (v := 1) hx hb dL_law_1392 (by decide) ?_
  refine f_iadd (v := 1) hx hb dL_law_1393 (by decide) ?_
  refine va_sld hx hb hX hbl hbA hS (by unfold vp_in; decide) dL_law_1394 ?_
  refine f_topi (v := 13) (f_xs hs1) ?_
  refine f_aft_i (wr := [(out, .inl (cL, 1, .inr (.inl (fun _ => 0))))]) (f_runV (As := [.int 13]) (rest := []) hx hb hml hown hts (kX12_many_13 l D cI cO cL E M o zb zbp zbj zbc zba fg H.size) (fcwV 1 hts q930 q931 q932 q5 q933 rfl rfl (by decide +kernel) ⟨(Nat.le_of_ble_eq_true rfl), (Nat.le_of_ble_eq_true rfl)⟩) hE hP hD hS hA [0, 1, 2, 3, 4, 5, 6] rfl (by decide) (q0 := 0) (ci := 13) rfl rfl rfl rfl hl.1 rfl (Nat.le_of_ble_eq_true rfl) dL_law_1395 ⟨(Nat.le_of_ble_eq_true rfl), (Nat.le_of_ble_eq_true rfl)⟩) hP hD hS hA [0, 1, 2, 3, 4, 5, 6] [7] rfl rfl (by decide) (by decide) (fun r u H locs hr0 hP hD hS => ?_)
  subst hr0
  have hP : va_P D vwCl [(out, .inl (cL, 1, .inr (.inl (fun _ => 0)))), (o, .inr (13, [.int 0, .ref zb, .ref fg]))] H := hP
  have hD : va_D A [(out, .inl (cL, 1, .inr (.inl (fun _ => 0)))), (o, .inr (13, [.int 0, .ref zb, .ref fg]))] := hD
  refine lv_istore (lv' := [(6, .int 0), (5, .int 0), (4, .int 0), (3, .ref out), (2, .ref o), (1, .ref h), (0, .ref b)]) hx hb dL_law_1398 hl (by decide) rfl (fun ls hl => ?_)
  refine lv_aload_n hx hb dL_law_1400 rfl (lv_at hl 4 rfl) ?_
  refine f_aft_i (wr := [(out, .inl (cL, 1, .inr (.inl (fun _ => 0))))]) (f_runV (As := []) (rest := []) hx hb hml hown hts (kX12_thrown l D cI cO cL E M o zb fg 0 H.size) (fcwV 0 hts q186 q187 q188 q5 q189 rfl rfl (by decide +kernel) ⟨(Nat.le_of_ble_eq_true rfl), (Nat.le_of_ble_eq_true rfl)⟩) hE hP hD hS hA [1] rfl (by decide) (q0 := 1) (ci := 13) rfl rfl rfl rfl hl.1 rfl (Nat.le_of_ble_eq_true rfl) dL_law_1401 ⟨(Nat.le_of_ble_eq_true rfl), (Nat.le_of_ble_eq_true rfl)⟩) hP hD hS hA [1] [0] rfl rfl (by decide) (by decide) (fun r u H locs hr0 hP hD hS => ?_)
  subst hr0
  have hP : va_P D vwCl [(out, .inl (cL, 1, .inr (.inl (fun _ => 0)))), (o, .inr (13, [.int 0, .ref zb, .ref fg]))] H := hP
  have hD : va_D A [(out, .inl (cL, 1, .inr (.inl (fun _ => 0)))), (o, .inr (13, [.int 0, .ref zb, .ref fg]))] := hD
  refine lv_iload hx hb dL_law_1404 (lv_at hl 1 rfl) ?_
  refine lv_icmp_eq (tgt := 1411) hx hb dL_law_1406 (by decide) (fun _ => ?_) (fun h => absurd (by decide) h)
  refine lv_iload hx hb dL_law_1411 (lv_at hl 1 rfl) ?_
  refine lv_if_ne (tgt := 1428) hx hb dL_law_1413 (by decide) (fun h => absurd h (by decide)) (fun _ => ?_)
  refine lv_aload_n hx hb dL_law_1416 rfl (lv_at hl 3 rfl) ?_
  refine lv_iconst (v := 0) hx hb dL_law_1417 (by decide) ?_
  refine va_lald hx hb hE.1.1 hP 0 2 rfl rfl (by unfold vp_in; decide) dL_law_1418 ?_
  refine f_topl (v := 0) (rfl) ?_
  refine lv_iload hx hb dL_law_1419 (lv_at hl 0 rfl) ?_
  refine lv_i2l (v := 0) hx hb dL_law_1421 (by decide) ?_
  refine W.lcmp hx hb dL_law_1422 ?_
  refine f_topi (v := 0) (f_cmp0 _) ?_
  refine lv_if_eq (tgt := 1428) hx hb dL_law_1423 (by decide) (fun _ => ?_) (fun h => absurd (by decide) h)
  refine lv_goto (tgt := 1758) hx hb dL_law_1428 (by decide) ?_
  refine W.widen (k := 3000) (n := 30000) (Nat.le_of_ble_eq_true rfl) (Nat.le_of_ble_eq_true rfl) ?_
  exact law_end C hS (lv_sub hl [2, 6] rfl)
set_option maxHeartbeats 4000000 in
set_option maxRecDepth 100000 in
theorem law_many_14 {p : Program} {l : Launch} {e : Env} {s : State} {m : MethodId} {below : List Frame} {meth : Method} {c : Code} {b : Nat} {xs : Nat → Int32} {D : va_G} {cI cO cL : ClassId} {E M : Nat} {A : Nat → Prop} (C : fLC p l s m meth c b xs D cI cO cL E M A) {h f sh sp sj sc sa i1 i2 i3 tsh tsp tsj tsc tsa ti1 ti2 ti3 o zb zbp zbj zbc zba fg out : Nat}  (hs1 : (1 : Int32).toNatClampNeg = 1 ∧ xs 1 = 14)  {H : Heap} {locs : List Loc} {ls : Array Slot} (hP : va_P D vwCl [(h, .inr (8, [.ref f, .ref sh, .ref tsh])), (f, .inr (0, [.int 0, .ref E, .int 0])), (sh, .inr (6, [.ref sp, .ref sj, .ref sc, .ref sa, .int 0, .int 3000, .int 0, .int 0, .int 0, .int 0, .int 0, .int 0, .int 0, .int 0, .int 0])), (sp, .inr (0, [.int 0, .ref E, .int 0])), (sj, .inr (0, [.int 0, .ref E, .int 0])), (sc, .inr (0, [.int 0, .ref E, .int 0])), (sa, .inr (1, [.ref i1, .ref i2, .ref i3])), (i1, .inl (cI, 9, .inl (fun _ => 0))), (i2, .inl (cI, 9, .inl (fun _ => 0))), (i3, .inl (cI, 9, .inl (fun _ => 0))), (tsh, .inr (6, [.ref tsp, .ref tsj, .ref tsc, .ref tsa, .int 0, .int 3000, .int 0, .int 0, .int 0, .int 0, .int 0, .int 0, .int 0, .int 0, .int 0])), (tsp, .inr (0, [.int 0, .ref E, .int 0])), (tsj, .inr (0, [.int 0, .ref E, .int 0])), (tsc, .inr (0, [.int 0, .ref E, .int 0])), (tsa, .inr (1, [.ref ti1, .ref ti2, .ref ti3])), (ti1, .inl (cI, 9, .inl (fun _ => 0))), (ti2, .inl (cI, 9, .inl (fun _ => 0))), (ti3, .inl (cI, 9, .inl (fun _ => 0))), (o, .inr (13, [.int 0, .ref zb, .ref fg])), (zb, .inr (9, [.int 0, .int 3000, .int 0, .int 0, .int 0, .ref zbp, .ref zbj, .ref zbc, .ref zba, .int 0, .int 0, .int 0, .int 0, .int 0, .int 0])), (zbp, .inr (0, [.int 0, .ref E, .int 0])), (zbj, .inr (0, [.int 0, .ref E, .int 0])), (zbc, .inr (0, [.int 0, .ref E, .int 0])), (zba, .inr (0, [.int 0, .ref E, .int 0])), (fg, .inr (0, [.int 0, .ref E, .int 0])), (out, .inl (cL, 1, .inr (.inl (fun _ => 0))))] H) (hD : va_D A [(h, .inr (8, [.ref f, .ref sh, .ref tsh])), (f, .inr (0, [.int 0, .ref E, .int 0])), (sh, .inr (6, [.ref sp, .ref sj, .ref sc, .ref sa, .int 0, .int 3000, .int 0, .int 0, .int 0, .int 0, .int 0, .int 0, .int 0, .int 0, .int 0])), (sp, .inr (0, [.int 0, .ref E, .int 0])), (sj, .inr (0, [.int 0, .ref E, .int 0])), (sc, .inr (0, [.int 0, .ref E, .int 0])), (sa, .inr (1, [.ref i1, .ref i2, .ref i3])), (i1, .inl (cI, 9, .inl (fun _ => 0))), (i2, .inl (cI, 9, .inl (fun _ => 0))), (i3, .inl (cI, 9, .inl (fun _ => 0))), (tsh, .inr (6, [.ref tsp, .ref tsj, .ref tsc, .ref tsa, .int 0, .int 3000, .int 0, .int 0, .int 0, .int 0, .int 0, .int 0, .int 0, .int 0, .int 0])), (tsp, .inr (0, [.int 0, .ref E, .int 0])), (tsj, .inr (0, [.int 0, .ref E, .int 0])), (tsc, .inr (0, [.int 0, .ref E, .int 0])), (tsa, .inr (1, [.ref ti1, .ref ti2, .ref ti3])), (ti1, .inl (cI, 9, .inl (fun _ => 0))), (ti2, .inl (cI, 9, .inl (fun _ => 0))), (ti3, .inl (cI, 9, .inl (fun _ => 0))), (o, .inr (13, [.int 0, .ref zb, .ref fg])), (zb, .inr (9, [.int 0, .int 3000, .int 0, .int 0, .int 0, .ref zbp, .ref zbj, .ref zbc, .ref zba, .int 0, .int 0, .int 0, .int 0, .int 0, .int 0])), (zbp, .inr (0, [.int 0, .ref E, .int 0])), (zbj, .inr (0, [.int 0, .ref E, .int 0])), (zbc, .inr (0, [.int 0, .ref E, .int 0])), (zba, .inr (0, [.int 0, .ref E, .int 0])), (fg, .inr (0, [.int 0, .ref E, .int 0])), (out, .inl (cL, 1, .inr (.inl (fun _ => 0))))]) (hS : va_S A s.heap H locs) (hl : lv_has ls 9 [(4, .int 0), (3, .ref out), (2, .ref o), (1, .ref h), (0, .ref b)]) : W p l e room_1 s m #[Value.ref b] below meth c H locs 26 148 (lw_Z below #[Value.ref b] s) (F0 m 1375 ls []) := by
  obtain ⟨hx, hb, hr, hml, hown, hts, hX, hbl, hlocks, hl9, hE, hA, hA2⟩ := id C
  have hbA : ¬ A b := fun h => absurd (hA2 b h) (Nat.not_le.mpr hbl)
  refine lv_aload_n hx hb dL_law_1375 rfl (lv_at hl 3 rfl) ?_
  refine lv_aload_n hx hb dL_law_1376 rfl (lv_at hl 4 rfl) ?_
  refine lv_iload hx hb dL_law_1377 (lv_at hl 0 rfl) ?_
  refine lv_iconst (v := 1) hx hb dL_law_1379 (by decide) ?_
  refine f_iadd (v := 1) hx hb dL_law_1380 (by decide) ?_
  refine va_sld hx hb hX hbl hbA hS (by unfold vp_in; decide) dL_law_1381 ?_
  refine f_topi (v := 14) (f_xs hs1) ?_
  refine lv_aload_n hx hb dL_law_1382 rfl (lv_at hl 1 rfl) ?_
  refine f_aft_i (wr := [(o, .inr (13, [.int 0, .ref zb, .ref fg])), (zb, .inr (9, [.int 0, .int 3000, .int 0, .int 0, .int 0, .ref zbp, .ref zbj, .ref zbc, .ref zba, .int 0, .int 0, .int 0, .int 0, .int 0, .int 0])), (zbp, .inr (0, [.int 0, .ref E, .int 0])), (zbj, .inr (0, [.int 0, .ref E, .int 0])), (zbc, .inr (0, [.int 0, .ref E, .int 0])), (zba, .inr (0, [.int 0, .ref E, .int 0])), (fg, .inr (0, [.int 0, .ref E, .int 0]))]) (f_runSW (As := [.ref h, .int 14, .ref out]) (rest := []) hx hb hml hown hts (kL_many_14 l D cI cO cL E M h f sh sp sj sc sa i1 i2 i3 tsh tsp tsj tsc tsa ti1 ti2 ti3 out H.size) (fcwSW 3 hts q907 q908 q80 q909 rfl rfl (by decide +kernel) ⟨(Nat.le_of_ble_eq_true rfl), (Nat.le_of_ble_eq_true rfl)⟩) hE hP hD hS hA [0, 1, 2, 3, 4, 5, 6, 7, 8, 9, 10, 11, 12, 13, 14, 15, 16, 17, 25] rfl (by decide) rfl hl.1 rfl (Nat.le_of_ble_eq_true rfl) dL_law_1383 ⟨(Nat.le_of_ble_eq_true rfl), (Nat.le_of_ble_eq_true rfl)⟩) hP hD hS hA [0, 1, 2, 3, 4, 5, 6, 7, 8, 9, 10, 11, 12, 13, 14, 15, 16, 17, 25] [18, 19, 20, 21, 22, 23, 24] rfl rfl (by decide) (by decide) (fun r u H locs hr0 hP hD hS => ?_)
  subst hr0
  have hP : va_P D vwCl [(o, .inr (13, [.int 0, .ref zb, .ref fg])), (zb, .inr (9, [.int 0, .int 3000, .int 0, .int 0, .int 0, .ref zbp, .ref zbj, .ref zbc, .ref zba, .int 0, .int 0, .int 0, .int 0, .int 0, .int 0])), (zbp, .inr (0, [.int 0, .ref E, .int 0])), (zbj, .inr (0, [.int 0, .ref E, .int 0])), (zbc, .inr (0, [.int 0, .ref E, .int 0])), (zba, .inr (0, [.int 0, .ref E, .int 0])), (fg, .inr (0, [.int 0, .ref E, .int 0])), (out, .inl (cL, 1, .inr (.inl (fun _ => 0))))] H := hP
  have hD : va_D A [(o, .inr (13, [.int 0, .ref zb, .ref fg])), (zb, .inr (9, [.int 0, .int 3000, .int 0, .int 0, .int 0, .ref zbp, .ref zbj, .ref zbc, .ref zba, .int 0, .int 0, .int 0, .int 0, .int 0, .int 0])), (zbp, .inr (0, [.int 0, .ref E, .int 0])), (zbj, .inr (0, [.int 0, .ref E, .int 0])), (zbc, .inr (0, [.int 0, .ref E, .int 0])), (zba, .inr (0, [.int 0, .ref E, .int 0])), (fg, .inr (0, [.int 0, .ref E, .int 0])), (out, .inl (cL, 1, .inr (.inl (fun _ => 0))))] := hD
  refine lv_istore (lv' := [(5, .int 0), (4, .int 0), (3, .ref out), (2, .ref o), (1, .ref h), (0, .ref b)]) hx hb dL_law_1386 hl (by decide) rfl (fun ls hl => ?_)
  refine lv_aload_n hx hb dL_law_1388 rfl (lv_at hl 3 rfl) ?_
  refine lv_aload_n hx hb dL_law_1389 rfl (lv_at hl 5 rfl) ?_
  refine lv_iload hx hb dL_law_1390 (lv_at hl 1 rfl) ?_
  refine lv_iconst (v := 1) hx hb dL_law_1392 (by decide) ?_
  refine f_iadd (v := 1) hx hb dL_law_1393 (by decide) ?_
  refine va_sld hx hb hX hbl hbA hS (by unfold vp_in; decide) dL_law_1394 ?_
  refine f_topi (v := 14) (f_xs hs1) ?_
  refine f_aft_i (wr := [(out, .inl (cL, 1, .inr (.inl (fun _ => 0))))]) (f_runV (As := [.int 14]) (rest := []) hx hb hml hown hts (kX12_many_14 l D cI cO cL E M o zb zbp zbj zbc zba fg H.size) (fcwV 1 hts q930 q931 q932 q5 q933 rfl rfl (by decide +kernel) ⟨(Nat.le_of_ble_eq_true rfl), (Nat.le_of_ble_eq_true rfl)⟩) hE hP hD hS hA [0, 1, 2, 3, 4, 5, 6] rfl (by decide) (q0 := 0) (ci := 13) rfl rfl rfl rfl hl.1 rfl (Nat.le_of_ble_eq_true rfl) dL_law_1395 ⟨(Nat.le_of_ble_eq_true rfl), (Nat.le_of_ble_eq_true rfl)⟩) hP hD hS hA [0, 1, 2, 3, 4, 5, 6] [7] rfl rfl (by decide) (by decide) (fun r u H locs hr0 hP hD hS => ?_)
  subst hr0
  have hP : va_P D vwCl [(out, .inl (cL, 1, .inr (.inl (fun _ => 0)))), (o, .inr (13, [.int 0, .ref zb, .ref fg]))] H := hP
  have hD : va_D A [(out, .inl (cL, 1, .inr (.inl (fun _ => 0)))), (o, .inr (13, [.int 0, .ref zb, .ref fg]))] := hD
  refine lv_istore (lv' := [(6, .int 0), (5, .int 0), (4, .int 0), (3, .ref out), (2, .ref o), (1, .ref h), (0, .ref b)]) hx hb dL_law_1398 hl (by decide) rfl (fun ls hl => ?_)
  refine lv_aload_n hx hb dL_law_1400 rfl (lv_at hl 4 rfl) ?_
  refine f_aft_i (wr := [(out, .inl (cL, 1, .inr (.inl (fun _ => 0))))]) (f_runV (As := []) (rest := []) hx hb hml hown hts (kX12_thrown l D cI cO cL E M o zb fg 0 H.size) (fcwV 0 hts q186 q187 q188 q5 q189 rfl rfl (by decide +kernel) ⟨(Nat.le_of_ble_eq_true rfl), (Nat.le_of_ble_eq_true rfl)⟩) hE hP hD hS hA [1] rfl (by decide) (q0 := 1) (ci := 13) rfl rfl rfl rfl hl.1 rfl (Nat.le_of_ble_eq_true rfl) dL_law_1401 ⟨(Nat.le_of_ble_eq_true rfl), (Nat.le_of_ble_eq_true rfl)⟩) hP hD hS hA [1] [0] rfl rfl (by decide) (by decide) (fun r u H locs hr0 hP hD hS => ?_)
  subst hr0
  have hP : va_P D vwCl [(out, .inl (cL, 1, .inr (.inl (fun _ => 0)))), (o, .inr (13, [.int 0, .ref zb, .ref fg]))] H := hP
  have hD : va_D A [(out, .inl (cL, 1, .inr (.inl (fun _ => 0)))), (o, .inr (13, [.int 0, .ref zb, .ref fg]))] := hD
  refine lv_iload hx hb dL_law_1404 (lv_at hl 1 rfl) ?_
  refine lv_icmp_eq (tgt := 1411) hx hb dL_law_1406 (by decide) (fun _ => ?_) (fun h => absurd (by decide) h)
  refine lv_iload hx hb dL_law_1411 (lv_at hl 1 rfl) ?_
  refine lv_if_ne (tgt := 1428) hx hb dL_law_1413 (by decide) (fun h => absurd h (by decide)) (fun _ => ?_)
  refine lv_aload_n hx hb dL_law_1416 rfl (lv_at hl 3 rfl) ?_
  refine lv_iconst (v := 0) hx hb dL_law_1417 (by decide) ?_
  refine va_lald hx hb hE.1.1 hP 0 2 rfl rfl (by unfold vp_in; decide) dL_law_1418 ?_
  refine f_topl (v := 0) (rfl) ?_
  refine lv_iload hx hb dL_law_1419 (lv_at hl 0 rfl) ?_
  refine lv_i2l (v := 0) hx hb dL_law_1421 (by decide) ?_
  refine W.lcmp hx hb dL_law_1422 ?_
  refine f_topi (v := 0) (f_cmp0 _) ?_
  refine lv_if_eq (tgt := 1428) hx hb dL_law_1423 (by decide) (fun _ => ?_) (fun h => absurd (by decide) h)
  refine lv_goto (tgt := 1758) hx hb dL_law_1428 (by decide) ?_
  refine W.widen (k := 3000) (n := 30000) (Nat.le_of_ble_eq_true rfl) (Nat.le_of_ble_eq_true rfl) ?_
  exact law_end C hS (lv_sub hl [2, 6] rfl)
set_option maxHeartbeats 4000000 in
set_option maxRecDepth 100000 in
theorem law_many_15 {p : Program} {l : Launch} {e : Env} {s : State} {m : MethodId} {below : List Frame} {meth : Method} {c : Code} {b : Nat} {xs : Nat → Int32} {D : va_G} {cI cO cL : ClassId} {E M : Nat} {A : Nat → Prop} (C : fLC p l s m meth c b xs D cI cO cL E M A) {h f sh sp sj sc sa i1 i2 i3 tsh tsp tsj tsc tsa ti1 ti2 ti3 o zb zbp zbj zbc zba fg out : Nat}  (hs1 : (1 : Int32).toNatClampNeg = 1 ∧ xs 1 = 15)  {H : Heap} {locs : List Loc} {ls : Array Slot} (hP : va_P D vwCl [(h, .inr (8, [.ref f, .ref sh, .ref tsh])), (f, .inr (0, [.int 0, .ref E, .int 0])), (sh, .inr (6, [.ref sp, .ref sj, .ref sc, .ref sa, .int 0, .int 3000, .int 0, .int 0, .int 0, .int 0, .int 0, .int 0, .int 0, .int 0, .int 0])), (sp, .inr (0, [.int 0, .ref E, .int 0])), (sj, .inr (0, [.int 0, .ref E, .int 0])), (sc, .inr (0, [.int 0, .ref E, .int 0])), (sa, .inr (1, [.ref i1, .ref i2, .ref i3])), (i1, .inl (cI, 9, .inl (fun _ => 0))), (i2, .inl (cI, 9, .inl (fun _ => 0))), (i3, .inl (cI, 9, .inl (fun _ => 0))), (tsh, .inr (6, [.ref tsp, .ref tsj, .ref tsc, .ref tsa, .int 0, .int 3000, .int 0, .int 0, .int 0, .int 0, .int 0, .int 0, .int 0, .int 0, .int 0])), (tsp, .inr (0, [.int 0, .ref E, .int 0])), (tsj, .inr (0, [.int 0, .ref E, .int 0])), (tsc, .inr (0, [.int 0, .ref E, .int 0])), (tsa, .inr (1, [.ref ti1, .ref ti2, .ref ti3])), (ti1, .inl (cI, 9, .inl (fun _ => 0))), (ti2, .inl (cI, 9, .inl (fun _ => 0))), (ti3, .inl (cI, 9, .inl (fun _ => 0))), (o, .inr (13, [.int 0, .ref zb, .ref fg])), (zb, .inr (9, [.int 0, .int 3000, .int 0, .int 0, .int 0, .ref zbp, .ref zbj, .ref zbc, .ref zba, .int 0, .int 0, .int 0, .int 0, .int 0, .int 0])), (zbp, .inr (0, [.int 0, .ref E, .int 0])), (zbj, .inr (0, [.int 0, .ref E, .int 0])), (zbc, .inr (0, [.int 0, .ref E, .int 0])), (zba, .inr (0, [.int 0, .ref E, .int 0])), (fg, .inr (0, [.int 0, .ref E, .int 0])), (out, .inl (cL, 1, .inr (.inl (fun _ => 0))))] H) (hD : va_D A [(h, .inr (8, [.ref f, .ref sh, .ref tsh])), (f, .inr (0, [.int 0, .ref E, .int 0])), (sh, .inr (6, [.ref sp, .ref sj, .ref sc, .ref sa, .int 0, .int 3000, .int 0, .int 0, .int 0, .int 0, .int 0, .int 0, .int 0, .int 0, .int 0])), (sp, .inr (0, [.int 0, .ref E, .int 0])), (sj, .inr (0, [.int 0, .ref E, .int 0])), (sc, .inr (0, [.int 0, .ref E, .int 0])), (sa, .inr (1, [.ref i1, .ref i2, .ref i3])), (i1, .inl (cI, 9, .inl (fun _ => 0))), (i2, .inl (cI, 9, .inl (fun _ => 0))), (i3, .inl (cI, 9, .inl (fun _ => 0))), (tsh, .inr (6, [.ref tsp, .ref tsj, .ref tsc, .ref tsa, .int 0, .int 3000, .int 0, .int 0, .int 0, .int 0, .int 0, .int 0, .int 0, .int 0, .int 0])), (tsp, .inr (0, [.int 0, .ref E, .int 0])), (tsj, .inr (0, [.int 0, .ref E, .int 0])), (tsc, .inr (0, [.int 0, .ref E, .int 0])), (tsa, .inr (1, [.ref ti1, .ref ti2, .ref ti3])), (ti1, .inl (cI, 9, .inl (fun _ => 0))), (ti2, .inl (cI, 9, .inl (fun _ => 0))), (ti3, .inl (cI, 9, .inl (fun _ => 0))), (o, .inr (13, [.int 0, .ref zb, .ref fg])), (zb, .inr (9, [.int 0, .int 3000, .int 0, .int 0, .int 0, .ref zbp, .ref zbj, .ref zbc, .ref zba, .int 0, .int 0, .int 0, .int 0, .int 0, .int 0])), (zbp, .inr (0, [.int 0, .ref E, .int 0])), (zbj, .inr (0, [.int 0, .ref E, .int 0])), (zbc, .inr (0, [.int 0, .ref E, .int 0])), (zba, .inr (0, [.int 0, .ref E, .int 0])), (fg, .inr (0, [.int 0, .ref E, .int 0])), (out, .inl (cL, 1, .inr (.inl (fun _ => 0))))]) (hS : va_S A s.heap H locs) (hl : lv_has ls 9 [(4, .int 0), (3, .ref out), (2, .ref o), (1, .ref h), (0, .ref b)]) : W p l e room_1 s m #[Value.ref b] below meth c H locs 26 148 (lw_Z below #[Value.ref b] s) (F0 m 1375 ls []) := by
  obtain ⟨hx, hb, hr, hml, hown, hts, hX, hbl, hlocks, hl9, hE, hA, hA2⟩ := id C
  have hbA : ¬ A b := fun h => absurd (hA2 b h) (Nat.not_le.mpr hbl)
  refine lv_aload_n hx hb dL_law_1375 rfl (lv_at hl 3 rfl) ?_
  refine lv_aload_n hx hb dL_law_1376 rfl (lv_at hl 4 rfl) ?_
  refine lv_iload hx hb dL_law_1377 (lv_at hl 0 rfl) ?_
  refine lv_iconst (v := 1) hx hb dL_law_1379 (by decide) ?_
  refine f_iadd (v := 1) hx hb dL_law_1380 (by decide) ?_
  refine va_sld hx hb hX hbl hbA hS (by unfold vp_in; decide) dL_law_1381 ?_
  refine f_topi (v := 15) (f_xs hs1) ?_
  refine lv_aload_n hx hb dL_law_1382 rfl (lv_at hl 1 rfl) ?_
  refine f_aft_i (wr := [(o, .inr (13, [.int 0, .ref zb, .ref fg])), (zb, .inr (9, [.int 0, .int 3000, .int 0, .int 0, .int 0, .ref zbp, .ref zbj, .ref zbc, .ref zba, .int 0, .int 0, .int 0, .int 0, .int 0, .int 0])), (zbp, .inr (0, [.int 0, .ref E, .int 0])), (zbj, .inr (0, [.int 0, .ref E, .int 0])), (zbc, .inr (0, [.int 0, .ref E, .int 0])), (zba, .inr (0, [.int 0, .ref E, .int 0])), (fg, .inr (0, [.int 0, .ref E, .int 0]))]) (f_runSW (As := [.ref h, .int 15, .ref out]) (rest := []) hx hb hml hown hts (kL_many_15 l D cI cO cL E M h f sh sp sj sc sa i1 i2 i3 tsh tsp tsj tsc tsa ti1 ti2 ti3 out H.size) (fcwSW 3 hts q907 q908 q80 q909 rfl rfl (by decide +kernel) ⟨(Nat.le_of_ble_eq_true rfl), (Nat.le_of_ble_eq_true rfl)⟩) hE hP hD hS hA [0, 1, 2, 3, 4, 5, 6, 7, 8, 9, 10, 11, 12, 13, 14, 15, 16, 17, 25] rfl (by decide) rfl hl.1 rfl (Nat.le_of_ble_eq_true rfl) dL_law_1383 ⟨(Nat.le_of_ble_eq_true rfl), (Nat.le_of_ble_eq_true rfl)⟩) hP hD hS hA [0, 1, 2, 3, 4, 5, 6, 7, 8, 9, 10, 11, 12, 13, 14, 15, 16, 17, 25] [18, 19, 20, 21, 22, 23, 24] rfl rfl (by decide) (by decide) (fun r u H locs hr0 hP hD hS => ?_)
  subst hr0
  have hP : va_P D vwCl [(o, .inr (13, [.int 0, .ref zb, .ref fg])), (zb, .inr (9, [.int 0, .int 3000, .int 0, .int 0, .int 0, .ref zbp, .ref zbj, .ref zbc, .ref zba, .int 0, .int 0, .int 0, .int 0, .int 0, .int 0])), (zbp, .inr (0, [.int 0, .ref E, .int 0])), (zbj, .inr (0, [.int 0, .ref E, .int 0])), (zbc, .inr (0, [.int 0, .ref E, .int 0])), (zba, .inr (0, [.int 0, .ref E, .int 0])), (fg, .inr (0, [.int 0, .ref E, .int 0])), (out, .inl (cL, 1, .inr (.inl (fun _ => 0))))] H := hP
  have hD : va_D A [(o, .inr (13, [.int 0, .ref zb, .ref fg])), (zb, .inr (9, [.int 0, .int 3000, .int 0, .int 0, .int 0, .ref zbp, .ref zbj, .ref zbc, .ref zba, .int 0, .int 0, .int 0, .int 0, .int 0, .int 0])), (zbp, .inr (0, [.int 0, .ref E, .int 0])), (zbj, .inr (0, [.int 0, .ref E, .int 0])), (zbc, .inr (0, [.int 0, .ref E, .int 0])), (zba, .inr (0, [.int 0, .ref E, .int 0])), (fg, .inr (0, [.int 0, .ref E, .int 0])), (out, .inl (cL, 1, .inr (.inl (fun _ => 0))))] := hD
  refine lv_istore (lv' := [(5, .int 0), (4, .int 0), (3, .ref out), (2, .ref o), (1, .ref h), (0, .ref b)]) hx hb dL_law_1386 hl (by decide) rfl (fun ls hl => ?_)
  refine lv_aload_n hx hb dL_law_1388 rfl (lv_at hl 3 rfl) ?_
  refine lv_aload_n hx hb dL_law_1389 rfl (lv_at hl 5 rfl) ?_
  refine lv_iload hx hb dL_law_1390 (lv_at hl 1 rfl) ?_
  refine lv_iconst (v := 1) hx hb dL_law_1392 (by decide) ?_
  refine f_iadd (v := 1) hx hb dL_law_1393 (by decide) ?_
  refine va_sld hx hb hX hbl hbA hS (by unfold vp_in; decide) dL_law_1394 ?_
  refine f_topi (v := 15) (f_xs hs1) ?_
  refine f_aft_i (wr := [(out, .inl (cL, 1, .inr (.inl (fun _ => 0))))]) (f_runV (As := [.int 15]) (rest := []) hx hb hml hown hts (kX12_many_15 l D cI cO cL E M o zb zbp zbj zbc zba fg H.size) (fcwV 1 hts q930 q931 q932 q5 q933 rfl rfl (by decide +kernel) ⟨(Nat.le_of_ble_eq_true rfl), (Nat.le_of_ble_eq_true rfl)⟩) hE hP hD hS hA [0, 1, 2, 3, 4, 5, 6] rfl (by decide) (q0 := 0) (ci := 13) rfl rfl rfl rfl hl.1 rfl (Nat.le_of_ble_eq_true rfl) dL_law_1395 ⟨(Nat.le_of_ble_eq_true rfl), (Nat.le_of_ble_eq_true rfl)⟩) hP hD hS hA [0, 1, 2, 3, 4, 5, 6] [7] rfl rfl (by decide) (by decide) (fun r u H locs hr0 hP hD hS => ?_)
  subst hr0
  have hP : va_P D vwCl [(out, .inl (cL, 1, .inr (.inl (fun _ => 0)))), (o, .inr (13, [.int 0, .ref zb, .ref fg]))] H := hP
  have hD : va_D A [(out, .inl (cL, 1, .inr (.inl (fun _ => 0)))), (o, .inr (13, [.int 0, .ref zb, .ref fg]))] := hD
  refine lv_istore (lv' := [(6, .int 0), (5, .int 0), (4, .int 0), (3, .ref out), (2, .ref o), (1, .ref h), (0, .ref b)]) hx hb dL_law_1398 hl (by decide) rfl (fun ls hl => ?_)
  refine lv_aload_n hx hb dL_law_1400 rfl (lv_at hl 4 rfl) ?_
  refine f_aft_i (wr := [(out, .inl (cL, 1, .inr (.inl (fun _ => 0))))]) (f_runV (As := []) (rest := []) hx hb hml hown hts (kX12_thrown l D cI cO cL E M o zb fg 0 H.size) (fcwV 0 hts q186 q187 q188 q5 q189 rfl rfl (by decide +kernel) ⟨(Nat.le_of_ble_eq_true rfl), (Nat.le_of_ble_eq_true rfl)⟩) hE hP hD hS hA [1] rfl (by decide) (q0 := 1) (ci := 13) rfl rfl rfl rfl hl.1 rfl (Nat.le_of_ble_eq_true rfl) dL_law_1401 ⟨(Nat.le_of_ble_eq_true rfl), (Nat.le_of_ble_eq_true rfl)⟩) hP hD hS hA [1] [0] rfl rfl (by decide) (by decide) (fun r u H locs hr0 hP hD hS => ?_)
  subst hr0
  have hP : va_P D vwCl [(out, .inl (cL, 1, .inr (.inl (fun _ => 0)))), (o, .inr (13, [.int 0, .ref zb, .ref fg]))] H := hP
  have hD : va_D A [(out, .inl (cL, 1, .inr (.inl (fun _ => 0)))), (o, .inr (13, [.int 0, .ref zb, .ref fg]))] := hD
  refine lv_iload hx hb dL_law_1404 (lv_at hl 1 rfl) ?_
  refine lv_icmp_eq (tgt := 1411) hx hb dL_law_1406 (by decide) (fun _ => ?_) (fun h => absurd (by decide) h)
  refine lv_iload hx hb dL_law_1411 (lv_at hl 1 rfl) ?_
  refine lv_if_ne (tgt := 1428) hx hb dL_law_1413 (by decide) (fun h => absurd h (by decide)) (fun _ => ?_)
  refine lv_aload_n hx hb dL_law_1416 rfl (lv_at hl 3 rfl) ?_
  refine lv_iconst (v := 0) hx hb dL_law_1417 (by decide) ?_
  refine va_lald hx hb hE.1.1 hP 0 2 rfl rfl (by unfold vp_in; decide) dL_law_1418 ?_
  refine f_topl (v := 0) (rfl) ?_
  refine lv_iload hx hb dL_law_1419 (lv_at hl 0 rfl) ?_
  refine lv_i2l (v := 0) hx hb dL_law_1421 (by decide) ?_
  refine W.lcmp hx hb dL_law_1422 ?_
  refine f_topi (v := 0) (f_cmp0 _) ?_
  refine lv_if_eq (tgt := 1428) hx hb dL_law_1423 (by decide) (fun _ => ?_) (fun h => absurd (by decide) h)
  refine lv_goto (tgt := 1758) hx hb dL_law_1428 (by decide) ?_
  refine W.widen (k := 3000) (n := 30000) (Nat.le_of_ble_eq_true rfl) (Nat.le_of_ble_eq_true rfl) ?_
  exact law_end C hS (lv_sub hl [2, 6] rfl)
set_option maxHeartbeats 4000000 in
set_option maxRecDepth 100000 in
theorem law_many_a {p : Program} {l : Launch} {e : Env} {s : State} {m : MethodId} {below : List Frame} {meth : Method} {c : Code} {b : Nat} {xs : Nat → Int32} {D : va_G} {cI cO cL : ClassId} {E M : Nat} {A : Nat → Prop} (C : fLC p l s m meth c b xs D cI cO cL E M A) {h f sh sp sj sc sa i1 i2 i3 tsh tsp tsj tsc tsa ti1 ti2 ti3 o zb zbp zbj zbc zba fg out : Nat} (p0 : Int32) (hs1 : (1 : Int32).toNatClampNeg = 1 ∧ xs 1 = p0) (h1 : p0 < 0) {H : Heap} {locs : List Loc} {ls : Array Slot} (hP : va_P D vwCl [(h, .inr (8, [.ref f, .ref sh, .ref tsh])), (f, .inr (0, [.int 0, .ref E, .int 0])), (sh, .inr (6, [.ref sp, .ref sj, .ref sc, .ref sa, .int 0, .int 3000, .int 0, .int 0, .int 0, .int 0, .int 0, .int 0, .int 0, .int 0, .int 0])), (sp, .inr (0, [.int 0, .ref E, .int 0])), (sj, .inr (0, [.int 0, .ref E, .int 0])), (sc, .inr (0, [.int 0, .ref E, .int 0])), (sa, .inr (1, [.ref i1, .ref i2, .ref i3])), (i1, .inl (cI, 9, .inl (fun _ => 0))), (i2, .inl (cI, 9, .inl (fun _ => 0))), (i3, .inl (cI, 9, .inl (fun _ => 0))), (tsh, .inr (6, [.ref tsp, .ref tsj, .ref tsc, .ref tsa, .int 0, .int 3000, .int 0, .int 0, .int 0, .int 0, .int 0, .int 0, .int 0, .int 0, .int 0])), (tsp, .inr (0, [.int 0, .ref E, .int 0])), (tsj, .inr (0, [.int 0, .ref E, .int 0])), (tsc, .inr (0, [.int 0, .ref E, .int 0])), (tsa, .inr (1, [.ref ti1, .ref ti2, .ref ti3])), (ti1, .inl (cI, 9, .inl (fun _ => 0))), (ti2, .inl (cI, 9, .inl (fun _ => 0))), (ti3, .inl (cI, 9, .inl (fun _ => 0))), (o, .inr (13, [.int 0, .ref zb, .ref fg])), (zb, .inr (9, [.int 0, .int 3000, .int 0, .int 0, .int 0, .ref zbp, .ref zbj, .ref zbc, .ref zba, .int 0, .int 0, .int 0, .int 0, .int 0, .int 0])), (zbp, .inr (0, [.int 0, .ref E, .int 0])), (zbj, .inr (0, [.int 0, .ref E, .int 0])), (zbc, .inr (0, [.int 0, .ref E, .int 0])), (zba, .inr (0, [.int 0, .ref E, .int 0])), (fg, .inr (0, [.int 0, .ref E, .int 0])), (out, .inl (cL, 1, .inr (.inl (fun _ => 0))))] H) (hD : va_D A [(h, .inr (8, [.ref f, .ref sh, .ref tsh])), (f, .inr (0, [.int 0, .ref E, .int 0])), (sh, .inr (6, [.ref sp, .ref sj, .ref sc, .ref sa, .int 0, .int 3000, .int 0, .int 0, .int 0, .int 0, .int 0, .int 0, .int 0, .int 0, .int 0])), (sp, .inr (0, [.int 0, .ref E, .int 0])), (sj, .inr (0, [.int 0, .ref E, .int 0])), (sc, .inr (0, [.int 0, .ref E, .int 0])), (sa, .inr (1, [.ref i1, .ref i2, .ref i3])), (i1, .inl (cI, 9, .inl (fun _ => 0))), (i2, .inl (cI, 9, .inl (fun _ => 0))), (i3, .inl (cI, 9, .inl (fun _ => 0))), (tsh, .inr (6, [.ref tsp, .ref tsj, .ref tsc, .ref tsa, .int 0, .int 3000, .int 0, .int 0, .int 0, .int 0, .int 0, .int 0, .int 0, .int 0, .int 0])), (tsp, .inr (0, [.int 0, .ref E, .int 0])), (tsj, .inr (0, [.int 0, .ref E, .int 0])), (tsc, .inr (0, [.int 0, .ref E, .int 0])), (tsa, .inr (1, [.ref ti1, .ref ti2, .ref ti3])), (ti1, .inl (cI, 9, .inl (fun _ => 0))), (ti2, .inl (cI, 9, .inl (fun _ => 0))), (ti3, .inl (cI, 9, .inl (fun _ => 0))), (o, .inr (13, [.int 0, .ref zb, .ref fg])), (zb, .inr (9, [.int 0, .int 3000, .int 0, .int 0, .int 0, .ref zbp, .ref zbj, .ref zbc, .ref zba, .int 0, .int 0, .int 0, .int 0, .int 0, .int 0])), (zbp, .inr (0, [.int 0, .ref E, .int 0])), (zbj, .inr (0, [.int 0, .ref E, .int 0])), (zbc, .inr (0, [.int 0, .ref E, .int 0])), (zba, .inr (0, [.int 0, .ref E, .int 0])), (fg, .inr (0, [.int 0, .ref E, .int 0])), (out, .inl (cL, 1, .inr (.inl (fun _ => 0))))]) (hS : va_S A s.heap H locs) (hl : lv_has ls 9 [(4, .int 0), (3, .ref out), (2, .ref o), (1, .ref h), (0, .ref b)]) : W p l e room_1 s m #[Value.ref b] below meth c H locs 26 148 (lw_Z below #[Value.ref b] s) (F0 m 1375 ls []) := by
  obtain ⟨hx, hb, hr, hml, hown, hts, hX, hbl, hlocks, hl9, hE, hA, hA2⟩ := id C
  have hbA : ¬ A b := fun h => absurd (hA2 b h) (Nat.not_le.mpr hbl)
  refine lv_aload_n hx hb dL_law_1375 rfl (lv_at hl 3 rfl) ?_
  refine lv_aload_n hx hb dL_law_1376 rfl (lv_at hl 4 rfl) ?_
  refine lv_iload hx hb dL_law_1377 (lv_at hl 0 rfl) ?_
  refine lv_iconst (v := 1) hx hb dL_law_1379 (by decide) ?_
  refine f_iadd (v := 1) hx hb dL_law_1380 (by decide) ?_
  refine va_sld hx hb hX hbl hbA hS (by unfold vp_in; decide) dL_law_1381 ?_
  refine f_topi (v := p0) (f_xs hs1) ?_
  refine lv_aload_n hx hb dL_law_1382 rfl (lv_at hl 1 rfl) ?_
  refine f_aft_i (wr := [(o, .inr (13, [.int 0, .ref zb, .ref fg])), (zb, .inr (9, [.int 0, .int 3000, .int 0, .int 0, .int 0, .ref zbp, .ref zbj, .ref zbc, .ref zba, .int 0, .int 0, .int 0, .int 0, .int 0, .int 0])), (zbp, .inr (0, [.int 0, .ref E, .int 0])), (zbj, .inr (0, [.int 0, .ref E, .int 0])), (zbc, .inr (0, [.int 0, .ref E, .int 0])), (zba, .inr (0, [.int 0, .ref E, .int 0])), (fg, .inr (0, [.int 0, .ref E, .int 0]))]) (f_runSW (As := [.ref h, .int p0, .ref out]) (rest := []) hx hb hml hown hts (kL_many_a l hl9 D cI cO cL E M h f sh sp sj sc sa i1 i2 i3 tsh tsp tsj tsc tsa ti1 ti2 ti3 out p0 h1 H.size) (fcwSW 3 hts q907 q908 q80 q909 rfl rfl (by decide +kernel) ⟨(Nat.le_of_ble_eq_true rfl), (Nat.le_of_ble_eq_true rfl)⟩) hE hP hD hS hA [0, 1, 2, 3, 4, 5, 6, 7, 8, 9, 10, 11, 12, 13, 14, 15, 16, 17, 25] rfl (by decide) rfl hl.1 rfl (Nat.le_of_ble_eq_true rfl) dL_law_1383 ⟨(Nat.le_of_ble_eq_true rfl), (Nat.le_of_ble_eq_true rfl)⟩) hP hD hS hA [0, 1, 2, 3, 4, 5, 6, 7, 8, 9, 10, 11, 12, 13, 14, 15, 16, 17, 25] [18, 19, 20, 21, 22, 23, 24] rfl rfl (by decide) (by decide) (fun r u H locs hr0 hP hD hS => ?_)
  subst hr0
  have hP : va_P D vwCl [(o, .inr (13, [.int 0, .ref zb, .ref fg])), (zb, .inr (9, [.int 0, .int 3000, .int 0, .int 0, .int 0, .ref zbp, .ref zbj, .ref zbc, .ref zba, .int 0, .int 0, .int 0, .int 0, .int 0, .int 0])), (zbp, .inr (0, [.int 0, .ref E, .int 0])), (zbj, .inr (0, [.int 0, .ref E, .int 0])), (zbc, .inr (0, [.int 0, .ref E, .int 0])), (zba, .inr (0, [.int 0, .ref E, .int 0])), (fg, .inr (0, [.int 0, .ref E, .int 0]))] H := hP
  have hD : va_D A [(o, .inr (13, [.int 0, .ref zb, .ref fg])), (zb, .inr (9, [.int 0, .int 3000, .int 0, .int 0, .int 0, .ref zbp, .ref zbj, .ref zbc, .ref zba, .int 0, .int 0, .int 0, .int 0, .int 0, .int 0])), (zbp, .inr (0, [.int 0, .ref E, .int 0])), (zbj, .inr (0, [.int 0, .ref E, .int 0])), (zbc, .inr (0, [.int 0, .ref E, .int 0])), (zba, .inr (0, [.int 0, .ref E, .int 0])), (fg, .inr (0, [.int 0, .ref E, .int 0]))] := hD
  refine lv_istore (lv' := [(5, .int 1), (4, .int 0), (3, .ref out), (2, .ref o), (1, .ref h), (0, .ref b)]) hx hb dL_law_1386 hl (by decide) rfl (fun ls hl => ?_)
  refine lv_aload_n hx hb dL_law_1388 rfl (lv_at hl 3 rfl) ?_
  refine lv_aload_n hx hb dL_law_1389 rfl (lv_at hl 5 rfl) ?_
  refine lv_iload hx hb dL_law_1390 (lv_at hl 1 rfl) ?_
  refine lv_iconst (v := 1) hx hb dL_law_1392 (by decide) ?_
  refine f_iadd (v := 1) hx hb dL_law_1393 (by decide) ?_
  refine va_sld hx hb hX hbl hbA hS (by unfold vp_in; decide) dL_law_1394 ?_
  refine f_topi (v := p0) (f_xs hs1) ?_
  refine f_aft_i (wr := []) (f_runV (As := [.int p0]) (rest := []) hx hb hml hown hts (kX12_many_a l D cI cO cL E M o zb zbp zbj zbc zba fg p0 h1 H.size) (fcwV 1 hts q930 q931 q932 q5 q933 rfl rfl (by decide +kernel) ⟨(Nat.le_of_ble_eq_true rfl), (Nat.le_of_ble_eq_true rfl)⟩) hE hP hD hS hA [0, 1, 2, 3, 4, 5, 6] rfl (by decide) (q0 := 0) (ci := 13) rfl rfl rfl rfl hl.1 rfl (Nat.le_of_ble_eq_true rfl) dL_law_1395 ⟨(Nat.le_of_ble_eq_true rfl), (Nat.le_of_ble_eq_true rfl)⟩) hP hD hS hA [0, 1, 2, 3, 4, 5, 6] [] rfl rfl (by decide) (by decide) (fun r u H locs hr0 hP hD hS => ?_)
  subst hr0
  have hP : va_P D vwCl [(o, .inr (13, [.int 1, .ref zb, .ref fg]))] H := hP
  have hD : va_D A [(o, .inr (13, [.int 1, .ref zb, .ref fg]))] := hD
  refine lv_istore (lv' := [(6, .int 0), (5, .int 1), (4, .int 0), (3, .ref out), (2, .ref o), (1, .ref h), (0, .ref b)]) hx hb dL_law_1398 hl (by decide) rfl (fun ls hl => ?_)
  refine lv_aload_n hx hb dL_law_1400 rfl (lv_at hl 4 rfl) ?_
  refine f_aft_i (wr := []) (f_runV (As := []) (rest := []) hx hb hml hown hts (kX12_thrown l D cI cO cL E M o zb fg 1 H.size) (fcwV 0 hts q186 q187 q188 q5 q189 rfl rfl (by decide +kernel) ⟨(Nat.le_of_ble_eq_true rfl), (Nat.le_of_ble_eq_true rfl)⟩) hE hP hD hS hA [0] rfl (by decide) (q0 := 0) (ci := 13) rfl rfl rfl rfl hl.1 rfl (Nat.le_of_ble_eq_true rfl) dL_law_1401 ⟨(Nat.le_of_ble_eq_true rfl), (Nat.le_of_ble_eq_true rfl)⟩) hP hD hS hA [0] [] rfl rfl (by decide) (by decide) (fun r u H locs hr0 hP hD hS => ?_)
  subst hr0
  have hP : va_P D vwCl [(o, .inr (13, [.int 1, .ref zb, .ref fg]))] H := hP
  have hD : va_D A [(o, .inr (13, [.int 1, .ref zb, .ref fg]))] := hD
  refine lv_iload hx hb dL_law_1404 (lv_at hl 1 rfl) ?_
  refine lv_icmp_eq (tgt := 1411) hx hb dL_law_1406 (by decide) (fun _ => ?_) (fun h => absurd (by decide) h)
  refine lv_iload hx hb dL_law_1411 (lv_at hl 1 rfl) ?_
  refine lv_if_ne (tgt := 1428) hx hb dL_law_1413 (by decide) (fun _ => ?_) (fun h => absurd h (by decide))
  refine lv_goto (tgt := 1758) hx hb dL_law_1428 (by decide) ?_
  refine W.widen (k := 3000) (n := 30000) (Nat.le_of_ble_eq_true rfl) (Nat.le_of_ble_eq_true rfl) ?_
  exact law_end C hS (lv_sub hl [2, 6] rfl)
set_option maxHeartbeats 4000000 in
set_option maxRecDepth 100000 in
theorem law_many_b {p : Program} {l : Launch} {e : Env} {s : State} {m : MethodId} {below : List Frame} {meth : Method} {c : Code} {b : Nat} {xs : Nat → Int32} {D : va_G} {cI cO cL : ClassId} {E M : Nat} {A : Nat → Prop} (C : fLC p l s m meth c b xs D cI cO cL E M A) {h f sh sp sj sc sa i1 i2 i3 tsh tsp tsj tsc tsa ti1 ti2 ti3 o zb zbp zbj zbc zba fg out : Nat} (p0 : Int32) (hs1 : (1 : Int32).toNatClampNeg = 1 ∧ xs 1 = p0) (h1 : ¬ p0 < 0) (h2 : 15 < p0) {H : Heap} {locs : List Loc} {ls : Array Slot} (hP : va_P D vwCl [(h, .inr (8, [.ref f, .ref sh, .ref tsh])), (f, .inr (0, [.int 0, .ref E, .int 0])), (sh, .inr (6, [.ref sp, .ref sj, .ref sc, .ref sa, .int 0, .int 3000, .int 0, .int 0, .int 0, .int 0, .int 0, .int 0, .int 0, .int 0, .int 0])), (sp, .inr (0, [.int 0, .ref E, .int 0])), (sj, .inr (0, [.int 0, .ref E, .int 0])), (sc, .inr (0, [.int 0, .ref E, .int 0])), (sa, .inr (1, [.ref i1, .ref i2, .ref i3])), (i1, .inl (cI, 9, .inl (fun _ => 0))), (i2, .inl (cI, 9, .inl (fun _ => 0))), (i3, .inl (cI, 9, .inl (fun _ => 0))), (tsh, .inr (6, [.ref tsp, .ref tsj, .ref tsc, .ref tsa, .int 0, .int 3000, .int 0, .int 0, .int 0, .int 0, .int 0, .int 0, .int 0, .int 0, .int 0])), (tsp, .inr (0, [.int 0, .ref E, .int 0])), (tsj, .inr (0, [.int 0, .ref E, .int 0])), (tsc, .inr (0, [.int 0, .ref E, .int 0])), (tsa, .inr (1, [.ref ti1, .ref ti2, .ref ti3])), (ti1, .inl (cI, 9, .inl (fun _ => 0))), (ti2, .inl (cI, 9, .inl (fun _ => 0))), (ti3, .inl (cI, 9, .inl (fun _ => 0))), (o, .inr (13, [.int 0, .ref zb, .ref fg])), (zb, .inr (9, [.int 0, .int 3000, .int 0, .int 0, .int 0, .ref zbp, .ref zbj, .ref zbc, .ref zba, .int 0, .int 0, .int 0, .int 0, .int 0, .int 0])), (zbp, .inr (0, [.int 0, .ref E, .int 0])), (zbj, .inr (0, [.int 0, .ref E, .int 0])), (zbc, .inr (0, [.int 0, .ref E, .int 0])), (zba, .inr (0, [.int 0, .ref E, .int 0])), (fg, .inr (0, [.int 0, .ref E, .int 0])), (out, .inl (cL, 1, .inr (.inl (fun _ => 0))))] H) (hD : va_D A [(h, .inr (8, [.ref f, .ref sh, .ref tsh])), (f, .inr (0, [.int 0, .ref E, .int 0])), (sh, .inr (6, [.ref sp, .ref sj, .ref sc, .ref sa, .int 0, .int 3000, .int 0, .int 0, .int 0, .int 0, .int 0, .int 0, .int 0, .int 0, .int 0])), (sp, .inr (0, [.int 0, .ref E, .int 0])), (sj, .inr (0, [.int 0, .ref E, .int 0])), (sc, .inr (0, [.int 0, .ref E, .int 0])), (sa, .inr (1, [.ref i1, .ref i2, .ref i3])), (i1, .inl (cI, 9, .inl (fun _ => 0))), (i2, .inl (cI, 9, .inl (fun _ => 0))), (i3, .inl (cI, 9, .inl (fun _ => 0))), (tsh, .inr (6, [.ref tsp, .ref tsj, .ref tsc, .ref tsa, .int 0, .int 3000, .int 0, .int 0, .int 0, .int 0, .int 0, .int 0, .int 0, .int 0, .int 0])), (tsp, .inr (0, [.int 0, .ref E, .int 0])), (tsj, .inr (0, [.int 0, .ref E, .int 0])), (tsc, .inr (0, [.int 0, .ref E, .int 0])), (tsa, .inr (1, [.ref ti1, .ref ti2, .ref ti3])), (ti1, .inl (cI, 9, .inl (fun _ => 0))), (ti2, .inl (cI, 9, .inl (fun _ => 0))), (ti3, .inl (cI, 9, .inl (fun _ => 0))), (o, .inr (13, [.int 0, .ref zb, .ref fg])), (zb, .inr (9, [.int 0, .int 3000, .int 0, .int 0, .int 0, .ref zbp, .ref zbj, .ref zbc, .ref zba, .int 0, .int 0, .int 0, .int 0, .int 0, .int 0])), (zbp, .inr (0, [.int 0, .ref E, .int 0])), (zbj, .inr (0, [.int 0, .ref E, .int 0])), (zbc, .inr (0, [.int 0, .ref E, .int 0])), (zba, .inr (0, [.int 0, .ref E, .int 0])), (fg, .inr (0, [.int 0, .ref E, .int 0])), (out, .inl (cL, 1, .inr (.inl (fun _ => 0))))]) (hS : va_S A s.heap H locs) (hl : lv_has ls 9 [(4, .int 0), (3, .ref out), (2, .ref o), (1, .ref h), (0, .ref b)]) : W p l e room_1 s m #[Value.ref b] below meth c H locs 26 148 (lw_Z below #[Value.ref b] s) (F0 m 1375 ls []) := by
  obtain ⟨hx, hb, hr, hml, hown, hts, hX, hbl, hlocks, hl9, hE, hA, hA2⟩ := id C
  have hbA : ¬ A b := fun h => absurd (hA2 b h) (Nat.not_le.mpr hbl)
  refine lv_aload_n hx hb dL_law_1375 rfl (lv_at hl 3 rfl) ?_
  refine lv_aload_n hx hb dL_law_1376 rfl (lv_at hl 4 rfl) ?_
  refine lv_iload hx hb dL_law_1377 (lv_at hl 0 rfl) ?_
  refine lv_iconst (v := 1) hx hb dL_law_1379 (by decide) ?_
  refine f_iadd (v := 1) hx hb dL_law_1380 (by decide) ?_
  refine va_sld hx hb hX hbl hbA hS (by unfold vp_in; decide) dL_law_1381 ?_
  refine f_topi (v := p0) (f_xs hs1) ?_
  refine lv_aload_n hx hb dL_law_1382 rfl (lv_at hl 1 rfl) ?_
  refine f_aft_i (wr := [(o, .inr (13, [.int 0, .ref zb, .ref fg])), (zb, .inr (9, [.int 0, .int 3000, .int 0, .int 0, .int 0, .ref zbp, .ref zbj, .ref zbc, .ref zba, .int 0, .int 0, .int 0, .int 0, .int 0, .int 0])), (zbp, .inr (0, [.int 0, .ref E, .int 0])), (zbj, .inr (0, [.int 0, .ref E, .int 0])), (zbc, .inr (0, [.int 0, .ref E, .int 0])), (zba, .inr (0, [.int 0, .ref E, .int 0])), (fg, .inr (0, [.int 0, .ref E, .int 0]))]) (f_runSW (As := [.ref h, .int p0, .ref out]) (rest := []) hx hb hml hown hts (kL_many_b l hl9 D cI cO cL E M h f sh sp sj sc sa i1 i2 i3 tsh tsp tsj tsc tsa ti1 ti2 ti3 out p0 h1 h2 H.size) (fcwSW 3 hts q907 q908 q80 q909 rfl rfl (by decide +kernel) ⟨(Nat.le_of_ble_eq_true rfl), (Nat.le_of_ble_eq_true rfl)⟩) hE hP hD hS hA [0, 1, 2, 3, 4, 5, 6, 7, 8, 9, 10, 11, 12, 13, 14, 15, 16, 17, 25] rfl (by decide) rfl hl.1 rfl (Nat.le_of_ble_eq_true rfl) dL_law_1383 ⟨(Nat.le_of_ble_eq_true rfl), (Nat.le_of_ble_eq_true rfl)⟩) hP hD hS hA [0, 1, 2, 3, 4, 5, 6, 7, 8, 9, 10, 11, 12, 13, 14, 15, 16, 17, 25] [18, 19, 20, 21, 22, 23, 24] rfl rfl (by decide) (by decide) (fun r u H locs hr0 hP hD hS => ?_)
  subst hr0
  have hP : va_P D vwCl [(o, .inr (13, [.int 0, .ref zb, .ref fg])), (zb, .inr (9, [.int 0, .int 3000, .int 0, .int 0, .int 0, .ref zbp, .ref zbj, .ref zbc, .ref zba, .int 0, .int 0, .int 0, .int 0, .int 0, .int 0])), (zbp, .inr (0, [.int 0, .ref E, .int 0])), (zbj, .inr (0, [.int 0, .ref E, .int 0])), (zbc, .inr (0, [.int 0, .ref E, .int 0])), (zba, .inr (0, [.int 0, .ref E, .int 0])), (fg, .inr (0, [.int 0, .ref E, .int 0]))] H := hP
  have hD : va_D A [(o, .inr (13, [.int 0, .ref zb, .ref fg])), (zb, .inr (9, [.int 0, .int 3000, .int 0, .int 0, .int 0, .ref zbp, .ref zbj, .ref zbc, .ref zba, .int 0, .int 0, .int 0, .int 0, .int 0, .int 0])), (zbp, .inr (0, [.int 0, .ref E, .int 0])), (zbj, .inr (0, [.int 0, .ref E, .int 0])), (zbc, .inr (0, [.int 0, .ref E, .int 0])), (zba, .inr (0, [.int 0, .ref E, .int 0])), (fg, .inr (0, [.int 0, .ref E, .int 0]))] := hD
  refine lv_istore (lv' := [(5, .int 1), (4, .int 0), (3, .ref out), (2, .ref o), (1, .ref h), (0, .ref b)]) hx hb dL_law_1386 hl (by decide) rfl (fun ls hl => ?_)
  refine lv_aload_n hx hb dL_law_1388 rfl (lv_at hl 3 rfl) ?_
  refine lv_aload_n hx hb dL_law_1389 rfl (lv_at hl 5 rfl) ?_
  refine lv_iload hx hb dL_law_1390 (lv_at hl 1 rfl) ?_
  refine lv_iconst (v := 1) hx hb dL_law_1392 (by decide) ?_
  refine f_iadd (v := 1) hx hb dL_law_1393 (by decide) ?_
  refine va_sld hx hb hX hbl hbA hS (by unfold vp_in; decide) dL_law_1394 ?_
  refine f_topi (v := p0) (f_xs hs1) ?_
  refine f_aft_i (wr := []) (f_runV (As := [.int p0]) (rest := []) hx hb hml hown hts (kX12_many_b l D cI cO cL E M o zb zbp zbj zbc zba fg p0 h1 h2 H.size) (fcwV 1 hts q930 q931 q932 q5 q933 rfl rfl (by decide +kernel) ⟨(Nat.le_of_ble_eq_true rfl), (Nat.le_of_ble_eq_true rfl)⟩) hE hP hD hS hA [0, 1, 2, 3, 4, 5, 6] rfl (by decide) (q0 := 0) (ci := 13) rfl rfl rfl rfl hl.1 rfl (Nat.le_of_ble_eq_true rfl) dL_law_1395 ⟨(Nat.le_of_ble_eq_true rfl), (Nat.le_of_ble_eq_true rfl)⟩) hP hD hS hA [0, 1, 2, 3, 4, 5, 6] [] rfl rfl (by decide) (by decide) (fun r u H locs hr0 hP hD hS => ?_)
  subst hr0
  have hP : va_P D vwCl [(o, .inr (13, [.int 1, .ref zb, .ref fg]))] H := hP
  have hD : va_D A [(o, .inr (13, [.int 1, .ref zb, .ref fg]))] := hD
  refine lv_istore (lv' := [(6, .int 0), (5, .int 1), (4, .int 0), (3, .ref out), (2, .ref o), (1, .ref h), (0, .ref b)]) hx hb dL_law_1398 hl (by decide) rfl (fun ls hl => ?_)
  refine lv_aload_n hx hb dL_law_1400 rfl (lv_at hl 4 rfl) ?_
  refine f_aft_i (wr := []) (f_runV (As := []) (rest := []) hx hb hml hown hts (kX12_thrown l D cI cO cL E M o zb fg 1 H.size) (fcwV 0 hts q186 q187 q188 q5 q189 rfl rfl (by decide +kernel) ⟨(Nat.le_of_ble_eq_true rfl), (Nat.le_of_ble_eq_true rfl)⟩) hE hP hD hS hA [0] rfl (by decide) (q0 := 0) (ci := 13) rfl rfl rfl rfl hl.1 rfl (Nat.le_of_ble_eq_true rfl) dL_law_1401 ⟨(Nat.le_of_ble_eq_true rfl), (Nat.le_of_ble_eq_true rfl)⟩) hP hD hS hA [0] [] rfl rfl (by decide) (by decide) (fun r u H locs hr0 hP hD hS => ?_)
  subst hr0
  have hP : va_P D vwCl [(o, .inr (13, [.int 1, .ref zb, .ref fg]))] H := hP
  have hD : va_D A [(o, .inr (13, [.int 1, .ref zb, .ref fg]))] := hD
  refine lv_iload hx hb dL_law_1404 (lv_at hl 1 rfl) ?_
  refine lv_icmp_eq (tgt := 1411) hx hb dL_law_1406 (by decide) (fun _ => ?_) (fun h => absurd (by decide) h)
  refine lv_iload hx hb dL_law_1411 (lv_at hl 1 rfl) ?_
  refine lv_if_ne (tgt := 1428) hx hb dL_law_1413 (by decide) (fun _ => ?_) (fun h => absurd h (by decide))
  refine lv_goto (tgt := 1758) hx hb dL_law_1428 (by decide) ?_
  refine W.widen (k := 3000) (n := 30000) (Nat.le_of_ble_eq_true rfl) (Nat.le_of_ble_eq_true rfl) ?_
  exact law_end C hS (lv_sub hl [2, 6] rfl)
set_option maxHeartbeats 4000000 in
set_option maxRecDepth 100000 in
theorem law_would_0 {p : Program} {l : Launch} {e : Env} {s : State} {m : MethodId} {below : List Frame} {meth : Method} {c : Code} {b : Nat} {xs : Nat → Int32} {D : va_G} {cI cO cL : ClassId} {E M : Nat} {A : Nat → Prop} (C : fLC p l s m meth c b xs D cI cO cL E M A) {h f sh sp sj sc sa i1 i2 i3 tsh tsp tsj tsc tsa ti1 ti2 ti3 o zb zbp zbj zbc zba fg out : Nat} (N : Nat) (hs1 : (1 : Int32).toNatClampNeg = 1 ∧ xs 1 = nI N) (hs2 : (2 : Int32).toNatClampNeg = 2 ∧ xs 2 = 0) (g1 : 1 ≤ N) (g2 : N ≤ 60) {H : Heap} {locs : List Loc} {ls : Array Slot} (hP : va_P D vwCl [(h, .inr (8, [.ref f, .ref sh, .ref tsh])), (f, .inr (0, [.int 0, .ref E, .int 0])), (sh, .inr (6, [.ref sp, .ref sj, .ref sc, .ref sa, .int 0, .int 3000, .int 0, .int 0, .int 0, .int 0, .int 0, .int 0, .int 0, .int 0, .int 0])), (sp, .inr (0, [.int 0, .ref E, .int 0])), (sj, .inr (0, [.int 0, .ref E, .int 0])), (sc, .inr (0, [.int 0, .ref E, .int 0])), (sa, .inr (1, [.ref i1, .ref i2, .ref i3])), (i1, .inl (cI, 9, .inl (fun _ => 0))), (i2, .inl (cI, 9, .inl (fun _ => 0))), (i3, .inl (cI, 9, .inl (fun _ => 0))), (tsh, .inr (6, [.ref tsp, .ref tsj, .ref tsc, .ref tsa, .int 0, .int 3000, .int 0, .int 0, .int 0, .int 0, .int 0, .int 0, .int 0, .int 0, .int 0])), (tsp, .inr (0, [.int 0, .ref E, .int 0])), (tsj, .inr (0, [.int 0, .ref E, .int 0])), (tsc, .inr (0, [.int 0, .ref E, .int 0])), (tsa, .inr (1, [.ref ti1, .ref ti2, .ref ti3])), (ti1, .inl (cI, 9, .inl (fun _ => 0))), (ti2, .inl (cI, 9, .inl (fun _ => 0))), (ti3, .inl (cI, 9, .inl (fun _ => 0))), (o, .inr (13, [.int 0, .ref zb, .ref fg])), (zb, .inr (9, [.int 0, .int 3000, .int 0, .int 0, .int 0, .ref zbp, .ref zbj, .ref zbc, .ref zba, .int 0, .int 0, .int 0, .int 0, .int 0, .int 0])), (zbp, .inr (0, [.int 0, .ref E, .int 0])), (zbj, .inr (0, [.int 0, .ref E, .int 0])), (zbc, .inr (0, [.int 0, .ref E, .int 0])), (zba, .inr (0, [.int 0, .ref E, .int 0])), (fg, .inr (0, [.int 0, .ref E, .int 0])), (out, .inl (cL, 1, .inr (.inl (fun _ => 0))))] H) (hD : va_D A [(h, .inr (8, [.ref f, .ref sh, .ref tsh])), (f, .inr (0, [.int 0, .ref E, .int 0])), (sh, .inr (6, [.ref sp, .ref sj, .ref sc, .ref sa, .int 0, .int 3000, .int 0, .int 0, .int 0, .int 0, .int 0, .int 0, .int 0, .int 0, .int 0])), (sp, .inr (0, [.int 0, .ref E, .int 0])), (sj, .inr (0, [.int 0, .ref E, .int 0])), (sc, .inr (0, [.int 0, .ref E, .int 0])), (sa, .inr (1, [.ref i1, .ref i2, .ref i3])), (i1, .inl (cI, 9, .inl (fun _ => 0))), (i2, .inl (cI, 9, .inl (fun _ => 0))), (i3, .inl (cI, 9, .inl (fun _ => 0))), (tsh, .inr (6, [.ref tsp, .ref tsj, .ref tsc, .ref tsa, .int 0, .int 3000, .int 0, .int 0, .int 0, .int 0, .int 0, .int 0, .int 0, .int 0, .int 0])), (tsp, .inr (0, [.int 0, .ref E, .int 0])), (tsj, .inr (0, [.int 0, .ref E, .int 0])), (tsc, .inr (0, [.int 0, .ref E, .int 0])), (tsa, .inr (1, [.ref ti1, .ref ti2, .ref ti3])), (ti1, .inl (cI, 9, .inl (fun _ => 0))), (ti2, .inl (cI, 9, .inl (fun _ => 0))), (ti3, .inl (cI, 9, .inl (fun _ => 0))), (o, .inr (13, [.int 0, .ref zb, .ref fg])), (zb, .inr (9, [.int 0, .int 3000, .int 0, .int 0, .int 0, .ref zbp, .ref zbj, .ref zbc, .ref zba, .int 0, .int 0, .int 0, .int 0, .int 0, .int 0])), (zbp, .inr (0, [.int 0, .ref E, .int 0])), (zbj, .inr (0, [.int 0, .ref E, .int 0])), (zbc, .inr (0, [.int 0, .ref E, .int 0])), (zba, .inr (0, [.int 0, .ref E, .int 0])), (fg, .inr (0, [.int 0, .ref E, .int 0])), (out, .inl (cL, 1, .inr (.inl (fun _ => 0))))]) (hS : va_S A s.heap H locs) (hl : lv_has ls 9 [(4, .int 0), (3, .ref out), (2, .ref o), (1, .ref h), (0, .ref b)]) : W p l e room_1 s m #[Value.ref b] below meth c H locs 26 148 (lw_Z below #[Value.ref b] s) (F0 m 1676 ls []) := by
  obtain ⟨hx, hb, hr, hml, hown, hts, hX, hbl, hlocks, hl9, hE, hA, hA2⟩ := id C
  have hbA : ¬ A b := fun h => absurd (hA2 b h) (Nat.not_le.mpr hbl)
  refine lv_aload_n hx hb dL_law_1676 rfl (lv_at hl 3 rfl) ?_
  refine lv_aload_n hx hb dL_law_1677 rfl (lv_at hl 4 rfl) ?_
  refine lv_iload hx hb dL_law_1678 (lv_at hl 0 rfl) ?_
  refine lv_iconst (v := 1) hx hb dL_law_1680 (by decide) ?_
  refine f_iadd (v := 1) hx hb dL_law_1681 (by decide) ?_
  refine va_sld hx hb hX hbl hbA hS (by unfold vp_in; decide) dL_law_1682 ?_
  refine f_topi (v := nI N) (f_xs hs1) ?_
  refine lv_aload_n hx hb dL_law_1683 rfl (lv_at hl 4 rfl) ?_
  refine lv_iload hx hb dL_law_1684 (lv_at hl 0 rfl) ?_
  refine lv_iconst (v := 2) hx hb dL_law_1686 (by decide) ?_
  refine f_iadd (v := 2) hx hb dL_law_1687 (by decide) ?_
  refine va_sld hx hb hX hbl hbA hS (by unfold vp_in; decide) dL_law_1688 ?_
  refine f_topi (v := 0) (f_xs hs2) ?_
  refine lv_aload_n hx hb dL_law_1689 rfl (lv_at hl 1 rfl) ?_
  refine f_aft_i (wr := [(o, .inr (13, [.int 0, .ref zb, .ref fg])), (zb, .inr (9, [.int 0, .int 3000, .int 0, .int 0, .int 0, .ref zbp, .ref zbj, .ref zbc, .ref zba, .int 0, .int 0, .int 0, .int 0, .int 0, .int 0])), (zbp, .inr (0, [.int 0, .ref E, .int 0])), (zbj, .inr (0, [.int 0, .ref E, .int 0])), (zbc, .inr (0, [.int 0, .ref E, .int 0])), (zba, .inr (0, [.int 0, .ref E, .int 0])), (fg, .inr (0, [.int 0, .ref E, .int 0]))]) (f_runSW (As := [.ref h, .int (nI N), .int 0, .ref out]) (rest := []) hx hb hml hown hts (kL_would_0 l D cI cO cL E M h f sh sp sj sc sa i1 i2 i3 tsh tsp tsj tsc tsa ti1 ti2 ti3 out N g1 g2 H.size) (fcwSW 4 hts q1079 q1080 q80 q1081 rfl rfl (by decide +kernel) ⟨(Nat.le_of_ble_eq_true rfl), (Nat.le_of_ble_eq_true rfl)⟩) hE hP hD hS hA [0, 1, 2, 3, 4, 5, 6, 7, 8, 9, 10, 11, 12, 13, 14, 15, 16, 17, 25] rfl (by decide) rfl hl.1 rfl (Nat.le_of_ble_eq_true rfl) dL_law_1690 ⟨(Nat.le_of_ble_eq_true rfl), (Nat.le_of_ble_eq_true rfl)⟩) hP hD hS hA [0, 1, 2, 3, 4, 5, 6, 7, 8, 9, 10, 11, 12, 13, 14, 15, 16, 17, 25] [18, 19, 20, 21, 22, 23, 24] rfl rfl (by decide) (by decide) (fun r u H locs hr0 hP hD hS => ?_)
  subst hr0
  have hP : va_P D vwCl [(o, .inr (13, [.int 0, .ref zb, .ref fg])), (zb, .inr (9, [.int 0, .int 3000, .int 0, .int 0, .int 0, .ref zbp, .ref zbj, .ref zbc, .ref zba, .int 0, .int 0, .int 0, .int 0, .int 0, .int 0])), (zbp, .inr (0, [.int 0, .ref E, .int 0])), (zbj, .inr (0, [.int 0, .ref E, .int 0])), (zbc, .inr (0, [.int 0, .ref E, .int 0])), (zba, .inr (0, [.int 0, .ref E, .int 0])), (fg, .inr (0, [.int 0, .ref E, .int 0])), (out, .inl (cL, 1, .inr (.inl (fun _ => 0))))] H := hP
  have hD : va_D A [(o, .inr (13, [.int 0, .ref zb, .ref fg])), (zb, .inr (9, [.int 0, .int 3000, .int 0, .int 0, .int 0, .ref zbp, .ref zbj, .ref zbc, .ref zba, .int 0, .int 0, .int 0, .int 0, .int 0, .int 0])), (zbp, .inr (0, [.int 0, .ref E, .int 0])), (zbj, .inr (0, [.int 0, .ref E, .int 0])), (zbc, .inr (0, [.int 0, .ref E, .int 0])), (zba, .inr (0, [.int 0, .ref E, .int 0])), (fg, .inr (0, [.int 0, .ref E, .int 0])), (out, .inl (cL, 1, .inr (.inl (fun _ => 0))))] := hD
  refine lv_istore (lv' := [(5, .int 0), (4, .int 0), (3, .ref out), (2, .ref o), (1, .ref h), (0, .ref b)]) hx hb dL_law_1693 hl (by decide) rfl (fun ls hl => ?_)
  refine lv_aload_n hx hb dL_law_1695 rfl (lv_at hl 3 rfl) ?_
  refine lv_aload_n hx hb dL_law_1696 rfl (lv_at hl 5 rfl) ?_
  refine lv_iload hx hb dL_law_1697 (lv_at hl 1 rfl) ?_
  refine lv_iconst (v := 1) hx hb dL_law_1699 (by decide) ?_
  refine f_iadd (v := 1) hx hb dL_law_1700 (by decide) ?_
  refine va_sld hx hb hX hbl hbA hS (by unfold vp_in; decide) dL_law_1701 ?_
  refine f_topi (v := nI N) (f_xs hs1) ?_
  refine lv_aload_n hx hb dL_law_1702 rfl (lv_at hl 5 rfl) ?_
  refine lv_iload hx hb dL_law_1703 (lv_at hl 1 rfl) ?_
  refine lv_iconst (v := 2) hx hb dL_law_1705 (by decide) ?_
  refine f_iadd (v := 2) hx hb dL_law_1706 (by decide) ?_
  refine va_sld hx hb hX hbl hbA hS (by unfold vp_in; decide) dL_law_1707 ?_
  refine f_topi (v := 0) (f_xs hs2) ?_
  refine f_aft_i (wr := [(out, .inl (cL, 1, .inr (.inl (fun _ => 0))))]) (f_runV (As := [.int (nI N), .int 0]) (rest := []) hx hb hml hown hts (kX12_would_0 l D cI cO cL E M o zb zbp zbj zbc zba fg N g1 g2 H.size) (fcwV 2 hts q1086 q1087 q1088 q5 q1089 rfl rfl (by decide +kernel) ⟨(Nat.le_of_ble_eq_true rfl), (Nat.le_of_ble_eq_true rfl)⟩) hE hP hD hS hA [0, 1, 2, 3, 4, 5, 6] rfl (by decide) (q0 := 0) (ci := 13) rfl rfl rfl rfl hl.1 rfl (Nat.le_of_ble_eq_true rfl) dL_law_1708 ⟨(Nat.le_of_ble_eq_true rfl), (Nat.le_of_ble_eq_true rfl)⟩) hP hD hS hA [0, 1, 2, 3, 4, 5, 6] [7] rfl rfl (by decide) (by decide) (fun r u H locs hr0 hP hD hS => ?_)
  subst hr0
  have hP : va_P D vwCl [(out, .inl (cL, 1, .inr (.inl (fun _ => 0)))), (o, .inr (13, [.int 0, .ref zb, .ref fg]))] H := hP
  have hD : va_D A [(out, .inl (cL, 1, .inr (.inl (fun _ => 0)))), (o, .inr (13, [.int 0, .ref zb, .ref fg]))] := hD
  refine lv_istore (lv' := [(6, .int 0), (5, .int 0), (4, .int 0), (3, .ref out), (2, .ref o), (1, .ref h), (0, .ref b)]) hx hb dL_law_1711 hl (by decide) rfl (fun ls hl => ?_)
  refine lv_aload_n hx hb dL_law_1713 rfl (lv_at hl 4 rfl) ?_
  refine f_aft_i (wr := [(out, .inl (cL, 1, .inr (.inl (fun _ => 0))))]) (f_runV (As := []) (rest := []) hx hb hml hown hts (kX12_thrown l D cI cO cL E M o zb fg 0 H.size) (fcwV 0 hts q186 q187 q188 q5 q189 rfl rfl (by decide +kernel) ⟨(Nat.le_of_ble_eq_true rfl), (Nat.le_of_ble_eq_true rfl)⟩) hE hP hD hS hA [1] rfl (by decide) (q0 := 1) (ci := 13) rfl rfl rfl rfl hl.1 rfl (Nat.le_of_ble_eq_true rfl) dL_law_1714 ⟨(Nat.le_of_ble_eq_true rfl), (Nat.le_of_ble_eq_true rfl)⟩) hP hD hS hA [1] [0] rfl rfl (by decide) (by decide) (fun r u H locs hr0 hP hD hS => ?_)
  subst hr0
  have hP : va_P D vwCl [(out, .inl (cL, 1, .inr (.inl (fun _ => 0)))), (o, .inr (13, [.int 0, .ref zb, .ref fg]))] H := hP
  have hD : va_D A [(out, .inl (cL, 1, .inr (.inl (fun _ => 0)))), (o, .inr (13, [.int 0, .ref zb, .ref fg]))] := hD
  refine lv_iload hx hb dL_law_1717 (lv_at hl 1 rfl) ?_
  refine lv_icmp_eq (tgt := 1724) hx hb dL_law_1719 (by decide) (fun _ => ?_) (fun h => absurd (by decide) h)
  refine lv_iload hx hb dL_law_1724 (lv_at hl 1 rfl) ?_
  refine lv_if_ne (tgt := 1741) hx hb dL_law_1726 (by decide) (fun h => absurd h (by decide)) (fun _ => ?_)
  refine lv_aload_n hx hb dL_law_1729 rfl (lv_at hl 3 rfl) ?_
  refine lv_iconst (v := 0) hx hb dL_law_1730 (by decide) ?_
  refine va_lald hx hb hE.1.1 hP 0 2 rfl rfl (by unfold vp_in; decide) dL_law_1731 ?_
  refine f_topl (v := 0) (rfl) ?_
  refine lv_iload hx hb dL_law_1732 (lv_at hl 0 rfl) ?_
  refine lv_i2l (v := 0) hx hb dL_law_1734 (by decide) ?_
  refine W.lcmp hx hb dL_law_1735 ?_
  refine f_topi (v := 0) (f_cmp0 _) ?_
  refine lv_if_eq (tgt := 1741) hx hb dL_law_1736 (by decide) (fun _ => ?_) (fun h => absurd (by decide) h)
  refine lv_goto (tgt := 1758) hx hb dL_law_1741 (by decide) ?_
  refine W.widen (k := 3000) (n := 30000) (Nat.le_of_ble_eq_true rfl) (Nat.le_of_ble_eq_true rfl) ?_
  exact law_end C hS (lv_sub hl [2, 6] rfl)
set_option maxHeartbeats 4000000 in
set_option maxRecDepth 100000 in
theorem law_would_1 {p : Program} {l : Launch} {e : Env} {s : State} {m : MethodId} {below : List Frame} {meth : Method} {c : Code} {b : Nat} {xs : Nat → Int32} {D : va_G} {cI cO cL : ClassId} {E M : Nat} {A : Nat → Prop} (C : fLC p l s m meth c b xs D cI cO cL E M A) {h f sh sp sj sc sa i1 i2 i3 tsh tsp tsj tsc tsa ti1 ti2 ti3 o zb zbp zbj zbc zba fg out : Nat} (N : Nat) (hs1 : (1 : Int32).toNatClampNeg = 1 ∧ xs 1 = nI N) (hs2 : (2 : Int32).toNatClampNeg = 2 ∧ xs 2 = 1) (g1 : 1 ≤ N) (g2 : N ≤ 60) {H : Heap} {locs : List Loc} {ls : Array Slot} (hP : va_P D vwCl [(h, .inr (8, [.ref f, .ref sh, .ref tsh])), (f, .inr (0, [.int 0, .ref E, .int 0])), (sh, .inr (6, [.ref sp, .ref sj, .ref sc, .ref sa, .int 0, .int 3000, .int 0, .int 0, .int 0, .int 0, .int 0, .int 0, .int 0, .int 0, .int 0])), (sp, .inr (0, [.int 0, .ref E, .int 0])), (sj, .inr (0, [.int 0, .ref E, .int 0])), (sc, .inr (0, [.int 0, .ref E, .int 0])), (sa, .inr (1, [.ref i1, .ref i2, .ref i3])), (i1, .inl (cI, 9, .inl (fun _ => 0))), (i2, .inl (cI, 9, .inl (fun _ => 0))), (i3, .inl (cI, 9, .inl (fun _ => 0))), (tsh, .inr (6, [.ref tsp, .ref tsj, .ref tsc, .ref tsa, .int 0, .int 3000, .int 0, .int 0, .int 0, .int 0, .int 0, .int 0, .int 0, .int 0, .int 0])), (tsp, .inr (0, [.int 0, .ref E, .int 0])), (tsj, .inr (0, [.int 0, .ref E, .int 0])), (tsc, .inr (0, [.int 0, .ref E, .int 0])), (tsa, .inr (1, [.ref ti1, .ref ti2, .ref ti3])), (ti1, .inl (cI, 9, .inl (fun _ => 0))), (ti2, .inl (cI, 9, .inl (fun _ => 0))), (ti3, .inl (cI, 9, .inl (fun _ => 0))), (o, .inr (13, [.int 0, .ref zb, .ref fg])), (zb, .inr (9, [.int 0, .int 3000, .int 0, .int 0, .int 0, .ref zbp, .ref zbj, .ref zbc, .ref zba, .int 0, .int 0, .int 0, .int 0, .int 0, .int 0])), (zbp, .inr (0, [.int 0, .ref E, .int 0])), (zbj, .inr (0, [.int 0, .ref E, .int 0])), (zbc, .inr (0, [.int 0, .ref E, .int 0])), (zba, .inr (0, [.int 0, .ref E, .int 0])), (fg, .inr (0, [.int 0, .ref E, .int 0])), (out, .inl (cL, 1, .inr (.inl (fun _ => 0))))] H) (hD : va_D A [(h, .inr (8, [.ref f, .ref sh, .ref tsh])), (f, .inr (0, [.int 0, .ref E, .int 0])), (sh, .inr (6, [.ref sp, .ref sj, .ref sc, .ref sa, .int 0, .int 3000, .int 0, .int 0, .int 0, .int 0, .int 0, .int 0, .int 0, .int 0, .int 0])), (sp, .inr (0, [.int 0, .ref E, .int 0])), (sj, .inr (0, [.int 0, .ref E, .int 0])), (sc, .inr (0, [.int 0, .ref E, .int 0])), (sa, .inr (1, [.ref i1, .ref i2, .ref i3])), (i1, .inl (cI, 9, .inl (fun _ => 0))), (i2, .inl (cI, 9, .inl (fun _ => 0))), (i3, .inl (cI, 9, .inl (fun _ => 0))), (tsh, .inr (6, [.ref tsp, .ref tsj, .ref tsc, .ref tsa, .int 0, .int 3000, .int 0, .int 0, .int 0, .int 0, .int 0, .int 0, .int 0, .int 0, .int 0])), (tsp, .inr (0, [.int 0, .ref E, .int 0])), (tsj, .inr (0, [.int 0, .ref E, .int 0])), (tsc, .inr (0, [.int 0, .ref E, .int 0])), (tsa, .inr (1, [.ref ti1, .ref ti2, .ref ti3])), (ti1, .inl (cI, 9, .inl (fun _ => 0))), (ti2, .inl (cI, 9, .inl (fun _ => 0))), (ti3, .inl (cI, 9, .inl (fun _ => 0))), (o, .inr (13, [.int 0, .ref zb, .ref fg])), (zb, .inr (9, [.int 0, .int 3000, .int 0, .int 0, .int 0, .ref zbp, .ref zbj, .ref zbc, .ref zba, .int 0, .int 0, .int 0, .int 0, .int 0, .int 0])), (zbp, .inr (0, [.int 0, .ref E, .int 0])), (zbj, .inr (0, [.int 0, .ref E, .int 0])), (zbc, .inr (0, [.int 0, .ref E, .int 0])), (zba, .inr (0, [.int 0, .ref E, .int 0])), (fg, .inr (0, [.int 0, .ref E, .int 0])), (out, .inl (cL, 1, .inr (.inl (fun _ => 0))))]) (hS : va_S A s.heap H locs) (hl : lv_has ls 9 [(4, .int 0), (3, .ref out), (2, .ref o), (1, .ref h), (0, .ref b)]) : W p l e room_1 s m #[Value.ref b] below meth c H locs 26 148 (lw_Z below #[Value.ref b] s) (F0 m 1676 ls []) := by
  obtain ⟨hx, hb, hr, hml, hown, hts, hX, hbl, hlocks, hl9, hE, hA, hA2⟩ := id C
  have hbA : ¬ A b := fun h => absurd (hA2 b h) (Nat.not_le.mpr hbl)
  refine lv_aload_n hx hb dL_law_1676 rfl (lv_at hl 3 rfl) ?_
  refine lv_aload_n hx hb dL_law_1677 rfl (lv_at hl 4 rfl) ?_
  refine lv_iload hx hb dL_law_1678 (lv_at hl 0 rfl) ?_
  refine lv_iconst (v := 1) hx hb dL_law_1680 (by decide) ?_
  refine f_iadd (v := 1) hx hb dL_law_1681 (by decide) ?_
  refine va_sld hx hb hX hbl hbA hS (by unfold vp_in; decide) dL_law_1682 ?_
  refine f_topi (v := nI N) (f_xs hs1) ?_
  refine lv_aload_n hx hb dL_law_1683 rfl (lv_at hl 4 rfl) ?_
  refine lv_iload hx hb dL_law_1684 (lv_at hl 0 rfl) ?_
  refine lv_iconst (v := 2) hx hb dL_law_1686 (by decide) ?_
  refine f_iadd (v := 2) hx hb dL_law_1687 (by decide) ?_
  refine va_sld hx hb hX hbl hbA hS (by unfold vp_in; decide) dL_law_1688 ?_
  refine f_topi (v := 1) (f_xs hs2) ?_
  refine lv_aload_n hx hb dL_law_1689 rfl (lv_at hl 1 rfl) ?_
  refine f_aft_i (wr := [(o, .inr (13, [.int 0, .ref zb, .ref fg])), (zb, .inr (9, [.int 0, .int 3000, .int 0, .int 0, .int 0, .ref zbp, .ref zbj, .ref zbc, .ref zba, .int 0, .int 0, .int 0, .int 0, .int 0, .int 0])), (zbp, .inr (0, [.int 0, .ref E, .int 0])), (zbj, .inr (0, [.int 0, .ref E, .int 0])), (zbc, .inr (0, [.int 0, .ref E, .int 0])), (zba, .inr (0, [.int 0, .ref E, .int 0])), (fg, .inr (0, [.int 0, .ref E, .int 0]))]) (f_runSW (As := [.ref h, .int (nI N), .int 1, .ref out]) (rest := []) hx hb hml hown hts (kL_would_1 l D cI cO cL E M h f sh sp sj sc sa i1 i2 i3 tsh tsp tsj tsc tsa ti1 ti2 ti3 out N g1 g2 H.size) (fcwSW 4 hts q1079 q1080 q80 q1081 rfl rfl (by decide +kernel) ⟨(Nat.le_of_ble_eq_true rfl), (Nat.le_of_ble_eq_true rfl)⟩) hE hP hD hS hA [0, 1, 2, 3, 4, 5, 6, 7, 8, 9, 10, 11, 12, 13, 14, 15, 16, 17, 25] rfl (by decide) rfl hl.1 rfl (Nat.le_of_ble_eq_true rfl) dL_law_1690 ⟨(Nat.le_of_ble_eq_true rfl), (Nat.le_of_ble_eq_true rfl)⟩) hP hD hS hA [0, 1, 2, 3, 4, 5, 6, 7, 8, 9, 10, 11, 12, 13, 14, 15, 16, 17, 25] [18, 19, 20, 21, 22, 23, 24] rfl rfl (by decide) (by decide) (fun r u H locs hr0 hP hD hS => ?_)
  subst hr0
  have hP : va_P D vwCl [(o, .inr (13, [.int 0, .ref zb, .ref fg])), (zb, .inr (9, [.int 0, .int 3000, .int 0, .int 0, .int 0, .ref zbp, .ref zbj, .ref zbc, .ref zba, .int 0, .int 0, .int 0, .int 0, .int 0, .int 0])), (zbp, .inr (0, [.int 0, .ref E, .int 0])), (zbj, .inr (0, [.int 0, .ref E, .int 0])), (zbc, .inr (0, [.int 0, .ref E, .int 0])), (zba, .inr (0, [.int 0, .ref E, .int 0])), (fg, .inr (0, [.int 0, .ref E, .int 0])), (out, .inl (cL, 1, .inr (.inl (vp_updL (fun _ => 0) 0 3000))))] H := hP
  have hD : va_D A [(o, .inr (13, [.int 0, .ref zb, .ref fg])), (zb, .inr (9, [.int 0, .int 3000, .int 0, .int 0, .int 0, .ref zbp, .ref zbj, .ref zbc, .ref zba, .int 0, .int 0, .int 0, .int 0, .int 0, .int 0])), (zbp, .inr (0, [.int 0, .ref E, .int 0])), (zbj, .inr (0, [.int 0, .ref E, .int 0])), (zbc, .inr (0, [.int 0, .ref E, .int 0])), (zba, .inr (0, [.int 0, .ref E, .int 0])), (fg, .inr (0, [.int 0, .ref E, .int 0])), (out, .inl (cL, 1, .inr (.inl (vp_updL (fun _ => 0) 0 3000))))] := hD
  refine lv_istore (lv' := [(5, .int 0), (4, .int 0), (3, .ref out), (2, .ref o), (1, .ref h), (0, .ref b)]) hx hb dL_law_1693 hl (by decide) rfl (fun ls hl => ?_)
  refine lv_aload_n hx hb dL_law_1695 rfl (lv_at hl 3 rfl) ?_
  refine lv_aload_n hx hb dL_law_1696 rfl (lv_at hl 5 rfl) ?_
  refine lv_iload hx hb dL_law_1697 (lv_at hl 1 rfl) ?_
  refine lv_iconst (v := 1) hx hb dL_law_1699 (by decide) ?_
  refine f_iadd (v := 1) hx hb dL_law_1700 (by decide) ?_
  refine va_sld hx hb hX hbl hbA hS (by unfold vp_in; decide) dL_law_1701 ?_
  refine f_topi (v := nI N) (f_xs hs1) ?_
  refine lv_aload_n hx hb dL_law_1702 rfl (lv_at hl 5 rfl) ?_
  refine lv_iload hx hb dL_law_1703 (lv_at hl 1 rfl) ?_
  refine lv_iconst (v := 2) hx hb dL_law_1705 (by decide) ?_
  refine f_iadd (v := 2) hx hb dL_law_1706 (by decide) ?_
  refine va_sld hx hb hX hbl hbA hS (by unfold vp_in; decide) dL_law_1707 ?_
  refine f_topi (v := 1) (f_xs hs2) ?_
  refine f_aft_i (wr := [(out, .inl (cL, 1, .inr (.inl (vp_updL (fun _ => 0) 0 3000))))]) (f_runV (As := [.int (nI N), .int 1]) (rest := []) hx hb hml hown hts (kX12_would_1 l D cI cO cL E M o zb zbp zbj zbc zba fg N g1 g2 H.size) (fcwV 2 hts q1086 q1087 q1088 q5 q1089 rfl rfl (by decide +kernel) ⟨(Nat.le_of_ble_eq_true rfl), (Nat.le_of_ble_eq_true rfl)⟩) hE hP hD hS hA [0, 1, 2, 3, 4, 5, 6] rfl (by decide) (q0 := 0) (ci := 13) rfl rfl rfl rfl hl.1 rfl (Nat.le_of_ble_eq_true rfl) dL_law_1708 ⟨(Nat.le_of_ble_eq_true rfl), (Nat.le_of_ble_eq_true rfl)⟩) hP hD hS hA [0, 1, 2, 3, 4, 5, 6] [7] rfl rfl (by decide) (by decide) (fun r u H locs hr0 hP hD hS => ?_)
  subst hr0
  have hP : va_P D vwCl [(out, .inl (cL, 1, .inr (.inl (vp_updL (fun _ => 0) 0 3000)))), (o, .inr (13, [.int 0, .ref zb, .ref fg]))] H := hP
  have hD : va_D A [(out, .inl (cL, 1, .inr (.inl (vp_updL (fun _ => 0) 0 3000)))), (o, .inr (13, [.int 0, .ref zb, .ref fg]))] := hD
  refine lv_istore (lv' := [(6, .int 3000), (5, .int 0), (4, .int 0), (3, .ref out), (2, .ref o), (1, .ref h), (0, .ref b)]) hx hb dL_law_1711 hl (by decide) rfl (fun ls hl => ?_)
  refine lv_aload_n hx hb dL_law_1713 rfl (lv_at hl 4 rfl) ?_
  refine f_aft_i (wr := [(out, .inl (cL, 1, .inr (.inl (vp_updL (fun _ => 0) 0 3000))))]) (f_runV (As := []) (rest := []) hx hb hml hown hts (kX12_thrown l D cI cO cL E M o zb fg 0 H.size) (fcwV 0 hts q186 q187 q188 q5 q189 rfl rfl (by decide +kernel) ⟨(Nat.le_of_ble_eq_true rfl), (Nat.le_of_ble_eq_true rfl)⟩) hE hP hD hS hA [1] rfl (by decide) (q0 := 1) (ci := 13) rfl rfl rfl rfl hl.1 rfl (Nat.le_of_ble_eq_true rfl) dL_law_1714 ⟨(Nat.le_of_ble_eq_true rfl), (Nat.le_of_ble_eq_true rfl)⟩) hP hD hS hA [1] [0] rfl rfl (by decide) (by decide) (fun r u H locs hr0 hP hD hS => ?_)
  subst hr0
  have hP : va_P D vwCl [(out, .inl (cL, 1, .inr (.inl (vp_updL (fun _ => 0) 0 3000)))), (o, .inr (13, [.int 0, .ref zb, .ref fg]))] H := hP
  have hD : va_D A [(out, .inl (cL, 1, .inr (.inl (vp_updL (fun _ => 0) 0 3000)))), (o, .inr (13, [.int 0, .ref zb, .ref fg]))] := hD
  refine lv_iload hx hb dL_law_1717 (lv_at hl 1 rfl) ?_
  refine lv_icmp_eq (tgt := 1724) hx hb dL_law_1719 (by decide) (fun _ => ?_) (fun h => absurd (by decide) h)
  refine lv_iload hx hb dL_law_1724 (lv_at hl 1 rfl) ?_
  refine lv_if_ne (tgt := 1741) hx hb dL_law_1726 (by decide) (fun h => absurd h (by decide)) (fun _ => ?_)
  refine lv_aload_n hx hb dL_law_1729 rfl (lv_at hl 3 rfl) ?_
  refine lv_iconst (v := 0) hx hb dL_law_1730 (by decide) ?_
  refine va_lald hx hb hE.1.1 hP 0 2 rfl rfl (by unfold vp_in; decide) dL_law_1731 ?_
  refine f_topl (v := 3000) (rfl) ?_
  refine lv_iload hx hb dL_law_1732 (lv_at hl 0 rfl) ?_
  refine lv_i2l (v := 3000) hx hb dL_law_1734 (by decide) ?_
  refine W.lcmp hx hb dL_law_1735 ?_
  refine f_topi (v := 0) (f_cmp0 _) ?_
  refine lv_if_eq (tgt := 1741) hx hb dL_law_1736 (by decide) (fun _ => ?_) (fun h => absurd (by decide) h)
  refine lv_goto (tgt := 1758) hx hb dL_law_1741 (by decide) ?_
  refine W.widen (k := 3000) (n := 30000) (Nat.le_of_ble_eq_true rfl) (Nat.le_of_ble_eq_true rfl) ?_
  exact law_end C hS (lv_sub hl [2, 6] rfl)
set_option maxHeartbeats 4000000 in
set_option maxRecDepth 100000 in
theorem law_would_a {p : Program} {l : Launch} {e : Env} {s : State} {m : MethodId} {below : List Frame} {meth : Method} {c : Code} {b : Nat} {xs : Nat → Int32} {D : va_G} {cI cO cL : ClassId} {E M : Nat} {A : Nat → Prop} (C : fLC p l s m meth c b xs D cI cO cL E M A) {h f sh sp sj sc sa i1 i2 i3 tsh tsp tsj tsc tsa ti1 ti2 ti3 o zb zbp zbj zbc zba fg out : Nat} (p0 : Int32) (p1 : Int32) (hs1 : (1 : Int32).toNatClampNeg = 1 ∧ xs 1 = p0) (hs2 : (2 : Int32).toNatClampNeg = 2 ∧ xs 2 = p1) (h1 : p0 < 1) {H : Heap} {locs : List Loc} {ls : Array Slot} (hP : va_P D vwCl [(h, .inr (8, [.ref f, .ref sh, .ref tsh])), (f, .inr (0, [.int 0, .ref E, .int 0])), (sh, .inr (6, [.ref sp, .ref sj, .ref sc, .ref sa, .int 0, .int 3000, .int 0, .int 0, .int 0, .int 0, .int 0, .int 0, .int 0, .int 0, .int 0])), (sp, .inr (0, [.int 0, .ref E, .int 0])), (sj, .inr (0, [.int 0, .ref E, .int 0])), (sc, .inr (0, [.int 0, .ref E, .int 0])), (sa, .inr (1, [.ref i1, .ref i2, .ref i3])), (i1, .inl (cI, 9, .inl (fun _ => 0))), (i2, .inl (cI, 9, .inl (fun _ => 0))), (i3, .inl (cI, 9, .inl (fun _ => 0))), (tsh, .inr (6, [.ref tsp, .ref tsj, .ref tsc, .ref tsa, .int 0, .int 3000, .int 0, .int 0, .int 0, .int 0, .int 0, .int 0, .int 0, .int 0, .int 0])), (tsp, .inr (0, [.int 0, .ref E, .int 0])), (tsj, .inr (0, [.int 0, .ref E, .int 0])), (tsc, .inr (0, [.int 0, .ref E, .int 0])), (tsa, .inr (1, [.ref ti1, .ref ti2, .ref ti3])), (ti1, .inl (cI, 9, .inl (fun _ => 0))), (ti2, .inl (cI, 9, .inl (fun _ => 0))), (ti3, .inl (cI, 9, .inl (fun _ => 0))), (o, .inr (13, [.int 0, .ref zb, .ref fg])), (zb, .inr (9, [.int 0, .int 3000, .int 0, .int 0, .int 0, .ref zbp, .ref zbj, .ref zbc, .ref zba, .int 0, .int 0, .int 0, .int 0, .int 0, .int 0])), (zbp, .inr (0, [.int 0, .ref E, .int 0])), (zbj, .inr (0, [.int 0, .ref E, .int 0])), (zbc, .inr (0, [.int 0, .ref E, .int 0])), (zba, .inr (0, [.int 0, .ref E, .int 0])), (fg, .inr (0, [.int 0, .ref E, .int 0])), (out, .inl (cL, 1, .inr (.inl (fun _ => 0))))] H) (hD : va_D A [(h, .inr (8, [.ref f, .ref sh, .ref tsh])), (f, .inr (0, [.int 0, .ref E, .int 0])), (sh, .inr (6, [.ref sp, .ref sj, .ref sc, .ref sa, .int 0, .int 3000, .int 0, .int 0, .int 0, .int 0, .int 0, .int 0, .int 0, .int 0, .int 0])), (sp, .inr (0, [.int 0, .ref E, .int 0])), (sj, .inr (0, [.int 0, .ref E, .int 0])), (sc, .inr (0, [.int 0, .ref E, .int 0])), (sa, .inr (1, [.ref i1, .ref i2, .ref i3])), (i1, .inl (cI, 9, .inl (fun _ => 0))), (i2, .inl (cI, 9, .inl (fun _ => 0))), (i3, .inl (cI, 9, .inl (fun _ => 0))), (tsh, .inr (6, [.ref tsp, .ref tsj, .ref tsc, .ref tsa, .int 0, .int 3000, .int 0, .int 0, .int 0, .int 0, .int 0, .int 0, .int 0, .int 0, .int 0])), (tsp, .inr (0, [.int 0, .ref E, .int 0])), (tsj, .inr (0, [.int 0, .ref E, .int 0])), (tsc, .inr (0, [.int 0, .ref E, .int 0])), (tsa, .inr (1, [.ref ti1, .ref ti2, .ref ti3])), (ti1, .inl (cI, 9, .inl (fun _ => 0))), (ti2, .inl (cI, 9, .inl (fun _ => 0))), (ti3, .inl (cI, 9, .inl (fun _ => 0))), (o, .inr (13, [.int 0, .ref zb, .ref fg])), (zb, .inr (9, [.int 0, .int 3000, .int 0, .int 0, .int 0, .ref zbp, .ref zbj, .ref zbc, .ref zba, .int 0, .int 0, .int 0, .int 0, .int 0, .int 0])), (zbp, .inr (0, [.int 0, .ref E, .int 0])), (zbj, .inr (0, [.int 0, .ref E, .int 0])), (zbc, .inr (0, [.int 0, .ref E, .int 0])), (zba, .inr (0, [.int 0, .ref E, .int 0])), (fg, .inr (0, [.int 0, .ref E, .int 0])), (out, .inl (cL, 1, .inr (.inl (fun _ => 0))))]) (hS : va_S A s.heap H locs) (hl : lv_has ls 9 [(4, .int 0), (3, .ref out), (2, .ref o), (1, .ref h), (0, .ref b)]) : W p l e room_1 s m #[Value.ref b] below meth c H locs 26 148 (lw_Z below #[Value.ref b] s) (F0 m 1676 ls []) := by
  obtain ⟨hx, hb, hr, hml, hown, hts, hX, hbl, hlocks, hl9, hE, hA, hA2⟩ := id C
  have hbA : ¬ A b := fun h => absurd (hA2 b h) (Nat.not_le.mpr hbl)
  refine lv_aload_n hx hb dL_law_1676 rfl (lv_at hl 3 rfl) ?_
  refine lv_aload_n hx hb dL_law_1677 rfl (lv_at hl 4 rfl) ?_
  refine lv_iload hx hb dL_law_1678 (lv_at hl 0 rfl) ?_
  refine lv_iconst (v := 1) hx hb dL_law_1680 (by decide) ?_
  refine f_iadd (v := 1) hx hb dL_law_1681 (by decide) ?_
  refine va_sld hx hb hX hbl hbA hS (by unfold vp_in; decide) dL_law_1682 ?_
  refine f_topi (v := p0) (f_xs hs1) ?_
  refine lv_aload_n hx hb dL_law_1683 rfl (lv_at hl 4 rfl) ?_
  refine lv_iload hx hb dL_law_1684 (lv_at hl 0 rfl) ?_
  refine lv_iconst (v := 2) hx hb dL_law_1686 (by decide) ?_
  refine f_iadd (v := 2) hx hb dL_law_1687 (by decide) ?_
  refine va_sld hx hb hX hbl hbA hS (by unfold vp_in; decide) dL_law_1688 ?_
  refine f_topi (v := p1) (f_xs hs2) ?_
  refine lv_aload_n hx hb dL_law_1689 rfl (lv_at hl 1 rfl) ?_
  refine f_aft_i (wr := [(o, .inr (13, [.int 0, .ref zb, .ref fg])), (zb, .inr (9, [.int 0, .int 3000, .int 0, .int 0, .int 0, .ref zbp, .ref zbj, .ref zbc, .ref zba, .int 0, .int 0, .int 0, .int 0, .int 0, .int 0])), (zbp, .inr (0, [.int 0, .ref E, .int 0])), (zbj, .inr (0, [.int 0, .ref E, .int 0])), (zbc, .inr (0, [.int 0, .ref E, .int 0])), (zba, .inr (0, [.int 0, .ref E, .int 0])), (fg, .inr (0, [.int 0, .ref E, .int 0]))]) (f_runSW (As := [.ref h, .int p0, .int p1, .ref out]) (rest := []) hx hb hml hown hts (kL_would_a l hl9 D cI cO cL E M h f sh sp sj sc sa i1 i2 i3 tsh tsp tsj tsc tsa ti1 ti2 ti3 out p0 p1 h1 H.size) (fcwSW 4 hts q1079 q1080 q80 q1081 rfl rfl (by decide +kernel) ⟨(Nat.le_of_ble_eq_true rfl), (Nat.le_of_ble_eq_true rfl)⟩) hE hP hD hS hA [0, 1, 2, 3, 4, 5, 6, 7, 8, 9, 10, 11, 12, 13, 14, 15, 16, 17, 25] rfl (by decide) rfl hl.1 rfl (Nat.le_of_ble_eq_true rfl) dL_law_1690 ⟨(Nat.le_of_ble_eq_true rfl), (Nat.le_of_ble_eq_true rfl)⟩) hP hD hS hA [0, 1, 2, 3, 4, 5, 6, 7, 8, 9, 10, 11, 12, 13, 14, 15, 16, 17, 25] [18, 19, 20, 21, 22, 23, 24] rfl rfl (by decide) (by decide) (fun r u H locs hr0 hP hD hS => ?_)
  subst hr0
  have hP : va_P D vwCl [(o, .inr (13, [.int 0, .ref zb, .ref fg])), (zb, .inr (9, [.int 0, .int 3000, .int 0, .int 0, .int 0, .ref zbp, .ref zbj, .ref zbc, .ref zba, .int 0, .int 0, .int 0, .int 0, .int 0, .int 0])), (zbp, .inr (0, [.int 0, .ref E, .int 0])), (zbj, .inr (0, [.int 0, .ref E, .int 0])), (zbc, .inr (0, [.int 0, .ref E, .int 0])), (zba, .inr (0, [.int 0, .ref E, .int 0])), (fg, .inr (0, [.int 0, .ref E, .int 0]))] H := hP
  have hD : va_D A [(o, .inr (13, [.int 0, .ref zb, .ref fg])), (zb, .inr (9, [.int 0, .int 3000, .int 0, .int 0, .int 0, .ref zbp, .ref zbj, .ref zbc, .ref zba, .int 0, .int 0, .int 0, .int 0, .int 0, .int 0])), (zbp, .inr (0, [.int 0, .ref E, .int 0])), (zbj, .inr (0, [.int 0, .ref E, .int 0])), (zbc, .inr (0, [.int 0, .ref E, .int 0])), (zba, .inr (0, [.int 0, .ref E, .int 0])), (fg, .inr (0, [.int 0, .ref E, .int 0]))] := hD
  refine lv_istore (lv' := [(5, .int 1), (4, .int 0), (3, .ref out), (2, .ref o), (1, .ref h), (0, .ref b)]) hx hb dL_law_1693 hl (by decide) rfl (fun ls hl => ?_)
  refine lv_aload_n hx hb dL_law_1695 rfl (lv_at hl 3 rfl) ?_
  refine lv_aload_n hx hb dL_law_1696 rfl (lv_at hl 5 rfl) ?_
  refine lv_iload hx hb dL_law_1697 (lv_at hl 1 rfl) ?_
  refine lv_iconst (v := 1) hx hb dL_law_1699 (by decide) ?_
  refine f_iadd (v := 1) hx hb dL_law_1700 (by decide) ?_
  refine va_sld hx hb hX hbl hbA hS (by unfold vp_in; decide) dL_law_1701 ?_
  refine f_topi (v := p0) (f_xs hs1) ?_
  refine lv_aload_n hx hb dL_law_1702 rfl (lv_at hl 5 rfl) ?_
  refine lv_iload hx hb dL_law_1703 (lv_at hl 1 rfl) ?_
  refine lv_iconst (v := 2) hx hb dL_law_1705 (by decide) ?_
  refine f_iadd (v := 2) hx hb dL_law_1706 (by decide) ?_
  refine va_sld hx hb hX hbl hbA hS (by unfold vp_in; decide) dL_law_1707 ?_
  refine f_topi (v := p1) (f_xs hs2) ?_
  refine f_aft_i (wr := []) (f_runV (As := [.int p0, .int p1]) (rest := []) hx hb hml hown hts (kX12_would_a l D cI cO cL E M o zb zbp zbj zbc zba fg p0 p1 h1 H.size) (fcwV 2 hts q1086 q1087 q1088 q5 q1089 rfl rfl (by decide +kernel) ⟨(Nat.le_of_ble_eq_true rfl), (Nat.le_of_ble_eq_true rfl)⟩) hE hP hD hS hA [0, 1, 2, 3, 4, 5, 6] rfl (by decide) (q0 := 0) (ci := 13) rfl rfl rfl rfl hl.1 rfl (Nat.le_of_ble_eq_true rfl) dL_law_1708 ⟨(Nat.le_of_ble_eq_true rfl), (Nat.le_of_ble_eq_true rfl)⟩) hP hD hS hA [0, 1, 2, 3, 4, 5, 6] [] rfl rfl (by decide) (by decide) (fun r u H locs hr0 hP hD hS => ?_)
  subst hr0
  have hP : va_P D vwCl [(o, .inr (13, [.int 1, .ref zb, .ref fg]))] H := hP
  have hD : va_D A [(o, .inr (13, [.int 1, .ref zb, .ref fg]))] := hD
  refine lv_istore (lv' := [(6, .int 0), (5, .int 1), (4, .int 0), (3, .ref out), (2, .ref o), (1, .ref h), (0, .ref b)]) hx hb dL_law_1711 hl (by decide) rfl (fun ls hl => ?_)
  refine lv_aload_n hx hb dL_law_1713 rfl (lv_at hl 4 rfl) ?_
  refine f_aft_i (wr := []) (f_runV (As := []) (rest := []) hx hb hml hown hts (kX12_thrown l D cI cO cL E M o zb fg 1 H.size) (fcwV 0 hts q186 q187 q188 q5 q189 rfl rfl (by decide +kernel) ⟨(Nat.le_of_ble_eq_true rfl), (Nat.le_of_ble_eq_true rfl)⟩) hE hP hD hS hA [0] rfl (by decide) (q0 := 0) (ci := 13) rfl rfl rfl rfl hl.1 rfl (Nat.le_of_ble_eq_true rfl) dL_law_1714 ⟨(Nat.le_of_ble_eq_true rfl), (Nat.le_of_ble_eq_true rfl)⟩) hP hD hS hA [0] [] rfl rfl (by decide) (by decide) (fun r u H locs hr0 hP hD hS => ?_)
  subst hr0
  have hP : va_P D vwCl [(o, .inr (13, [.int 1, .ref zb, .ref fg]))] H := hP
  have hD : va_D A [(o, .inr (13, [.int 1, .ref zb, .ref fg]))] := hD
  refine lv_iload hx hb dL_law_1717 (lv_at hl 1 rfl) ?_
  refine lv_icmp_eq (tgt := 1724) hx hb dL_law_1719 (by decide) (fun _ => ?_) (fun h => absurd (by decide) h)
  refine lv_iload hx hb dL_law_1724 (lv_at hl 1 rfl) ?_
  refine lv_if_ne (tgt := 1741) hx hb dL_law_1726 (by decide) (fun _ => ?_) (fun h => absurd h (by decide))
  refine lv_goto (tgt := 1758) hx hb dL_law_1741 (by decide) ?_
  refine W.widen (k := 3000) (n := 30000) (Nat.le_of_ble_eq_true rfl) (Nat.le_of_ble_eq_true rfl) ?_
  exact law_end C hS (lv_sub hl [2, 6] rfl)
set_option maxHeartbeats 4000000 in
set_option maxRecDepth 100000 in
theorem law_would_b {p : Program} {l : Launch} {e : Env} {s : State} {m : MethodId} {below : List Frame} {meth : Method} {c : Code} {b : Nat} {xs : Nat → Int32} {D : va_G} {cI cO cL : ClassId} {E M : Nat} {A : Nat → Prop} (C : fLC p l s m meth c b xs D cI cO cL E M A) {h f sh sp sj sc sa i1 i2 i3 tsh tsp tsj tsc tsa ti1 ti2 ti3 o zb zbp zbj zbc zba fg out : Nat} (p0 : Int32) (p1 : Int32) (hs1 : (1 : Int32).toNatClampNeg = 1 ∧ xs 1 = p0) (hs2 : (2 : Int32).toNatClampNeg = 2 ∧ xs 2 = p1) (h1 : ¬ p0 < 1) (h2 : 60 < p0) {H : Heap} {locs : List Loc} {ls : Array Slot} (hP : va_P D vwCl [(h, .inr (8, [.ref f, .ref sh, .ref tsh])), (f, .inr (0, [.int 0, .ref E, .int 0])), (sh, .inr (6, [.ref sp, .ref sj, .ref sc, .ref sa, .int 0, .int 3000, .int 0, .int 0, .int 0, .int 0, .int 0, .int 0, .int 0, .int 0, .int 0])), (sp, .inr (0, [.int 0, .ref E, .int 0])), (sj, .inr (0, [.int 0, .ref E, .int 0])), (sc, .inr (0, [.int 0, .ref E, .int 0])), (sa, .inr (1, [.ref i1, .ref i2, .ref i3])), (i1, .inl (cI, 9, .inl (fun _ => 0))), (i2, .inl (cI, 9, .inl (fun _ => 0))), (i3, .inl (cI, 9, .inl (fun _ => 0))), (tsh, .inr (6, [.ref tsp, .ref tsj, .ref tsc, .ref tsa, .int 0, .int 3000, .int 0, .int 0, .int 0, .int 0, .int 0, .int 0, .int 0, .int 0, .int 0])), (tsp, .inr (0, [.int 0, .ref E, .int 0])), (tsj, .inr (0, [.int 0, .ref E, .int 0])), (tsc, .inr (0, [.int 0, .ref E, .int 0])), (tsa, .inr (1, [.ref ti1, .ref ti2, .ref ti3])), (ti1, .inl (cI, 9, .inl (fun _ => 0))), (ti2, .inl (cI, 9, .inl (fun _ => 0))), (ti3, .inl (cI, 9, .inl (fun _ => 0))), (o, .inr (13, [.int 0, .ref zb, .ref fg])), (zb, .inr (9, [.int 0, .int 3000, .int 0, .int 0, .int 0, .ref zbp, .ref zbj, .ref zbc, .ref zba, .int 0, .int 0, .int 0, .int 0, .int 0, .int 0])), (zbp, .inr (0, [.int 0, .ref E, .int 0])), (zbj, .inr (0, [.int 0, .ref E, .int 0])), (zbc, .inr (0, [.int 0, .ref E, .int 0])), (zba, .inr (0, [.int 0, .ref E, .int 0])), (fg, .inr (0, [.int 0, .ref E, .int 0])), (out, .inl (cL, 1, .inr (.inl (fun _ => 0))))] H) (hD : va_D A [(h, .inr (8, [.ref f, .ref sh, .ref tsh])), (f, .inr (0, [.int 0, .ref E, .int 0])), (sh, .inr (6, [.ref sp, .ref sj, .ref sc, .ref sa, .int 0, .int 3000, .int 0, .int 0, .int 0, .int 0, .int 0, .int 0, .int 0, .int 0, .int 0])), (sp, .inr (0, [.int 0, .ref E, .int 0])), (sj, .inr (0, [.int 0, .ref E, .int 0])), (sc, .inr (0, [.int 0, .ref E, .int 0])), (sa, .inr (1, [.ref i1, .ref i2, .ref i3])), (i1, .inl (cI, 9, .inl (fun _ => 0))), (i2, .inl (cI, 9, .inl (fun _ => 0))), (i3, .inl (cI, 9, .inl (fun _ => 0))), (tsh, .inr (6, [.ref tsp, .ref tsj, .ref tsc, .ref tsa, .int 0, .int 3000, .int 0, .int 0, .int 0, .int 0, .int 0, .int 0, .int 0, .int 0, .int 0])), (tsp, .inr (0, [.int 0, .ref E, .int 0])), (tsj, .inr (0, [.int 0, .ref E, .int 0])), (tsc, .inr (0, [.int 0, .ref E, .int 0])), (tsa, .inr (1, [.ref ti1, .ref ti2, .ref ti3])), (ti1, .inl (cI, 9, .inl (fun _ => 0))), (ti2, .inl (cI, 9, .inl (fun _ => 0))), (ti3, .inl (cI, 9, .inl (fun _ => 0))), (o, .inr (13, [.int 0, .ref zb, .ref fg])), (zb, .inr (9, [.int 0, .int 3000, .int 0, .int 0, .int 0, .ref zbp, .ref zbj, .ref zbc, .ref zba, .int 0, .int 0, .int 0, .int 0, .int 0, .int 0])), (zbp, .inr (0, [.int 0, .ref E, .int 0])), (zbj, .inr (0, [.int 0, .ref E, .int 0])), (zbc, .inr (0, [.int 0, .ref E, .int 0])), (zba, .inr (0, [.int 0, .ref E, .int 0])), (fg, .inr (0, [.int 0, .ref E, .int 0])), (out, .inl (cL, 1, .inr (.inl (fun _ => 0))))]) (hS : va_S A s.heap H locs) (hl : lv_has ls 9 [(4, .int 0), (3, .ref out), (2, .ref o), (1, .ref h), (0, .ref b)]) : W p l e room_1 s m #[Value.ref b] below meth c H locs 26 148 (lw_Z below #[Value.ref b] s) (F0 m 1676 ls []) := by
  obtain ⟨hx, hb, hr, hml, hown, hts, hX, hbl, hlocks, hl9, hE, hA, hA2⟩ := id C
  have hbA : ¬ A b := fun h => absurd (hA2 b h) (Nat.not_le.mpr hbl)
  refine lv_aload_n hx hb dL_law_1676 rfl (lv_at hl 3 rfl) ?_
  refine lv_aload_n hx hb dL_law_1677 rfl (lv_at hl 4 rfl) ?_
  refine lv_iload hx hb dL_law_1678 (lv_at hl 0 rfl) ?_
  refine lv_iconst (v := 1) hx hb dL_law_1680 (by decide) ?_
  refine f_iadd (v := 1) hx hb dL_law_1681 (by decide) ?_
  refine va_sld hx hb hX hbl hbA hS (by unfold vp_in; decide) dL_law_1682 ?_
  refine f_topi (v := p0) (f_xs hs1) ?_
  refine lv_aload_n hx hb dL_law_1683 rfl (lv_at hl 4 rfl) ?_
  refine lv_iload hx hb dL_law_1684 (lv_at hl 0 rfl) ?_
  refine lv_iconst (v := 2) hx hb dL_law_1686 (by decide) ?_
  refine f_iadd (v := 2) hx hb dL_law_1687 (by decide) ?_
  refine va_sld hx hb hX hbl hbA hS (by unfold vp_in; decide) dL_law_1688 ?_
  refine f_topi (v := p1) (f_xs hs2) ?_
  refine lv_aload_n hx hb dL_law_1689 rfl (lv_at hl 1 rfl) ?_
  refine f_aft_i (wr := [(o, .inr (13, [.int 0, .ref zb, .ref fg])), (zb, .inr (9, [.int 0, .int 3000, .int 0, .int 0, .int 0, .ref zbp, .ref zbj, .ref zbc, .ref zba, .int 0, .int 0, .int 0, .int 0, .int 0, .int 0])), (zbp, .inr (0, [.int 0, .ref E, .int 0])), (zbj, .inr (0, [.int 0, .ref E, .int 0])), (zbc, .inr (0, [.int 0, .ref E, .int 0])), (zba, .inr (0, [.int 0, .ref E, .int 0])), (fg, .inr (0, [.int 0, .ref E, .int 0]))]) (f_runSW (As := [.ref h, .int p0, .int p1, .ref out]) (rest := []) hx hb hml hown hts (kL_would_b l hl9 D cI cO cL E M h f sh sp sj sc sa i1 i2 i3 tsh tsp tsj tsc tsa ti1 ti2 ti3 out p0 p1 h1 h2 H.size) (fcwSW 4 hts q1079 q1080 q80 q1081 rfl rfl (by decide +kernel) ⟨(Nat.le_of_ble_eq_true rfl), (Nat.le_of_ble_eq_true rfl)⟩) hE hP hD hS hA [0, 1, 2, 3, 4, 5, 6, 7, 8, 9, 10, 11, 12, 13, 14, 15, 16, 17, 25] rfl (by decide) rfl hl.1 rfl (Nat.le_of_ble_eq_true rfl) dL_law_1690 ⟨(Nat.le_of_ble_eq_true rfl), (Nat.le_of_ble_eq_true rfl)⟩) hP hD hS hA [0, 1, 2, 3, 4, 5, 6, 7, 8, 9, 10, 11, 12, 13, 14, 15, 16, 17, 25] [18, 19, 20, 21, 22, 23, 24] rfl rfl (by decide) (by decide) (fun r u H locs hr0 hP hD hS => ?_)
  subst hr0
  have hP : va_P D vwCl [(o, .inr (13, [.int 0, .ref zb, .ref fg])), (zb, .inr (9, [.int 0, .int 3000, .int 0, .int 0, .int 0, .ref zbp, .ref zbj, .ref zbc, .ref zba, .int 0, .int 0, .int 0, .int 0, .int 0, .int 0])), (zbp, .inr (0, [.int 0, .ref E, .int 0])), (zbj, .inr (0, [.int 0, .ref E, .int 0])), (zbc, .inr (0, [.int 0, .ref E, .int 0])), (zba, .inr (0, [.int 0, .ref E, .int 0])), (fg, .inr (0, [.int 0, .ref E, .int 0]))] H := hP
  have hD : va_D A [(o, .inr (13, [.int 0, .ref zb, .ref fg])), (zb, .inr (9, [.int 0, .int 3000, .int 0, .int 0, .int 0, .ref zbp, .ref zbj, .ref zbc, .ref zba, .int 0, .int 0, .int 0, .int 0, .int 0, .int 0])), (zbp, .inr (0, [.int 0, .ref E, .int 0])), (zbj, .inr (0, [.int 0, .ref E, .int 0])), (zbc, .inr (0, [.int 0, .ref E, .int 0])), (zba, .inr (0, [.int 0, .ref E, .int 0])), (fg, .inr (0, [.int 0, .ref E, .int 0]))] := hD
  refine lv_istore (lv' := [(5, .int 1), (4, .int 0), (3, .ref out), (2, .ref o), (1, .ref h), (0, .ref b)]) hx hb dL_law_1693 hl (by decide) rfl (fun ls hl => ?_)
  refine lv_aload_n hx hb dL_law_1695 rfl (lv_at hl 3 rfl) ?_
  refine lv_aload_n hx hb dL_law_1696 rfl (lv_at hl 5 rfl) ?_
  refine lv_iload hx hb dL_law_1697 (lv_at hl 1 rfl) ?_
  refine lv_iconst (v := 1) hx hb dL_law_1699 (by decide) ?_
  refine f_iadd (v := 1) hx hb dL_law_1700 (by decide) ?_
  refine va_sld hx hb hX hbl hbA hS (by unfold vp_in; decide) dL_law_1701 ?_
  refine f_topi (v := p0) (f_xs hs1) ?_
  refine lv_aload_n hx hb dL_law_1702 rfl (lv_at hl 5 rfl) ?_
  refine lv_iload hx hb dL_law_1703 (lv_at hl 1 rfl) ?_
  refine lv_iconst (v := 2) hx hb dL_law_1705 (by decide) ?_
  refine f_iadd (v := 2) hx hb dL_law_1706 (by decide) ?_
  refine va_sld hx hb hX hbl hbA hS (by unfold vp_in; decide) dL_law_1707 ?_
  refine f_topi (v := p1) (f_xs hs2) ?_
  refine f_aft_i (wr := []) (f_runV (As := [.int p0, .int p1]) (rest := []) hx hb hml hown hts (kX12_would_b l D cI cO cL E M o zb zbp zbj zbc zba fg p0 p1 h1 h2 H.size) (fcwV 2 hts q1086 q1087 q1088 q5 q1089 rfl rfl (by decide +kernel) ⟨(Nat.le_of_ble_eq_true rfl), (Nat.le_of_ble_eq_true rfl)⟩) hE hP hD hS hA [0, 1, 2, 3, 4, 5, 6] rfl (by decide) (q0 := 0) (ci := 13) rfl rfl rfl rfl hl.1 rfl (Nat.le_of_ble_eq_true rfl) dL_law_1708 ⟨(Nat.le_of_ble_eq_true rfl), (Nat.le_of_ble_eq_true rfl)⟩) hP hD hS hA [0, 1, 2, 3, 4, 5, 6] [] rfl rfl (by decide) (by decide) (fun r u H locs hr0 hP hD hS => ?_)
  subst hr0
  have hP : va_P D vwCl [(o, .inr (13, [.int 1, .ref zb, .ref fg]))] H := hP
  have hD : va_D A [(o, .inr (13, [.int 1, .ref zb, .ref fg]))] := hD
  refine lv_istore (lv' := [(6, .int 0), (5, .int 1), (4, .int 0), (3, .ref out), (2, .ref o), (1, .ref h), (0, .ref b)]) hx hb dL_law_1711 hl (by decide) rfl (fun ls hl => ?_)
  refine lv_aload_n hx hb dL_law_1713 rfl (lv_at hl 4 rfl) ?_
  refine f_aft_i (wr := []) (f_runV (As := []) (rest := []) hx hb hml hown hts (kX12_thrown l D cI cO cL E M o zb fg 1 H.size) (fcwV 0 hts q186 q187 q188 q5 q189 rfl rfl (by decide +kernel) ⟨(Nat.le_of_ble_eq_true rfl), (Nat.le_of_ble_eq_true rfl)⟩) hE hP hD hS hA [0] rfl (by decide) (q0 := 0) (ci := 13) rfl rfl rfl rfl hl.1 rfl (Nat.le_of_ble_eq_true rfl) dL_law_1714 ⟨(Nat.le_of_ble_eq_true rfl), (Nat.le_of_ble_eq_true rfl)⟩) hP hD hS hA [0] [] rfl rfl (by decide) (by decide) (fun r u H locs hr0 hP hD hS => ?_)
  subst hr0
  have hP : va_P D vwCl [(o, .inr (13, [.int 1, .ref zb, .ref fg]))] H := hP
  have hD : va_D A [(o, .inr (13, [.int 1, .ref zb, .ref fg]))] := hD
  refine lv_iload hx hb dL_law_1717 (lv_at hl 1 rfl) ?_
  refine lv_icmp_eq (tgt := 1724) hx hb dL_law_1719 (by decide) (fun _ => ?_) (fun h => absurd (by decide) h)
  refine lv_iload hx hb dL_law_1724 (lv_at hl 1 rfl) ?_
  refine lv_if_ne (tgt := 1741) hx hb dL_law_1726 (by decide) (fun _ => ?_) (fun h => absurd h (by decide))
  refine lv_goto (tgt := 1758) hx hb dL_law_1741 (by decide) ?_
  refine W.widen (k := 3000) (n := 30000) (Nat.le_of_ble_eq_true rfl) (Nat.le_of_ble_eq_true rfl) ?_
  exact law_end C hS (lv_sub hl [2, 6] rfl)
set_option maxHeartbeats 4000000 in
set_option maxRecDepth 100000 in
theorem law_would_c {p : Program} {l : Launch} {e : Env} {s : State} {m : MethodId} {below : List Frame} {meth : Method} {c : Code} {b : Nat} {xs : Nat → Int32} {D : va_G} {cI cO cL : ClassId} {E M : Nat} {A : Nat → Prop} (C : fLC p l s m meth c b xs D cI cO cL E M A) {h f sh sp sj sc sa i1 i2 i3 tsh tsp tsj tsc tsa ti1 ti2 ti3 o zb zbp zbj zbc zba fg out : Nat} (p0 : Int32) (p1 : Int32) (hs1 : (1 : Int32).toNatClampNeg = 1 ∧ xs 1 = p0) (hs2 : (2 : Int32).toNatClampNeg = 2 ∧ xs 2 = p1) (h1 : ¬ p0 < 1) (h2 : ¬ 60 < p0) (h3 : p1 < 0) {H : Heap} {locs : List Loc} {ls : Array Slot} (hP : va_P D vwCl [(h, .inr (8, [.ref f, .ref sh, .ref tsh])), (f, .inr (0, [.int 0, .ref E, .int 0])), (sh, .inr (6, [.ref sp, .ref sj, .ref sc, .ref sa, .int 0, .int 3000, .int 0, .int 0, .int 0, .int 0, .int 0, .int 0, .int 0, .int 0, .int 0])), (sp, .inr (0, [.int 0, .ref E, .int 0])), (sj, .inr (0, [.int 0, .ref E, .int 0])), (sc, .inr (0, [.int 0, .ref E, .int 0])), (sa, .inr (1, [.ref i1, .ref i2, .ref i3])), (i1, .inl (cI, 9, .inl (fun _ => 0))), (i2, .inl (cI, 9, .inl (fun _ => 0))), (i3, .inl (cI, 9, .inl (fun _ => 0))), (tsh, .inr (6, [.ref tsp, .ref tsj, .ref tsc, .ref tsa, .int 0, .int 3000, .int 0, .int 0, .int 0, .int 0, .int 0, .int 0, .int 0, .int 0, .int 0])), (tsp, .inr (0, [.int 0, .ref E, .int 0])), (tsj, .inr (0, [.int 0, .ref E, .int 0])), (tsc, .inr (0, [.int 0, .ref E, .int 0])), (tsa, .inr (1, [.ref ti1, .ref ti2, .ref ti3])), (ti1, .inl (cI, 9, .inl (fun _ => 0))), (ti2, .inl (cI, 9, .inl (fun _ => 0))), (ti3, .inl (cI, 9, .inl (fun _ => 0))), (o, .inr (13, [.int 0, .ref zb, .ref fg])), (zb, .inr (9, [.int 0, .int 3000, .int 0, .int 0, .int 0, .ref zbp, .ref zbj, .ref zbc, .ref zba, .int 0, .int 0, .int 0, .int 0, .int 0, .int 0])), (zbp, .inr (0, [.int 0, .ref E, .int 0])), (zbj, .inr (0, [.int 0, .ref E, .int 0])), (zbc, .inr (0, [.int 0, .ref E, .int 0])), (zba, .inr (0, [.int 0, .ref E, .int 0])), (fg, .inr (0, [.int 0, .ref E, .int 0])), (out, .inl (cL, 1, .inr (.inl (fun _ => 0))))] H) (hD : va_D A [(h, .inr (8, [.ref f, .ref sh, .ref tsh])), (f, .inr (0, [.int 0, .ref E, .int 0])), (sh, .inr (6, [.ref sp, .ref sj, .ref sc, .ref sa, .int 0, .int 3000, .int 0, .int 0, .int 0, .int 0, .int 0, .int 0, .int 0, .int 0, .int 0])), (sp, .inr (0, [.int 0, .ref E, .int 0])), (sj, .inr (0, [.int 0, .ref E, .int 0])), (sc, .inr (0, [.int 0, .ref E, .int 0])), (sa, .inr (1, [.ref i1, .ref i2, .ref i3])), (i1, .inl (cI, 9, .inl (fun _ => 0))), (i2, .inl (cI, 9, .inl (fun _ => 0))), (i3, .inl (cI, 9, .inl (fun _ => 0))), (tsh, .inr (6, [.ref tsp, .ref tsj, .ref tsc, .ref tsa, .int 0, .int 3000, .int 0, .int 0, .int 0, .int 0, .int 0, .int 0, .int 0, .int 0, .int 0])), (tsp, .inr (0, [.int 0, .ref E, .int 0])), (tsj, .inr (0, [.int 0, .ref E, .int 0])), (tsc, .inr (0, [.int 0, .ref E, .int 0])), (tsa, .inr (1, [.ref ti1, .ref ti2, .ref ti3])), (ti1, .inl (cI, 9, .inl (fun _ => 0))), (ti2, .inl (cI, 9, .inl (fun _ => 0))), (ti3, .inl (cI, 9, .inl (fun _ => 0))), (o, .inr (13, [.int 0, .ref zb, .ref fg])), (zb, .inr (9, [.int 0, .int 3000, .int 0, .int 0, .int 0, .ref zbp, .ref zbj, .ref zbc, .ref zba, .int 0, .int 0, .int 0, .int 0, .int 0, .int 0])), (zbp, .inr (0, [.int 0, .ref E, .int 0])), (zbj, .inr (0, [.int 0, .ref E, .int 0])), (zbc, .inr (0, [.int 0, .ref E, .int 0])), (zba, .inr (0, [.int 0, .ref E, .int 0])), (fg, .inr (0, [.int 0, .ref E, .int 0])), (out, .inl (cL, 1, .inr (.inl (fun _ => 0))))]) (hS : va_S A s.heap H locs) (hl : lv_has ls 9 [(4, .int 0), (3, .ref out), (2, .ref o), (1, .ref h), (0, .ref b)]) : W p l e room_1 s m #[Value.ref b] below meth c H locs 26 148 (lw_Z below #[Value.ref b] s) (F0 m 1676 ls []) := by
  obtain ⟨hx, hb, hr, hml, hown, hts, hX, hbl, hlocks, hl9, hE, hA, hA2⟩ := id C
  have hbA : ¬ A b := fun h => absurd (hA2 b h) (Nat.not_le.mpr hbl)
  refine lv_aload_n hx hb dL_law_1676 rfl (lv_at hl 3 rfl) ?_
  refine lv_aload_n hx hb dL_law_1677 rfl (lv_at hl 4 rfl) ?_
  refine lv_iload hx hb dL_law_1678 (lv_at hl 0 rfl) ?_
  refine lv_iconst (v := 1) hx hb dL_law_1680 (by decide) ?_
  refine f_iadd (v := 1) hx hb dL_law_1681 (by decide) ?_
  refine va_sld hx hb hX hbl hbA hS (by unfold vp_in; decide) dL_law_1682 ?_
  refine f_topi (v := p0) (f_xs hs1) ?_
  refine lv_aload_n hx hb dL_law_1683 rfl (lv_at hl 4 rfl) ?_
  refine lv_iload hx hb dL_law_1684 (lv_at hl 0 rfl) ?_
  refine lv_iconst (v := 2) hx hb dL_law_1686 (by decide) ?_
  refine f_iadd (v := 2) hx hb dL_law_1687 (by decide) ?_
  refine va_sld hx hb hX hbl hbA hS (by unfold vp_in; decide) dL_law_1688 ?_
  refine f_topi (v := p1) (f_xs hs2) ?_
  refine lv_aload_n hx hb dL_law_1689 rfl (lv_at hl 1 rfl) ?_
  refine f_aft_i (wr := [(o, .inr (13, [.int 0, .ref zb, .ref fg])), (zb, .inr (9, [.int 0, .int 3000, .int 0, .int 0, .int 0, .ref zbp, .ref zbj, .ref zbc, .ref zba, .int 0, .int 0, .int 0, .int 0, .int 0, .int 0])), (zbp, .inr (0, [.int 0, .ref E, .int 0])), (zbj, .inr (0, [.int 0, .ref E, .int 0])), (zbc, .inr (0, [.int 0, .ref E, .int 0])), (zba, .inr (0, [.int 0, .ref E, .int 0])), (fg, .inr (0, [.int 0, .ref E, .int 0]))]) (f_runSW (As := [.ref h, .int p0, .int p1, .ref out]) (rest := []) hx hb hml hown hts (kL_would_c l hl9 D cI cO cL E M h f sh sp sj sc sa i1 i2 i3 tsh tsp tsj tsc tsa ti1 ti2 ti3 out p0 p1 h1 h2 h3 H.size) (fcwSW 4 hts q1079 q1080 q80 q1081 rfl rfl (by decide +kernel) ⟨(Nat.le_of_ble_eq_true rfl), (Nat.le_of_ble_eq_true rfl)⟩) hE hP hD hS hA [0, 1, 2, 3, 4, 5, 6, 7, 8, 9, 10, 11, 12, 13, 14, 15, 16, 17, 25] rfl (by decide) rfl hl.1 rfl (Nat.le_of_ble_eq_true rfl) dL_law_1690 ⟨(Nat.le_of_ble_eq_true rfl), (Nat.le_of_ble_eq_true rfl)⟩) hP hD hS hA [0, 1, 2, 3, 4, 5, 6, 7, 8, 9, 10, 11, 12, 13, 14, 15, 16, 17, 25] [18, 19, 20, 21, 22, 23, 24] rfl rfl (by decide) (by decide) (fun r u H locs hr0 hP hD hS => ?_)
  subst hr0
  have hP : va_P D vwCl [(o, .inr (13, [.int 0, .ref zb, .ref fg])), (zb, .inr (9, [.int 0, .int 3000, .int 0, .int 0, .int 0, .ref zbp, .ref zbj, .ref zbc, .ref zba, .int 0, .int 0, .int 0, .int 0, .int 0, .int 0])), (zbp, .inr (0, [.int 0, .ref E, .int 0])), (zbj, .inr (0, [.int 0, .ref E, .int 0])), (zbc, .inr (0, [.int 0, .ref E, .int 0])), (zba, .inr (0, [.int 0, .ref E, .int 0])), (fg, .inr (0, [.int 0, .ref E, .int 0]))] H := hP
  have hD : va_D A [(o, .inr (13, [.int 0, .ref zb, .ref fg])), (zb, .inr (9, [.int 0, .int 3000, .int 0, .int 0, .int 0, .ref zbp, .ref zbj, .ref zbc, .ref zba, .int 0, .int 0, .int 0, .int 0, .int 0, .int 0])), (zbp, .inr (0, [.int 0, .ref E, .int 0])), (zbj, .inr (0, [.int 0, .ref E, .int 0])), (zbc, .inr (0, [.int 0, .ref E, .int 0])), (zba, .inr (0, [.int 0, .ref E, .int 0])), (fg, .inr (0, [.int 0, .ref E, .int 0]))] := hD
  refine lv_istore (lv' := [(5, .int 1), (4, .int 0), (3, .ref out), (2, .ref o), (1, .ref h), (0, .ref b)]) hx hb dL_law_1693 hl (by decide) rfl (fun ls hl => ?_)
  refine lv_aload_n hx hb dL_law_1695 rfl (lv_at hl 3 rfl) ?_
  refine lv_aload_n hx hb dL_law_1696 rfl (lv_at hl 5 rfl) ?_
  refine lv_iload hx hb dL_law_1697 (lv_at hl 1 rfl) ?_
  refine lv_iconst (v := 1) hx hb dL_law_1699 (by decide) ?_
  refine f_iadd (v := 1) hx hb dL_law_1700 (by decide) ?_
  refine va_sld hx hb hX hbl hbA hS (by unfold vp_in; decide) dL_law_1701 ?_
  refine f_topi (v := p0) (f_xs hs1) ?_
  refine lv_aload_n hx hb dL_law_1702 rfl (lv_at hl 5 rfl) ?_
  refine lv_iload hx hb dL_law_1703 (lv_at hl 1 rfl) ?_
  refine lv_iconst (v := 2) hx hb dL_law_1705 (by decide) ?_
  refine f_iadd (v := 2) hx hb dL_law_1706 (by decide) ?_
  refine va_sld hx hb hX hbl hbA hS (by unfold vp_in; decide) dL_law_1707 ?_
  refine f_topi (v := p1) (f_xs hs2) ?_
  refine f_aft_i (wr := []) (f_runV (As := [.int p0, .int p1]) (rest := []) hx hb hml hown hts (kX12_would_c l D cI cO cL E M o zb zbp zbj zbc zba fg p0 p1 h1 h2 h3 H.size) (fcwV 2 hts q1086 q1087 q1088 q5 q1089 rfl rfl (by decide +kernel) ⟨(Nat.le_of_ble_eq_true rfl), (Nat.le_of_ble_eq_true rfl)⟩) hE hP hD hS hA [0, 1, 2, 3, 4, 5, 6] rfl (by decide) (q0 := 0) (ci := 13) rfl rfl rfl rfl hl.1 rfl (Nat.le_of_ble_eq_true rfl) dL_law_1708 ⟨(Nat.le_of_ble_eq_true rfl), (Nat.le_of_ble_eq_true rfl)⟩) hP hD hS hA [0, 1, 2, 3, 4, 5, 6] [] rfl rfl (by decide) (by decide) (fun r u H locs hr0 hP hD hS => ?_)
  subst hr0
  have hP : va_P D vwCl [(o, .inr (13, [.int 1, .ref zb, .ref fg]))] H := hP
  have hD : va_D A [(o, .inr (13, [.int 1, .ref zb, .ref fg]))] := hD
  refine lv_istore (lv' := [(6, .int 0), (5, .int 1), (4, .int 0), (3, .ref out), (2, .ref o), (1, .ref h), (0, .ref b)]) hx hb dL_law_1711 hl (by decide) rfl (fun ls hl => ?_)
  refine lv_aload_n hx hb dL_law_1713 rfl (lv_at hl 4 rfl) ?_
  refine f_aft_i (wr := []) (f_runV (As := []) (rest := []) hx hb hml hown hts (kX12_thrown l D cI cO cL E M o zb fg 1 H.size) (fcwV 0 hts q186 q187 q188 q5 q189 rfl rfl (by decide +kernel) ⟨(Nat.le_of_ble_eq_true rfl), (Nat.le_of_ble_eq_true rfl)⟩) hE hP hD hS hA [0] rfl (by decide) (q0 := 0) (ci := 13) rfl rfl rfl rfl hl.1 rfl (Nat.le_of_ble_eq_true rfl) dL_law_1714 ⟨(Nat.le_of_ble_eq_true rfl), (Nat.le_of_ble_eq_true rfl)⟩) hP hD hS hA [0] [] rfl rfl (by decide) (by decide) (fun r u H locs hr0 hP hD hS => ?_)
  subst hr0
  have hP : va_P D vwCl [(o, .inr (13, [.int 1, .ref zb, .ref fg]))] H := hP
  have hD : va_D A [(o, .inr (13, [.int 1, .ref zb, .ref fg]))] := hD
  refine lv_iload hx hb dL_law_1717 (lv_at hl 1 rfl) ?_
  refine lv_icmp_eq (tgt := 1724) hx hb dL_law_1719 (by decide) (fun _ => ?_) (fun h => absurd (by decide) h)
  refine lv_iload hx hb dL_law_1724 (lv_at hl 1 rfl) ?_
  refine lv_if_ne (tgt := 1741) hx hb dL_law_1726 (by decide) (fun _ => ?_) (fun h => absurd h (by decide))
  refine lv_goto (tgt := 1758) hx hb dL_law_1741 (by decide) ?_
  refine W.widen (k := 3000) (n := 30000) (Nat.le_of_ble_eq_true rfl) (Nat.le_of_ble_eq_true rfl) ?_
  exact law_end C hS (lv_sub hl [2, 6] rfl)
set_option maxHeartbeats 4000000 in
set_option maxRecDepth 100000 in
theorem law_would_d {p : Program} {l : Launch} {e : Env} {s : State} {m : MethodId} {below : List Frame} {meth : Method} {c : Code} {b : Nat} {xs : Nat → Int32} {D : va_G} {cI cO cL : ClassId} {E M : Nat} {A : Nat → Prop} (C : fLC p l s m meth c b xs D cI cO cL E M A) {h f sh sp sj sc sa i1 i2 i3 tsh tsp tsj tsc tsa ti1 ti2 ti3 o zb zbp zbj zbc zba fg out : Nat} (p0 : Int32) (p1 : Int32) (hs1 : (1 : Int32).toNatClampNeg = 1 ∧ xs 1 = p0) (hs2 : (2 : Int32).toNatClampNeg = 2 ∧ xs 2 = p1) (h1 : ¬ p0 < 1) (h2 : ¬ 60 < p0) (h3 : ¬ p1 < 0) (h4 : 1 < p1) {H : Heap} {locs : List Loc} {ls : Array Slot} (hP : va_P D vwCl [(h, .inr (8, [.ref f, .ref sh, .ref tsh])), (f, .inr (0, [.int 0, .ref E, .int 0])), (sh, .inr (6, [.ref sp, .ref sj, .ref sc, .ref sa, .int 0, .int 3000, .int 0, .int 0, .int 0, .int 0, .int 0, .int 0, .int 0, .int 0, .int 0])), (sp, .inr (0, [.int 0, .ref E, .int 0])), (sj, .inr (0, [.int 0, .ref E, .int 0])), (sc, .inr (0, [.int 0, .ref E, .int 0])), (sa, .inr (1, [.ref i1, .ref i2, .ref i3])), (i1, .inl (cI, 9, .inl (fun _ => 0))), (i2, .inl (cI, 9, .inl (fun _ => 0))), (i3, .inl (cI, 9, .inl (fun _ => 0))), (tsh, .inr (6, [.ref tsp, .ref tsj, .ref tsc, .ref tsa, .int 0, .int 3000, .int 0, .int 0, .int 0, .int 0, .int 0, .int 0, .int 0, .int 0, .int 0])), (tsp, .inr (0, [.int 0, .ref E, .int 0])), (tsj, .inr (0, [.int 0, .ref E, .int 0])), (tsc, .inr (0, [.int 0, .ref E, .int 0])), (tsa, .inr (1, [.ref ti1, .ref ti2, .ref ti3])), (ti1, .inl (cI, 9, .inl (fun _ => 0))), (ti2, .inl (cI, 9, .inl (fun _ => 0))), (ti3, .inl (cI, 9, .inl (fun _ => 0))), (o, .inr (13, [.int 0, .ref zb, .ref fg])), (zb, .inr (9, [.int 0, .int 3000, .int 0, .int 0, .int 0, .ref zbp, .ref zbj, .ref zbc, .ref zba, .int 0, .int 0, .int 0, .int 0, .int 0, .int 0])), (zbp, .inr (0, [.int 0, .ref E, .int 0])), (zbj, .inr (0, [.int 0, .ref E, .int 0])), (zbc, .inr (0, [.int 0, .ref E, .int 0])), (zba, .inr (0, [.int 0, .ref E, .int 0])), (fg, .inr (0, [.int 0, .ref E, .int 0])), (out, .inl (cL, 1, .inr (.inl (fun _ => 0))))] H) (hD : va_D A [(h, .inr (8, [.ref f, .ref sh, .ref tsh])), (f, .inr (0, [.int 0, .ref E, .int 0])), (sh, .inr (6, [.ref sp, .ref sj, .ref sc, .ref sa, .int 0, .int 3000, .int 0, .int 0, .int 0, .int 0, .int 0, .int 0, .int 0, .int 0, .int 0])), (sp, .inr (0, [.int 0, .ref E, .int 0])), (sj, .inr (0, [.int 0, .ref E, .int 0])), (sc, .inr (0, [.int 0, .ref E, .int 0])), (sa, .inr (1, [.ref i1, .ref i2, .ref i3])), (i1, .inl (cI, 9, .inl (fun _ => 0))), (i2, .inl (cI, 9, .inl (fun _ => 0))), (i3, .inl (cI, 9, .inl (fun _ => 0))), (tsh, .inr (6, [.ref tsp, .ref tsj, .ref tsc, .ref tsa, .int 0, .int 3000, .int 0, .int 0, .int 0, .int 0, .int 0, .int 0, .int 0, .int 0, .int 0])), (tsp, .inr (0, [.int 0, .ref E, .int 0])), (tsj, .inr (0, [.int 0, .ref E, .int 0])), (tsc, .inr (0, [.int 0, .ref E, .int 0])), (tsa, .inr (1, [.ref ti1, .ref ti2, .ref ti3])), (ti1, .inl (cI, 9, .inl (fun _ => 0))), (ti2, .inl (cI, 9, .inl (fun _ => 0))), (ti3, .inl (cI, 9, .inl (fun _ => 0))), (o, .inr (13, [.int 0, .ref zb, .ref fg])), (zb, .inr (9, [.int 0, .int 3000, .int 0, .int 0, .int 0, .ref zbp, .ref zbj, .ref zbc, .ref zba, .int 0, .int 0, .int 0, .int 0, .int 0, .int 0])), (zbp, .inr (0, [.int 0, .ref E, .int 0])), (zbj, .inr (0, [.int 0, .ref E, .int 0])), (zbc, .inr (0, [.int 0, .ref E, .int 0])), (zba, .inr (0, [.int 0, .ref E, .int 0])), (fg, .inr (0, [.int 0, .ref E, .int 0])), (out, .inl (cL, 1, .inr (.inl (fun _ => 0))))]) (hS : va_S A s.heap H locs) (hl : lv_has ls 9 [(4, .int 0), (3, .ref out), (2, .ref o), (1, .ref h), (0, .ref b)]) : W p l e room_1 s m #[Value.ref b] below meth c H locs 26 148 (lw_Z below #[Value.ref b] s) (F0 m 1676 ls []) := by
  obtain ⟨hx, hb, hr, hml, hown, hts, hX, hbl, hlocks, hl9, hE, hA, hA2⟩ := id C
  have hbA : ¬ A b := fun h => absurd (hA2 b h) (Nat.not_le.mpr hbl)
  refine lv_aload_n hx hb dL_law_1676 rfl (lv_at hl 3 rfl) ?_
  refine lv_aload_n hx hb dL_law_1677 rfl (lv_at hl 4 rfl) ?_
  refine lv_iload hx hb dL_law_1678 (lv_at hl 0 rfl) ?_
  refine lv_iconst (v := 1) hx hb dL_law_1680 (by decide) ?_
  refine f_iadd (v := 1) hx hb dL_law_1681 (by decide) ?_
  refine va_sld hx hb hX hbl hbA hS (by unfold vp_in; decide) dL_law_1682 ?_
  refine f_topi (v := p0) (f_xs hs1) ?_
  refine lv_aload_n hx hb dL_law_1683 rfl (lv_at hl 4 rfl) ?_
  refine lv_iload hx hb dL_law_1684 (lv_at hl 0 rfl) ?_
  refine lv_iconst (v := 2) hx hb dL_law_1686 (by decide) ?_
  refine f_iadd (v := 2) hx hb dL_law_1687 (by decide) ?_
  refine va_sld hx hb hX hbl hbA hS (by unfold vp_in; decide) dL_law_1688 ?_
  refine f_topi (v := p1) (f_xs hs2) ?_
  refine lv_aload_n hx hb dL_law_1689 rfl (lv_at hl 1 rfl) ?_
  refine f_aft_i (wr := [(o, .inr (13, [.int 0, .ref zb, .ref fg])), (zb, .inr (9, [.int 0, .int 3000, .int 0, .int 0, .int 0, .ref zbp, .ref zbj, .ref zbc, .ref zba, .int 0, .int 0, .int 0, .int 0, .int 0, .int 0])), (zbp, .inr (0, [.int 0, .ref E, .int 0])), (zbj, .inr (0, [.int 0, .ref E, .int 0])), (zbc, .inr (0, [.int 0, .ref E, .int 0])), (zba, .inr (0, [.int 0, .ref E, .int 0])), (fg, .inr (0, [.int 0, .ref E, .int 0]))]) (f_runSW (As := [.ref h, .int p0, .int p1, .ref out]) (rest := []) hx hb hml hown hts (kL_would_d l hl9 D cI cO cL E M h f sh sp sj sc sa i1 i2 i3 tsh tsp tsj tsc tsa ti1 ti2 ti3 out p0 p1 h1 h2 h3 h4 H.size) (fcwSW 4 hts q1079 q1080 q80 q1081 rfl rfl (by decide +kernel) ⟨(Nat.le_of_ble_eq_true rfl), (Nat.le_of_ble_eq_true rfl)⟩) hE hP hD hS hA [0, 1, 2, 3, 4, 5, 6, 7, 8, 9, 10, 11, 12, 13, 14, 15, 16, 17, 25] rfl (by decide) rfl hl.1 rfl (Nat.le_of_ble_eq_true rfl) dL_law_1690 ⟨(Nat.le_of_ble_eq_true rfl), (Nat.le_of_ble_eq_true rfl)⟩) hP hD hS hA [0, 1, 2, 3, 4, 5, 6, 7, 8, 9, 10, 11, 12, 13, 14, 15, 16, 17, 25] [18, 19, 20, 21, 22, 23, 24] rfl rfl (by decide) (by decide) (fun r u H locs hr0 hP hD hS => ?_)
  subst hr0
  have hP : va_P D vwCl [(o, .inr (13, [.int 0, .ref zb, .ref fg])), (zb, .inr (9, [.int 0, .int 3000, .int 0, .int 0, .int 0, .ref zbp, .ref zbj, .ref zbc, .ref zba, .int 0, .int 0, .int 0, .int 0, .int 0, .int 0])), (zbp, .inr (0, [.int 0, .ref E, .int 0])), (zbj, .inr (0, [.int 0, .ref E, .int 0])), (zbc, .inr (0, [.int 0, .ref E, .int 0])), (zba, .inr (0, [.int 0, .ref E, .int 0])), (fg, .inr (0, [.int 0, .ref E, .int 0]))] H := hP
  have hD : va_D A [(o, .inr (13, [.int 0, .ref zb, .ref fg])), (zb, .inr (9, [.int 0, .int 3000, .int 0, .int 0, .int 0, .ref zbp, .ref zbj, .ref zbc, .ref zba, .int 0, .int 0, .int 0, .int 0, .int 0, .int 0])), (zbp, .inr (0, [.int 0, .ref E, .int 0])), (zbj, .inr (0, [.int 0, .ref E, .int 0])), (zbc, .inr (0, [.int 0, .ref E, .int 0])), (zba, .inr (0, [.int 0, .ref E, .int 0])), (fg, .inr (0, [.int 0, .ref E, .int 0]))] := hD
  refine lv_istore (lv' := [(5, .int 1), (4, .int 0), (3, .ref out), (2, .ref o), (1, .ref h), (0, .ref b)]) hx hb dL_law_1693 hl (by decide) rfl (fun ls hl => ?_)
  refine lv_aload_n hx hb dL_law_1695 rfl (lv_at hl 3 rfl) ?_
  refine lv_aload_n hx hb dL_law_1696 rfl (lv_at hl 5 rfl) ?_
  refine lv_iload hx hb dL_law_1697 (lv_at hl 1 rfl) ?_
  refine lv_iconst (v := 1) hx hb dL_law_1699 (by decide) ?_
  refine f_iadd (v := 1) hx hb dL_law_1700 (by decide) ?_
  refine va_sld hx hb hX hbl hbA hS (by unfold vp_in; decide) dL_law_1701 ?_
  refine f_topi (v := p0) (f_xs hs1) ?_
  refine lv_aload_n hx hb dL_law_1702 rfl (lv_at hl 5 rfl) ?_
  refine lv_iload hx hb dL_law_1703 (lv_at hl 1 rfl) ?_
  refine lv_iconst (v := 2) hx hb dL_law_1705 (by decide) ?_
  refine f_iadd (v := 2) hx hb dL_law_1706 (by decide) ?_
  refine va_sld hx hb hX hbl hbA hS (by unfold vp_in; decide) dL_law_1707 ?_
  refine f_topi (v := p1) (f_xs hs2) ?_
  refine f_aft_i (wr := []) (f_runV (As := [.int p0, .int p1]) (rest := []) hx hb hml hown hts (kX12_would_d l D cI cO cL E M o zb zbp zbj zbc zba fg p0 p1 h1 h2 h3 h4 H.size) (fcwV 2 hts q1086 q1087 q1088 q5 q1089 rfl rfl (by decide +kernel) ⟨(Nat.le_of_ble_eq_true rfl), (Nat.le_of_ble_eq_true rfl)⟩) hE hP hD hS hA [0, 1, 2, 3, 4, 5, 6] rfl (by decide) (q0 := 0) (ci := 13) rfl rfl rfl rfl hl.1 rfl (Nat.le_of_ble_eq_true rfl) dL_law_1708 ⟨(Nat.le_of_ble_eq_true rfl), (Nat.le_of_ble_eq_true rfl)⟩) hP hD hS hA [0, 1, 2, 3, 4, 5, 6] [] rfl rfl (by decide) (by decide) (fun r u H locs hr0 hP hD hS => ?_)
  subst hr0
  have hP : va_P D vwCl [(o, .inr (13, [.int 1, .ref zb, .ref fg]))] H := hP
  have hD : va_D A [(o, .inr (13, [.int 1, .ref zb, .ref fg]))] := hD
  refine lv_istore (lv' := [(6, .int 0), (5, .int 1), (4, .int 0), (3, .ref out), (2, .ref o), (1, .ref h), (0, .ref b)]) hx hb dL_law_1711 hl (by decide) rfl (fun ls hl => ?_)
  refine lv_aload_n hx hb dL_law_1713 rfl (lv_at hl 4 rfl) ?_
  refine f_aft_i (wr := []) (f_runV (As := []) (rest := []) hx hb hml hown hts (kX12_thrown l D cI cO cL E M o zb fg 1 H.size) (fcwV 0 hts q186 q187 q188 q5 q189 rfl rfl (by decide +kernel) ⟨(Nat.le_of_ble_eq_true rfl), (Nat.le_of_ble_eq_true rfl)⟩) hE hP hD hS hA [0] rfl (by decide) (q0 := 0) (ci := 13) rfl rfl rfl rfl hl.1 rfl (Nat.le_of_ble_eq_true rfl) dL_law_1714 ⟨(Nat.le_of_ble_eq_true rfl), (Nat.le_of_ble_eq_true rfl)⟩) hP hD hS hA [0] [] rfl rfl (by decide) (by decide) (fun r u H locs hr0 hP hD hS => ?_)
  subst hr0
  have hP : va_P D vwCl [(o, .inr (13, [.int 1, .ref zb, .ref fg]))] H := hP
  have hD : va_D A [(o, .inr (13, [.int 1, .ref zb, .ref fg]))] := hD
  refine lv_iload hx hb dL_law_1717 (lv_at hl 1 rfl) ?_
  refine lv_icmp_eq (tgt := 1724) hx hb dL_law_1719 (by decide) (fun _ => ?_) (fun h => absurd (by decide) h)
  refine lv_iload hx hb dL_law_1724 (lv_at hl 1 rfl) ?_
  refine lv_if_ne (tgt := 1741) hx hb dL_law_1726 (by decide) (fun _ => ?_) (fun h => absurd h (by decide))
  refine lv_goto (tgt := 1758) hx hb dL_law_1741 (by decide) ?_
  refine W.widen (k := 3000) (n := 30000) (Nat.le_of_ble_eq_true rfl) (Nat.le_of_ble_eq_true rfl) ?_
  exact law_end C hS (lv_sub hl [2, 6] rfl)
set_option maxHeartbeats 4000000 in
set_option maxRecDepth 100000 in
theorem law_swim_0 {p : Program} {l : Launch} {e : Env} {s : State} {m : MethodId} {below : List Frame} {meth : Method} {c : Code} {b : Nat} {xs : Nat → Int32} {D : va_G} {cI cO cL : ClassId} {E M : Nat} {A : Nat → Prop} (C : fLC p l s m meth c b xs D cI cO cL E M A) {h f sh sp sj sc sa i1 i2 i3 tsh tsp tsj tsc tsa ti1 ti2 ti3 o zb zbp zbj zbc zba fg out : Nat} (p0 : Int32) (hs1 : (1 : Int32).toNatClampNeg = 1 ∧ xs 1 = p0) (hz : p0 = 0) {H : Heap} {locs : List Loc} {ls : Array Slot} (hP : va_P D vwCl [(h, .inr (8, [.ref f, .ref sh, .ref tsh])), (f, .inr (0, [.int 0, .ref E, .int 0])), (sh, .inr (6, [.ref sp, .ref sj, .ref sc, .ref sa, .int 0, .int 3000, .int 0, .int 0, .int 0, .int 0, .int 0, .int 0, .int 0, .int 0, .int 0])), (sp, .inr (0, [.int 0, .ref E, .int 0])), (sj, .inr (0, [.int 0, .ref E, .int 0])), (sc, .inr (0, [.int 0, .ref E, .int 0])), (sa, .inr (1, [.ref i1, .ref i2, .ref i3])), (i1, .inl (cI, 9, .inl (fun _ => 0))), (i2, .inl (cI, 9, .inl (fun _ => 0))), (i3, .inl (cI, 9, .inl (fun _ => 0))), (tsh, .inr (6, [.ref tsp, .ref tsj, .ref tsc, .ref tsa, .int 0, .int 3000, .int 0, .int 0, .int 0, .int 0, .int 0, .int 0, .int 0, .int 0, .int 0])), (tsp, .inr (0, [.int 0, .ref E, .int 0])), (tsj, .inr (0, [.int 0, .ref E, .int 0])), (tsc, .inr (0, [.int 0, .ref E, .int 0])), (tsa, .inr (1, [.ref ti1, .ref ti2, .ref ti3])), (ti1, .inl (cI, 9, .inl (fun _ => 0))), (ti2, .inl (cI, 9, .inl (fun _ => 0))), (ti3, .inl (cI, 9, .inl (fun _ => 0))), (o, .inr (13, [.int 0, .ref zb, .ref fg])), (zb, .inr (9, [.int 0, .int 3000, .int 0, .int 0, .int 0, .ref zbp, .ref zbj, .ref zbc, .ref zba, .int 0, .int 0, .int 0, .int 0, .int 0, .int 0])), (zbp, .inr (0, [.int 0, .ref E, .int 0])), (zbj, .inr (0, [.int 0, .ref E, .int 0])), (zbc, .inr (0, [.int 0, .ref E, .int 0])), (zba, .inr (0, [.int 0, .ref E, .int 0])), (fg, .inr (0, [.int 0, .ref E, .int 0])), (out, .inl (cL, 1, .inr (.inl (fun _ => 0))))] H) (hD : va_D A [(h, .inr (8, [.ref f, .ref sh, .ref tsh])), (f, .inr (0, [.int 0, .ref E, .int 0])), (sh, .inr (6, [.ref sp, .ref sj, .ref sc, .ref sa, .int 0, .int 3000, .int 0, .int 0, .int 0, .int 0, .int 0, .int 0, .int 0, .int 0, .int 0])), (sp, .inr (0, [.int 0, .ref E, .int 0])), (sj, .inr (0, [.int 0, .ref E, .int 0])), (sc, .inr (0, [.int 0, .ref E, .int 0])), (sa, .inr (1, [.ref i1, .ref i2, .ref i3])), (i1, .inl (cI, 9, .inl (fun _ => 0))), (i2, .inl (cI, 9, .inl (fun _ => 0))), (i3, .inl (cI, 9, .inl (fun _ => 0))), (tsh, .inr (6, [.ref tsp, .ref tsj, .ref tsc, .ref tsa, .int 0, .int 3000, .int 0, .int 0, .int 0, .int 0, .int 0, .int 0, .int 0, .int 0, .int 0])), (tsp, .inr (0, [.int 0, .ref E, .int 0])), (tsj, .inr (0, [.int 0, .ref E, .int 0])), (tsc, .inr (0, [.int 0, .ref E, .int 0])), (tsa, .inr (1, [.ref ti1, .ref ti2, .ref ti3])), (ti1, .inl (cI, 9, .inl (fun _ => 0))), (ti2, .inl (cI, 9, .inl (fun _ => 0))), (ti3, .inl (cI, 9, .inl (fun _ => 0))), (o, .inr (13, [.int 0, .ref zb, .ref fg])), (zb, .inr (9, [.int 0, .int 3000, .int 0, .int 0, .int 0, .ref zbp, .ref zbj, .ref zbc, .ref zba, .int 0, .int 0, .int 0, .int 0, .int 0, .int 0])), (zbp, .inr (0, [.int 0, .ref E, .int 0])), (zbj, .inr (0, [.int 0, .ref E, .int 0])), (zbc, .inr (0, [.int 0, .ref E, .int 0])), (zba, .inr (0, [.int 0, .ref E, .int 0])), (fg, .inr (0, [.int 0, .ref E, .int 0])), (out, .inl (cL, 1, .inr (.inl (fun _ => 0))))]) (hS : va_S A s.heap H locs) (hl : lv_has ls 9 [(4, .int 0), (3, .ref out), (2, .ref o), (1, .ref h), (0, .ref b)]) : W p l e room_1 s m #[Value.ref b] below meth c H locs 26 148 (lw_Z below #[Value.ref b] s) (F0 m 906 ls []) := by
  obtain ⟨hx, hb, hr, hml, hown, hts, hX, hbl, hlocks, hl9, hE, hA, hA2⟩ := id C
  have hbA : ¬ A b := fun h => absurd (hA2 b h) (Nat.not_le.mpr hbl)
  refine lv_aload_n hx hb dL_law_906 rfl (lv_at hl 3 rfl) ?_
  refine lv_aload_n hx hb dL_law_907 rfl (lv_at hl 4 rfl) ?_
  refine lv_iload hx hb dL_law_908 (lv_at hl 0 rfl) ?_
  refine lv_iconst (v := 1) hx hb dL_law_910 (by decide) ?_
  refine f_iadd (v := 1) hx hb dL_law_911 (by decide) ?_
  refine va_sld hx hb hX hbl hbA hS (by unfold vp_in; decide) dL_law_912 ?_
  refine f_topi (v := p0) (f_xs hs1) ?_
  refine lv_if_eq (tgt := 920) hx hb dL_law_913 (by decide) (fun _ => ?_) (fun h => absurd hz h)
  refine lv_iconst (v := 0) hx hb dL_law_920 (by decide) ?_
  refine f_aft_i (wr := [(o, .inr (13, [.int 0, .ref zb, .ref fg])), (zb, .inr (9, [.int 0, .int 3000, .int 0, .int 0, .int 0, .ref zbp, .ref zbj, .ref zbc, .ref zba, .int 0, .int 0, .int 0, .int 0, .int 0, .int 0])), (zbp, .inr (0, [.int 0, .ref E, .int 0])), (zbj, .inr (0, [.int 0, .ref E, .int 0])), (zbc, .inr (0, [.int 0, .ref E, .int 0])), (zba, .inr (0, [.int 0, .ref E, .int 0])), (fg, .inr (0, [.int 0, .ref E, .int 0])), (out, .inl (cL, 1, .inr (.inl (fun _ => 0))))]) (f_runV (As := [.int 0]) (rest := []) hx hb hml hown hts (kX7_swim_0 l D cI cO cL E M h f sh sp sj sc sa i1 i2 i3 tsh tsp tsj tsc tsa ti1 ti2 ti3 H.size) (fcwV 1 hts q422 q423 q424 q2 q425 rfl rfl (by decide +kernel) ⟨(Nat.le_of_ble_eq_true rfl), (Nat.le_of_ble_eq_true rfl)⟩) hE hP hD hS hA [0, 1, 2, 3, 4, 5, 6, 7, 8, 9, 10, 11, 12, 13, 14, 15, 16, 17] rfl (by decide) (q0 := 0) (ci := 8) rfl rfl rfl rfl hl.1 rfl (Nat.le_of_ble_eq_true rfl) dL_law_921 ⟨(Nat.le_of_ble_eq_true rfl), (Nat.le_of_ble_eq_true rfl)⟩) hP hD hS hA [0, 1, 2, 3, 4, 5, 6, 7, 8, 9, 10, 11, 12, 13, 14, 15, 16, 17] [18, 19, 20, 21, 22, 23, 24, 25] rfl rfl (by decide) (by decide) (fun r u H locs hr0 hP hD hS => ?_)
  subst hr0
  have hP : va_P D vwCl [(o, .inr (13, [.int 0, .ref zb, .ref fg])), (zb, .inr (9, [.int 0, .int 3000, .int 0, .int 0, .int 0, .ref zbp, .ref zbj, .ref zbc, .ref zba, .int 0, .int 0, .int 0, .int 0, .int 0, .int 0])), (zbp, .inr (0, [.int 0, .ref E, .int 0])), (zbj, .inr (0, [.int 0, .ref E, .int 0])), (zbc, .inr (0, [.int 0, .ref E, .int 0])), (zba, .inr (0, [.int 0, .ref E, .int 0])), (fg, .inr (0, [.int 0, .ref E, .int 0])), (out, .inl (cL, 1, .inr (.inl (fun _ => 0))))] H := hP
  have hD : va_D A [(o, .inr (13, [.int 0, .ref zb, .ref fg])), (zb, .inr (9, [.int 0, .int 3000, .int 0, .int 0, .int 0, .ref zbp, .ref zbj, .ref zbc, .ref zba, .int 0, .int 0, .int 0, .int 0, .int 0, .int 0])), (zbp, .inr (0, [.int 0, .ref E, .int 0])), (zbj, .inr (0, [.int 0, .ref E, .int 0])), (zbc, .inr (0, [.int 0, .ref E, .int 0])), (zba, .inr (0, [.int 0, .ref E, .int 0])), (fg, .inr (0, [.int 0, .ref E, .int 0])), (out, .inl (cL, 1, .inr (.inl (fun _ => 0))))] := hD
  refine lv_aload_n hx hb dL_law_924 rfl (lv_at hl 2 rfl) ?_
  refine lv_aload_n hx hb dL_law_925 rfl (lv_at hl 4 rfl) ?_
  refine lv_iload hx hb dL_law_926 (lv_at hl 0 rfl) ?_
  refine lv_iconst (v := 1) hx hb dL_law_928 (by decide) ?_
  refine f_iadd (v := 1) hx hb dL_law_929 (by decide) ?_
  refine va_sld hx hb hX hbl hbA hS (by unfold vp_in; decide) dL_law_930 ?_
  refine f_topi (v := p0) (f_xs hs1) ?_
  refine lv_if_eq (tgt := 938) hx hb dL_law_931 (by decide) (fun _ => ?_) (fun h => absurd hz h)
  refine lv_iconst (v := 0) hx hb dL_law_938 (by decide) ?_
  refine f_aft_i (wr := [(out, .inl (cL, 1, .inr (.inl (fun _ => 0))))]) (f_runV (As := [.int 0]) (rest := [.int 0]) hx hb hml hown hts (kX12_swim_0 l D cI cO cL E M o zb zbp zbj zbc zba fg H.size) (fcwV 1 hts q438 q439 q440 q5 q441 rfl rfl (by decide +kernel) ⟨(Nat.le_of_ble_eq_true rfl), (Nat.le_of_ble_eq_true rfl)⟩) hE hP hD hS hA [0, 1, 2, 3, 4, 5, 6] rfl (by decide) (q0 := 0) (ci := 13) rfl rfl rfl rfl hl.1 rfl (Nat.le_of_ble_eq_true rfl) dL_law_939 ⟨(Nat.le_of_ble_eq_true rfl), (Nat.le_of_ble_eq_true rfl)⟩) hP hD hS hA [0, 1, 2, 3, 4, 5, 6] [7] rfl rfl (by decide) (by decide) (fun r u H locs hr0 hP hD hS => ?_)
  subst hr0
  have hP : va_P D vwCl [(out, .inl (cL, 1, .inr (.inl (fun _ => 0)))), (o, .inr (13, [.int 0, .ref zb, .ref fg]))] H := hP
  have hD : va_D A [(out, .inl (cL, 1, .inr (.inl (fun _ => 0)))), (o, .inr (13, [.int 0, .ref zb, .ref fg]))] := hD
  refine lv_icmp_eq (tgt := 1758) hx hb dL_law_942 (by decide) (fun _ => ?_) (fun h => absurd (by decide) h)
  refine W.widen (k := 3000) (n := 30000) (Nat.le_of_ble_eq_true rfl) (Nat.le_of_ble_eq_true rfl) ?_
  exact law_end C hS (lv_sub hl [0, 4] rfl)
set_option maxHeartbeats 4000000 in
set_option maxRecDepth 100000 in
theorem law_swim_1 {p : Program} {l : Launch} {e : Env} {s : State} {m : MethodId} {below : List Frame} {meth : Method} {c : Code} {b : Nat} {xs : Nat → Int32} {D : va_G} {cI cO cL : ClassId} {E M : Nat} {A : Nat → Prop} (C : fLC p l s m meth c b xs D cI cO cL E M A) {h f sh sp sj sc sa i1 i2 i3 tsh tsp tsj tsc tsa ti1 ti2 ti3 o zb zbp zbj zbc zba fg out : Nat} (p0 : Int32) (hs1 : (1 : Int32).toNatClampNeg = 1 ∧ xs 1 = p0) (hz : ¬ p0 = 0) {H : Heap} {locs : List Loc} {ls : Array Slot} (hP : va_P D vwCl [(h, .inr (8, [.ref f, .ref sh, .ref tsh])), (f, .inr (0, [.int 0, .ref E, .int 0])), (sh, .inr (6, [.ref sp, .ref sj, .ref sc, .ref sa, .int 0, .int 3000, .int 0, .int 0, .int 0, .int 0, .int 0, .int 0, .int 0, .int 0, .int 0])), (sp, .inr (0, [.int 0, .ref E, .int 0])), (sj, .inr (0, [.int 0, .ref E, .int 0])), (sc, .inr (0, [.int 0, .ref E, .int 0])), (sa, .inr (1, [.ref i1, .ref i2, .ref i3])), (i1, .inl (cI, 9, .inl (fun _ => 0))), (i2, .inl (cI, 9, .inl (fun _ => 0))), (i3, .inl (cI, 9, .inl (fun _ => 0))), (tsh, .inr (6, [.ref tsp, .ref tsj, .ref tsc, .ref tsa, .int 0, .int 3000, .int 0, .int 0, .int 0, .int 0, .int 0, .int 0, .int 0, .int 0, .int 0])), (tsp, .inr (0, [.int 0, .ref E, .int 0])), (tsj, .inr (0, [.int 0, .ref E, .int 0])), (tsc, .inr (0, [.int 0, .ref E, .int 0])), (tsa, .inr (1, [.ref ti1, .ref ti2, .ref ti3])), (ti1, .inl (cI, 9, .inl (fun _ => 0))), (ti2, .inl (cI, 9, .inl (fun _ => 0))), (ti3, .inl (cI, 9, .inl (fun _ => 0))), (o, .inr (13, [.int 0, .ref zb, .ref fg])), (zb, .inr (9, [.int 0, .int 3000, .int 0, .int 0, .int 0, .ref zbp, .ref zbj, .ref zbc, .ref zba, .int 0, .int 0, .int 0, .int 0, .int 0, .int 0])), (zbp, .inr (0, [.int 0, .ref E, .int 0])), (zbj, .inr (0, [.int 0, .ref E, .int 0])), (zbc, .inr (0, [.int 0, .ref E, .int 0])), (zba, .inr (0, [.int 0, .ref E, .int 0])), (fg, .inr (0, [.int 0, .ref E, .int 0])), (out, .inl (cL, 1, .inr (.inl (fun _ => 0))))] H) (hD : va_D A [(h, .inr (8, [.ref f, .ref sh, .ref tsh])), (f, .inr (0, [.int 0, .ref E, .int 0])), (sh, .inr (6, [.ref sp, .ref sj, .ref sc, .ref sa, .int 0, .int 3000, .int 0, .int 0, .int 0, .int 0, .int 0, .int 0, .int 0, .int 0, .int 0])), (sp, .inr (0, [.int 0, .ref E, .int 0])), (sj, .inr (0, [.int 0, .ref E, .int 0])), (sc, .inr (0, [.int 0, .ref E, .int 0])), (sa, .inr (1, [.ref i1, .ref i2, .ref i3])), (i1, .inl (cI, 9, .inl (fun _ => 0))), (i2, .inl (cI, 9, .inl (fun _ => 0))), (i3, .inl (cI, 9, .inl (fun _ => 0))), (tsh, .inr (6, [.ref tsp, .ref tsj, .ref tsc, .ref tsa, .int 0, .int 3000, .int 0, .int 0, .int 0, .int 0, .int 0, .int 0, .int 0, .int 0, .int 0])), (tsp, .inr (0, [.int 0, .ref E, .int 0])), (tsj, .inr (0, [.int 0, .ref E, .int 0])), (tsc, .inr (0, [.int 0, .ref E, .int 0])), (tsa, .inr (1, [.ref ti1, .ref ti2, .ref ti3])), (ti1, .inl (cI, 9, .inl (fun _ => 0))), (ti2, .inl (cI, 9, .inl (fun _ => 0))), (ti3, .inl (cI, 9, .inl (fun _ => 0))), (o, .inr (13, [.int 0, .ref zb, .ref fg])), (zb, .inr (9, [.int 0, .int 3000, .int 0, .int 0, .int 0, .ref zbp, .ref zbj, .ref zbc, .ref zba, .int 0, .int 0, .int 0, .int 0, .int 0, .int 0])), (zbp, .inr (0, [.int 0, .ref E, .int 0])), (zbj, .inr (0, [.int 0, .ref E, .int 0])), (zbc, .inr (0, [.int 0, .ref E, .int 0])), (zba, .inr (0, [.int 0, .ref E, .int 0])), (fg, .inr (0, [.int 0, .ref E, .int 0])), (out, .inl (cL, 1, .inr (.inl (fun _ => 0))))]) (hS : va_S A s.heap H locs) (hl : lv_has ls 9 [(4, .int 0), (3, .ref out), (2, .ref o), (1, .ref h), (0, .ref b)]) : W p l e room_1 s m #[Value.ref b] below meth c H locs 26 148 (lw_Z below #[Value.ref b] s) (F0 m 906 ls []) := by
  obtain ⟨hx, hb, hr, hml, hown, hts, hX, hbl, hlocks, hl9, hE, hA, hA2⟩ := id C
  have hbA : ¬ A b := fun h => absurd (hA2 b h) (Nat.not_le.mpr hbl)
  refine lv_aload_n hx hb dL_law_906 rfl (lv_at hl 3 rfl) ?_
  refine lv_aload_n hx hb dL_law_907 rfl (lv_at hl 4 rfl) ?_
  refine lv_iload hx hb dL_law_908 (lv_at hl 0 rfl) ?_
  refine lv_iconst (v := 1) hx hb dL_law_910 (by decide) ?_
  refine f_iadd (v := 1) hx hb dL_law_911 (by decide) ?_
  refine va_sld hx hb hX hbl hbA hS (by unfold vp_in; decide) dL_law_912 ?_
  refine f_topi (v := p0) (f_xs hs1) ?_
  refine lv_if_eq (tgt := 920) hx hb dL_law_913 (by decide) (fun h => absurd h hz) (fun _ => ?_)
  refine lv_iconst (v := 1) hx hb dL_law_916 (by decide) ?_
  refine lv_goto (tgt := 921) hx hb dL_law_917 (by decide) ?_
  refine f_aft_i (wr := [(o, .inr (13, [.int 0, .ref zb, .ref fg])), (zb, .inr (9, [.int 0, .int 3000, .int 0, .int 0, .int 0, .ref zbp, .ref zbj, .ref zbc, .ref zba, .int 0, .int 0, .int 0, .int 0, .int 0, .int 0])), (zbp, .inr (0, [.int 0, .ref E, .int 0])), (zbj, .inr (0, [.int 0, .ref E, .int 0])), (zbc, .inr (0, [.int 0, .ref E, .int 0])), (zba, .inr (0, [.int 0, .ref E, .int 0])), (fg, .inr (0, [.int 0, .ref E, .int 0])), (out, .inl (cL, 1, .inr (.inl (fun _ => 0))))]) (f_runV (As := [.int 1]) (rest := []) hx hb hml hown hts (kX7_swim_1 l D cI cO cL E M h f sh sp sj sc sa i1 i2 i3 tsh tsp tsj tsc tsa ti1 ti2 ti3 H.size) (fcwV 1 hts q422 q423 q424 q2 q425 rfl rfl (by decide +kernel) ⟨(Nat.le_of_ble_eq_true rfl), (Nat.le_of_ble_eq_true rfl)⟩) hE hP hD hS hA [0, 1, 2, 3, 4, 5, 6, 7, 8, 9, 10, 11, 12, 13, 14, 15, 16, 17] rfl (by decide) (q0 := 0) (ci := 8) rfl rfl rfl rfl hl.1 rfl (Nat.le_of_ble_eq_true rfl) dL_law_921 ⟨(Nat.le_of_ble_eq_true rfl), (Nat.le_of_ble_eq_true rfl)⟩) hP hD hS hA [0, 1, 2, 3, 4, 5, 6, 7, 8, 9, 10, 11, 12, 13, 14, 15, 16, 17] [18, 19, 20, 21, 22, 23, 24, 25] rfl rfl (by decide) (by decide) (fun r u H locs hr0 hP hD hS => ?_)
  subst hr0
  have hP : va_P D vwCl [(o, .inr (13, [.int 0, .ref zb, .ref fg])), (zb, .inr (9, [.int 0, .int 3000, .int 0, .int 0, .int 0, .ref zbp, .ref zbj, .ref zbc, .ref zba, .int 0, .int 0, .int 0, .int 0, .int 0, .int 0])), (zbp, .inr (0, [.int 0, .ref E, .int 0])), (zbj, .inr (0, [.int 0, .ref E, .int 0])), (zbc, .inr (0, [.int 0, .ref E, .int 0])), (zba, .inr (0, [.int 0, .ref E, .int 0])), (fg, .inr (0, [.int 0, .ref E, .int 0])), (out, .inl (cL, 1, .inr (.inl (fun _ => 0))))] H := hP
  have hD : va_D A [(o, .inr (13, [.int 0, .ref zb, .ref fg])), (zb, .inr (9, [.int 0, .int 3000, .int 0, .int 0, .int 0, .ref zbp, .ref zbj, .ref zbc, .ref zba, .int 0, .int 0, .int 0, .int 0, .int 0, .int 0])), (zbp, .inr (0, [.int 0, .ref E, .int 0])), (zbj, .inr (0, [.int 0, .ref E, .int 0])), (zbc, .inr (0, [.int 0, .ref E, .int 0])), (zba, .inr (0, [.int 0, .ref E, .int 0])), (fg, .inr (0, [.int 0, .ref E, .int 0])), (out, .inl (cL, 1, .inr (.inl (fun _ => 0))))] := hD
  refine lv_aload_n hx hb dL_law_924 rfl (lv_at hl 2 rfl) ?_
  refine lv_aload_n hx hb dL_law_925 rfl (lv_at hl 4 rfl) ?_
  refine lv_iload hx hb dL_law_926 (lv_at hl 0 rfl) ?_
  refine lv_iconst (v := 1) hx hb dL_law_928 (by decide) ?_
  refine f_iadd (v := 1) hx hb dL_law_929 (by decide) ?_
  refine va_sld hx hb hX hbl hbA hS (by unfold vp_in; decide) dL_law_930 ?_
  refine f_topi (v := p0) (f_xs hs1) ?_
  refine lv_if_eq (tgt := 938) hx hb dL_law_931 (by decide) (fun h => absurd h hz) (fun _ => ?_)
  refine lv_iconst (v := 1) hx hb dL_law_934 (by decide) ?_
  refine lv_goto (tgt := 939) hx hb dL_law_935 (by decide) ?_
  refine f_aft_i (wr := [(out, .inl (cL, 1, .inr (.inl (fun _ => 0))))]) (f_runV (As := [.int 1]) (rest := [.int 0]) hx hb hml hown hts (kX12_swim_1 l D cI cO cL E M o zb zbp zbj zbc zba fg H.size) (fcwV 1 hts q438 q439 q440 q5 q441 rfl rfl (by decide +kernel) ⟨(Nat.le_of_ble_eq_true rfl), (Nat.le_of_ble_eq_true rfl)⟩) hE hP hD hS hA [0, 1, 2, 3, 4, 5, 6] rfl (by decide) (q0 := 0) (ci := 13) rfl rfl rfl rfl hl.1 rfl (Nat.le_of_ble_eq_true rfl) dL_law_939 ⟨(Nat.le_of_ble_eq_true rfl), (Nat.le_of_ble_eq_true rfl)⟩) hP hD hS hA [0, 1, 2, 3, 4, 5, 6] [7] rfl rfl (by decide) (by decide) (fun r u H locs hr0 hP hD hS => ?_)
  subst hr0
  have hP : va_P D vwCl [(out, .inl (cL, 1, .inr (.inl (fun _ => 0)))), (o, .inr (13, [.int 0, .ref zb, .ref fg]))] H := hP
  have hD : va_D A [(out, .inl (cL, 1, .inr (.inl (fun _ => 0)))), (o, .inr (13, [.int 0, .ref zb, .ref fg]))] := hD
  refine lv_icmp_eq (tgt := 1758) hx hb dL_law_942 (by decide) (fun _ => ?_) (fun h => absurd (by decide) h)
  refine W.widen (k := 3000) (n := 30000) (Nat.le_of_ble_eq_true rfl) (Nat.le_of_ble_eq_true rfl) ?_
  exact law_end C hS (lv_sub hl [0, 4] rfl)
set_option maxHeartbeats 4000000 in
set_option maxRecDepth 100000 in
theorem law_meanHeight {p : Program} {l : Launch} {e : Env} {s : State} {m : MethodId} {below : List Frame} {meth : Method} {c : Code} {b : Nat} {xs : Nat → Int32} {D : va_G} {cI cO cL : ClassId} {E M : Nat} {A : Nat → Prop} (C : fLC p l s m meth c b xs D cI cO cL E M A) {h f sh sp sj sc sa i1 i2 i3 tsh tsp tsj tsc tsa ti1 ti2 ti3 o zb zbp zbj zbc zba fg out : Nat}    {H : Heap} {locs : List Loc} {ls : Array Slot} (hP : va_P D vwCl [(h, .inr (8, [.ref f, .ref sh, .ref tsh])), (f, .inr (0, [.int 0, .ref E, .int 0])), (sh, .inr (6, [.ref sp, .ref sj, .ref sc, .ref sa, .int 0, .int 3000, .int 0, .int 0, .int 0, .int 0, .int 0, .int 0, .int 0, .int 0, .int 0])), (sp, .inr (0, [.int 0, .ref E, .int 0])), (sj, .inr (0, [.int 0, .ref E, .int 0])), (sc, .inr (0, [.int 0, .ref E, .int 0])), (sa, .inr (1, [.ref i1, .ref i2, .ref i3])), (i1, .inl (cI, 9, .inl (fun _ => 0))), (i2, .inl (cI, 9, .inl (fun _ => 0))), (i3, .inl (cI, 9, .inl (fun _ => 0))), (tsh, .inr (6, [.ref tsp, .ref tsj, .ref tsc, .ref tsa, .int 0, .int 3000, .int 0, .int 0, .int 0, .int 0, .int 0, .int 0, .int 0, .int 0, .int 0])), (tsp, .inr (0, [.int 0, .ref E, .int 0])), (tsj, .inr (0, [.int 0, .ref E, .int 0])), (tsc, .inr (0, [.int 0, .ref E, .int 0])), (tsa, .inr (1, [.ref ti1, .ref ti2, .ref ti3])), (ti1, .inl (cI, 9, .inl (fun _ => 0))), (ti2, .inl (cI, 9, .inl (fun _ => 0))), (ti3, .inl (cI, 9, .inl (fun _ => 0))), (o, .inr (13, [.int 0, .ref zb, .ref fg])), (zb, .inr (9, [.int 0, .int 3000, .int 0, .int 0, .int 0, .ref zbp, .ref zbj, .ref zbc, .ref zba, .int 0, .int 0, .int 0, .int 0, .int 0, .int 0])), (zbp, .inr (0, [.int 0, .ref E, .int 0])), (zbj, .inr (0, [.int 0, .ref E, .int 0])), (zbc, .inr (0, [.int 0, .ref E, .int 0])), (zba, .inr (0, [.int 0, .ref E, .int 0])), (fg, .inr (0, [.int 0, .ref E, .int 0])), (out, .inl (cL, 1, .inr (.inl (fun _ => 0))))] H) (hD : va_D A [(h, .inr (8, [.ref f, .ref sh, .ref tsh])), (f, .inr (0, [.int 0, .ref E, .int 0])), (sh, .inr (6, [.ref sp, .ref sj, .ref sc, .ref sa, .int 0, .int 3000, .int 0, .int 0, .int 0, .int 0, .int 0, .int 0, .int 0, .int 0, .int 0])), (sp, .inr (0, [.int 0, .ref E, .int 0])), (sj, .inr (0, [.int 0, .ref E, .int 0])), (sc, .inr (0, [.int 0, .ref E, .int 0])), (sa, .inr (1, [.ref i1, .ref i2, .ref i3])), (i1, .inl (cI, 9, .inl (fun _ => 0))), (i2, .inl (cI, 9, .inl (fun _ => 0))), (i3, .inl (cI, 9, .inl (fun _ => 0))), (tsh, .inr (6, [.ref tsp, .ref tsj, .ref tsc, .ref tsa, .int 0, .int 3000, .int 0, .int 0, .int 0, .int 0, .int 0, .int 0, .int 0, .int 0, .int 0])), (tsp, .inr (0, [.int 0, .ref E, .int 0])), (tsj, .inr (0, [.int 0, .ref E, .int 0])), (tsc, .inr (0, [.int 0, .ref E, .int 0])), (tsa, .inr (1, [.ref ti1, .ref ti2, .ref ti3])), (ti1, .inl (cI, 9, .inl (fun _ => 0))), (ti2, .inl (cI, 9, .inl (fun _ => 0))), (ti3, .inl (cI, 9, .inl (fun _ => 0))), (o, .inr (13, [.int 0, .ref zb, .ref fg])), (zb, .inr (9, [.int 0, .int 3000, .int 0, .int 0, .int 0, .ref zbp, .ref zbj, .ref zbc, .ref zba, .int 0, .int 0, .int 0, .int 0, .int 0, .int 0])), (zbp, .inr (0, [.int 0, .ref E, .int 0])), (zbj, .inr (0, [.int 0, .ref E, .int 0])), (zbc, .inr (0, [.int 0, .ref E, .int 0])), (zba, .inr (0, [.int 0, .ref E, .int 0])), (fg, .inr (0, [.int 0, .ref E, .int 0])), (out, .inl (cL, 1, .inr (.inl (fun _ => 0))))]) (hS : va_S A s.heap H locs) (hl : lv_has ls 9 [(4, .int 0), (3, .ref out), (2, .ref o), (1, .ref h), (0, .ref b)]) : W p l e room_1 s m #[Value.ref b] below meth c H locs 26 148 (lw_Z below #[Value.ref b] s) (F0 m 1431 ls []) := by
  obtain ⟨hx, hb, hr, hml, hown, hts, hX, hbl, hlocks, hl9, hE, hA, hA2⟩ := id C
  have hbA : ¬ A b := fun h => absurd (hA2 b h) (Nat.not_le.mpr hbl)
  refine lv_aload_n hx hb dL_law_1431 rfl (lv_at hl 3 rfl) ?_
  refine f_aft_d (wr := [(o, .inr (13, [.int 0, .ref zb, .ref fg])), (zb, .inr (9, [.int 0, .int 3000, .int 0, .int 0, .int 0, .ref zbp, .ref zbj, .ref zbc, .ref zba, .int 0, .int 0, .int 0, .int 0, .int 0, .int 0])), (zbp, .inr (0, [.int 0, .ref E, .int 0])), (zbj, .inr (0, [.int 0, .ref E, .int 0])), (zbc, .inr (0, [.int 0, .ref E, .int 0])), (zba, .inr (0, [.int 0, .ref E, .int 0])), (fg, .inr (0, [.int 0, .ref E, .int 0])), (out, .inl (cL, 1, .inr (.inl (fun _ => 0))))]) (f_runV (As := []) (rest := []) hx hb hml hown hts (kX7_meanHeight_ok l D cI cO cL E M h f sh sp sj sc sa i1 i2 i3 tsh tsp tsj tsc tsa ti1 ti2 ti3 H.size) (fcwV 0 hts q953 q954 q955 q2 q956 rfl rfl (by decide +kernel) ⟨(Nat.le_of_ble_eq_true rfl), (Nat.le_of_ble_eq_true rfl)⟩) hE hP hD hS hA [0, 1, 2, 3, 4, 5, 6, 7, 8, 9, 10, 11, 12, 13, 14, 15, 16, 17] rfl (by decide) (q0 := 0) (ci := 8) rfl rfl rfl rfl hl.1 rfl (Nat.le_of_ble_eq_true rfl) dL_law_1432 ⟨(Nat.le_of_ble_eq_true rfl), (Nat.le_of_ble_eq_true rfl)⟩) hP hD hS hA [0, 1, 2, 3, 4, 5, 6, 7, 8, 9, 10, 11, 12, 13, 14, 15, 16, 17] [18, 19, 20, 21, 22, 23, 24, 25] rfl rfl (by decide) (by decide) (fun r u H locs hr0 hP hD hS => ?_)
  subst hr0
  have hP : va_P D vwCl [(o, .inr (13, [.int 0, .ref zb, .ref fg])), (zb, .inr (9, [.int 0, .int 3000, .int 0, .int 0, .int 0, .ref zbp, .ref zbj, .ref zbc, .ref zba, .int 0, .int 0, .int 0, .int 0, .int 0, .int 0])), (zbp, .inr (0, [.int 0, .ref E, .int 0])), (zbj, .inr (0, [.int 0, .ref E, .int 0])), (zbc, .inr (0, [.int 0, .ref E, .int 0])), (zba, .inr (0, [.int 0, .ref E, .int 0])), (fg, .inr (0, [.int 0, .ref E, .int 0])), (out, .inl (cL, 1, .inr (.inl (fun _ => 0))))] H := hP
  have hD : va_D A [(o, .inr (13, [.int 0, .ref zb, .ref fg])), (zb, .inr (9, [.int 0, .int 3000, .int 0, .int 0, .int 0, .ref zbp, .ref zbj, .ref zbc, .ref zba, .int 0, .int 0, .int 0, .int 0, .int 0, .int 0])), (zbp, .inr (0, [.int 0, .ref E, .int 0])), (zbj, .inr (0, [.int 0, .ref E, .int 0])), (zbc, .inr (0, [.int 0, .ref E, .int 0])), (zba, .inr (0, [.int 0, .ref E, .int 0])), (fg, .inr (0, [.int 0, .ref E, .int 0])), (out, .inl (cL, 1, .inr (.inl (fun _ => 0))))] := hD
  refine lv_dstore (lv' := [(5, .double FP.dconst0), (4, .int 0), (3, .ref out), (2, .ref o), (1, .ref h), (0, .ref b)]) hx hb dL_law_1435 hl (by decide) rfl (fun ls hl => ?_)
  refine lv_aload_n hx hb dL_law_1437 rfl (lv_at hl 3 rfl) ?_
  refine f_aft_d (wr := [(out, .inl (cL, 1, .inr (.inl (fun _ => 0))))]) (f_runV (As := []) (rest := []) hx hb hml hown hts (kX12_meanHeight l D cI cO cL E M o zb zbp zbj zbc zba fg H.size) (fcwV 0 hts q961 q962 q963 q5 q964 rfl rfl (by decide +kernel) ⟨(Nat.le_of_ble_eq_true rfl), (Nat.le_of_ble_eq_true rfl)⟩) hE hP hD hS hA [0, 1, 2, 3, 4, 5, 6] rfl (by decide) (q0 := 0) (ci := 13) rfl rfl rfl rfl hl.1 rfl (Nat.le_of_ble_eq_true rfl) dL_law_1438 ⟨(Nat.le_of_ble_eq_true rfl), (Nat.le_of_ble_eq_true rfl)⟩) hP hD hS hA [0, 1, 2, 3, 4, 5, 6] [7] rfl rfl (by decide) (by decide) (fun r u H locs hr0 hP hD hS => ?_)
  subst hr0
  have hP : va_P D vwCl [(out, .inl (cL, 1, .inr (.inl (fun _ => 0)))), (o, .inr (13, [.int 0, .ref zb, .ref fg]))] H := hP
  have hD : va_D A [(out, .inl (cL, 1, .inr (.inl (fun _ => 0)))), (o, .inr (13, [.int 0, .ref zb, .ref fg]))] := hD
  refine lv_dstore (lv' := [(7, .double FP.dconst0), (5, .double FP.dconst0), (4, .int 0), (3, .ref out), (2, .ref o), (1, .ref h), (0, .ref b)]) hx hb dL_law_1441 hl (by decide) rfl (fun ls hl => ?_)
  refine lv_dload hx hb dL_law_1443 (lv_at hl 1 rfl) ?_
  refine lv_dload hx hb dL_law_1445 (lv_at hl 0 rfl) ?_
  refine lv_dcmp hx hb dL_law_1447 ?_
  refine f_topi (v := 0) (by decide +kernel) ?_
  refine lv_if_eq (tgt := 1469) hx hb dL_law_1448 (by decide) (fun _ => ?_) (fun h => absurd (by decide) h)
  refine lv_goto (tgt := 1758) hx hb dL_law_1469 (by decide) ?_
  refine W.widen (k := 3000) (n := 30000) (Nat.le_of_ble_eq_true rfl) (Nat.le_of_ble_eq_true rfl) ?_
  exact law_end C hS (lv_sub hl [2, 6] rfl)
set_option maxHeartbeats 4000000 in
set_option maxRecDepth 100000 in
theorem law_digest {p : Program} {l : Launch} {e : Env} {s : State} {m : MethodId} {below : List Frame} {meth : Method} {c : Code} {b : Nat} {xs : Nat → Int32} {D : va_G} {cI cO cL : ClassId} {E M : Nat} {A : Nat → Prop} (C : fLC p l s m meth c b xs D cI cO cL E M A) {h f sh sp sj sc sa i1 i2 i3 tsh tsp tsj tsc tsa ti1 ti2 ti3 o zb zbp zbj zbc zba fg out : Nat}    {H : Heap} {locs : List Loc} {ls : Array Slot} (hP : va_P D vwCl [(h, .inr (8, [.ref f, .ref sh, .ref tsh])), (f, .inr (0, [.int 0, .ref E, .int 0])), (sh, .inr (6, [.ref sp, .ref sj, .ref sc, .ref sa, .int 0, .int 3000, .int 0, .int 0, .int 0, .int 0, .int 0, .int 0, .int 0, .int 0, .int 0])), (sp, .inr (0, [.int 0, .ref E, .int 0])), (sj, .inr (0, [.int 0, .ref E, .int 0])), (sc, .inr (0, [.int 0, .ref E, .int 0])), (sa, .inr (1, [.ref i1, .ref i2, .ref i3])), (i1, .inl (cI, 9, .inl (fun _ => 0))), (i2, .inl (cI, 9, .inl (fun _ => 0))), (i3, .inl (cI, 9, .inl (fun _ => 0))), (tsh, .inr (6, [.ref tsp, .ref tsj, .ref tsc, .ref tsa, .int 0, .int 3000, .int 0, .int 0, .int 0, .int 0, .int 0, .int 0, .int 0, .int 0, .int 0])), (tsp, .inr (0, [.int 0, .ref E, .int 0])), (tsj, .inr (0, [.int 0, .ref E, .int 0])), (tsc, .inr (0, [.int 0, .ref E, .int 0])), (tsa, .inr (1, [.ref ti1, .ref ti2, .ref ti3])), (ti1, .inl (cI, 9, .inl (fun _ => 0))), (ti2, .inl (cI, 9, .inl (fun _ => 0))), (ti3, .inl (cI, 9, .inl (fun _ => 0))), (o, .inr (13, [.int 0, .ref zb, .ref fg])), (zb, .inr (9, [.int 0, .int 3000, .int 0, .int 0, .int 0, .ref zbp, .ref zbj, .ref zbc, .ref zba, .int 0, .int 0, .int 0, .int 0, .int 0, .int 0])), (zbp, .inr (0, [.int 0, .ref E, .int 0])), (zbj, .inr (0, [.int 0, .ref E, .int 0])), (zbc, .inr (0, [.int 0, .ref E, .int 0])), (zba, .inr (0, [.int 0, .ref E, .int 0])), (fg, .inr (0, [.int 0, .ref E, .int 0])), (out, .inl (cL, 1, .inr (.inl (fun _ => 0))))] H) (hD : va_D A [(h, .inr (8, [.ref f, .ref sh, .ref tsh])), (f, .inr (0, [.int 0, .ref E, .int 0])), (sh, .inr (6, [.ref sp, .ref sj, .ref sc, .ref sa, .int 0, .int 3000, .int 0, .int 0, .int 0, .int 0, .int 0, .int 0, .int 0, .int 0, .int 0])), (sp, .inr (0, [.int 0, .ref E, .int 0])), (sj, .inr (0, [.int 0, .ref E, .int 0])), (sc, .inr (0, [.int 0, .ref E, .int 0])), (sa, .inr (1, [.ref i1, .ref i2, .ref i3])), (i1, .inl (cI, 9, .inl (fun _ => 0))), (i2, .inl (cI, 9, .inl (fun _ => 0))), (i3, .inl (cI, 9, .inl (fun _ => 0))), (tsh, .inr (6, [.ref tsp, .ref tsj, .ref tsc, .ref tsa, .int 0, .int 3000, .int 0, .int 0, .int 0, .int 0, .int 0, .int 0, .int 0, .int 0, .int 0])), (tsp, .inr (0, [.int 0, .ref E, .int 0])), (tsj, .inr (0, [.int 0, .ref E, .int 0])), (tsc, .inr (0, [.int 0, .ref E, .int 0])), (tsa, .inr (1, [.ref ti1, .ref ti2, .ref ti3])), (ti1, .inl (cI, 9, .inl (fun _ => 0))), (ti2, .inl (cI, 9, .inl (fun _ => 0))), (ti3, .inl (cI, 9, .inl (fun _ => 0))), (o, .inr (13, [.int 0, .ref zb, .ref fg])), (zb, .inr (9, [.int 0, .int 3000, .int 0, .int 0, .int 0, .ref zbp, .ref zbj, .ref zbc, .ref zba, .int 0, .int 0, .int 0, .int 0, .int 0, .int 0])), (zbp, .inr (0, [.int 0, .ref E, .int 0])), (zbj, .inr (0, [.int 0, .ref E, .int 0])), (zbc, .inr (0, [.int 0, .ref E, .int 0])), (zba, .inr (0, [.int 0, .ref E, .int 0])), (fg, .inr (0, [.int 0, .ref E, .int 0])), (out, .inl (cL, 1, .inr (.inl (fun _ => 0))))]) (hS : va_S A s.heap H locs) (hl : lv_has ls 9 [(4, .int 0), (3, .ref out), (2, .ref o), (1, .ref h), (0, .ref b)]) : W p l e room_1 s m #[Value.ref b] below meth c H locs 26 148 (lw_Z below #[Value.ref b] s) (F0 m 1744 ls []) := by
  obtain ⟨hx, hb, hr, hml, hown, hts, hX, hbl, hlocks, hl9, hE, hA, hA2⟩ := id C
  have hbA : ¬ A b := fun h => absurd (hA2 b h) (Nat.not_le.mpr hbl)
  refine lv_aload_n hx hb dL_law_1744 rfl (lv_at hl 3 rfl) ?_
  refine f_aft_l (wr := [(o, .inr (13, [.int 0, .ref zb, .ref fg])), (zb, .inr (9, [.int 0, .int 3000, .int 0, .int 0, .int 0, .ref zbp, .ref zbj, .ref zbc, .ref zba, .int 0, .int 0, .int 0, .int 0, .int 0, .int 0])), (zbp, .inr (0, [.int 0, .ref E, .int 0])), (zbj, .inr (0, [.int 0, .ref E, .int 0])), (zbc, .inr (0, [.int 0, .ref E, .int 0])), (zba, .inr (0, [.int 0, .ref E, .int 0])), (fg, .inr (0, [.int 0, .ref E, .int 0])), (out, .inl (cL, 1, .inr (.inl (fun _ => 0))))]) (f_runV (As := []) (rest := []) hx hb hml hown hts (kX7_digest_ok l D cI cO cL E M h f sh sp sj sc sa i1 i2 i3 tsh tsp tsj tsc tsa ti1 ti2 ti3 H.size) (fcwV 0 hts q1095 q1096 q1097 q2 q1098 rfl rfl (by decide +kernel) ⟨(Nat.le_of_ble_eq_true rfl), (Nat.le_of_ble_eq_true rfl)⟩) hE hP hD hS hA [0, 1, 2, 3, 4, 5, 6, 7, 8, 9, 10, 11, 12, 13, 14, 15, 16, 17] rfl (by decide) (q0 := 0) (ci := 8) rfl rfl rfl rfl hl.1 rfl (Nat.le_of_ble_eq_true rfl) dL_law_1745 ⟨(Nat.le_of_ble_eq_true rfl), (Nat.le_of_ble_eq_true rfl)⟩) hP hD hS hA [0, 1, 2, 3, 4, 5, 6, 7, 8, 9, 10, 11, 12, 13, 14, 15, 16, 17] [18, 19, 20, 21, 22, 23, 24, 25] rfl rfl (by decide) (by decide) (fun r u H locs hr0 hP hD hS => ?_)
  subst hr0
  have hP : va_P D vwCl [(o, .inr (13, [.int 0, .ref zb, .ref fg])), (zb, .inr (9, [.int 0, .int 3000, .int 0, .int 0, .int 0, .ref zbp, .ref zbj, .ref zbc, .ref zba, .int 0, .int 0, .int 0, .int 0, .int 0, .int 0])), (zbp, .inr (0, [.int 0, .ref E, .int 0])), (zbj, .inr (0, [.int 0, .ref E, .int 0])), (zbc, .inr (0, [.int 0, .ref E, .int 0])), (zba, .inr (0, [.int 0, .ref E, .int 0])), (fg, .inr (0, [.int 0, .ref E, .int 0])), (out, .inl (cL, 1, .inr (.inl (fun _ => 0))))] H := hP
  have hD : va_D A [(o, .inr (13, [.int 0, .ref zb, .ref fg])), (zb, .inr (9, [.int 0, .int 3000, .int 0, .int 0, .int 0, .ref zbp, .ref zbj, .ref zbc, .ref zba, .int 0, .int 0, .int 0, .int 0, .int 0, .int 0])), (zbp, .inr (0, [.int 0, .ref E, .int 0])), (zbj, .inr (0, [.int 0, .ref E, .int 0])), (zbc, .inr (0, [.int 0, .ref E, .int 0])), (zba, .inr (0, [.int 0, .ref E, .int 0])), (fg, .inr (0, [.int 0, .ref E, .int 0])), (out, .inl (cL, 1, .inr (.inl (fun _ => 0))))] := hD
  refine lv_aload_n hx hb dL_law_1748 rfl (lv_at hl 2 rfl) ?_
  refine f_aft_l (wr := [(out, .inl (cL, 1, .inr (.inl (fun _ => 0))))]) (f_runV (As := []) (rest := [.long 2996363152483717963]) hx hb hml hown hts (kX12_digest l D cI cO cL E M o zb zbp zbj zbc zba fg H.size) (fcwV 0 hts q1109 q1110 q1111 q5 q1112 rfl rfl (by decide +kernel) ⟨(Nat.le_of_ble_eq_true rfl), (Nat.le_of_ble_eq_true rfl)⟩) hE hP hD hS hA [0, 1, 2, 3, 4, 5, 6] rfl (by decide) (q0 := 0) (ci := 13) rfl rfl rfl rfl hl.1 rfl (Nat.le_of_ble_eq_true rfl) dL_law_1749 ⟨(Nat.le_of_ble_eq_true rfl), (Nat.le_of_ble_eq_true rfl)⟩) hP hD hS hA [0, 1, 2, 3, 4, 5, 6] [7] rfl rfl (by decide) (by decide) (fun r u H locs hr0 hP hD hS => ?_)
  subst hr0
  have hP : va_P D vwCl [(out, .inl (cL, 1, .inr (.inl (fun _ => 0)))), (o, .inr (13, [.int 0, .ref zb, .ref fg]))] H := hP
  have hD : va_D A [(out, .inl (cL, 1, .inr (.inl (fun _ => 0)))), (o, .inr (13, [.int 0, .ref zb, .ref fg]))] := hD
  refine W.lcmp hx hb dL_law_1752 ?_
  refine f_topi (v := 0) (f_cmp0 _) ?_
  refine lv_if_eq (tgt := 1758) hx hb dL_law_1753 (by decide) (fun _ => ?_) (fun h => absurd (by decide) h)
  refine W.widen (k := 3000) (n := 30000) (Nat.le_of_ble_eq_true rfl) (Nat.le_of_ble_eq_true rfl) ?_
  exact law_end C hS (lv_sub hl [0, 4] rfl)
