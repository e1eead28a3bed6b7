/-! THE LAW'S OWN ROWS BESIDE THE TWO SHOWS: names from 400 on -/
section LX
variable {G : gT} {al al' : Nat → Nat} {k : gC} {h : gK} {c c' : mC} {g t : St}
theorem w2_hi {i : Nat} (hJ : k.1 ≤ 8) (hi : 300 ≤ i) : w2 G al k c g t i = c i := (ov_c (by omega) (by omega) (by omega)).trans (ov_c (by omega) (by omega) (by omega))
theorem ov_al {B : Nat} (hB : B ≤ 300) (hJ : k.1 ≤ 8) (hp : ∀ j, j < k.1 → k.2.1 j < 2) (ha : ∀ i, i < 400 → al' i = al i) : ov G al' k B c g = ov G al k B c g := by
  funext i
  unfold ov cShow cJet
  rw [ha (B + 1) (by omega), ha (B + 3) (by omega), ha (B + 5) (by omega), ha (B + 7) (by omega)]
  by_cases e0 : i = B
  · rw [if_pos e0, if_pos e0]
  · rw [if_neg e0, if_neg e0]
    by_cases h1 : B + 8 ≤ i ∧ i < B + 11
    · rw [if_pos h1, if_pos h1]
    · rw [if_neg h1, if_neg h1]
      by_cases h2 : B + 11 ≤ i ∧ i < B + 13
      · rw [if_pos h2, if_pos h2]
      · rw [if_neg h2, if_neg h2]
        by_cases h3 : B + 20 ≤ i ∧ i < B + 20 + k.1
        · rw [if_pos h3, if_pos h3, ha _ (by have := hp (i - (B + 20)) (by omega); omega)]
        · rw [if_neg h3, if_neg h3]
theorem w2_al (hJ : k.1 ≤ 8) (hp : ∀ j, j < k.1 → k.2.1 j < 2) (ha : ∀ i, i < 400 → al' i = al i) : w2 G al' k c g t = w2 G al k c g t := by
  unfold w2
  rw [ov_al (B := 100) (by decide) hJ hp ha, ov_al (B := 200) (by decide) hJ hp ha]
theorem w2_up {n : Nat} {e : va_E} (hJ : k.1 ≤ 8) (hn : 400 ≤ n) : up (w2 G al k c g t) n e = w2 G al k (up c n e) g t := by
  funext i
  by_cases hi : i = n
  · subst hi; rw [up_s, w2_hi hJ (by omega), up_s]
  · rw [up_n _ _ hi]
    by_cases h3 : 300 ≤ i
    · rw [w2_hi hJ h3, w2_hi hJ h3, up_n _ _ hi]
    · unfold w2 ov
      rw [up_n _ _ hi]
theorem gF_al {B : Nat} (hF : gF G al k B c) (hB : B ≤ 200) (ha : ∀ i, i < 400 → al' i = al i) (hc : ∀ i, i < 400 → c' i = c i) : gF G al' k B c' := by
  have hF' : gF G al k B c' := gF_cv hF (fun i h1 h2 => hc i (by omega))
  obtain ⟨f1, f2, f3, f4, f5⟩ := hF'
  refine ⟨gLs_al f1 (ha _ (by omega)) (fun i hi => ha _ (by show B + 11 + i < 400; omega)), gLs_al f2 (ha _ (by omega)) (fun i hi => ha _ (by show B + 20 + i < 400; omega)), ?_, f4, f5⟩
  rw [ha (B + 8) (by omega), ha (B + 9) (by omega), ha (B + 10) (by omega)]
  exact f3
theorem gH_al {B : Nat} (hH : gH G al B h c) (hB : B ≤ 200) (ha : ∀ i, i < 400 → al' i = al i) (hc : ∀ i, i < 400 → c' i = c i) : gH G al' B h c' := by
  have hH' : gH G al B h c' := gH_cv hH (hc _ (by omega)) (hc _ (by omega)) (fun i hi => hc i (by omega)) (fun i h1 h2 => hc i (by omega))
  obtain ⟨h1, h2, h3, h4⟩ := hH'
  refine ⟨gLs_al h1 (ha _ (by omega)) (fun i hi => ha _ (by show 300 + 3 * i < 400; omega)), h2, fun i hi => ?_, h4⟩
  obtain ⟨e1, e2, e3, e4⟩ := h3 i hi
  exact ⟨e1, e2, by rw [ha (300 + 3 * i + 1) (by omega)]; exact e3, gLs_al e4 (ha _ (by omega)) (fun s hs => ha _ (by show 20 + (3 * h.2.1 i + s) < 400; omega))⟩
theorem gX_al (hX : gX G al k h c) (ha : ∀ i, i < 400 → al' i = al i) (hc : ∀ i, i < 400 → c' i = c i) (h9 : c' 999 = none) : gX G al' k h c' := by
  obtain ⟨x0, x1, x2, x3, x4, x5, x6, x7⟩ := hX
  refine ⟨?_, gF_al x1 (by decide) ha hc, gF_al x2 (by decide) ha hc, gH_al x3 (by decide) ha hc, gH_al x4 (by decide) ha hc, gLs_al (gLs_cv x5 (hc _ (by decide)) (hc _ (by decide))) (ha _ (by decide)) (fun i hi => ha _ (by show 10 + i < 400; omega)), fun f hf => ?_, h9⟩
  · rw [hc 0 (by decide), ha 1 (by decide), ha 100 (by decide), ha 200 (by decide)]; exact x0
  · obtain ⟨y1, y2⟩ := x6 f hf
    exact ⟨by rw [hc _ (by omega), ha (12 + f) (by omega)]; exact y1, gLs_al (gLs_cv y2 (hc _ (by omega)) (hc _ (by omega))) (ha _ (by omega)) (fun s hs => ha _ (by show 20 + (3 * f + s) < 400; omega))⟩
theorem gX_up (hX : gX G al k h c) {n q : Nat} {e : va_E} (hn : 400 ≤ n) (h9 : n ≠ 999) : gX G (va_up al n q) k h (up c n e) :=
  gX_al hX (fun i hi => au_n _ _ (by omega)) (fun i hi => up_n _ _ (by omega)) ((up_n _ _ (fun q => h9 q.symm)).trans hX.2.2.2.2.2.2.2)
theorem gX_uc (hX : gX G al k h c) {n : Nat} {e : va_E} (hn : 400 ≤ n) (h9 : n ≠ 999) : gX G al k h (up c n e) :=
  gX_al hX (fun i hi => rfl) (fun i hi => up_n _ _ (by omega)) ((up_n _ _ (fun q => h9 q.symm)).trans hX.2.2.2.2.2.2.2)
variable {p : Program} {l : Launch} {e : Env} {R : Room} {s : State} {m : MethodId} {args : Array Value} {below : List Frame} {meth : Method} {c0 : Code} {H : Heap} {locs : List Loc} {cells slots : Nat} {Q : State → Prop} {pc a : Nat} {ls : Array Slot} {rest : List Value} {cc : ByteArray}
theorem mX_newI (n : Nat) (hn9 : 400 ≤ n) (hn8 : n ≠ 999) (hX : gX G al k h c) (hexec : p.tables.exec = Jvm.exec) (hb : c0.code = cc) (harr : (Cond.arrayClass .int).before args s = true) (hE : gE G s s.heap) (hb0 : gb G ≤ s.heap.size) (hP : mP G al (w2 G al k c g t) H) (hS : va_S (gA G) s.heap H locs)
    {x : Int32} {N : Nat} (hn : ¬ x < 0) (hN : x.toNatClampNeg = N) (hbytes : N * 4 ≤ 536870912) (hcells : cells + 1 ≤ R.cells) (hslots : slots + N ≤ R.slots) (hdg : decode cc pc = .ok (.newarray .int, 2))
    (kk : ∀ (q : Nat) (al' : Nat → Nat) (c' : mC) (H1 : Heap), al' n = q → (∀ i, i ≠ n → al' i = al i) → c' n = some (.inl (gI G, N, .inl (fun _ => 0))) → (∀ i, i ≠ n → c' i = c i) → gX G al' k h c' → mP G al' (w2 G al' k c' g t) H1 → va_S (gA G) s.heap H1 locs →
      W p l e R s m args below meth c0 H1 locs (cells + 1) (slots + N) Q (F0 m (pc + 2) ls (.ref q :: rest))) : W p l e R s m args below meth c0 H locs cells slots Q (F0 m pc ls (.int x :: rest)) :=
  m_newI n hexec hb harr hE hb0 hP hS hn hN hbytes hcells hslots hdg (fun q H1 h1 h2 => kk q (va_up al n q) (up c n _) H1 (au_s _ _ _) (fun i hi => au_n _ _ hi) (up_s _ _ _) (fun i hi => up_n _ _ hi) (gX_up hX hn9 hn8) (m_cv h1 (by
    rw [w2_up (gX_J hX) hn9]
    exact (w2_al (gX_J hX) hX.2.1.2.2.2.2 (fun i hi => au_n _ _ (by omega))).symm)) h2)
theorem mX_newZ (n : Nat) (hn9 : 400 ≤ n) (hn8 : n ≠ 999) (hX : gX G al k h c) (hexec : p.tables.exec = Jvm.exec) (hb : c0.code = cc) (harr : (Cond.arrayClass .boolean).before args s = true) (hE : gE G s s.heap) (hb0 : gb G ≤ s.heap.size) (hP : mP G al (w2 G al k c g t) H) (hS : va_S (gA G) s.heap H locs)
    {x : Int32} {N : Nat} (hn : ¬ x < 0) (hN : x.toNatClampNeg = N) (hbytes : N * 1 ≤ 536870912) (hcells : cells + 1 ≤ R.cells) (hslots : slots + N ≤ R.slots) (hdg : decode cc pc = .ok (.newarray .boolean, 2))
    (kk : ∀ (q : Nat) (al' : Nat → Nat) (c' : mC) (H1 : Heap), al' n = q → (∀ i, i ≠ n → al' i = al i) → c' n = some (.inl (gZ G, N, .inl (fun _ => 0))) → (∀ i, i ≠ n → c' i = c i) → gX G al' k h c' → mP G al' (w2 G al' k c' g t) H1 → va_S (gA G) s.heap H1 locs →
      W p l e R s m args below meth c0 H1 locs (cells + 1) (slots + N) Q (F0 m (pc + 2) ls (.ref q :: rest))) : W p l e R s m args below meth c0 H locs cells slots Q (F0 m pc ls (.int x :: rest)) :=
  m_newZ n hexec hb harr hE hb0 hP hS hn hN hbytes hcells hslots hdg (fun q H1 h1 h2 => kk q (va_up al n q) (up c n _) H1 (au_s _ _ _) (fun i hi => au_n _ _ hi) (up_s _ _ _) (fun i hi => up_n _ _ hi) (gX_up hX hn9 hn8) (m_cv h1 (by
    rw [w2_up (gX_J hX) hn9]
    exact (w2_al (gX_J hX) hX.2.1.2.2.2.2 (fun i hi => au_n _ _ (by omega))).symm)) h2)
theorem mX_iast (n : Nat) (hn9 : 400 ≤ n) (hn8 : n ≠ 999) (hX : gX G al k h c) (hexec : p.tables.exec = Jvm.exec) (hb : c0.code = cc) (hE : gE G s s.heap) (hP : mP G al (w2 G al k c g t) H) (hS : va_S (gA G) s.heap H locs) (ha : al n = a) {N : Nat} {f : Nat → Int32} (he : c n = some (.inl (gI G, N, .inl f))) {x v : Int32} (hin : vp_in x N) {x' : Nat} (hx' : x.toNatClampNeg = x') (hdg : decode cc pc = .ok (.iastore, 1))
    (kk : ∀ (c' : mC) (H1 : Heap) (locs1 : List Loc), c' n = some (.inl (gI G, N, .inl (upd f x' v))) → (∀ i, i ≠ n → c' i = c i) → gX G al k h c' → mP G al (w2 G al k c' g t) H1 → va_S (gA G) s.heap H1 locs1 → W p l e R s m args below meth c0 H1 locs1 cells slots Q (F0 m (pc + 1) ls rest)) : W p l e R s m args below meth c0 H locs cells slots Q (F0 m pc ls (.int v :: .int x :: .ref a :: rest)) := by
  subst hx'
  exact m_iast hexec hb hE hP hS n ha ((w2_hi (gX_J hX) (by omega)).trans he) hin hdg (fun H1 locs1 h1 h2 => kk (up c n _) H1 locs1 (up_s _ _ _) (fun i hi => up_n _ _ hi) (gX_uc hX hn9 hn8) (m_cv h1 (w2_up (gX_J hX) hn9)) h2)
theorem mX_zast (n : Nat) (hn9 : 400 ≤ n) (hn8 : n ≠ 999) (hX : gX G al k h c) (hexec : p.tables.exec = Jvm.exec) (hb : c0.code = cc) (hE : gE G s s.heap) (hP : mP G al (w2 G al k c g t) H) (hS : va_S (gA G) s.heap H locs) (ha : al n = a) {N : Nat} {f : Nat → Int32} (he : c n = some (.inl (gZ G, N, .inl f))) {x v : Int32} (hin : vp_in x N) {x' : Nat} (hx' : x.toNatClampNeg = x') (hdg : decode cc pc = .ok (.bastore, 1))
    (kk : ∀ (c' : mC) (H1 : Heap) (locs1 : List Loc), c' n = some (.inl (gZ G, N, .inl (upd f x' (vp_nar .boolean v)))) → (∀ i, i ≠ n → c' i = c i) → gX G al k h c' → mP G al (w2 G al k c' g t) H1 → va_S (gA G) s.heap H1 locs1 → W p l e R s m args below meth c0 H1 locs1 cells slots Q (F0 m (pc + 1) ls rest)) : W p l e R s m args below meth c0 H locs cells slots Q (F0 m pc ls (.int v :: .int x :: .ref a :: rest)) := by
  subst hx'
  exact m_zast hexec hb hE hP hS n ha ((w2_hi (gX_J hX) (by omega)).trans he) hin hdg (fun H1 locs1 h1 h2 => kk (up c n _) H1 locs1 (up_s _ _ _) (fun i hi => up_n _ _ hi) (gX_uc hX hn9 hn8) (m_cv h1 (w2_up (gX_J hX) hn9)) h2)
end LX
/-- a call: what the law's helpers answer -/
def bel (v : Int32) (n : Nat) : Nat := (v &&& 2147483647).toNatClampNeg % n
theorem bel_lt (v : Int32) {n : Nat} (h : 0 < n) : bel v n < n := Nat.mod_lt _ h
theorem and_pos (v : Int32) : 0 ≤ (v &&& 2147483647).toInt := by
  rw [i_ms]
  have : (v &&& 2147483647).toBitVec = v.toBitVec &&& (2147483647 : Int32).toBitVec := rfl
  rw [this, BitVec.msb_and, show (2147483647 : Int32).toBitVec.msb = false from by decide, Bool.and_false]
theorem bel_e (v : Int32) {n : Nat} (h0 : 0 < n) (hn : n < 2 ^ 31) : (v &&& 2147483647) - (v &&& 2147483647) / nI n * nI n = nI (bel v n) := by
  have h1 := and_pos v
  have h2 := i_hi (v &&& 2147483647)
  obtain ⟨x, hx⟩ : ∃ x : Nat, x = (v &&& 2147483647).toNatClampNeg := ⟨_, rfl⟩
  have h3 : (v &&& 2147483647) = nI x := by
    refine i_eq.mpr ?_
    have hc : (v &&& 2147483647).toNatClampNeg = (v &&& 2147483647).toInt.toNat := rfl
    rw [nI_toInt (by omega), hx, hc]
    omega
  unfold bel
  rw [← hx, h3]
  exact pk_rem (by rw [hx]; exact Int32.toNatClampNeg_lt _) h0 hn
def sCell (G : gT) (n : Nat) : Int32 := if gSL G ≤ n then 790386105 * (nI n + 3) else gSx G n
