/-! WORLDS BY NAMES: a name (a number) stands for a cell: al its address, c what it holds; one writable region, all from b0 on -/
abbrev gT : Type := va_G × ClassId × ClassId × ClassId × Nat × Nat × Nat × Nat × Nat × (Nat → Int32)
abbrev gD (G : gT) : va_G := G.1
abbrev gI (G : gT) : ClassId := G.2.1
abbrev gO (G : gT) : ClassId := G.2.2.1
abbrev gZ (G : gT) : ClassId := G.2.2.2.1
abbrev gEm (G : gT) : Nat := G.2.2.2.2.1
abbrev gMi (G : gT) : Nat := G.2.2.2.2.2.1
abbrev gb (G : gT) : Nat := G.2.2.2.2.2.2.1
abbrev gSb (G : gT) : Nat := G.2.2.2.2.2.2.2.1
abbrev gSL (G : gT) : Nat := G.2.2.2.2.2.2.2.2.1
abbrev gSx (G : gT) : Nat → Int32 := G.2.2.2.2.2.2.2.2.2
abbrev gA (G : gT) : Nat → Prop := fun q => gb G ≤ q
abbrev mC : Type := Nat → Option va_E
def up (c : mC) (i : Nat) (e : va_E) : mC := fun j => if j = i then some e else c j
theorem up_s (c : mC) (i : Nat) (e : va_E) : up c i e i = some e := if_pos rfl
theorem up_n (c : mC) {i j : Nat} (e : va_E) (h : j ≠ i) : up c i e j = c j := if_neg h
theorem up_up (c : mC) (i : Nat) (e f : va_E) : up (up c i e) i f = up c i f := by
  funext j
  by_cases h : j = i
  · subst h; rw [up_s, up_s]
  · rw [up_n _ _ h, up_n _ _ h, up_n _ _ h]
theorem up_sw (c : mC) {i j : Nat} (e f : va_E) (h : i ≠ j) : up (up c j f) i e = up (up c i e) j f := by
  funext q
  by_cases h1 : q = i
  · subst h1; rw [up_s, up_n _ _ h, up_s]
  · by_cases h2 : q = j
    · subst h2; rw [up_n _ _ h1, up_s, up_s]
    · rw [up_n _ _ h1, up_n _ _ h2, up_n _ _ h2, up_n _ _ h1]
theorem up_far1 {c : mC} {i j : Nat} {e f e' : va_E} (h : i ≠ j) : up (up (up c i e) j f) i e' = up (up c i e') j f := by rw [up_sw _ _ _ h, up_up]
theorem up_far2 {c : mC} {i j k : Nat} {e f g e' : va_E} (h : i ≠ j) (h2 : i ≠ k) : up (up (up (up c i e) j f) k g) i e' = up (up (up c i e') j f) k g := by rw [up_sw _ _ _ h2, up_far1 h]
theorem up_far3 {c : mC} {i j k n : Nat} {e f g w e' : va_E} (h : i ≠ j) (h2 : i ≠ k) (h3 : i ≠ n) : up (up (up (up (up c i e) j f) k g) n w) i e' = up (up (up (up c i e') j f) k g) n w := by rw [up_sw _ _ _ h3, up_far2 h h2]
theorem up_far4 {c : mC} {i j k n r : Nat} {e f g w y e' : va_E} (h : i ≠ j) (h2 : i ≠ k) (h3 : i ≠ n) (h4 : i ≠ r) : up (up (up (up (up (up c i e) j f) k g) n w) r y) i e' = up (up (up (up (up c i e') j f) k g) n w) r y := by rw [up_sw _ _ _ h4, up_far3 h h2 h3]
theorem au_s (al : Nat → Nat) (i q : Nat) : va_up al i q i = q := if_pos rfl
theorem au_n (al : Nat → Nat) {i j : Nat} (q : Nat) (h : j ≠ i) : va_up al i q j = al j := if_neg h
/-- the world -/
def mP (G : gT) (al : Nat → Nat) (c : mC) (H : Heap) : Prop :=
  (∃ ws : va_W, va_P (gD G) vwCl ws H ∧ va_D (gA G) ws ∧ ∀ i e, c i = some e → ∃ k : Nat, ws[k]? = some (al i, e)) ∧ ∀ i j e f, c i = some e → c j = some f → al i = al j → i = j
/-- the environment of every method here: the tables, the shared empty row, the script -/
def gE (G : gT) (U : State) (H : Heap) : Prop :=
  fE (gD G) (gI G) (gO G) (gZ G) (gEm G) (gMi G) (gA G) U H ∧ va_X (gSb G) (gSL G) (gSx G) U H ∧ gSb G < H.size ∧ ¬ gA G (gSb G)
theorem gE_call {G : gT} {s U : State} {H : Heap} {locs : List Loc} (h : gE G s s.heap) (hS : va_S (gA G) s.heap H locs) (hU : U.heap = H) (hW : s.WarmedH U.vm) : gE G U U.heap := by
  obtain ⟨h1, h2, h3, h4⟩ := h
  refine ⟨fE_call h1 hS (fun _ h => h) hU hW, ?_, ?_, h4⟩
  · rw [hU]
    exact va_X.moved hW.alike (h2.kept (hS.2.1 _ h3 h4))
  · rw [hU]
    exact Nat.lt_of_lt_of_le h3 hS.1
abbrev gPre (G : gT) (al : Nat → Nat) (c : mC) (av : List Value) : Array Value → State → Prop :=
  va_Pc av (fun U => gb G ≤ U.heap.size ∧ mP G al c U.heap ∧ gE G U U.heap)
theorem gPre_blind {G : gT} {al : Nat → Nat} {c : mC} {av : List Value} : FrameBlind (gPre G al c av) := by
  intro a U g mk h
  obtain ⟨h0, h1, h2, h4⟩ := h
  exact ⟨h0, h1, h2, gE_call (s := U) (U := U.calling g mk a) (H := U.heap) h4 va_S.rf rfl (State.WarmedH.refl U)⟩
theorem m_one {G : gT} {al : Nat → Nat} {c : mC} {H : Heap} (h : mP G al c H) {i : Nat} {e : va_E} (he : c i = some e) : va_P (gD G) vwCl [(al i, e)] H := by
  obtain ⟨⟨ws, hP, -, hw⟩, -⟩ := h
  obtain ⟨k, hk⟩ := hw i e he
  intro j q hq
  have hj : j < 1 := (List.getElem?_eq_some_iff.mp hq).1
  rw [show j = 0 by omega] at hq
  cases hq
  exact hP k _ hk
theorem m_at {G : gT} {al : Nat → Nat} {c : mC} {H : Heap} (h : mP G al c H) {i : Nat} {e : va_E} (he : c i = some e) : va_at (gD G) vwCl (al i, e) H := m_one h he 0 _ rfl
theorem m_lt {G : gT} {al : Nat → Nat} {c : mC} {H : Heap} (h : mP G al c H) {i : Nat} {e : va_E} (he : c i = some e) : al i < H.size := (m_at h he).lt
theorem m_ne {G : gT} {al : Nat → Nat} {c : mC} {H : Heap} (h : mP G al c H) {i j : Nat} {e f : va_E} (he : c i = some e) (hf : c j = some f) (hn : i ≠ j) : al i ≠ al j := fun q => hn (h.2 i j e f he hf q)
theorem m_cv {G : gT} {al : Nat → Nat} {c c' : mC} {H : Heap} (h : mP G al c H) (e : c = c') : mP G al c' H := e ▸ h
theorem m_cv2 {G : gT} {al al' : Nat → Nat} {c c' : mC} {H : Heap} (h : mP G al c H) (hc : ∀ i e, c' i = some e → c i = some e) (ha : ∀ i e, c' i = some e → al' i = al i) : mP G al' c' H := by
  obtain ⟨⟨ws, hP, hD, hw⟩, hi⟩ := h
  refine ⟨⟨ws, hP, hD, fun i e he => ?_⟩, fun i j e f he hf q => ?_⟩
  · rw [ha i e he]; exact hw i e (hc i e he)
  · rw [ha i e he, ha j f hf] at q
    exact hi i j e f (hc i e he) (hc j f hf) q
theorem m_kept {G : gT} {al : Nat → Nat} {c : mC} {H H1 : Heap} (h : mP G al c H) (hq : ∀ q : Nat, q < H.size → H1[q]? = H[q]?) : mP G al c H1 := by
  obtain ⟨⟨ws, hP, hD, hw⟩, hi⟩ := h
  exact ⟨⟨ws, hP.kept (fun k x hx => hq x.1 ((hP k x hx).lt)), hD, hw⟩, hi⟩
/-- a cell of the world has been written -/
theorem m_set {G : gT} {al : Nat → Nat} {c : mC} {H1 : Heap} {ws : va_W} (hD : va_D (gA G) ws) (hw : ∀ i e, c i = some e → ∃ k : Nat, ws[k]? = some (al i, e)) (hi : ∀ i j e f, c i = some e → c j = some f → al i = al j → i = j) {i k : Nat} {e e' : va_E} (he : c i = some e) (hk : ws[k]? = some (al i, e)) (hP1 : va_P (gD G) vwCl (ws.set k (al i, e')) H1) (hD1 : va_D (gA G) (ws.set k (al i, e'))) : mP G al (up c i e') H1 := by
  have hlen : k < ws.length := (List.getElem?_eq_some_iff.mp hk).1
  refine ⟨⟨_, hP1, hD1, fun j f hf => ?_⟩, fun j j2 f f2 hf hf2 q => ?_⟩
  · by_cases hj : j = i
    · subst hj
      rw [up_s] at hf
      cases hf
      exact ⟨k, by rw [List.getElem?_set_self hlen]⟩
    · rw [up_n _ _ hj] at hf
      obtain ⟨k2, hk2⟩ := hw j f hf
      have hne : k ≠ k2 := by
        intro h
        subst h
        rw [hk] at hk2
        have h3 : al i = al j := congrArg Prod.fst (Option.some.inj hk2)
        exact hj (hi j i f e hf he h3.symm)
      exact ⟨k2, by rw [List.getElem?_set_ne hne]; exact hk2⟩
  · have ex : ∀ j f, up c i e' j = some f → ∃ f', c j = some f' := by
      intro j f hf
      by_cases hj : j = i
      · subst hj; exact ⟨e, he⟩
      · rw [up_n _ _ hj] at hf; exact ⟨f, hf⟩
    obtain ⟨g1, h1⟩ := ex j f hf
    obtain ⟨g2, h2⟩ := ex j2 f2 hf2
    exact hi j j2 g1 g2 h1 h2 q
/-- a cell has been made: it takes the name i (whatever that named before) -/
theorem m_push {G : gT} {al : Nat → Nat} {c : mC} {H H1 : Heap} {ws : va_W} (hP : va_P (gD G) vwCl ws H) (hw : ∀ i e, c i = some e → ∃ k : Nat, ws[k]? = some (al i, e)) (hi : ∀ i j e f, c i = some e → c j = some f → al i = al j → i = j) (i : Nat) {q : Nat} {e : va_E} (hP1 : va_P (gD G) vwCl (ws ++ [(q, e)]) H1) (hD1 : va_D (gA G) (ws ++ [(q, e)])) : mP G (va_up al i q) (up c i e) H1 := by
  have hap : ∀ j f, c j = some f → al j ≠ q := by
    intro j f hf h
    obtain ⟨k, hk⟩ := hw j f hf
    have hl : k < ws.length := (List.getElem?_eq_some_iff.mp hk).1
    have h1 : (ws ++ [(q, e)])[k]? = some (al j, f) := by rw [List.getElem?_append_left hl]; exact hk
    have h2 : (ws ++ [(q, e)])[ws.length]? = some (q, e) := by rw [List.getElem?_append_right (Nat.le_refl _)]; simp
    have := hD1.1 k ws.length _ _ h1 h2 h
    omega
  refine ⟨⟨_, hP1, hD1, fun j f hf => ?_⟩, fun j j2 f f2 hf hf2 h => ?_⟩
  · by_cases hj : j = i
    · subst hj
      rw [up_s] at hf
      cases hf
      exact ⟨ws.length, by rw [au_s, List.getElem?_append_right (Nat.le_refl _)]; simp⟩
    · rw [up_n _ _ hj] at hf
      obtain ⟨k, hk⟩ := hw j f hf
      exact ⟨k, by rw [au_n _ _ hj, List.getElem?_append_left (List.getElem?_eq_some_iff.mp hk).1]; exact hk⟩
  · by_cases hj : j = i
    · by_cases hj2 : j2 = i
      · rw [hj, hj2]
      · rw [up_n _ _ hj2] at hf2
        subst hj
        rw [au_s, au_n _ _ hj2] at h
        exact absurd h.symm (hap j2 f2 hf2)
    · rw [up_n _ _ hj] at hf
      by_cases hj2 : j2 = i
      · subst hj2
        rw [au_s, au_n _ _ hj] at h
        exact absurd h (hap j f hf)
      · rw [up_n _ _ hj2] at hf2
        rw [au_n _ _ hj, au_n _ _ hj2] at h
        exact hi j j2 f f2 hf hf2 h
section MK
variable {p : Program} {l : Launch} {e : Env} {R : Room} {s : State} {m : MethodId} {args : Array Value} {below : List Frame} {meth : Method} {c0 : Code} {H : Heap} {locs : List Loc} {cells slots : Nat} {Q : State → Prop}
variable {G : gT} {al : Nat → Nat} {c : mC} {pc a : Nat} {ls : Array Slot} {st rest : List Value}
variable {own C : String} {index n nL : Nat} {y : MethodName} {cc cy : ByteArray} {ny : Nat} {ret : Option FieldType} {rm : Room} {mc ms : Nat} {b : Nat} {As : List Value} {Qc : Array Value → State → Outcome → State → Prop}
theorem m_get (hexec : p.tables.exec = Jvm.exec) (hb : c0.code = cc) {ref : String} {T : u_T} {N ci : Nat} {Ts : List Cond} (hts : ∀ w ∈ Ts, w.before args s = true) (hin : ∀ w ∈ u_ws C T N, w ∈ Ts) (hown : s.vm.findClass own = some m.cls) (hE : gE G s s.heap) (hP : mP G al c H) (i : Nat) (ha : al i = a) {fs : List Value} (he : c i = some (.inr (ci, fs))) (hc : vwCl[ci]? = some (C, T, N)) (k : Nat) (hk : k < N) (hlink : (Cond.fieldLink own index ref (T k).2.1 (T k).2.2.1).before args s = true) (hsame : ∀ x, s.fieldFound? (T k).1 (T k).2.1 (T k).2.2.1 = some x → s.fieldFound? ref (T k).2.1 (T k).2.2.1 = some x) {v : Value} (hv : fs[k]? = some v) (hdg : decode cc pc = .ok (.getfield index, 3))
    (kk : W p l e R s m args below meth c0 H locs cells slots Q (F0 m (pc + 3) ls (v :: rest))) : W p l e R s m args below meth c0 H locs cells slots Q (F0 m pc ls (.ref a :: rest)) := by
  subst ha
  exact va_get hexec hb hts hin hown hE.1.1.1 (m_one hP he) 0 rfl hc k hk hlink hsame hv hdg kk
theorem m_put (hexec : p.tables.exec = Jvm.exec) (hb : c0.code = cc) {ref : String} {T : u_T} {N ci : Nat} {Ts : List Cond} (hts : ∀ w ∈ Ts, w.before args s = true) (hin : ∀ w ∈ u_ws C T N, w ∈ Ts) (ty0 : Nat → FieldType) (hty : ∀ k, k < N → parseFieldDescriptor (T k).2.2.1 = some (ty0 k)) (hnm : ∀ a, a < N → ∀ b, b < N → a ≠ b → (T a).2.1 ≠ (T b).2.1) (hown : s.vm.findClass own = some m.cls) (hE : gE G s s.heap) (hP : mP G al c H) (hS : va_S (gA G) s.heap H locs) (i : Nat) (ha : al i = a) {fs : List Value} (he : c i = some (.inr (ci, fs))) (hc : vwCl[ci]? = some (C, T, N)) (k : Nat) (hk : k < N) (hlink : (Cond.fieldLink own index ref (T k).2.1 (T k).2.2.1).before args s = true) (hsame : ∀ x, s.fieldFound? (T k).1 (T k).2.1 (T k).2.2.1 = some x → s.fieldFound? ref (T k).2.1 (T k).2.2.1 = some x) (hfin : (T k).2.2.2 = false) {ty : FieldType} {v : Value} (hd : parseFieldDescriptor (T k).2.2.1 = some ty) (hn : narrow ty v = v) (hfit : fits ty v = true) (hl : k < fs.length)
    (hdg : decode cc pc = .ok (.putfield index, 3)) (kk : ∀ (H1 : Heap) (locs1 : List Loc), mP G al (up c i (.inr (ci, fs.set k v))) H1 → va_S (gA G) s.heap H1 locs1 → W p l e R s m args below meth c0 H1 locs1 cells slots Q (F0 m (pc + 3) ls rest)) : W p l e R s m args below meth c0 H locs cells slots Q (F0 m pc ls (v :: .ref a :: rest)) := by
  subst ha
  obtain ⟨⟨ws, h1, h2, h3⟩, h4⟩ := hP
  obtain ⟨q0, hq0⟩ := h3 i _ he
  exact va_put hexec hb hts hin ty0 hty hnm hown hE.1.1.1 h1 h2 hS q0 hq0 hc k hk hlink hsame hfin hd hn hfit hl hdg (fun H1 locs1 g1 g2 g3 => kk H1 locs1 (m_set h2 h3 h4 he hq0 g1 g2) g3)
theorem m_putF (hexec : p.tables.exec = Jvm.exec) (hb : c0.code = cc) {ref : String} {T : u_T} {N ci : Nat} {Ts : List Cond} (hts : ∀ w ∈ Ts, w.before args s = true) (hin : ∀ w ∈ u_ws C T N, w ∈ Ts) (ty0 : Nat → FieldType) (hty : ∀ k, k < N → parseFieldDescriptor (T k).2.2.1 = some (ty0 k)) (hnm : ∀ a, a < N → ∀ b, b < N → a ≠ b → (T a).2.1 ≠ (T b).2.1) (hown : s.vm.findClass own = some m.cls) (hE : gE G s s.heap) (hP : mP G al c H) (hS : va_S (gA G) s.heap H locs) (i : Nat) (ha : al i = a) {fs : List Value} (he : c i = some (.inr (ci, fs))) (hc : vwCl[ci]? = some (C, T, N)) (k : Nat) (hk : k < N) (hlink : (Cond.fieldLink own index ref (T k).2.1 (T k).2.2.1).before args s = true) (hsame : ∀ x, s.fieldFound? (T k).1 (T k).2.1 (T k).2.2.1 = some x → s.fieldFound? ref (T k).2.1 (T k).2.2.1 = some x) (hfin : (T k).2.2.2 = true) (hin2 : meth.name = "<init>") (hdecl : (T k).1 = own) {ty : FieldType} {v : Value} (hd : parseFieldDescriptor (T k).2.2.1 = some ty) (hn : narrow ty v = v) (hfit : fits ty v = true) (hl : k < fs.length)
    (hdg : decode cc pc = .ok (.putfield index, 3)) (kk : ∀ (H1 : Heap) (locs1 : List Loc), mP G al (up c i (.inr (ci, fs.set k v))) H1 → va_S (gA G) s.heap H1 locs1 → W p l e R s m args below meth c0 H1 locs1 cells slots Q (F0 m (pc + 3) ls rest)) : W p l e R s m args below meth c0 H locs cells slots Q (F0 m pc ls (v :: .ref a :: rest)) := by
  subst ha
  obtain ⟨⟨ws, h1, h2, h3⟩, h4⟩ := hP
  obtain ⟨q0, hq0⟩ := h3 i _ he
  exact va_putF hexec hb hts hin ty0 hty hnm hown hE.1.1.1 h1 h2 hS q0 hq0 hc k hk hlink hsame hfin hin2 hdecl hd hn hfit hl hdg (fun H1 locs1 g1 g2 g3 => kk H1 locs1 (m_set h2 h3 h4 he hq0 g1 g2) g3)
theorem m_iald (hexec : p.tables.exec = Jvm.exec) (hb : c0.code = cc) (hE : gE G s s.heap) (hP : mP G al c H) (i : Nat) (ha : al i = a) {N : Nat} {f : Nat → Int32} (he : c i = some (.inl (gI G, N, .inl f))) {x : Int32} (hin : vp_in x N) (hdg : decode cc pc = .ok (.iaload, 1))
    (kk : W p l e R s m args below meth c0 H locs cells slots Q (F0 m (pc + 1) ls (.int (f x.toNatClampNeg) :: rest))) : W p l e R s m args below meth c0 H locs cells slots Q (F0 m pc ls (.int x :: .ref a :: rest)) := by
  subst ha
  exact va_iald hexec hb hE.1.1.1 (m_one hP he) 0 0 rfl rfl hin hdg kk
theorem m_zald (hexec : p.tables.exec = Jvm.exec) (hb : c0.code = cc) (hE : gE G s s.heap) (hP : mP G al c H) (i : Nat) (ha : al i = a) {N : Nat} {f : Nat → Int32} (he : c i = some (.inl (gZ G, N, .inl f))) {x : Int32} (hin : vp_in x N) (hdg : decode cc pc = .ok (.baload, 1))
    (kk : W p l e R s m args below meth c0 H locs cells slots Q (F0 m (pc + 1) ls (.int (f x.toNatClampNeg) :: rest))) : W p l e R s m args below meth c0 H locs cells slots Q (F0 m pc ls (.int x :: .ref a :: rest)) := by
  subst ha
  exact va_zald hexec hb hE.1.1.1 (m_one hP he) 0 2 rfl rfl hin hdg kk
theorem m_iast (hexec : p.tables.exec = Jvm.exec) (hb : c0.code = cc) (hE : gE G s s.heap) (hP : mP G al c H) (hS : va_S (gA G) s.heap H locs) (i : Nat) (ha : al i = a) {N : Nat} {f : Nat → Int32} (he : c i = some (.inl (gI G, N, .inl f))) {x v : Int32} (hin : vp_in x N) (hdg : decode cc pc = .ok (.iastore, 1))
    (kk : ∀ (H1 : Heap) (locs1 : List Loc), mP G al (up c i (.inl (gI G, N, .inl (upd f x.toNatClampNeg v)))) H1 → va_S (gA G) s.heap H1 locs1 → W p l e R s m args below meth c0 H1 locs1 cells slots Q (F0 m (pc + 1) ls rest)) : W p l e R s m args below meth c0 H locs cells slots Q (F0 m pc ls (.int v :: .int x :: .ref a :: rest)) := by
  subst ha
  obtain ⟨⟨ws, h1, h2, h3⟩, h4⟩ := hP
  obtain ⟨q0, hq0⟩ := h3 i _ he
  exact va_iast hexec hb hE.1.1.1 h1 h2 hS q0 0 hq0 rfl hin hdg (fun H1 locs1 g1 g2 g3 => kk H1 locs1 (m_set h2 h3 h4 he hq0 g1 g2) g3)
theorem m_zast (hexec : p.tables.exec = Jvm.exec) (hb : c0.code = cc) (hE : gE G s s.heap) (hP : mP G al c H) (hS : va_S (gA G) s.heap H locs) (i : Nat) (ha : al i = a) {N : Nat} {f : Nat → Int32} (he : c i = some (.inl (gZ G, N, .inl f))) {x v : Int32} (hin : vp_in x N) (hdg : decode cc pc = .ok (.bastore, 1))
    (kk : ∀ (H1 : Heap) (locs1 : List Loc), mP G al (up c i (.inl (gZ G, N, .inl (upd f x.toNatClampNeg (vp_nar .boolean v))))) H1 → va_S (gA G) s.heap H1 locs1 → W p l e R s m args below meth c0 H1 locs1 cells slots Q (F0 m (pc + 1) ls rest)) : W p l e R s m args below meth c0 H locs cells slots Q (F0 m pc ls (.int v :: .int x :: .ref a :: rest)) := by
  subst ha
  obtain ⟨⟨ws, h1, h2, h3⟩, h4⟩ := hP
  obtain ⟨q0, hq0⟩ := h3 i _ he
  exact va_zast hexec hb hE.1.1.1 h1 h2 hS q0 2 hq0 rfl hin hdg (fun H1 locs1 g1 g2 g3 => kk H1 locs1 (m_set h2 h3 h4 he hq0 g1 g2) g3)
theorem m_aald (hexec : p.tables.exec = Jvm.exec) (hb : c0.code = cc) (hE : gE G s s.heap) (hP : mP G al c H) (i : Nat) (ha : al i = a) {N : Nat} {f : Nat → Option Nat} (he : c i = some (.inl (gO G, N, .inr (.inr (.inr (.inr f)))))) {x : Int32} (hin : vp_in x N) {v : Nat} (hv : f x.toNatClampNeg = some v) (hdg : decode cc pc = .ok (.aaload, 1))
    (kk : W p l e R s m args below meth c0 H locs cells slots Q (F0 m (pc + 1) ls (.ref v :: rest))) : W p l e R s m args below meth c0 H locs cells slots Q (F0 m pc ls (.int x :: .ref a :: rest)) := by
  subst ha
  refine va_aldq hexec hb hE.1.1.1 (m_one hP he) 0 1 rfl rfl hin hdg ?_
  rw [hv]
  exact kk
theorem m_aast (hexec : p.tables.exec = Jvm.exec) (hb : c0.code = cc) (hE : gE G s s.heap) (hP : mP G al c H) (hS : va_S (gA G) s.heap H locs) (i : Nat) (ha : al i = a) {N : Nat} {f : Nat → Option Nat} (he : c i = some (.inl (gO G, N, .inr (.inr (.inr (.inr f)))))) (j : Nat) {v : Nat} (hv : al j = v) {ci : Nat} {vs : List Value} {r : vw_C} (hj : c j = some (.inr (ci, vs))) (hr : vwCl[ci]? = some r) (hro : r.1 ∈ fObj) {x : Int32} (hin : vp_in x N) (hdg : decode cc pc = .ok (.aastore, 1))
    (kk : ∀ (H1 : Heap) (locs1 : List Loc), mP G al (up c i (.inl (gO G, N, .inr (.inr (.inr (.inr (va_up f x.toNatClampNeg (some v)))))))) H1 → va_S (gA G) s.heap H1 locs1 → W p l e R s m args below meth c0 H1 locs1 cells slots Q (F0 m (pc + 1) ls rest)) : W p l e R s m args below meth c0 H locs cells slots Q (F0 m pc ls (.ref v :: .int x :: .ref a :: rest)) := by
  subst ha
  subst hv
  obtain ⟨⟨ws, h1, h2, h3⟩, h4⟩ := hP
  obtain ⟨q0, hq0⟩ := h3 i _ he
  obtain ⟨qj, hqj⟩ := h3 j _ hj
  exact va_astqO hexec hb hE.1.1.1 h1 h2 hS q0 1 qj ci hq0 rfl (hE.1.1.2.2.2.2.2 _ hro) hqj hr hin hdg (fun H1 locs1 g1 g2 g3 => kk H1 locs1 (m_set h2 h3 h4 he hq0 g1 g2) g3)
theorem m_alen (hexec : p.tables.exec = Jvm.exec) (hb : c0.code = cc) (hE : gE G s s.heap) (hP : mP G al c H) (i : Nat) (ha : al i = a) {N : Nat} {f : Nat → Option Nat} (he : c i = some (.inl (gO G, N, .inr (.inr (.inr (.inr f)))))) (hdg : decode cc pc = .ok (.arraylength, 1))
    (kk : W p l e R s m args below meth c0 H locs cells slots Q (F0 m (pc + 1) ls (.int (nI N) :: rest))) : W p l e R s m args below meth c0 H locs cells slots Q (F0 m pc ls (.ref a :: rest)) := by
  subst ha
  exact va_alen hexec hb hE.1.1.1 (m_one hP he) 0 1 rfl rfl rfl hdg kk
/-- a new object, named i -/
theorem m_new (i : Nat) (hexec : p.tables.exec = Jvm.exec) (hb : c0.code = cc) {T : u_T} {N ci : Nat} {Ts : List Cond} (hts : ∀ w ∈ Ts, w.before args s = true) (hin : ∀ w ∈ u_ws C T N, w ∈ Ts) (ty : Nat → FieldType) (hty : ∀ k, k < N → parseFieldDescriptor (T k).2.2.1 = some (ty k)) (hown : s.vm.findClass own = some m.cls) (hcl : (Cond.classLink own index C).before args s = true) (hinst : (Cond.instantiable C N).before args s = true) (hini : (Cond.initialized C).before args s = true)
    (hE : gE G s s.heap) (hb0 : gb G ≤ s.heap.size) (hP : mP G al c H) (hS : va_S (gA G) s.heap H locs) (hc : vwCl[ci]? = some (C, T, N)) {fs : List Value} (hfs : ∀ j, j < N → defaultValue (ty j) = vp_V fs j) (hcells : cells + 1 ≤ R.cells) (hslots : slots + N ≤ R.slots) (hdg : decode cc pc = .ok (.new index, 3))
    (kk : ∀ (q : Nat) (H1 : Heap), mP G (va_up al i q) (up c i (.inr (ci, fs))) H1 → va_S (gA G) s.heap H1 locs →
      W p l e R s m args below meth c0 H1 locs (cells + 1) (slots + N) Q (F0 m (pc + 3) ls (.ref q :: rest))) : W p l e R s m args below meth c0 H locs cells slots Q (F0 m pc ls rest) := by
  obtain ⟨⟨ws, h1, h2, h3⟩, h4⟩ := hP
  exact va_new hexec hb hts hin ty hty hown hcl hinst hini hE.1.1.1 h1 h2 hS (fun q h => Nat.le_trans hb0 h) hc hfs hcells hslots hdg (fun q H1 g1 g2 g3 => kk q H1 (m_push h1 h3 h4 i g1 g2) g3)
/-- a new row of ints, or of booleans -/
theorem m_newI (i : Nat) (hexec : p.tables.exec = Jvm.exec) (hb : c0.code = cc) (harr : (Cond.arrayClass .int).before args s = true) (hE : gE G s s.heap) (hb0 : gb G ≤ s.heap.size) (hP : mP G al c H) (hS : va_S (gA G) s.heap H locs)
    {x : Int32} {N : Nat} (hn : ¬ x < 0) (hN : x.toNatClampNeg = N) (hbytes : N * 4 ≤ 536870912) (hcells : cells + 1 ≤ R.cells) (hslots : slots + N ≤ R.slots) (hdg : decode cc pc = .ok (.newarray .int, 2))
    (kk : ∀ (q : Nat) (H1 : Heap), mP G (va_up al i q) (up c i (.inl (gI G, N, .inl (fun _ => 0)))) H1 → va_S (gA G) s.heap H1 locs →
      W p l e R s m args below meth c0 H1 locs (cells + 1) (slots + N) Q (F0 m (pc + 2) ls (.ref q :: rest))) : W p l e R s m args below meth c0 H locs cells slots Q (F0 m pc ls (.int x :: rest)) := by
  obtain ⟨⟨ws, h1, h2, h3⟩, h4⟩ := hP
  refine va_newa (atype := .int) (a0 := (N, .inl (fun _ => 0))) (N' := N) hexec hb harr rfl hE.1.1.1 h1 h2 hS (fun q h => Nat.le_trans hb0 h) (fun _ => rfl) hn hN hbytes hcells hslots hdg (fun q cA H1 hK9 g1 g2 g3 => ?_)
  obtain rfl : gI G = cA := f_sameC hK9 (i := 0) (j := 3) rfl rfl (fun C h => by cases h)
  exact kk q H1 (m_push h1 h3 h4 i g1 g2) g3
theorem m_newZ (i : Nat) (hexec : p.tables.exec = Jvm.exec) (hb : c0.code = cc) (harr : (Cond.arrayClass .boolean).before args s = true) (hE : gE G s s.heap) (hb0 : gb G ≤ s.heap.size) (hP : mP G al c H) (hS : va_S (gA G) s.heap H locs)
    {x : Int32} {N : Nat} (hn : ¬ x < 0) (hN : x.toNatClampNeg = N) (hbytes : N * 1 ≤ 536870912) (hcells : cells + 1 ≤ R.cells) (hslots : slots + N ≤ R.slots) (hdg : decode cc pc = .ok (.newarray .boolean, 2))
    (kk : ∀ (q : Nat) (H1 : Heap), mP G (va_up al i q) (up c i (.inl (gZ G, N, .inl (fun _ => 0)))) H1 → va_S (gA G) s.heap H1 locs →
      W p l e R s m args below meth c0 H1 locs (cells + 1) (slots + N) Q (F0 m (pc + 2) ls (.ref q :: rest))) : W p l e R s m args below meth c0 H locs cells slots Q (F0 m pc ls (.int x :: rest)) := by
  obtain ⟨⟨ws, h1, h2, h3⟩, h4⟩ := hP
  refine va_newa (atype := .boolean) (a0 := (N, .inl (fun _ => 0))) (N' := N) hexec hb harr rfl hE.1.1.1 h1 h2 hS (fun q h => Nat.le_trans hb0 h) (fun _ => rfl) hn hN hbytes hcells hslots hdg (fun q cA H1 hK9 g1 g2 g3 => ?_)
  obtain rfl : gZ G = cA := f_sameC hK9 (i := 2) (j := 3) rfl rfl (fun C h => by cases h)
  exact kk q H1 (m_push h1 h3 h4 i g1 g2) g3
theorem m_newQ (i : Nat) (hexec : p.tables.exec = Jvm.exec) (hb : c0.code = cc) (hown : s.vm.findClass own = some m.cls) (hcl : (Cond.classLink own index "java/lang/Object").before args s = true) (hE : gE G s s.heap) (hb0 : gb G ≤ s.heap.size) (hP : mP G al c H) (hS : va_S (gA G) s.heap H locs)
    {x : Int32} {N : Nat} (hn : ¬ x < 0) (hN : x.toNatClampNeg = N) (hbytes : N * 4 ≤ 536870912) (hcells : cells + 1 ≤ R.cells) (hslots : slots + N ≤ R.slots) (hdg : decode cc pc = .ok (.anewarray index, 3))
    (kk : ∀ (q : Nat) (H1 : Heap), mP G (va_up al i q) (up c i (.inl (gO G, N, .inr (.inr (.inr (.inr (fun _ => none))))))) H1 → va_S (gA G) s.heap H1 locs →
      W p l e R s m args below meth c0 H1 locs (cells + 1) (slots + N) Q (F0 m (pc + 3) ls (.ref q :: rest))) : W p l e R s m args below meth c0 H locs cells slots Q (F0 m pc ls (.int x :: rest)) := by
  obtain ⟨⟨ws, h1, h2, h3⟩, h4⟩ := hP
  refine va_newq (N' := N) (C := "java/lang/Object") hexec hb hown hcl hE.1.1.2.2.2.1 hE.1.1.1 h1 h2 hS (fun q h => Nat.le_trans hb0 h) hn hN hbytes hcells hslots hdg (fun q cA H1 hK9 g1 g2 g3 => ?_)
  obtain rfl : gO G = cA := f_sameO hK9 (i := 1) (j := 3) rfl rfl
  exact kk q H1 (m_push h1 h3 h4 i g1 g2) g3
/-- the class of an object that is asked of the machine -/
theorem m_recv (hE : gE G s s.heap) (hP : mP G al c H) (i : Nat) {fs : List Value} {ci : Nat} (he : c i = some (.inr (ci, fs))) {q : vw_C} (hc : vwCl[ci]? = some q) : ∃ cell : Cell, H[al i]? = some cell ∧ cell.vm.isStatics = false ∧ s.vm.findClass q.1 = some cell.cls := va_recv hE.1.1.1 (m_one hP he) hc (q0 := 0) rfl
theorem m_recvA (hE : gE G s s.heap) (hP : mP G al c H) (i : Nat) (ha : al i = a) {fs : List Value} {ci : Nat} (he : c i = some (.inr (ci, fs))) {T : u_T} {N : Nat} (hc : vwCl[ci]? = some (C, T, N)) : ∃ cell : Cell, H[a]? = some cell ∧ cell.vm.isStatics = false ∧ s.vm.findClass C = some cell.cls := by
  subst ha
  exact m_recv hE hP i he hc
theorem g_topr {x v : Nat} (hv : x = v) (k : W p l e R s m args below meth c0 H locs cells slots Q (F0 m pc ls (.ref v :: rest))) : W p l e R s m args below meth c0 H locs cells slots Q (F0 m pc ls (.ref x :: rest)) := by subst hv; exact k
theorem m_cast (hexec : p.tables.exec = Jvm.exec) (hb : c0.code = cc) {nm : String} (hown : s.vm.findClass own = some m.cls) (hlink : (Cond.classLink own index nm).before args s = true) (hE : gE G s s.heap) (hP : mP G al c H) (i : Nat) (ha : al i = a) {fs : List Value} {ci : Nat} (he : c i = some (.inr (ci, fs))) {T : u_T} {N : Nat} (hc : vwCl[ci]? = some (nm, T, N)) (hdg : decode cc pc = .ok (.checkcast index, 3))
    (k : W p l e R s m args below meth c0 H locs cells slots Q (F0 m (pc + 3) ls (.ref a :: rest))) : W p l e R s m args below meth c0 H locs cells slots Q (F0 m pc ls (.ref a :: rest)) := by
  subst ha
  exact va_castS hexec hb hown hlink (hE.1.1.1.1 ci _ hc).2 (m_recv hE hP i he hc) hdg k
/-- references of two of the world's cells -/
theorem m_acmp_ne (hx : p.tables.exec = Jvm.exec) (hb : c0.code = cc) {a1 a2 : Nat} {off : Int} {tgt : Nat} (hdg : decode cc pc = .ok (.if_acmp .ne off, 3)) (ht : (pc : Int) + off = (tgt : Int)) {i j : Nat} (hP : mP G al c H) {e1 e2 : va_E} (h1 : c i = some e1) (h2 : c j = some e2) (ha1 : al i = a1) (ha2 : al j = a2)
    (kt : i ≠ j → W p l e R s m args below meth c0 H locs cells slots Q (F0 m tgt ls rest)) (kf : i = j → W p l e R s m args below meth c0 H locs cells slots Q (F0 m (pc + 3) ls rest)) : W p l e R s m args below meth c0 H locs cells slots Q (F0 m pc ls (.ref a2 :: .ref a1 :: rest)) := by
  subst ha1
  subst ha2
  refine lv_acmp_ne (rx := some (al i)) (ry := some (al j)) hx hb hdg ht (fun h => kt (fun q => h (by rw [q]))) (fun h => kf ?_)
  exact hP.2 i j e1 e2 h1 h2 (Option.some.inj h)
/-- the runs of calls: the whole world goes along -/
theorem g_hp (hE : gE G s s.heap) (hb0 : gb G ≤ s.heap.size) (hP : mP G al c H) (hS : va_S (gA G) s.heap H locs) : ∀ U : State, U.heap = H → s.WarmedH U.vm → gPre G al c As As.toArray U := fun U hU hW => ⟨rfl, by rw [hU]; exact Nat.le_trans hb0 hS.1, by rw [hU]; exact hP, gE_call hE hS hU hW⟩
theorem g_runV (hx : p.tables.exec = Jvm.exec) (hb : c0.code = cc) (hml : c0.maxLocals = nL) (hown : s.vm.findClass own = some m.cls) (hts : ∀ w ∈ fA, w.before args s = true)
    (hM : Met l y (fW y cy ny ret) rm (gPre G al c (.ref b :: As)) Qc mc ms (gA G)) (cw : CallW R s args own C index y cy ny ret (fW y cy ny ret) rm mc ms n)
    (hE : gE G s s.heap) (hb0 : gb G ≤ s.heap.size) (hP : mP G al c H) (hS : va_S (gA G) s.heap H locs) (hr : ∃ cell : Cell, H[b]? = some cell ∧ cell.vm.isStatics = false ∧ s.vm.findClass C = some cell.cls)
    (hn : As.length = n) (hsize : ls.size = nL) (hstack : st = As.reverse ++ .ref b :: rest) (hW : (rest.map fun v => v.category).sum ≤ 8) (hdg : decode cc pc = .ok (.invokevirtual index, 3)) (hf : cells + mc ≤ R.cells ∧ slots + ms ≤ R.slots) :
    va_Run p l e R s m args below meth c0 H locs cells slots mc ms (F0 m pc ls st) rest (Qc (Value.ref b :: As).toArray) (gA G) := by
  exact va_runV ⟨hx, hb, hml, hown, hts⟩ hM cw ⟨gPre_blind, hr, g_hp hE hb0 hP hS⟩ rfl hn hsize hstack (lv_room hW) hdg hf
theorem g_runS (hx : p.tables.exec = Jvm.exec) (hb : c0.code = cc) (hml : c0.maxLocals = nL) (hown : s.vm.findClass own = some m.cls) (hts : ∀ w ∈ fA, w.before args s = true)
    (hM : Met l y (fW y cy ny ret) rm (gPre G al c As) Qc mc ms (gA G)) (cw : CallB R s args own index y cy ny ret (fW y cy ny ret) rm mc ms n ∧ (Cond.static y).before args s = true)
    (hE : gE G s s.heap) (hb0 : gb G ≤ s.heap.size) (hP : mP G al c H) (hS : va_S (gA G) s.heap H locs)
    (hn : As.length = n) (hsize : ls.size = nL) (hstack : st = As.reverse ++ rest) (hW : (rest.map fun v => v.category).sum ≤ 8) (hdg : decode cc pc = .ok (.invokestatic index, 3)) (hf : cells + mc ≤ R.cells ∧ slots + ms ≤ R.slots) :
    va_Run p l e R s m args below meth c0 H locs cells slots mc ms (F0 m pc ls st) rest (Qc As.toArray) (gA G) :=
  va_runS ⟨hx, hb, hml, hown, hts⟩ hM cw ⟨gPre_blind, g_hp hE hb0 hP hS⟩ rfl hn hsize hstack (lv_room hW) hdg hf
theorem g_runSN {host : String} (hx : p.tables.exec = Jvm.exec) (hb : c0.code = cc) (hml : c0.maxLocals = nL) (hown : s.vm.findClass own = some m.cls) (hts : ∀ w ∈ fA, w.before args s = true)
    (hM : Met l y (fW y cy ny ret) rm (gPre G al c As) Qc mc ms (gA G)) (cw : va_CN R s args own index y host cy ny ret (fW y cy ny ret) rm mc ms n ∧ (Cond.static y).before args s = true ∧ True)
    (hE : gE G s s.heap) (hb0 : gb G ≤ s.heap.size) (hP : mP G al c H) (hS : va_S (gA G) s.heap H locs)
    (hn : As.length = n) (hsize : ls.size = nL) (hstack : st = As.reverse ++ rest) (hW : (rest.map fun v => v.category).sum ≤ 8) (hdg : decode cc pc = .ok (.invokestatic index, 3)) (hf : cells + mc ≤ R.cells ∧ slots + ms ≤ R.slots) :
    va_Run p l e R s m args below meth c0 H locs cells slots mc ms (F0 m pc ls st) rest (Qc As.toArray) (gA G) :=
  va_runSN ⟨hx, hb, hml, hown, hts⟩ hM cw ⟨gPre_blind, g_hp hE hb0 hP hS⟩ rfl hn hsize hstack (lv_room hW) hdg hf
theorem g_runI (hx : p.tables.exec = Jvm.exec) (hb : c0.code = cc) (hml : c0.maxLocals = nL) (hown : s.vm.findClass own = some m.cls) (hts : ∀ w ∈ fA, w.before args s = true)
    (hM : Met l y (fW y cy ny none) rm (gPre G al c (.ref b :: As)) Qc mc ms (gA G)) (cw : CallB R s args own index y cy ny none (fW y cy ny none) rm mc ms n ∧ y.name = "<init>" ∧ (Cond.instanceMethod y).before args s = true)
    (hE : gE G s s.heap) (hb0 : gb G ≤ s.heap.size) (hP : mP G al c H) (hS : va_S (gA G) s.heap H locs)
    (hn : As.length = n) (hsize : ls.size = nL) (hstack : st = As.reverse ++ .ref b :: rest) (hW : (rest.map fun v => v.category).sum ≤ 8) (hdg : decode cc pc = .ok (.invokespecial index, 3)) (hf : cells + mc ≤ R.cells ∧ slots + ms ≤ R.slots) :
    va_Run p l e R s m args below meth c0 H locs cells slots mc ms (F0 m pc ls st) rest (Qc (Value.ref b :: As).toArray) (gA G) :=
  va_runI ⟨hx, hb, hml, hown, hts⟩ hM cw ⟨gPre_blind, g_hp hE hb0 hP hS⟩ rfl hn hsize hstack (lv_room hW) hdg hf
theorem g_runIN {host : String} (hx : p.tables.exec = Jvm.exec) (hb : c0.code = cc) (hml : c0.maxLocals = nL) (hown : s.vm.findClass own = some m.cls) (hts : ∀ w ∈ fA, w.before args s = true)
    (hM : Met l y (fW y cy ny none) rm (gPre G al c (.ref b :: As)) Qc mc ms (gA G)) (cw : va_CN R s args own index y host cy ny none (fW y cy ny none) rm mc ms n ∧ y.name = "<init>" ∧ (Cond.instanceMethod y).before args s = true)
    (hE : gE G s s.heap) (hb0 : gb G ≤ s.heap.size) (hP : mP G al c H) (hS : va_S (gA G) s.heap H locs)
    (hn : As.length = n) (hsize : ls.size = nL) (hstack : st = As.reverse ++ .ref b :: rest) (hW : (rest.map fun v => v.category).sum ≤ 8) (hdg : decode cc pc = .ok (.invokespecial index, 3)) (hf : cells + mc ≤ R.cells ∧ slots + ms ≤ R.slots) :
    va_Run p l e R s m args below meth c0 H locs cells slots mc ms (F0 m pc ls st) rest (Qc (Value.ref b :: As).toArray) (gA G) :=
  va_runIN ⟨hx, hb, hml, hown, hts⟩ hM cw ⟨gPre_blind, g_hp hE hb0 hP hS⟩ rfl hn hsize hstack (lv_room hW) hdg hf
/-- an end: the answer is r u, the names stand for ad u, the world is w u -/
abbrev gB {S : Type} (G : gT) (ad : S → Nat → Nat) (w : S → mC) : S → State → Prop := fun u t => mP G (ad u) (w u) t.heap
abbrev gQv {S : Type} (G : gT) (ad : S → Nat → Nat) (w : S → mC) : Array Value → State → Outcome → State → Prop := va_Qv (fun _ : S => True) (gB G ad w) (gA G)
abbrev gQi {S : Type} (G : gT) (r : S → Int32) (ad : S → Nat → Nat) (w : S → mC) : Array Value → State → Outcome → State → Prop := va_Qi (fun (x : Int32) (u : S) => x = r u) (gB G ad w) (gA G)
abbrev gQl {S : Type} (G : gT) (r : S → Int64) (ad : S → Nat → Nat) (w : S → mC) : Array Value → State → Outcome → State → Prop := va_Ql (fun (x : Int64) (u : S) => x = r u) (gB G ad w) (gA G)
abbrev gQd {S : Type} (G : gT) (r : S → UInt64) (ad : S → Nat → Nat) (w : S → mC) : Array Value → State → Outcome → State → Prop := va_Qd (fun (x : UInt64) (u : S) => x = r u) (gB G ad w) (gA G)
abbrev gQr {S : Type} (G : gT) (r : S → Nat) (ad : S → Nat → Nat) (w : S → mC) : Array Value → State → Outcome → State → Prop := va_Qr (fun _ : S => True) (fun (u : S) (x : Nat) (t : State) => x = r u ∧ mP G (ad u) (w u) t.heap) (gA G)
abbrev gQvp {S : Type} (G : gT) (post : S → Prop) (ad : S → Nat → Nat) (w : S → mC) : Array Value → State → Outcome → State → Prop := va_Qv post (gB G ad w) (gA G)
abbrev gQip {S : Type} (G : gT) (post : S → Prop) (r : S → Int32) (ad : S → Nat → Nat) (w : S → mC) : Array Value → State → Outcome → State → Prop := va_Qi (fun (x : Int32) (u : S) => x = r u ∧ post u) (gB G ad w) (gA G)
abbrev gQrp {S : Type} (G : gT) (post : S → Prop) (r : S → Nat) (ad : S → Nat → Nat) (w : S → mC) : Array Value → State → Outcome → State → Prop := va_Qr post (fun (u : S) (x : Nat) (t : State) => x = r u ∧ mP G (ad u) (w u) t.heap) (gA G)
variable {S : Type} {ad : S → Nat → Nat} {w : S → mC} {ar : Array Value}
theorem g_aft_vp {post : S → Prop} (hr : va_Run p l e R s m args below meth c0 H locs cells slots mc ms (F0 m pc ls st) rest (gQvp G post ad w ar) (gA G)) (hS : va_S (gA G) s.heap H locs)
    (kk : ∀ (u : S) (H1 : Heap) (locs1 : List Loc), post u → mP G (ad u) (w u) H1 → va_S (gA G) s.heap H1 locs1 → W p l e R s m args below meth c0 H1 locs1 (cells + mc) (slots + ms) Q (F0 m (pc + 3) ls rest)) :
    W p l e R s m args below meth c0 H locs cells slots Q (F0 m pc ls st) := by
  refine va_callv hr hS (fun q _ h => h) (fun q h => h) (fun u t H1 locs1 ht _ hp hB _ hk1 hS1 => ?_)
  exact kk u H1 locs1 hp (ht ▸ hB) hS1
theorem g_aft_ip {post : S → Prop} {r : S → Int32} (hr : va_Run p l e R s m args below meth c0 H locs cells slots mc ms (F0 m pc ls st) rest (gQip G post r ad w ar) (gA G)) (hS : va_S (gA G) s.heap H locs)
    (kk : ∀ (u : S) (H1 : Heap) (locs1 : List Loc), post u → mP G (ad u) (w u) H1 → va_S (gA G) s.heap H1 locs1 → W p l e R s m args below meth c0 H1 locs1 (cells + mc) (slots + ms) Q (F0 m (pc + 3) ls (.int (r u) :: rest))) :
    W p l e R s m args below meth c0 H locs cells slots Q (F0 m pc ls st) := by
  refine va_calli hr hS (fun q _ h => h) (fun q h => h) (fun x u t H1 locs1 ht _ hp hB _ hk1 hS1 => ?_)
  obtain ⟨rfl, hp⟩ := hp
  exact kk u H1 locs1 hp (ht ▸ hB) hS1
theorem g_aft_rp {post : S → Prop} {r : S → Nat} (hr : va_Run p l e R s m args below meth c0 H locs cells slots mc ms (F0 m pc ls st) rest (gQrp G post r ad w ar) (gA G)) (hS : va_S (gA G) s.heap H locs)
    (kk : ∀ (u : S) (H1 : Heap) (locs1 : List Loc), post u → mP G (ad u) (w u) H1 → va_S (gA G) s.heap H1 locs1 → W p l e R s m args below meth c0 H1 locs1 (cells + mc) (slots + ms) Q (F0 m (pc + 3) ls (.ref (r u) :: rest))) :
    W p l e R s m args below meth c0 H locs cells slots Q (F0 m pc ls st) := by
  refine va_callr hr hS (fun q _ h => h) (fun q h => h) (fun u x t H1 locs1 ht _ hp hB _ hk1 hS1 => ?_)
  obtain ⟨rfl, hB⟩ := hB
  exact kk u H1 locs1 hp (ht ▸ hB) hS1
theorem g_aft_v (hr : va_Run p l e R s m args below meth c0 H locs cells slots mc ms (F0 m pc ls st) rest (gQv G ad w ar) (gA G)) (hS : va_S (gA G) s.heap H locs)
    (kk : ∀ (u : S) (H1 : Heap) (locs1 : List Loc), mP G (ad u) (w u) H1 → va_S (gA G) s.heap H1 locs1 → W p l e R s m args below meth c0 H1 locs1 (cells + mc) (slots + ms) Q (F0 m (pc + 3) ls rest)) :
    W p l e R s m args below meth c0 H locs cells slots Q (F0 m pc ls st) := by
  refine va_callv hr hS (fun q _ h => h) (fun q h => h) (fun u t H1 locs1 ht _ hp hB _ hk1 hS1 => ?_)
  exact kk u H1 locs1 (ht ▸ hB) hS1
theorem g_aft_i {r : S → Int32} (hr : va_Run p l e R s m args below meth c0 H locs cells slots mc ms (F0 m pc ls st) rest (gQi G r ad w ar) (gA G)) (hS : va_S (gA G) s.heap H locs)
    (kk : ∀ (u : S) (H1 : Heap) (locs1 : List Loc), mP G (ad u) (w u) H1 → va_S (gA G) s.heap H1 locs1 → W p l e R s m args below meth c0 H1 locs1 (cells + mc) (slots + ms) Q (F0 m (pc + 3) ls (.int (r u) :: rest))) :
    W p l e R s m args below meth c0 H locs cells slots Q (F0 m pc ls st) := by
  refine va_calli hr hS (fun q _ h => h) (fun q h => h) (fun x u t H1 locs1 ht _ hp hB _ hk1 hS1 => ?_)
  subst hp
  exact kk u H1 locs1 (ht ▸ hB) hS1
theorem g_aft_l {r : S → Int64} (hr : va_Run p l e R s m args below meth c0 H locs cells slots mc ms (F0 m pc ls st) rest (gQl G r ad w ar) (gA G)) (hS : va_S (gA G) s.heap H locs)
    (kk : ∀ (u : S) (H1 : Heap) (locs1 : List Loc), mP G (ad u) (w u) H1 → va_S (gA G) s.heap H1 locs1 → W p l e R s m args below meth c0 H1 locs1 (cells + mc) (slots + ms) Q (F0 m (pc + 3) ls (.long (r u) :: rest))) :
    W p l e R s m args below meth c0 H locs cells slots Q (F0 m pc ls st) := by
  refine va_calll hr hS (fun q _ h => h) (fun q h => h) (fun x u t H1 locs1 ht _ hp hB _ hk1 hS1 => ?_)
  subst hp
  exact kk u H1 locs1 (ht ▸ hB) hS1
theorem g_aft_d {r : S → UInt64} (hr : va_Run p l e R s m args below meth c0 H locs cells slots mc ms (F0 m pc ls st) rest (gQd G r ad w ar) (gA G)) (hS : va_S (gA G) s.heap H locs)
    (kk : ∀ (u : S) (H1 : Heap) (locs1 : List Loc), mP G (ad u) (w u) H1 → va_S (gA G) s.heap H1 locs1 → W p l e R s m args below meth c0 H1 locs1 (cells + mc) (slots + ms) Q (F0 m (pc + 3) ls (.double (r u) :: rest))) :
    W p l e R s m args below meth c0 H locs cells slots Q (F0 m pc ls st) := by
  refine va_calld hr hS (fun q _ h => h) (fun q h => h) (fun x u t H1 locs1 ht _ hp hB _ hk1 hS1 => ?_)
  subst hp
  exact kk u H1 locs1 (ht ▸ hB) hS1
theorem g_aft_r {r : S → Nat} (hr : va_Run p l e R s m args below meth c0 H locs cells slots mc ms (F0 m pc ls st) rest (gQr G r ad w ar) (gA G)) (hS : va_S (gA G) s.heap H locs)
    (kk : ∀ (u : S) (H1 : Heap) (locs1 : List Loc), mP G (ad u) (w u) H1 → va_S (gA G) s.heap H1 locs1 → W p l e R s m args below meth c0 H1 locs1 (cells + mc) (slots + ms) Q (F0 m (pc + 3) ls (.ref (r u) :: rest))) :
    W p l e R s m args below meth c0 H locs cells slots Q (F0 m pc ls st) := by
  refine va_callr hr hS (fun q _ h => h) (fun q h => h) (fun u x t H1 locs1 ht _ hp hB _ hk1 hS1 => ?_)
  obtain ⟨rfl, hB⟩ := hB
  exact kk u H1 locs1 (ht ▸ hB) hS1
theorem g_start {g : JFrame} (hP : mP G al c s.heap) (k : ∀ H : Heap, mP G al c H → va_S (gA G) s.heap H [] → W p l e R s m args below meth c0 H [] 0 0 Q g) : W p l e R s m args below meth c0 s.heap [] 0 0 Q g := k s.heap hP va_S.rf
/-- a loop that counts: before the i-th round the names are named as ever, the world is Wi i, the locals Li i -/
theorem g_loop {N head : Nat} {Wi : Nat → mC} {Li : Nat → List (Nat × Value)} (h0 : mP G al (Wi 0) H) (hS0 : va_S (gA G) s.heap H locs) (hl0 : lv_has ls nL (Li 0))
    (step : ∀ i : Nat, i ≤ N → (i < N → ∀ (H : Heap) (locs : List Loc) (ls : Array Slot), mP G al (Wi (i + 1)) H → va_S (gA G) s.heap H locs → lv_has ls nL (Li (i + 1)) → W p l e R s m args below meth c0 H locs cells slots Q (F0 m head ls rest)) →
      ∀ (H : Heap) (locs : List Loc) (ls : Array Slot), mP G al (Wi i) H → va_S (gA G) s.heap H locs → lv_has ls nL (Li i) → W p l e R s m args below meth c0 H locs cells slots Q (F0 m head ls rest)) :
    W p l e R s m args below meth c0 H locs cells slots Q (F0 m head ls rest) := by
  have key : ∀ (n i : Nat), i ≤ N → N + 1 ≤ i + n → ∀ (H : Heap) (locs : List Loc) (ls : Array Slot), mP G al (Wi i) H → va_S (gA G) s.heap H locs → lv_has ls nL (Li i) → W p l e R s m args below meth c0 H locs cells slots Q (F0 m head ls rest) := by
    intro n
    induction n with
    | zero => intro i h1 h2; exact absurd h2 (by omega)
    | succ n ih => intro i h1 h2; exact step i h1 (fun h3 => ih (i + 1) (by omega) (by omega))
  exact key (N + 1) 0 (Nat.zero_le _) (by omega) H locs ls h0 hS0 hl0
end MK
theorem g_end {G : gT} {al : Nat → Nat} {c : mC} {H : Heap} {t : State} (h : t.heap = H) (hP : mP G al c H) : mP G al c t.heap := by rw [h]; exact hP
