/-! MY ROWS: one list of words for all methods; what a world stands in (fE); contracts over listed cells, calls of them -/
abbrev fT (cI cO cL : ClassId) : List (ClassId × FieldType) := [(cI, .int), (cO, .object "java/lang/Object"), (cL, .boolean)]
def fNest : List (String × Nat × MethodName × String) := [(RX7, 18, yX5_init, RX7), (RX5, 26, yX0_init, RX7), (RX7, 73, yX2_init, RX7), (RX5, 216, yX7_pressureBy, RX7), (RX5, 230, yX7_heightBy, RX7), (RX5, 159, yX7_airTime, RX7), (RX4, 26, yX7_nearer, RX7), (RX3, 35, yX7_nearer, RX7)]
def fObj : List String := [RX4, RX2, RX3, RX6, RX1]
/-- what the tables hold -/
def fEt (D : va_G) (cI cO cL : ClassId) (M : Nat) (U : State) : Prop :=
  va_K D vwCl (fT cI cO cL) U ∧ va_Mi "[Ljava/lang/Object;" M U ∧ va_Dc U ∧ va_AO "java/lang/Object" U ∧
  (∀ q ∈ fNest, va_Nw (.methodLinkNest q.1 q.2.1 q.2.2.1 q.2.2.2) U) ∧ (∀ n ∈ fObj, va_Nw (.castable n "java/lang/Object") U)
/-- what the old cells hold that nobody writes -/
def fEh (E : Nat) (A : Nat → Prop) (U : State) (H : Heap) : Prop :=
  va_Z "java/util/ArrayList" "DEFAULTCAPACITY_EMPTY_ELEMENTDATA" "[Ljava/lang/Object;" (.ref E) A U H ∧ va_T (.object "java/lang/Object") E 0 (fun _ => .null) A U H ∧ va_O "[Ljava/lang/Object;" E A U H
def fE (D : va_G) (cI cO cL : ClassId) (E M : Nat) (A : Nat → Prop) (U : State) (H : Heap) : Prop := fEt D cI cO cL M U ∧ fEh E A U H
theorem fEt_warm {D : va_G} {cI cO cL : ClassId} {M : Nat} {s U : State} (hW : s.WarmedH U.vm) (h : fEt D cI cO cL M s) : fEt D cI cO cL M U := by
  obtain ⟨h1, h2, h3, h4, h8, h10⟩ := h
  exact ⟨va_K.moved hW.alike h1, va_Mi.moved hW.alike h2, va_Dc.moved hW.alike h3, va_AO.moved hW.alike h4, fun q hq => va_Nw.warmM hW (h8 q hq), fun n hn => va_Nw.warmC hW (h10 n hn)⟩
theorem fEh_call {E : Nat} {A B : Nat → Prop} {s U : State} {H : Heap} {locs : List Loc} (h : fEh E A s s.heap) (hS : va_S A s.heap H locs) (hB : ∀ q, B q → A q) (hU : U.heap = H) (hW : s.WarmedH U.vm) : fEh E B U U.heap := by
  obtain ⟨h1, h2, h5⟩ := h
  rw [hU]
  exact ⟨((va_Z.moved hW.alike (h1.kept hS.2.1))).narrow hB, (va_T.moved hW.alike (h2.kept hS.2.1)).narrow hB, (va_O.moved hW.alike (h5.kept hS.2.1)).narrow hB⟩
theorem fE_call {D : va_G} {cI cO cL : ClassId} {E M : Nat} {A B : Nat → Prop} {s U : State} {H : Heap} {locs : List Loc} (h : fE D cI cO cL E M A s s.heap) (hS : va_S A s.heap H locs) (hB : ∀ q, B q → A q) (hU : U.heap = H) (hW : s.WarmedH U.vm) : fE D cI cO cL E M B U U.heap :=
  ⟨fEt_warm hW h.1, fEh_call h.2 hS hB hU hW⟩
/-- the start of a method in its world -/
abbrev fPre (D : va_G) (cI cO cL : ClassId) (E M : Nat) (av : List Value) (sz : Nat) (ws : va_W) : Array Value → State → Prop :=
  va_Pc av (fun U => U.heap.size = sz ∧ va_P D vwCl ws U.heap ∧ va_D (fun _ => True) ws ∧ fE D cI cO cL E M (va_A ws sz) U U.heap)
/-- a world at an end -/
abbrev fB {S : Type} (D : va_G) (A : Nat → Prop) (w1 : S → va_W) : S → State → Prop := fun u t => va_P D vwCl (w1 u) t.heap ∧ va_D A (w1 u)
abbrev fBr {S : Type} (D : va_G) (A : Nat → Prop) (w1 : S → Nat → va_W) : S → Nat → State → Prop := fun u a t => va_P D vwCl (w1 u a) t.heap ∧ va_D A (w1 u a)
theorem f_P0 {D : va_G} {H : Heap} : va_P D vwCl [] H := fun k q h => by simp at h
theorem f_D0 {A : Nat → Prop} : va_D A [] := ⟨fun i j p q h => by simp at h, fun k q h => by simp at h⟩
abbrev fW (y : MethodName) (c : ByteArray) (n : Nat) (ret : Option FieldType) : List Cond := Cond.code y c n ret :: fA
theorem fPre_blind {D : va_G} {cI cO cL : ClassId} {E M : Nat} {av : List Value} {sz : Nat} {ws : va_W} : FrameBlind (fPre D cI cO cL E M av sz ws) := by
  intro a U g mk h
  obtain ⟨h0, h1, h2, h3, h4⟩ := h
  exact ⟨h0, h1, h2, h3, fE_call (A := va_A ws sz) (s := U) (U := U.calling g mk a) (H := U.heap) h4 va_S.rf (fun _ h => h) rfl (State.WarmedH.refl U)⟩
theorem f_fm {ws wc : va_W} {is : List Nat} (h : is.map (fun i => ws[i]?) = wc.map some) : is.filterMap (fun i => ws[i]?) = wc := by
  have h1 : is.filterMap (fun i => ws[i]?) = (is.map (fun i => ws[i]?)).filterMap id := by rw [List.filterMap_map]; rfl
  rw [h1, h, List.filterMap_map]
  simp
theorem f_goodIn {ws : List Cond} (h : ∀ w ∈ ws, w ∈ fA) : GoodIn fA ws := fun w hw => ⟨h w hw, good_of_word (f_good (h w hw))⟩
section FCW
variable {R : Room} {s : State} {args : Array Value} {own C : String} {index : Nat} {y : MethodName} {cy : ByteArray} {ny : Nat} {ret : Option FieldType} {rm : Room} {mc ms : Nat}
theorem f_cons {w : Cond} (h : w ∈ fA) : ∀ w' ∈ w :: fA, w' ∈ fA := fun w' h' => (List.mem_cons.mp h').elim (fun e => by rw [e]; exact h) (fun h => h)
theorem fcwV (n : Nat) (ht : ∀ w ∈ fA, w.before args s = true) (h1 : Cond.methodLink own index y ∈ fA) (h2 : Cond.instanceMethod y ∈ fA) (h3 : Cond.selects C y y ∈ fA) (h4 : Cond.initialized C ∈ fA) (h5 : Cond.code y cy ny ret ∈ fA) (hrc : rm.cells = mc) (hrs : rm.slots = ms)
    (hd : y.cls = C ∧ y.cls ≠ "java/lang/invoke/MethodHandle" ∧ y.cls ≠ "java/lang/invoke/VarHandle" ∧ (parseMethodDescriptor y.desc).map (fun d => d.parameters.length) = some n) (hR : rm.frames + 1 ≤ R.frames ∧ 8 + (ny + 11) + rm.locals ≤ R.locals) :
    CallW R s args own C index y cy ny ret (fW y cy ny ret) rm mc ms n :=
  cwV n ht (f_goodIn (fun w hw => by
    unfold wsV at hw
    rcases List.mem_append.mp hw with h | h
    · rcases List.mem_cons.mp h with rfl | h
      · exact h1
      · rcases List.mem_cons.mp h with rfl | h
        · exact h2
        · rcases List.mem_cons.mp h with rfl | h
          · exact h3
          · rcases List.mem_cons.mp h with rfl | h
            · exact h4
            · cases h
    · exact f_cons h5 w h)) rfl hrc hrs hd hR
theorem fcwS (n : Nat) (ht : ∀ w ∈ fA, w.before args s = true) (h1 : Cond.methodLink own index y ∈ fA) (h2 : Cond.static y ∈ fA) (h4 : Cond.initialized y.cls ∈ fA) (h5 : Cond.code y cy ny ret ∈ fA) (hrc : rm.cells = mc) (hrs : rm.slots = ms)
    (hd : y.cls ≠ "java/lang/invoke/MethodHandle" ∧ y.cls ≠ "java/lang/invoke/VarHandle" ∧ (parseMethodDescriptor y.desc).map (fun d => d.parameters.length) = some n) (hR : rm.frames + 1 ≤ R.frames ∧ 8 + (ny + 11) + rm.locals ≤ R.locals) :
    CallB R s args own index y cy ny ret (fW y cy ny ret) rm mc ms n ∧ (Cond.static y).before args s = true :=
  va_cwS n ht (f_goodIn (fun w hw => by
    unfold va_wsS at hw
    rcases List.mem_append.mp hw with h | h
    · rcases List.mem_cons.mp h with rfl | h
      · exact h1
      · rcases List.mem_cons.mp h with rfl | h
        · exact h2
        · rcases List.mem_cons.mp h with rfl | h
          · exact h4
          · cases h
    · exact f_cons h5 w h)) rfl hrc hrs hd hR
theorem fcwI (n : Nat) (ht : ∀ w ∈ fA, w.before args s = true) (h1 : Cond.methodLink own index y ∈ fA) (h2 : Cond.instanceMethod y ∈ fA) (h4 : Cond.initialized y.cls ∈ fA) (h5 : Cond.code y cy ny none ∈ fA) (hrc : rm.cells = mc) (hrs : rm.slots = ms) (hy1 : y.name = "<init>")
    (hd : y.cls ≠ "java/lang/invoke/MethodHandle" ∧ y.cls ≠ "java/lang/invoke/VarHandle" ∧ (parseMethodDescriptor y.desc).map (fun d => d.parameters.length) = some n) (hR : rm.frames + 1 ≤ R.frames ∧ 8 + (ny + 11) + rm.locals ≤ R.locals) :
    CallB R s args own index y cy ny none (fW y cy ny none) rm mc ms n ∧ y.name = "<init>" ∧ (Cond.instanceMethod y).before args s = true :=
  cwI n ht (f_goodIn (fun w hw => f_cons h5 w hw)) rfl hrc hrs (ht _ h4) (ht _ h1) (ht _ h2) hy1 hd hR
theorem fcwIN {host : String} (n : Nat) (ht : ∀ w ∈ fA, w.before args s = true) (hl : va_Nw (.methodLinkNest own index y host) s) (h2 : Cond.instanceMethod y ∈ fA) (h4 : Cond.initialized y.cls ∈ fA) (h5 : Cond.code y cy ny none ∈ fA) (hrc : rm.cells = mc) (hrs : rm.slots = ms) (hy1 : y.name = "<init>")
    (hd : y.cls ≠ "java/lang/invoke/MethodHandle" ∧ y.cls ≠ "java/lang/invoke/VarHandle" ∧ (parseMethodDescriptor y.desc).map (fun d => d.parameters.length) = some n) (hR : rm.frames + 1 ≤ R.frames ∧ 8 + (ny + 11) + rm.locals ≤ R.locals) :
    va_CN R s args own index y host cy ny none (fW y cy ny none) rm mc ms n ∧ y.name = "<init>" ∧ (Cond.instanceMethod y).before args s = true :=
  ⟨va_cnB n ht (f_goodIn (fun w hw => f_cons h5 w hw)) rfl hrc hrs hl (ht _ h4) hd hR, hy1, ht _ h2⟩
theorem fcwSN {host : String} (n : Nat) (ht : ∀ w ∈ fA, w.before args s = true) (hl : va_Nw (.methodLinkNest own index y host) s) (h2 : Cond.static y ∈ fA) (h4 : Cond.initialized y.cls ∈ fA) (h5 : Cond.code y cy ny ret ∈ fA) (hrc : rm.cells = mc) (hrs : rm.slots = ms)
    (hd : y.cls ≠ "java/lang/invoke/MethodHandle" ∧ y.cls ≠ "java/lang/invoke/VarHandle" ∧ (parseMethodDescriptor y.desc).map (fun d => d.parameters.length) = some n) (hR : rm.frames + 1 ≤ R.frames ∧ 8 + (ny + 11) + rm.locals ≤ R.locals) :
    va_CN R s args own index y host cy ny ret (fW y cy ny ret) rm mc ms n ∧ (Cond.static y).before args s = true ∧ True :=
  ⟨va_cnB n ht (f_goodIn (fun w hw => f_cons h5 w hw)) rfl hrc hrs hl (ht _ h4) hd hR, ht _ h2, trivial⟩
end FCW
section FCALL
variable {p : Program} {l : Launch} {e : Env} {R : Room} {s : State} {m : MethodId} {args : Array Value} {below : List Frame} {meth : Method} {c : Code} {H : Heap} {locs : List Loc} {cells slots : Nat} {Q : State → Prop}
variable {D : va_G} {cI cO cL : ClassId} {E M : Nat} {A : Nat → Prop} {ws wc wr : va_W} {pc : Nat} {ls : Array Slot} {st rest : List Value} {a : Array Value}
variable {own C : String} {index n nL : Nat} {y : MethodName} {cc cy : ByteArray} {ny : Nat} {ret : Option FieldType} {rm : Room} {mc ms : Nat} {b : Nat} {As : List Value} {Qc : Array Value → State → Outcome → State → Prop}
theorem f_aft_v {S : Type} {post : S → Prop} {w1 : S → va_W} (hr : va_Run p l e R s m args below meth c H locs cells slots mc ms (F0 m pc ls st) rest (va_Qv post (fB D (va_A wc H.size) w1) (va_A wc H.size) a) (va_A wc H.size))
    (hP : va_P D vwCl ws H) (hD : va_D A ws) (hS : va_S A s.heap H locs) (hA : ∀ q, s.heap.size ≤ q → A q) (isC isR : List Nat) (hC : isC.map (fun i => ws[i]?) = wc.map some) (hR : isR.map (fun i => ws[i]?) = wr.map some) (hn : va_nd isR = true) (hdis : ∀ i ∈ isR, i ∉ isC)
    (kk : ∀ (u : S) (H1 : Heap) (locs1 : List Loc), post u → va_P D vwCl (wr ++ w1 u) H1 → va_D A (wr ++ w1 u) → va_S A s.heap H1 locs1 → W p l e R s m args below meth c H1 locs1 (cells + mc) (slots + ms) Q (F0 m (pc + 3) ls rest)) :
    W p l e R s m args below meth c H locs cells slots Q (F0 m pc ls st) := by
  have hF := va_free (wc := wc) hD hS hA isC hC
  refine va_callv hr hS (fun q _ h => hF q h) hF (fun u t H1 locs1 ht _ hp hB _ hk1 hS1 => ?_)
  obtain ⟨hP1, hD1⟩ := hB
  rw [ht] at hP1
  obtain ⟨g1, g2⟩ := va_join (wr := wr) hP hD isC isR hC hR hn hdis hk1 hF hP1 hD1
  exact kk u H1 locs1 hp g1 g2 hS1
theorem f_aft_r {S : Type} {post : S → Prop} {w1 : S → Nat → va_W} (hr : va_Run p l e R s m args below meth c H locs cells slots mc ms (F0 m pc ls st) rest (va_Qr post (fBr D (va_A wc H.size) w1) (va_A wc H.size) a) (va_A wc H.size))
    (hP : va_P D vwCl ws H) (hD : va_D A ws) (hS : va_S A s.heap H locs) (hA : ∀ q, s.heap.size ≤ q → A q) (isC isR : List Nat) (hC : isC.map (fun i => ws[i]?) = wc.map some) (hR : isR.map (fun i => ws[i]?) = wr.map some) (hn : va_nd isR = true) (hdis : ∀ i ∈ isR, i ∉ isC)
    (kk : ∀ (u : S) (ra : Nat) (H1 : Heap) (locs1 : List Loc), post u → va_P D vwCl (wr ++ w1 u ra) H1 → va_D A (wr ++ w1 u ra) → va_S A s.heap H1 locs1 → W p l e R s m args below meth c H1 locs1 (cells + mc) (slots + ms) Q (F0 m (pc + 3) ls (.ref ra :: rest))) :
    W p l e R s m args below meth c H locs cells slots Q (F0 m pc ls st) := by
  have hF := va_free (wc := wc) hD hS hA isC hC
  refine va_callr hr hS (fun q _ h => hF q h) hF (fun u ra t H1 locs1 ht _ hp hB _ hk1 hS1 => ?_)
  obtain ⟨hP1, hD1⟩ := hB
  rw [ht] at hP1
  obtain ⟨g1, g2⟩ := va_join (wr := wr) hP hD isC isR hC hR hn hdis hk1 hF hP1 hD1
  exact kk u ra H1 locs1 hp g1 g2 hS1
/-- the run of a virtual call, a static one, a constructor's -/
theorem f_runV (hx : p.tables.exec = Jvm.exec) (hb : c.code = cc) (hml : c.maxLocals = nL) (hown : s.vm.findClass own = some m.cls) (hts : ∀ w ∈ fA, w.before args s = true)
    (hM : Met l y (fW y cy ny ret) rm (fPre D cI cO cL E M (.ref b :: As) H.size wc) Qc mc ms (va_A wc H.size)) (cw : CallW R s args own C index y cy ny ret (fW y cy ny ret) rm mc ms n)
    (hE : fE D cI cO cL E M A s s.heap) (hP : va_P D vwCl ws H) (hD : va_D A ws) (hS : va_S A s.heap H locs) (hA : ∀ q, s.heap.size ≤ q → A q) (isC : List Nat) (hC : isC.map (fun i => ws[i]?) = wc.map some) (hnC : va_nd isC = true)
    {q0 ci : Nat} {q : vw_C} {fs : List Value} (hrv : ws[q0]? = some (b, .inr (ci, fs))) (hc : vwCl[ci]? = some q) (hq : q.1 = C)
    (hn : As.length = n) (hsize : ls.size = nL) (hstack : st = As.reverse ++ .ref b :: rest) (hW : (rest.map fun v => v.category).sum ≤ 8) (hdg : decode cc pc = .ok (.invokevirtual index, 3)) (hf : cells + mc ≤ R.cells ∧ slots + ms ≤ R.slots) :
    va_Run p l e R s m args below meth c H locs cells slots mc ms (F0 m pc ls st) rest (Qc (Value.ref b :: As).toArray) (va_A wc H.size) := by
  have hF := va_free (wc := wc) hD hS hA isC hC
  have hPc := hP.sub (ws' := wc) isC (f_fm hC)
  have hDc := hD.sub (ws' := wc) isC hnC hC
  refine va_runV ⟨hx, hb, hml, hown, hts⟩ hM cw ⟨fPre_blind, ?_, fun U hU hW => ⟨rfl, by rw [hU], by rw [hU]; exact hPc, hDc.weaken (fun _ _ _ _ => trivial), fE_call hE hS hF hU hW⟩⟩ rfl hn hsize hstack (lv_room hW) hdg hf
  rw [← hq]
  exact va_recv hE.1.1 hP hc hrv
theorem f_runS (hx : p.tables.exec = Jvm.exec) (hb : c.code = cc) (hml : c.maxLocals = nL) (hown : s.vm.findClass own = some m.cls) (hts : ∀ w ∈ fA, w.before args s = true)
    (hM : Met l y (fW y cy ny ret) rm (fPre D cI cO cL E M As H.size wc) Qc mc ms (va_A wc H.size)) (cw : CallB R s args own index y cy ny ret (fW y cy ny ret) rm mc ms n ∧ (Cond.static y).before args s = true)
    (hE : fE D cI cO cL E M A s s.heap) (hP : va_P D vwCl ws H) (hD : va_D A ws) (hS : va_S A s.heap H locs) (hA : ∀ q, s.heap.size ≤ q → A q) (isC : List Nat) (hC : isC.map (fun i => ws[i]?) = wc.map some) (hnC : va_nd isC = true)
    (hn : As.length = n) (hsize : ls.size = nL) (hstack : st = As.reverse ++ rest) (hW : (rest.map fun v => v.category).sum ≤ 8) (hdg : decode cc pc = .ok (.invokestatic index, 3)) (hf : cells + mc ≤ R.cells ∧ slots + ms ≤ R.slots) :
    va_Run p l e R s m args below meth c H locs cells slots mc ms (F0 m pc ls st) rest (Qc As.toArray) (va_A wc H.size) := by
  have hF := va_free (wc := wc) hD hS hA isC hC
  have hPc := hP.sub (ws' := wc) isC (f_fm hC)
  have hDc := hD.sub (ws' := wc) isC hnC hC
  exact va_runS ⟨hx, hb, hml, hown, hts⟩ hM cw ⟨fPre_blind, fun U hU hW => ⟨rfl, by rw [hU], by rw [hU]; exact hPc, hDc.weaken (fun _ _ _ _ => trivial), fE_call hE hS hF hU hW⟩⟩ rfl hn hsize hstack (lv_room hW) hdg hf
theorem f_runI (hx : p.tables.exec = Jvm.exec) (hb : c.code = cc) (hml : c.maxLocals = nL) (hown : s.vm.findClass own = some m.cls) (hts : ∀ w ∈ fA, w.before args s = true)
    (hM : Met l y (fW y cy ny none) rm (fPre D cI cO cL E M (.ref b :: As) H.size wc) Qc mc ms (va_A wc H.size)) (cw : CallB R s args own index y cy ny none (fW y cy ny none) rm mc ms n ∧ y.name = "<init>" ∧ (Cond.instanceMethod y).before args s = true)
    (hE : fE D cI cO cL E M A s s.heap) (hP : va_P D vwCl ws H) (hD : va_D A ws) (hS : va_S A s.heap H locs) (hA : ∀ q, s.heap.size ≤ q → A q) (isC : List Nat) (hC : isC.map (fun i => ws[i]?) = wc.map some) (hnC : va_nd isC = true)
    (hn : As.length = n) (hsize : ls.size = nL) (hstack : st = As.reverse ++ .ref b :: rest) (hW : (rest.map fun v => v.category).sum ≤ 8) (hdg : decode cc pc = .ok (.invokespecial index, 3)) (hf : cells + mc ≤ R.cells ∧ slots + ms ≤ R.slots) :
    va_Run p l e R s m args below meth c H locs cells slots mc ms (F0 m pc ls st) rest (Qc (Value.ref b :: As).toArray) (va_A wc H.size) := by
  have hF := va_free (wc := wc) hD hS hA isC hC
  have hPc := hP.sub (ws' := wc) isC (f_fm hC)
  have hDc := hD.sub (ws' := wc) isC hnC hC
  exact va_runI ⟨hx, hb, hml, hown, hts⟩ hM cw ⟨fPre_blind, fun U hU hW => ⟨rfl, by rw [hU], by rw [hU]; exact hPc, hDc.weaken (fun _ _ _ _ => trivial), fE_call hE hS hF hU hW⟩⟩ rfl hn hsize hstack (lv_room hW) hdg hf
theorem f_runIN {host : String} (hx : p.tables.exec = Jvm.exec) (hb : c.code = cc) (hml : c.maxLocals = nL) (hown : s.vm.findClass own = some m.cls) (hts : ∀ w ∈ fA, w.before args s = true)
    (hM : Met l y (fW y cy ny none) rm (fPre D cI cO cL E M (.ref b :: As) H.size wc) Qc mc ms (va_A wc H.size)) (cw : va_CN R s args own index y host cy ny none (fW y cy ny none) rm mc ms n ∧ y.name = "<init>" ∧ (Cond.instanceMethod y).before args s = true)
    (hE : fE D cI cO cL E M A s s.heap) (hP : va_P D vwCl ws H) (hD : va_D A ws) (hS : va_S A s.heap H locs) (hA : ∀ q, s.heap.size ≤ q → A q) (isC : List Nat) (hC : isC.map (fun i => ws[i]?) = wc.map some) (hnC : va_nd isC = true)
    (hn : As.length = n) (hsize : ls.size = nL) (hstack : st = As.reverse ++ .ref b :: rest) (hW : (rest.map fun v => v.category).sum ≤ 8) (hdg : decode cc pc = .ok (.invokespecial index, 3)) (hf : cells + mc ≤ R.cells ∧ slots + ms ≤ R.slots) :
    va_Run p l e R s m args below meth c H locs cells slots mc ms (F0 m pc ls st) rest (Qc (Value.ref b :: As).toArray) (va_A wc H.size) := by
  have hF := va_free (wc := wc) hD hS hA isC hC
  have hPc := hP.sub (ws' := wc) isC (f_fm hC)
  have hDc := hD.sub (ws' := wc) isC hnC hC
  exact va_runIN ⟨hx, hb, hml, hown, hts⟩ hM cw ⟨fPre_blind, fun U hU hW => ⟨rfl, by rw [hU], by rw [hU]; exact hPc, hDc.weaken (fun _ _ _ _ => trivial), fE_call hE hS hF hU hW⟩⟩ rfl hn hsize hstack (lv_room hW) hdg hf
/-- arithmetic whose result is given -/
theorem f_iadd {x y v : Int32} (hx : p.tables.exec = Jvm.exec) (hb : c.code = cc) (hdg : decode cc pc = .ok (.iadd, 1)) (hv : x + y = v) (k : W p l e R s m args below meth c H locs cells slots Q (F0 m (pc + 1) ls (.int v :: rest))) : W p l e R s m args below meth c H locs cells slots Q (F0 m pc ls (.int y :: .int x :: rest)) := by subst hv; exact lv_iadd hx hb hdg k
theorem f_isub {x y v : Int32} (hx : p.tables.exec = Jvm.exec) (hb : c.code = cc) (hdg : decode cc pc = .ok (.isub, 1)) (hv : x - y = v) (k : W p l e R s m args below meth c H locs cells slots Q (F0 m (pc + 1) ls (.int v :: rest))) : W p l e R s m args below meth c H locs cells slots Q (F0 m pc ls (.int y :: .int x :: rest)) := by subst hv; exact lv_isub hx hb hdg k
theorem f_imul {x y v : Int32} (hx : p.tables.exec = Jvm.exec) (hb : c.code = cc) (hdg : decode cc pc = .ok (.imul, 1)) (hv : x * y = v) (k : W p l e R s m args below meth c H locs cells slots Q (F0 m (pc + 1) ls (.int v :: rest))) : W p l e R s m args below meth c H locs cells slots Q (F0 m pc ls (.int y :: .int x :: rest)) := by subst hv; exact lv_imul hx hb hdg k
theorem f_iand {x y v : Int32} (hx : p.tables.exec = Jvm.exec) (hb : c.code = cc) (hdg : decode cc pc = .ok (.iand, 1)) (hv : x &&& y = v) (k : W p l e R s m args below meth c H locs cells slots Q (F0 m (pc + 1) ls (.int v :: rest))) : W p l e R s m args below meth c H locs cells slots Q (F0 m pc ls (.int y :: .int x :: rest)) := by subst hv; exact lv_iand hx hb hdg k
theorem f_ixor {x y v : Int32} (hx : p.tables.exec = Jvm.exec) (hb : c.code = cc) (hdg : decode cc pc = .ok (.ixor, 1)) (hv : x ^^^ y = v) (k : W p l e R s m args below meth c H locs cells slots Q (F0 m (pc + 1) ls (.int v :: rest))) : W p l e R s m args below meth c H locs cells slots Q (F0 m pc ls (.int y :: .int x :: rest)) := by subst hv; exact lv_ixor hx hb hdg k
theorem f_irem {x y v : Int32} (hx : p.tables.exec = Jvm.exec) (hb : c.code = cc) (hdg : decode cc pc = .ok (.irem, 1)) (hne : ¬ y = 0) (hv : x - x / y * y = v) (k : W p l e R s m args below meth c H locs cells slots Q (F0 m (pc + 1) ls (.int v :: rest))) : W p l e R s m args below meth c H locs cells slots Q (F0 m pc ls (.int y :: .int x :: rest)) := by subst hv; exact lv_irem hx hb hdg hne k
theorem f_ushr {x y v : Int32} (hx : p.tables.exec = Jvm.exec) (hb : c.code = cc) (hdg : decode cc pc = .ok (.iushr, 1)) (hv : (x.toUInt32 >>> (y.toUInt32 &&& Int32.toUInt32 31)).toInt32 = v) (k : W p l e R s m args below meth c H locs cells slots Q (F0 m (pc + 1) ls (.int v :: rest))) : W p l e R s m args below meth c H locs cells slots Q (F0 m pc ls (.int y :: .int x :: rest)) := lv_iushr hx hb hdg hv k
theorem f_ladd {x y v : Int64} (hx : p.tables.exec = Jvm.exec) (hb : c.code = cc) (hdg : decode cc pc = .ok (.ladd, 1)) (hv : x + y = v) (k : W p l e R s m args below meth c H locs cells slots Q (F0 m (pc + 1) ls (.long v :: rest))) : W p l e R s m args below meth c H locs cells slots Q (F0 m pc ls (.long y :: .long x :: rest)) := by subst hv; exact lv_ladd hx hb hdg k
theorem f_lmul {x y v : Int64} (hx : p.tables.exec = Jvm.exec) (hb : c.code = cc) (hdg : decode cc pc = .ok (.lmul, 1)) (hv : x * y = v) (k : W p l e R s m args below meth c H locs cells slots Q (F0 m (pc + 1) ls (.long v :: rest))) : W p l e R s m args below meth c H locs cells slots Q (F0 m pc ls (.long y :: .long x :: rest)) := by subst hv; exact lv_lmul hx hb hdg k
/-- a new array's class is the one that has its name -/
theorem f_sameC {cA cB : ClassId} {ty : FieldType} {tys : List (ClassId × FieldType)} {cl : List vw_C} (h : va_K D cl tys s) {i j : Nat} (hi : tys[i]? = some (cA, ty)) (hj : tys[j]? = some (cB, ty)) (hp : ∀ C, ty ≠ .object C) : cA = cB := by
  have h1 := (h.2 i _ hi).2
  have h2 := (h.2 j _ hj).2
  cases ty with
  | object C => exact absurd rfl (hp C)
  | _ => exact Option.some.inj (h1.symm.trans h2)
theorem f_sameO {cA cB : ClassId} {C : String} {tys : List (ClassId × FieldType)} {cl : List vw_C} (h : va_K D cl tys s) {i j : Nat} (hi : tys[i]? = some (cA, .object C)) (hj : tys[j]? = some (cB, .object C)) : cA = cB := by
  obtain ⟨_, _, _, _, _, h1⟩ := (h.2 i _ hi).2
  obtain ⟨_, _, _, _, _, h2⟩ := (h.2 j _ hj).2
  exact Option.some.inj (h1.symm.trans h2)
end FCALL
section FK2
variable {p : Program} {l : Launch} {e : Env} {R : Room} {s : State} {m : MethodId} {args : Array Value} {below : List Frame} {meth : Method} {c : Code} {H : Heap} {locs : List Loc} {cells slots : Nat} {Q : State → Prop}
variable {D : va_G} {cI cO cL : ClassId} {E M : Nat} {A : Nat → Prop} {ws : va_W} {pc : Nat} {ls : Array Slot} {st rest : List Value} {cc : ByteArray} {mc ms ik : Nat} {free : Addr → Prop}
theorem f_start {g : JFrame} (hP : va_P D vwCl ws s.heap) (k : ∀ H : Heap, va_P D vwCl ws H → va_S A s.heap H [] → W p l e R s m args below meth c H [] 0 0 Q g) : W p l e R s m args below meth c s.heap [] 0 0 Q g := k s.heap hP va_S.rf
theorem f_topi {x v : Int32} (hv : x = v) (k : W p l e R s m args below meth c H locs cells slots Q (F0 m pc ls (.int v :: rest))) : W p l e R s m args below meth c H locs cells slots Q (F0 m pc ls (.int x :: rest)) := by subst hv; exact k
theorem f_topl {x v : Int64} (hv : x = v) (k : W p l e R s m args below meth c H locs cells slots Q (F0 m pc ls (.long v :: rest))) : W p l e R s m args below meth c H locs cells slots Q (F0 m pc ls (.long x :: rest)) := by subst hv; exact k
theorem f_lt1 {j : Nat} (h : j < 1) : j = 0 := by omega
theorem f_lt3 {j : Nat} (h : j < 3) : j = 0 ∨ j = 1 ∨ j = 2 := by omega
theorem f_lt6 {j : Nat} (h : j < 6) : j = 0 ∨ j = 1 ∨ j = 2 ∨ j = 3 ∨ j = 4 ∨ j = 5 := by omega
theorem f_lt15 {j : Nat} (h : j < 15) : j = 0 ∨ j = 1 ∨ j = 2 ∨ j = 3 ∨ j = 4 ∨ j = 5 ∨ j = 6 ∨ j = 7 ∨ j = 8 ∨ j = 9 ∨ j = 10 ∨ j = 11 ∨ j = 12 ∨ j = 13 ∨ j = 14 := by omega
theorem f_same (h : (Cond.sameField "java/util/ArrayList" "java/util/AbstractList" "modCount" "I").before args s = true) : ∀ x, s.fieldFound? "java/util/AbstractList" "modCount" "I" = some x → s.fieldFound? "java/util/ArrayList" "modCount" "I" = some x := by
  intro x hx
  cases hr : s.fieldFound? "java/util/ArrayList" "modCount" "I" with
  | none => simp [Cond.before, Cond.holds, Cond.value, hr] at h
  | some y =>
    obtain ⟨c9, k9, i9, f9⟩ := y
    have h1 : s.fieldFound? "java/util/AbstractList" "modCount" "I" = some (c9, k9, i9, f9) := Cond.sameField_spec hr h
    rw [← h1]; exact hx
theorem f_nmO (h : fE D cI cO cL E M A s s.heap) : s.vm.findClass "[Ljava/lang/Object;" = some cO := by
  obtain ⟨_, _, _, _, _, h1⟩ := (h.1.1.2 1 (cO, .object "java/lang/Object") rfl).2
  exact h1
theorem f_lt10 {j : Nat} (h : j < 10) : j = 0 ∨ j = 1 ∨ j = 2 ∨ j = 3 ∨ j = 4 ∨ j = 5 ∨ j = 6 ∨ j = 7 ∨ j = 8 ∨ j = 9 := by omega
end FK2
section FK3
variable {s : State} {D : va_G} {cI cO cL : ClassId} {E M : Nat} {A : Nat → Prop} {H : Heap} {locs : List Loc}
theorem f_nfw : nativeFrameWords "java/lang/System" "arraycopy" 5 = 7 := by decide
theorem f_inc (i : Nat) : nI i + Int32.ofInt 1 = nI (i + 1) := nI_1 i
theorem f_add (a b : Nat) : nI a + nI b = nI (a + b) := nI_add a b
theorem f_atE (hE : fE D cI cO cL E M A s s.heap) (hS : va_S A s.heap H locs) : ∃ cell : Cell, H[E]? = some cell ∧ cell.vm.isStatics = false ∧ s.vm.findClass "[Ljava/lang/Object;" = some cell.cls := by
  obtain ⟨cell, h1, h2, h3, -⟩ := hE.2.2.2.kept hS.2.1
  exact ⟨cell, h1, h2, h3⟩
end FK3
