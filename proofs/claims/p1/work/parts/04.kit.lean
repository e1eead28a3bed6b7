/-! MY ROWS: one list of words for all methods; what a world stands in (fE); contracts of one form; calls of them -/
abbrev fT (cI cO cL : ClassId) : List (ClassId × FieldType) := [(cI, .int), (cO, .object "java/lang/Object"), (cL, .long)]
def fStr : List (Nat × String) := [(28, "power is not 10 to 60"), (94, "wind is not -4 to 4, or gust not 0 to 2"), (154, "much is not 1 to 5000"), (178, "ticks is not 1 to 100"), (235, "ticks is not 1 to 8"), (249, "there was no such CALL"), (286, "what is not 0 to 15"), (319, "ticks is not 1 to 60, or what not 0 or 1"), (354, "there is no such PUMP"), (356, "there is no such JET"), (358, "there is no such FIGURE")]
def fNest : List (String × Nat × MethodName × String) := [(RX7, 18, yX5_init, RX7), (RX5, 26, yX0_init, RX7), (RX7, 73, yX2_init, RX7), (RX12, 9, yX8_init, RX12)]
def fDecl : List String := ["java/lang/RuntimeException", "java/lang/Exception", "java/lang/Throwable"]
def fObj : List String := [RX4, RX2, RX11, RJx4a65c]
theorem f_decw {x : MethodName} {s U : State} (hW : s.WarmedH U.vm) (h : va_Nw (.declares x) s) : va_Nw (.declares x) U := va_tabs rfl (rfl : (s.setVm U.vm).vm = U.vm) (by rw [Cond.declares_setVm hW.alike]; exact h)
/-- what the tables hold -/
def fEt (D : va_G) (cI cO cL : ClassId) (M : Nat) (U : State) : Prop :=
  va_K D vwCl (fT cI cO cL) U ∧ va_Mi "[Ljava/lang/Object;" M U ∧ va_Dc U ∧ va_AO "java/lang/Object" U ∧
  va_Nw (.castable "java/lang/IllegalArgumentException" "java/lang/IllegalArgumentException") U ∧ va_Nw (.castable "java/lang/IndexOutOfBoundsException" "java/lang/IndexOutOfBoundsException") U ∧
  (∀ q ∈ fStr, ∃ sa, vk_R RX7 q.1 q.2 sa U) ∧ (∀ q ∈ fNest, va_Nw (.methodLinkNest q.1 q.2.1 q.2.2.1 q.2.2.2) U) ∧ (∀ n ∈ fDecl, va_Nw (.declares ⟨n, "<init>", "(Ljava/lang/String;)V"⟩) U) ∧
  (∀ n ∈ fObj, va_Nw (.castable n "java/lang/Object") U) ∧ va_Fw "java/util/ArrayList" ⟨"java/util/Collection", "toArray", "()[Ljava/lang/Object;"⟩ yJx4a65c_toArray_d5877 U
/-- what the old cells hold that nobody writes -/
def fEh (E : Nat) (A : Nat → Prop) (U : State) (H : Heap) : Prop :=
  va_Z "java/util/ArrayList" "DEFAULTCAPACITY_EMPTY_ELEMENTDATA" "[Ljava/lang/Object;" (.ref E) A U H ∧ va_T (.object "java/lang/Object") E 0 (fun _ => .null) A U H ∧
  vx_Zq Bundle.tN "UNASSIGNED_STACK" Bundle.steD A U H ∧ vx_Zq Bundle.tN "SUPPRESSED_SENTINEL" Bundle.listD A U H ∧ va_O "[Ljava/lang/Object;" E A U H
def fE (D : va_G) (cI cO cL : ClassId) (E M : Nat) (A : Nat → Prop) (U : State) (H : Heap) : Prop := fEt D cI cO cL M U ∧ fEh E A U H
theorem fEt_warm {D : va_G} {cI cO cL : ClassId} {M : Nat} {s U : State} (hW : s.WarmedH U.vm) (h : fEt D cI cO cL M s) : fEt D cI cO cL M U := by
  obtain ⟨h1, h2, h3, h4, h5, h6, h7, h8, h9, h10, h11⟩ := h
  refine ⟨va_K.moved hW.alike h1, va_Mi.moved hW.alike h2, va_Dc.moved hW.alike h3, va_AO.moved hW.alike h4, va_Nw.warmC hW h5, va_Nw.warmC hW h6, fun q hq => ?_, fun q hq => va_Nw.warmM hW (h8 q hq), fun n hn => f_decw hW (h9 n hn), fun n hn => va_Nw.warmC hW (h10 n hn), va_Fw.moved (by decide) hW.alike h11⟩
  obtain ⟨sa, k⟩ := h7 q hq
  exact ⟨sa, vk_R.warm hW k⟩
theorem fEh_call {E : Nat} {A B : Nat → Prop} {s U : State} {H : Heap} {locs : List Loc} (h : fEh E A s s.heap) (hS : va_S A s.heap H locs) (hB : ∀ q, B q → A q) (hU : U.heap = H) (hW : s.WarmedH U.vm) : fEh E B U U.heap := by
  obtain ⟨h1, h2, h3, h4, h5⟩ := h
  rw [hU]
  exact ⟨((va_Z.moved hW.alike (h1.kept hS.2.1))).narrow hB, (va_T.moved hW.alike (h2.kept hS.2.1)).narrow hB, (vx_Zq.moved hW.alike (h3.kept hS.2.1)).narrow hB, (vx_Zq.moved hW.alike (h4.kept hS.2.1)).narrow hB, (va_O.moved hW.alike (h5.kept hS.2.1)).narrow hB⟩
theorem fE_call {D : va_G} {cI cO cL : ClassId} {E M : Nat} {A B : Nat → Prop} {s U : State} {H : Heap} {locs : List Loc} (h : fE D cI cO cL E M A s s.heap) (hS : va_S A s.heap H locs) (hB : ∀ q, B q → A q) (hU : U.heap = H) (hW : s.WarmedH U.vm) : fE D cI cO cL E M B U U.heap :=
  ⟨fEt_warm hW h.1, fEh_call h.2 hS hB hU hW⟩
/-- the start of a method in its world -/
abbrev fPre (D : va_G) (cI cO cL : ClassId) (E M : Nat) (av : List Value) (sz : Nat) (ws : va_W) : Array Value → State → Prop :=
  va_Pc av (fun U => U.heap.size = sz ∧ va_P D vwCl ws U.heap ∧ va_D (fun _ => True) ws ∧ fE D cI cO cL E M (va_A ws sz) U U.heap)
/-- a world at an end -/
abbrev fB {S : Type} (D : va_G) (A : Nat → Prop) (w1 : S → va_W) : S → State → Prop := fun u t => va_P D vwCl (w1 u) t.heap ∧ va_D A (w1 u)
abbrev fBr {S : Type} (D : va_G) (A : Nat → Prop) (w1 : S → Nat → va_W) : S → Nat → State → Prop := fun u a t => va_P D vwCl (w1 u a) t.heap ∧ va_D A (w1 u a)
/-- a method that always throws E -/
abbrev fXC (E : String) (A : Nat → Prop) : String → State → State → Prop := vx_X (fun _ : Unit => True) (fun E' _ _ => E' = E) A
abbrev fQ0 : Array Value → State → Outcome → State → Prop := fun _ _ _ _ => False
theorem f_P0 {D : va_G} {H : Heap} : va_P D vwCl [] H := fun k q h => by simp at h
theorem f_D0 {A : Nat → Prop} : va_D A [] := ⟨fun i j p q h => by simp at h, fun k q h => by simp at h⟩
abbrev fW (y : MethodName) (c : ByteArray) (n : Nat) (ret : Option FieldType) : List Cond := Cond.code y c n ret :: fA
abbrev fWw (y : MethodName) (c : ByteArray) (n : Nat) (ret : Option FieldType) (hh : List (Nat × Nat × Nat × Nat)) : List Cond := Cond.codeWith y c n ret hh :: fA
theorem fPre_blind {D : va_G} {cI cO cL : ClassId} {E M : Nat} {av : List Value} {sz : Nat} {ws : va_W} : FrameBlind (fPre D cI cO cL E M av sz ws) := by
  intro a U g mk h
  obtain ⟨h0, h1, h2, h3, h4⟩ := h
  exact ⟨h0, h1, h2, h3, fE_call (A := va_A ws sz) (s := U) (U := U.calling g mk a) (H := U.heap) h4 va_S.rf (fun _ h => h) rfl (State.WarmedH.refl U)⟩
theorem f_fm {ws wc : va_W} {is : List Nat} (h : is.map (fun i => ws[i]?) = wc.map some) : is.filterMap (fun i => ws[i]?) = wc := by
  have h1 : is.filterMap (fun i => ws[i]?) = (is.map (fun i => ws[i]?)).filterMap id := by rw [List.filterMap_map]; rfl
  rw [h1, h, List.filterMap_map]
  simp
theorem f_goodIn {ws : List Cond} (h : ∀ w ∈ ws, w ∈ fA) : GoodIn fA ws := fun w hw => ⟨h w hw, good_of_word (f_good (h w hw))⟩
section FCW
variable {R : Room} {s : State} {args : Array Value} {own C : String} {index : Nat} {y : MethodName} {cy : ByteArray} {ny : Nat} {ret : Option FieldType} {rm : Room} {mc ms : Nat}
theorem f_cons {w : Cond} (h : w ∈ fA) : ∀ w' ∈ w :: fA, w' ∈ fA := fun w' h' => (List.mem_cons.mp h').elim (fun e => by rw [e]; exact h) (fun h => h)
theorem fcwV (n : Nat) (ht : ∀ w ∈ fA, w.before args s = true) (h1 : Cond.methodLink own index y ∈ fA) (h2 : Cond.instanceMethod y ∈ fA) (h3 : Cond.selects C y y ∈ fA) (h4 : Cond.initialized C ∈ fA) (h5 : Cond.code y cy ny ret ∈ fA) (hrc : rm.cells = mc) (hrs : rm.slots = ms)
    (hd : y.cls = C ∧ y.cls ≠ "java/lang/invoke/MethodHandle" ∧ y.cls ≠ "java/lang/invoke/VarHandle" ∧ (parseMethodDescriptor y.desc).map (fun d => d.parameters.length) = some n) (hR : rm.frames + 1 ≤ R.frames ∧ 8 + (ny + 11) + rm.locals ≤ R.locals) :
    CallW R s args own C index y cy ny ret (fW y cy ny ret) rm mc ms n :=
  cwV n ht (f_goodIn (fun w hw => by
    unfold wsV at hw
    rcases List.mem_append.mp hw with h | h
    · rcases List.mem_cons.mp h with rfl | h
      · exact h1
      · rcases List.mem_cons.mp h with rfl | h
        · exact h2
        · rcases List.mem_cons.mp h with rfl | h
          · exact h3
          · rcases List.mem_cons.mp h with rfl | h
            · exact h4
            · cases h
    · exact f_cons h5 w h)) rfl hrc hrs hd hR
theorem fcwS (n : Nat) (ht : ∀ w ∈ fA, w.before args s = true) (h1 : Cond.methodLink own index y ∈ fA) (h2 : Cond.static y ∈ fA) (h4 : Cond.initialized y.cls ∈ fA) (h5 : Cond.code y cy ny ret ∈ fA) (hrc : rm.cells = mc) (hrs : rm.slots = ms)
    (hd : y.cls ≠ "java/lang/invoke/MethodHandle" ∧ y.cls ≠ "java/lang/invoke/VarHandle" ∧ (parseMethodDescriptor y.desc).map (fun d => d.parameters.length) = some n) (hR : rm.frames + 1 ≤ R.frames ∧ 8 + (ny + 11) + rm.locals ≤ R.locals) :
    CallB R s args own index y cy ny ret (fW y cy ny ret) rm mc ms n ∧ (Cond.static y).before args s = true :=
  va_cwS n ht (f_goodIn (fun w hw => by
    unfold va_wsS at hw
    rcases List.mem_append.mp hw with h | h
    · rcases List.mem_cons.mp h with rfl | h
      · exact h1
      · rcases List.mem_cons.mp h with rfl | h
        · exact h2
        · rcases List.mem_cons.mp h with rfl | h
          · exact h4
          · cases h
    · exact f_cons h5 w h)) rfl hrc hrs hd hR
theorem fcwI (n : Nat) (ht : ∀ w ∈ fA, w.before args s = true) (h1 : Cond.methodLink own index y ∈ fA) (h2 : Cond.instanceMethod y ∈ fA) (h4 : Cond.initialized y.cls ∈ fA) (h5 : Cond.code y cy ny none ∈ fA) (hrc : rm.cells = mc) (hrs : rm.slots = ms) (hy1 : y.name = "<init>")
    (hd : y.cls ≠ "java/lang/invoke/MethodHandle" ∧ y.cls ≠ "java/lang/invoke/VarHandle" ∧ (parseMethodDescriptor y.desc).map (fun d => d.parameters.length) = some n) (hR : rm.frames + 1 ≤ R.frames ∧ 8 + (ny + 11) + rm.locals ≤ R.locals) :
    CallB R s args own index y cy ny none (fW y cy ny none) rm mc ms n ∧ y.name = "<init>" ∧ (Cond.instanceMethod y).before args s = true :=
  cwI n ht (f_goodIn (fun w hw => f_cons h5 w hw)) rfl hrc hrs (ht _ h4) (ht _ h1) (ht _ h2) hy1 hd hR
theorem fcwIN {host : String} (n : Nat) (ht : ∀ w ∈ fA, w.before args s = true) (hl : va_Nw (.methodLinkNest own index y host) s) (h2 : Cond.instanceMethod y ∈ fA) (h4 : Cond.initialized y.cls ∈ fA) (h5 : Cond.code y cy ny none ∈ fA) (hrc : rm.cells = mc) (hrs : rm.slots = ms) (hy1 : y.name = "<init>")
    (hd : y.cls ≠ "java/lang/invoke/MethodHandle" ∧ y.cls ≠ "java/lang/invoke/VarHandle" ∧ (parseMethodDescriptor y.desc).map (fun d => d.parameters.length) = some n) (hR : rm.frames + 1 ≤ R.frames ∧ 8 + (ny + 11) + rm.locals ≤ R.locals) :
    va_CN R s args own index y host cy ny none (fW y cy ny none) rm mc ms n ∧ y.name = "<init>" ∧ (Cond.instanceMethod y).before args s = true :=
  ⟨va_cnB n ht (f_goodIn (fun w hw => f_cons h5 w hw)) rfl hrc hrs hl (ht _ h4) hd hR, hy1, ht _ h2⟩
theorem fcwSW {hh : List (Nat × Nat × Nat × Nat)} (n : Nat) (ht : ∀ w ∈ fA, w.before args s = true) (h1 : Cond.methodLink own index y ∈ fA) (h2 : Cond.static y ∈ fA) (h4 : Cond.initialized y.cls ∈ fA) (h5 : Cond.codeWith y cy ny ret hh ∈ fA) (hrc : rm.cells = mc) (hrs : rm.slots = ms)
    (hd : y.cls ≠ "java/lang/invoke/MethodHandle" ∧ y.cls ≠ "java/lang/invoke/VarHandle" ∧ (parseMethodDescriptor y.desc).map (fun d => d.parameters.length) = some n) (hR : rm.frames + 1 ≤ R.frames ∧ 8 + (ny + 11) + rm.locals ≤ R.locals) :
    vx_CSW R s args own index y cy ny ret hh (fWw y cy ny ret hh) rm mc ms n :=
  vx_cwSW n ht (f_goodIn (fun w hw => by
    unfold va_wsS at hw
    rcases List.mem_append.mp hw with h | h
    · rcases List.mem_cons.mp h with rfl | h
      · exact h1
      · rcases List.mem_cons.mp h with rfl | h
        · exact h2
        · rcases List.mem_cons.mp h with rfl | h
          · exact h4
          · cases h
    · exact f_cons h5 w h)) rfl hrc hrs hd hR
theorem fcwF {x : MethodName} (n : Nat) (ht : ∀ w ∈ fA, w.before args s = true) (h1 : Cond.methodLink own index x ∈ fA) (h3 : Cond.selects C x y ∈ fA) (h2 : Cond.instanceMethod y ∈ fA) (h4 : Cond.initialized y.cls ∈ fA) (h5 : Cond.code y cy ny ret ∈ fA) (hrc : rm.cells = mc) (hrs : rm.slots = ms) (hF : va_Fw C x y s)
    (hd : x.cls ≠ "java/lang/invoke/MethodHandle" ∧ x.cls ≠ "java/lang/invoke/VarHandle" ∧ (parseMethodDescriptor x.desc).map (fun d => d.parameters.length) = some n) (hR : rm.frames + 1 ≤ R.frames ∧ 8 + (ny + 11) + rm.locals ≤ R.locals) :
    va_CI R s args own C index x y cy ny ret (fW y cy ny ret) rm mc ms n :=
  va_cwF n ht (f_goodIn (fun w hw => by
    unfold va_wsF at hw
    rcases List.mem_append.mp hw with h | h
    · rcases List.mem_cons.mp h with rfl | h
      · exact h1
      · rcases List.mem_cons.mp h with rfl | h
        · exact h3
        · rcases List.mem_cons.mp h with rfl | h
          · exact h2
          · rcases List.mem_cons.mp h with rfl | h
            · exact h4
            · cases h
    · exact f_cons h5 w h)) rfl hrc hrs hF hd hR
end FCW
section FCALL
variable {p : Program} {l : Launch} {e : Env} {R : Room} {s : State} {m : MethodId} {args : Array Value} {below : List Frame} {meth : Method} {c : Code} {H : Heap} {locs : List Loc} {cells slots : Nat} {Q : State → Prop}
variable {D : va_G} {cI cO cL : ClassId} {E M : Nat} {A : Nat → Prop} {ws wc wr : va_W} {pc : Nat} {ls : Array Slot} {st rest : List Value} {a : Array Value}
variable {own C : String} {index n nL : Nat} {y : MethodName} {cc cy : ByteArray} {ny : Nat} {ret : Option FieldType} {rm : Room} {mc ms : Nat} {b : Nat} {As : List Value} {Qc : Array Value → State → Outcome → State → Prop}
/-- behind a call's run: an int comes -/
theorem f_aft_i {S : Type} {post : Int32 → S → Prop} {w1 : S → va_W} (hr : va_Run p l e R s m args below meth c H locs cells slots mc ms (F0 m pc ls st) rest (va_Qi post (fB D (va_A wc H.size) w1) (va_A wc H.size) a) (va_A wc H.size))
    (hP : va_P D vwCl ws H) (hD : va_D A ws) (hS : va_S A s.heap H locs) (hA : ∀ q, s.heap.size ≤ q → A q) (isC isR : List Nat) (hC : isC.map (fun i => ws[i]?) = wc.map some) (hR : isR.map (fun i => ws[i]?) = wr.map some) (hn : va_nd isR = true) (hdis : ∀ i ∈ isR, i ∉ isC)
    (kk : ∀ (r : Int32) (u : S) (H1 : Heap) (locs1 : List Loc), post r u → va_P D vwCl (wr ++ w1 u) H1 → va_D A (wr ++ w1 u) → va_S A s.heap H1 locs1 → W p l e R s m args below meth c H1 locs1 (cells + mc) (slots + ms) Q (F0 m (pc + 3) ls (.int r :: rest))) :
    W p l e R s m args below meth c H locs cells slots Q (F0 m pc ls st) := by
  have hF := va_free (wc := wc) hD hS hA isC hC
  refine va_calli hr hS (fun q _ h => hF q h) hF (fun r u t H1 locs1 ht _ hp hB _ hk1 hS1 => ?_)
  obtain ⟨hP1, hD1⟩ := hB
  rw [ht] at hP1
  obtain ⟨g1, g2⟩ := va_join (wr := wr) hP hD isC isR hC hR hn hdis hk1 hF hP1 hD1
  exact kk r u H1 locs1 hp g1 g2 hS1
theorem f_aft_l {S : Type} {post : Int64 → S → Prop} {w1 : S → va_W} (hr : va_Run p l e R s m args below meth c H locs cells slots mc ms (F0 m pc ls st) rest (va_Ql post (fB D (va_A wc H.size) w1) (va_A wc H.size) a) (va_A wc H.size))
    (hP : va_P D vwCl ws H) (hD : va_D A ws) (hS : va_S A s.heap H locs) (hA : ∀ q, s.heap.size ≤ q → A q) (isC isR : List Nat) (hC : isC.map (fun i => ws[i]?) = wc.map some) (hR : isR.map (fun i => ws[i]?) = wr.map some) (hn : va_nd isR = true) (hdis : ∀ i ∈ isR, i ∉ isC)
    (kk : ∀ (r : Int64) (u : S) (H1 : Heap) (locs1 : List Loc), post r u → va_P D vwCl (wr ++ w1 u) H1 → va_D A (wr ++ w1 u) → va_S A s.heap H1 locs1 → W p l e R s m args below meth c H1 locs1 (cells + mc) (slots + ms) Q (F0 m (pc + 3) ls (.long r :: rest))) :
    W p l e R s m args below meth c H locs cells slots Q (F0 m pc ls st) := by
  have hF := va_free (wc := wc) hD hS hA isC hC
  refine va_calll hr hS (fun q _ h => hF q h) hF (fun r u t H1 locs1 ht _ hp hB _ hk1 hS1 => ?_)
  obtain ⟨hP1, hD1⟩ := hB
  rw [ht] at hP1
  obtain ⟨g1, g2⟩ := va_join (wr := wr) hP hD isC isR hC hR hn hdis hk1 hF hP1 hD1
  exact kk r u H1 locs1 hp g1 g2 hS1
theorem f_aft_d {S : Type} {post : UInt64 → S → Prop} {w1 : S → va_W} (hr : va_Run p l e R s m args below meth c H locs cells slots mc ms (F0 m pc ls st) rest (va_Qd post (fB D (va_A wc H.size) w1) (va_A wc H.size) a) (va_A wc H.size))
    (hP : va_P D vwCl ws H) (hD : va_D A ws) (hS : va_S A s.heap H locs) (hA : ∀ q, s.heap.size ≤ q → A q) (isC isR : List Nat) (hC : isC.map (fun i => ws[i]?) = wc.map some) (hR : isR.map (fun i => ws[i]?) = wr.map some) (hn : va_nd isR = true) (hdis : ∀ i ∈ isR, i ∉ isC)
    (kk : ∀ (r : UInt64) (u : S) (H1 : Heap) (locs1 : List Loc), post r u → va_P D vwCl (wr ++ w1 u) H1 → va_D A (wr ++ w1 u) → va_S A s.heap H1 locs1 → W p l e R s m args below meth c H1 locs1 (cells + mc) (slots + ms) Q (F0 m (pc + 3) ls (.double r :: rest))) :
    W p l e R s m args below meth c H locs cells slots Q (F0 m pc ls st) := by
  have hF := va_free (wc := wc) hD hS hA isC hC
  refine va_calld hr hS (fun q _ h => hF q h) hF (fun r u t H1 locs1 ht _ hp hB _ hk1 hS1 => ?_)
  obtain ⟨hP1, hD1⟩ := hB
  rw [ht] at hP1
  obtain ⟨g1, g2⟩ := va_join (wr := wr) hP hD isC isR hC hR hn hdis hk1 hF hP1 hD1
  exact kk r u H1 locs1 hp g1 g2 hS1
theorem f_aft_v {S : Type} {post : S → Prop} {w1 : S → va_W} (hr : va_Run p l e R s m args below meth c H locs cells slots mc ms (F0 m pc ls st) rest (va_Qv post (fB D (va_A wc H.size) w1) (va_A wc H.size) a) (va_A wc H.size))
    (hP : va_P D vwCl ws H) (hD : va_D A ws) (hS : va_S A s.heap H locs) (hA : ∀ q, s.heap.size ≤ q → A q) (isC isR : List Nat) (hC : isC.map (fun i => ws[i]?) = wc.map some) (hR : isR.map (fun i => ws[i]?) = wr.map some) (hn : va_nd isR = true) (hdis : ∀ i ∈ isR, i ∉ isC)
    (kk : ∀ (u : S) (H1 : Heap) (locs1 : List Loc), post u → va_P D vwCl (wr ++ w1 u) H1 → va_D A (wr ++ w1 u) → va_S A s.heap H1 locs1 → W p l e R s m args below meth c H1 locs1 (cells + mc) (slots + ms) Q (F0 m (pc + 3) ls rest)) :
    W p l e R s m args below meth c H locs cells slots Q (F0 m pc ls st) := by
  have hF := va_free (wc := wc) hD hS hA isC hC
  refine va_callv hr hS (fun q _ h => hF q h) hF (fun u t H1 locs1 ht _ hp hB _ hk1 hS1 => ?_)
  obtain ⟨hP1, hD1⟩ := hB
  rw [ht] at hP1
  obtain ⟨g1, g2⟩ := va_join (wr := wr) hP hD isC isR hC hR hn hdis hk1 hF hP1 hD1
  exact kk u H1 locs1 hp g1 g2 hS1
theorem f_aft_r {S : Type} {post : S → Prop} {w1 : S → Nat → va_W} (hr : va_Run p l e R s m args below meth c H locs cells slots mc ms (F0 m pc ls st) rest (va_Qr post (fBr D (va_A wc H.size) w1) (va_A wc H.size) a) (va_A wc H.size))
    (hP : va_P D vwCl ws H) (hD : va_D A ws) (hS : va_S A s.heap H locs) (hA : ∀ q, s.heap.size ≤ q → A q) (isC isR : List Nat) (hC : isC.map (fun i => ws[i]?) = wc.map some) (hR : isR.map (fun i => ws[i]?) = wr.map some) (hn : va_nd isR = true) (hdis : ∀ i ∈ isR, i ∉ isC)
    (kk : ∀ (u : S) (ra : Nat) (H1 : Heap) (locs1 : List Loc), post u → va_P D vwCl (wr ++ w1 u ra) H1 → va_D A (wr ++ w1 u ra) → va_S A s.heap H1 locs1 → W p l e R s m args below meth c H1 locs1 (cells + mc) (slots + ms) Q (F0 m (pc + 3) ls (.ref ra :: rest))) :
    W p l e R s m args below meth c H locs cells slots Q (F0 m pc ls st) := by
  have hF := va_free (wc := wc) hD hS hA isC hC
  refine va_callr hr hS (fun q _ h => hF q h) hF (fun u ra t H1 locs1 ht _ hp hB _ hk1 hS1 => ?_)
  obtain ⟨hP1, hD1⟩ := hB
  rw [ht] at hP1
  obtain ⟨g1, g2⟩ := va_join (wr := wr) hP hD isC isR hC hR hn hdis hk1 hF hP1 hD1
  exact kk u ra H1 locs1 hp g1 g2 hS1
/-- the run of a virtual call, a static one, a constructor's -/
theorem f_runV (hx : p.tables.exec = Jvm.exec) (hb : c.code = cc) (hml : c.maxLocals = nL) (hown : s.vm.findClass own = some m.cls) (hts : ∀ w ∈ fA, w.before args s = true)
    (hM : Met l y (fW y cy ny ret) rm (fPre D cI cO cL E M (.ref b :: As) H.size wc) Qc mc ms (va_A wc H.size)) (cw : CallW R s args own C index y cy ny ret (fW y cy ny ret) rm mc ms n)
    (hE : fE D cI cO cL E M A s s.heap) (hP : va_P D vwCl ws H) (hD : va_D A ws) (hS : va_S A s.heap H locs) (hA : ∀ q, s.heap.size ≤ q → A q) (isC : List Nat) (hC : isC.map (fun i => ws[i]?) = wc.map some) (hnC : va_nd isC = true)
    {q0 ci : Nat} {q : vw_C} {fs : List Value} (hrv : ws[q0]? = some (b, .inr (ci, fs))) (hc : vwCl[ci]? = some q) (hq : q.1 = C)
    (hn : As.length = n) (hsize : ls.size = nL) (hstack : st = As.reverse ++ .ref b :: rest) (hW : (rest.map fun v => v.category).sum ≤ 8) (hdg : decode cc pc = .ok (.invokevirtual index, 3)) (hf : cells + mc ≤ R.cells ∧ slots + ms ≤ R.slots) :
    va_Run p l e R s m args below meth c H locs cells slots mc ms (F0 m pc ls st) rest (Qc (Value.ref b :: As).toArray) (va_A wc H.size) := by
  have hF := va_free (wc := wc) hD hS hA isC hC
  have hPc := hP.sub (ws' := wc) isC (f_fm hC)
  have hDc := hD.sub (ws' := wc) isC hnC hC
  refine va_runV ⟨hx, hb, hml, hown, hts⟩ hM cw ⟨fPre_blind, ?_, fun U hU hW => ⟨rfl, by rw [hU], by rw [hU]; exact hPc, hDc.weaken (fun _ _ _ _ => trivial), fE_call hE hS hF hU hW⟩⟩ rfl hn hsize hstack (lv_room hW) hdg hf
  rw [← hq]
  exact va_recv hE.1.1 hP hc hrv
theorem f_runS (hx : p.tables.exec = Jvm.exec) (hb : c.code = cc) (hml : c.maxLocals = nL) (hown : s.vm.findClass own = some m.cls) (hts : ∀ w ∈ fA, w.before args s = true)
    (hM : Met l y (fW y cy ny ret) rm (fPre D cI cO cL E M As H.size wc) Qc mc ms (va_A wc H.size)) (cw : CallB R s args own index y cy ny ret (fW y cy ny ret) rm mc ms n ∧ (Cond.static y).before args s = true)
    (hE : fE D cI cO cL E M A s s.heap) (hP : va_P D vwCl ws H) (hD : va_D A ws) (hS : va_S A s.heap H locs) (hA : ∀ q, s.heap.size ≤ q → A q) (isC : List Nat) (hC : isC.map (fun i => ws[i]?) = wc.map some) (hnC : va_nd isC = true)
    (hn : As.length = n) (hsize : ls.size = nL) (hstack : st = As.reverse ++ rest) (hW : (rest.map fun v => v.category).sum ≤ 8) (hdg : decode cc pc = .ok (.invokestatic index, 3)) (hf : cells + mc ≤ R.cells ∧ slots + ms ≤ R.slots) :
    va_Run p l e R s m args below meth c H locs cells slots mc ms (F0 m pc ls st) rest (Qc As.toArray) (va_A wc H.size) := by
  have hF := va_free (wc := wc) hD hS hA isC hC
  have hPc := hP.sub (ws' := wc) isC (f_fm hC)
  have hDc := hD.sub (ws' := wc) isC hnC hC
  exact va_runS ⟨hx, hb, hml, hown, hts⟩ hM cw ⟨fPre_blind, fun U hU hW => ⟨rfl, by rw [hU], by rw [hU]; exact hPc, hDc.weaken (fun _ _ _ _ => trivial), fE_call hE hS hF hU hW⟩⟩ rfl hn hsize hstack (lv_room hW) hdg hf
theorem f_runI (hx : p.tables.exec = Jvm.exec) (hb : c.code = cc) (hml : c.maxLocals = nL) (hown : s.vm.findClass own = some m.cls) (hts : ∀ w ∈ fA, w.before args s = true)
    (hM : Met l y (fW y cy ny none) rm (fPre D cI cO cL E M (.ref b :: As) H.size wc) Qc mc ms (va_A wc H.size)) (cw : CallB R s args own index y cy ny none (fW y cy ny none) rm mc ms n ∧ y.name = "<init>" ∧ (Cond.instanceMethod y).before args s = true)
    (hE : fE D cI cO cL E M A s s.heap) (hP : va_P D vwCl ws H) (hD : va_D A ws) (hS : va_S A s.heap H locs) (hA : ∀ q, s.heap.size ≤ q → A q) (isC : List Nat) (hC : isC.map (fun i => ws[i]?) = wc.map some) (hnC : va_nd isC = true)
    (hn : As.length = n) (hsize : ls.size = nL) (hstack : st = As.reverse ++ .ref b :: rest) (hW : (rest.map fun v => v.category).sum ≤ 8) (hdg : decode cc pc = .ok (.invokespecial index, 3)) (hf : cells + mc ≤ R.cells ∧ slots + ms ≤ R.slots) :
    va_Run p l e R s m args below meth c H locs cells slots mc ms (F0 m pc ls st) rest (Qc (Value.ref b :: As).toArray) (va_A wc H.size) := by
  have hF := va_free (wc := wc) hD hS hA isC hC
  have hPc := hP.sub (ws' := wc) isC (f_fm hC)
  have hDc := hD.sub (ws' := wc) isC hnC hC
  exact va_runI ⟨hx, hb, hml, hown, hts⟩ hM cw ⟨fPre_blind, fun U hU hW => ⟨rfl, by rw [hU], by rw [hU]; exact hPc, hDc.weaken (fun _ _ _ _ => trivial), fE_call hE hS hF hU hW⟩⟩ rfl hn hsize hstack (lv_room hW) hdg hf
theorem f_runIN {host : String} (hx : p.tables.exec = Jvm.exec) (hb : c.code = cc) (hml : c.maxLocals = nL) (hown : s.vm.findClass own = some m.cls) (hts : ∀ w ∈ fA, w.before args s = true)
    (hM : Met l y (fW y cy ny none) rm (fPre D cI cO cL E M (.ref b :: As) H.size wc) Qc mc ms (va_A wc H.size)) (cw : va_CN R s args own index y host cy ny none (fW y cy ny none) rm mc ms n ∧ y.name = "<init>" ∧ (Cond.instanceMethod y).before args s = true)
    (hE : fE D cI cO cL E M A s s.heap) (hP : va_P D vwCl ws H) (hD : va_D A ws) (hS : va_S A s.heap H locs) (hA : ∀ q, s.heap.size ≤ q → A q) (isC : List Nat) (hC : isC.map (fun i => ws[i]?) = wc.map some) (hnC : va_nd isC = true)
    (hn : As.length = n) (hsize : ls.size = nL) (hstack : st = As.reverse ++ .ref b :: rest) (hW : (rest.map fun v => v.category).sum ≤ 8) (hdg : decode cc pc = .ok (.invokespecial index, 3)) (hf : cells + mc ≤ R.cells ∧ slots + ms ≤ R.slots) :
    va_Run p l e R s m args below meth c H locs cells slots mc ms (F0 m pc ls st) rest (Qc (Value.ref b :: As).toArray) (va_A wc H.size) := by
  have hF := va_free (wc := wc) hD hS hA isC hC
  have hPc := hP.sub (ws' := wc) isC (f_fm hC)
  have hDc := hD.sub (ws' := wc) isC hnC hC
  exact va_runIN ⟨hx, hb, hml, hown, hts⟩ hM cw ⟨fPre_blind, fun U hU hW => ⟨rfl, by rw [hU], by rw [hU]; exact hPc, hDc.weaken (fun _ _ _ _ => trivial), fE_call hE hS hF hU hW⟩⟩ rfl hn hsize hstack (lv_room hW) hdg hf
theorem f_runSW {hh : List (Nat × Nat × Nat × Nat)} (hx : p.tables.exec = Jvm.exec) (hb : c.code = cc) (hml : c.maxLocals = nL) (hown : s.vm.findClass own = some m.cls) (hts : ∀ w ∈ fA, w.before args s = true)
    (hM : Met l y (fWw y cy ny ret hh) rm (fPre D cI cO cL E M As H.size wc) Qc mc ms (va_A wc H.size)) (cw : vx_CSW R s args own index y cy ny ret hh (fWw y cy ny ret hh) rm mc ms n)
    (hE : fE D cI cO cL E M A s s.heap) (hP : va_P D vwCl ws H) (hD : va_D A ws) (hS : va_S A s.heap H locs) (hA : ∀ q, s.heap.size ≤ q → A q) (isC : List Nat) (hC : isC.map (fun i => ws[i]?) = wc.map some) (hnC : va_nd isC = true)
    (hn : As.length = n) (hsize : ls.size = nL) (hstack : st = As.reverse ++ rest) (hW : (rest.map fun v => v.category).sum ≤ 8) (hdg : decode cc pc = .ok (.invokestatic index, 3)) (hf : cells + mc ≤ R.cells ∧ slots + ms ≤ R.slots) :
    va_Run p l e R s m args below meth c H locs cells slots mc ms (F0 m pc ls st) rest (Qc As.toArray) (va_A wc H.size) := by
  have hF := va_free (wc := wc) hD hS hA isC hC
  have hPc := hP.sub (ws' := wc) isC (f_fm hC)
  have hDc := hD.sub (ws' := wc) isC hnC hC
  exact vx_runSW ⟨hx, hb, hml, hown, hts⟩ hM cw ⟨fPre_blind, fun U hU hW => ⟨rfl, by rw [hU], by rw [hU]; exact hPc, hDc.weaken (fun _ _ _ _ => trivial), fE_call hE hS hF hU hW⟩⟩ rfl hn hsize hstack (lv_room hW) hdg hf
/-- behind a call that always throws -/
theorem f_aft_X {EX : String} (hr : vx_Run p l e R s m args below meth c H locs cells slots mc ms (F0 m pc ls st) rest (fun _ _ _ => False) (fXC EX (va_A wc H.size)) (va_A wc H.size))
    (hD : va_D A ws) (hS : va_S A s.heap H locs) (hA : ∀ q, s.heap.size ≤ q → A q) (isC : List Nat) (hC : isC.map (fun i => ws[i]?) = wc.map some)
    (kx : ∀ (ce : Cell) (q9 : Addr) (H1 : Heap) (locs1 : List Loc), va_S A s.heap H1 locs1 → H1[q9]? = some ce → ce.vm = .none → s.vm.findClass EX = some ce.cls → vx_W p l e R s m args below meth c H1 locs1 (cells + mc) (slots + ms) Q (F0 m pc ls rest) q9) :
    W p l e R s m args below meth c H locs cells slots Q (F0 m pc ls st) := by
  have hF := va_free (wc := wc) hD hS hA isC hC
  intro T hT X
  rcases hr T hT X with ⟨v, st₀, t, T', L, h0, X', hL, e1, e2, h, st⟩ | ⟨q, st₀, t, T', L, E9, ce, h0, X', hL, e1, e2, ⟨u, hp, rfl, hF1⟩, hce, hcv, hcl, st⟩
  · exact absurd h id
  · obtain ⟨k1, k2, k3⟩ := vx_keep h0 e1 hS (fun q _ h => hF q h) hF hL hF1
    obtain ⟨t2, a1, b1⟩ := kx ce q T'.heap (locs ++ L) k3 (by rw [e1]; exact hce) hcv hcl T' rfl X'
    exact ⟨t2, st.trans a1, b1⟩
theorem f_runVX {EX : String} (hx : p.tables.exec = Jvm.exec) (hb : c.code = cc) (hml : c.maxLocals = nL) (hown : s.vm.findClass own = some m.cls) (hts : ∀ w ∈ fA, w.before args s = true)
    (hM : vx_Met l y (fW y cy ny ret) rm (fPre D cI cO cL E M (.ref b :: As) H.size wc) fQ0 (fXC EX (va_A wc H.size)) mc ms (va_A wc H.size)) (cw : CallW R s args own C index y cy ny ret (fW y cy ny ret) rm mc ms n)
    (hE : fE D cI cO cL E M A s s.heap) (hP : va_P D vwCl ws H) (hD : va_D A ws) (hS : va_S A s.heap H locs) (hA : ∀ q, s.heap.size ≤ q → A q) (isC : List Nat) (hC : isC.map (fun i => ws[i]?) = wc.map some) (hnC : va_nd isC = true)
    {q0 ci : Nat} {q : vw_C} {fs : List Value} (hrv : ws[q0]? = some (b, .inr (ci, fs))) (hc : vwCl[ci]? = some q) (hq : q.1 = C)
    (hn : As.length = n) (hsize : ls.size = nL) (hstack : st = As.reverse ++ .ref b :: rest) (hW : (rest.map fun v => v.category).sum ≤ 8) (hdg : decode cc pc = .ok (.invokevirtual index, 3)) (hf : cells + mc ≤ R.cells ∧ slots + ms ≤ R.slots) :
    vx_Run p l e R s m args below meth c H locs cells slots mc ms (F0 m pc ls st) rest (fun _ _ _ => False) (fXC EX (va_A wc H.size)) (va_A wc H.size) := by
  have hF := va_free (wc := wc) hD hS hA isC hC
  have hPc := hP.sub (ws' := wc) isC (f_fm hC)
  have hDc := hD.sub (ws' := wc) isC hnC hC
  refine vx_runV (Qc := fQ0) ⟨hx, hb, hml, hown, hts⟩ hM cw ⟨fPre_blind, ?_, fun U hU hW => ⟨rfl, by rw [hU], by rw [hU]; exact hPc, hDc.weaken (fun _ _ _ _ => trivial), fE_call hE hS hF hU hW⟩⟩ rfl hn hsize hstack (lv_room hW) hdg hf
  rw [← hq]
  exact va_recv hE.1.1 hP hc hrv
theorem f_runF {x : MethodName} {count : Nat} (hx : p.tables.exec = Jvm.exec) (hb : c.code = cc) (hml : c.maxLocals = nL) (hown : s.vm.findClass own = some m.cls) (hts : ∀ w ∈ fA, w.before args s = true)
    (hM : Met l y (fW y cy ny ret) rm (fPre D cI cO cL E M (.ref b :: As) H.size wc) Qc mc ms (va_A wc H.size)) (cw : va_CI R s args own C index x y cy ny ret (fW y cy ny ret) rm mc ms n)
    (hE : fE D cI cO cL E M A s s.heap) (hP : va_P D vwCl ws H) (hD : va_D A ws) (hS : va_S A s.heap H locs) (hA : ∀ q, s.heap.size ≤ q → A q) (isC : List Nat) (hC : isC.map (fun i => ws[i]?) = wc.map some) (hnC : va_nd isC = true)
    {q0 ci : Nat} {q : vw_C} {fs : List Value} (hrv : ws[q0]? = some (b, .inr (ci, fs))) (hc : vwCl[ci]? = some q) (hq : q.1 = C)
    (hn : As.length = n) (hsize : ls.size = nL) (hstack : st = As.reverse ++ .ref b :: rest) (hW : (rest.map fun v => v.category).sum ≤ 8) (hdg : decode cc pc = .ok (.invokeinterface index count, 5)) (hf : cells + mc ≤ R.cells ∧ slots + ms ≤ R.slots) :
    va_Run5 p l e R s m args below meth c H locs cells slots mc ms (F0 m pc ls st) rest (Qc (Value.ref b :: As).toArray) (va_A wc H.size) := by
  have hF := va_free (wc := wc) hD hS hA isC hC
  have hPc := hP.sub (ws' := wc) isC (f_fm hC)
  have hDc := hD.sub (ws' := wc) isC hnC hC
  subst hq
  exact va_runF (hE.1.1.1 ci q hc).2 ⟨hx, hb, hml, hown, hts⟩ hM cw ⟨fPre_blind, va_recv hE.1.1 hP hc hrv, fun U hU hW => ⟨rfl, by rw [hU], by rw [hU]; exact hPc, hDc.weaken (fun _ _ _ _ => trivial), fE_call hE hS hF hU hW⟩⟩ rfl hn hsize hstack (lv_room hW) hdg hf
theorem f_aft_Fr {S : Type} {post : S → Prop} {w1 : S → Nat → va_W} (hr : va_Run5 p l e R s m args below meth c H locs cells slots mc ms (F0 m pc ls st) rest (va_Qr post (fBr D (va_A wc H.size) w1) (va_A wc H.size) a) (va_A wc H.size))
    (hP : va_P D vwCl ws H) (hD : va_D A ws) (hS : va_S A s.heap H locs) (hA : ∀ q, s.heap.size ≤ q → A q) (isC isR : List Nat) (hC : isC.map (fun i => ws[i]?) = wc.map some) (hR : isR.map (fun i => ws[i]?) = wr.map some) (hn : va_nd isR = true) (hdis : ∀ i ∈ isR, i ∉ isC)
    (kk : ∀ (u : S) (ra : Nat) (H1 : Heap) (locs1 : List Loc), post u → va_P D vwCl (wr ++ w1 u ra) H1 → va_D A (wr ++ w1 u ra) → va_S A s.heap H1 locs1 → W p l e R s m args below meth c H1 locs1 (cells + mc) (slots + ms) Q (F0 m (pc + 5) ls (.ref ra :: rest))) :
    W p l e R s m args below meth c H locs cells slots Q (F0 m pc ls st) := by
  have hF := va_free (wc := wc) hD hS hA isC hC
  refine va_callFr hr hS (fun q _ h => hF q h) hF (fun u ra t H1 locs1 ht _ hp hB _ hk1 hS1 => ?_)
  obtain ⟨hP1, hD1⟩ := hB
  rw [ht] at hP1
  obtain ⟨g1, g2⟩ := va_join (wr := wr) hP hD isC isR hC hR hn hdis hk1 hF hP1 hD1
  exact kk u ra H1 locs1 hp g1 g2 hS1
/-- arithmetic whose result is given -/
theorem f_iadd {x y v : Int32} (hx : p.tables.exec = Jvm.exec) (hb : c.code = cc) (hdg : decode cc pc = .ok (.iadd, 1)) (hv : x + y = v) (k : W p l e R s m args below meth c H locs cells slots Q (F0 m (pc + 1) ls (.int v :: rest))) : W p l e R s m args below meth c H locs cells slots Q (F0 m pc ls (.int y :: .int x :: rest)) := by subst hv; exact lv_iadd hx hb hdg k
theorem f_isub {x y v : Int32} (hx : p.tables.exec = Jvm.exec) (hb : c.code = cc) (hdg : decode cc pc = .ok (.isub, 1)) (hv : x - y = v) (k : W p l e R s m args below meth c H locs cells slots Q (F0 m (pc + 1) ls (.int v :: rest))) : W p l e R s m args below meth c H locs cells slots Q (F0 m pc ls (.int y :: .int x :: rest)) := by subst hv; exact lv_isub hx hb hdg k
theorem f_imul {x y v : Int32} (hx : p.tables.exec = Jvm.exec) (hb : c.code = cc) (hdg : decode cc pc = .ok (.imul, 1)) (hv : x * y = v) (k : W p l e R s m args below meth c H locs cells slots Q (F0 m (pc + 1) ls (.int v :: rest))) : W p l e R s m args below meth c H locs cells slots Q (F0 m pc ls (.int y :: .int x :: rest)) := by subst hv; exact lv_imul hx hb hdg k
theorem f_iand {x y v : Int32} (hx : p.tables.exec = Jvm.exec) (hb : c.code = cc) (hdg : decode cc pc = .ok (.iand, 1)) (hv : x &&& y = v) (k : W p l e R s m args below meth c H locs cells slots Q (F0 m (pc + 1) ls (.int v :: rest))) : W p l e R s m args below meth c H locs cells slots Q (F0 m pc ls (.int y :: .int x :: rest)) := by subst hv; exact lv_iand hx hb hdg k
theorem f_ixor {x y v : Int32} (hx : p.tables.exec = Jvm.exec) (hb : c.code = cc) (hdg : decode cc pc = .ok (.ixor, 1)) (hv : x ^^^ y = v) (k : W p l e R s m args below meth c H locs cells slots Q (F0 m (pc + 1) ls (.int v :: rest))) : W p l e R s m args below meth c H locs cells slots Q (F0 m pc ls (.int y :: .int x :: rest)) := by subst hv; exact lv_ixor hx hb hdg k
theorem f_irem {x y v : Int32} (hx : p.tables.exec = Jvm.exec) (hb : c.code = cc) (hdg : decode cc pc = .ok (.irem, 1)) (hne : ¬ y = 0) (hv : x - x / y * y = v) (k : W p l e R s m args below meth c H locs cells slots Q (F0 m (pc + 1) ls (.int v :: rest))) : W p l e R s m args below meth c H locs cells slots Q (F0 m pc ls (.int y :: .int x :: rest)) := by subst hv; exact lv_irem hx hb hdg hne k
theorem f_ladd {x y v : Int64} (hx : p.tables.exec = Jvm.exec) (hb : c.code = cc) (hdg : decode cc pc = .ok (.ladd, 1)) (hv : x + y = v) (k : W p l e R s m args below meth c H locs cells slots Q (F0 m (pc + 1) ls (.long v :: rest))) : W p l e R s m args below meth c H locs cells slots Q (F0 m pc ls (.long y :: .long x :: rest)) := by subst hv; exact lv_ladd hx hb hdg k
theorem f_lmul {x y v : Int64} (hx : p.tables.exec = Jvm.exec) (hb : c.code = cc) (hdg : decode cc pc = .ok (.lmul, 1)) (hv : x * y = v) (k : W p l e R s m args below meth c H locs cells slots Q (F0 m (pc + 1) ls (.long v :: rest))) : W p l e R s m args below meth c H locs cells slots Q (F0 m pc ls (.long y :: .long x :: rest)) := by subst hv; exact lv_lmul hx hb hdg k
theorem f_ushr {x y v : Int32} (hx : p.tables.exec = Jvm.exec) (hb : c.code = cc) (hdg : decode cc pc = .ok (.iushr, 1)) (hv : (x.toUInt32 >>> (y.toUInt32 &&& Int32.toUInt32 31)).toInt32 = v) (k : W p l e R s m args below meth c H locs cells slots Q (F0 m (pc + 1) ls (.int v :: rest))) : W p l e R s m args below meth c H locs cells slots Q (F0 m pc ls (.int y :: .int x :: rest)) := lv_iushr hx hb hdg hv k
/-- a new array's class is the one that has its name -/
theorem f_sameC {cA cB : ClassId} {ty : FieldType} {tys : List (ClassId × FieldType)} {cl : List vw_C} (h : va_K D cl tys s) {i j : Nat} (hi : tys[i]? = some (cA, ty)) (hj : tys[j]? = some (cB, ty)) (hp : ∀ C, ty ≠ .object C) : cA = cB := by
  have h1 := (h.2 i _ hi).2
  have h2 := (h.2 j _ hj).2
  cases ty with
  | object C => exact absurd rfl (hp C)
  | _ => exact Option.some.inj (h1.symm.trans h2)
theorem f_sameO {cA cB : ClassId} {C : String} {tys : List (ClassId × FieldType)} {cl : List vw_C} (h : va_K D cl tys s) {i j : Nat} (hi : tys[i]? = some (cA, .object C)) (hj : tys[j]? = some (cB, .object C)) : cA = cB := by
  obtain ⟨_, _, _, _, _, h1⟩ := (h.2 i _ hi).2
  obtain ⟨_, _, _, _, _, h2⟩ := (h.2 j _ hj).2
  exact Option.some.inj (h1.symm.trans h2)
end FCALL
