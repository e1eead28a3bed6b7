section FK2
variable {p : Program} {l : Launch} {e : Env} {R : Room} {s : State} {m : MethodId} {args : Array Value} {below : List Frame} {meth : Method} {c : Code} {H : Heap} {locs : List Loc} {cells slots : Nat} {Q : State → Prop}
variable {D : va_G} {cI cO cL : ClassId} {E M : Nat} {A : Nat → Prop} {ws : va_W} {pc : Nat} {ls : Array Slot} {st rest : List Value} {cc : ByteArray} {mc ms ik : Nat} {free : Addr → Prop}
theorem f_start {g : JFrame} (hP : va_P D vwCl ws s.heap) (k : ∀ H : Heap, va_P D vwCl ws H → va_S A s.heap H [] → W p l e R s m args below meth c H [] 0 0 Q g) : W p l e R s m args below meth c s.heap [] 0 0 Q g := k s.heap hP va_S.rf
theorem f_topi {x v : Int32} (hv : x = v) (k : W p l e R s m args below meth c H locs cells slots Q (F0 m pc ls (.int v :: rest))) : W p l e R s m args below meth c H locs cells slots Q (F0 m pc ls (.int x :: rest)) := by subst hv; exact k
theorem f_topl {x v : Int64} (hv : x = v) (k : W p l e R s m args below meth c H locs cells slots Q (F0 m pc ls (.long v :: rest))) : W p l e R s m args below meth c H locs cells slots Q (F0 m pc ls (.long x :: rest)) := by subst hv; exact k
theorem f_lt1 {j : Nat} (h : j < 1) : j = 0 := by omega
theorem f_lt3 {j : Nat} (h : j < 3) : j = 0 ∨ j = 1 ∨ j = 2 := by omega
theorem f_lt5 {j : Nat} (h : j < 5) : j = 0 ∨ j = 1 ∨ j = 2 ∨ j = 3 ∨ j = 4 := by omega
theorem f_lt6 {j : Nat} (h : j < 6) : j = 0 ∨ j = 1 ∨ j = 2 ∨ j = 3 ∨ j = 4 ∨ j = 5 := by omega
theorem f_lt15 {j : Nat} (h : j < 15) : j = 0 ∨ j = 1 ∨ j = 2 ∨ j = 3 ∨ j = 4 ∨ j = 5 ∨ j = 6 ∨ j = 7 ∨ j = 8 ∨ j = 9 ∨ j = 10 ∨ j = 11 ∨ j = 12 ∨ j = 13 ∨ j = 14 := by omega
theorem f_up0 {k : Nat} : upd (fun _ => 0) k 0 = fun _ => 0 := by funext j; simp [upd]
theorem f_upL0 {k : Nat} : vp_updL (fun _ => 0) k 0 = fun _ => 0 := by funext j; simp [vp_updL]
theorem f_cpy0 {n : Nat} : va_cpy (fun _ => (0 : Int32)) (fun _ => 0) 0 0 n = fun _ => 0 := by funext j; simp [va_cpy]
theorem f_same (h : (Cond.sameField "java/util/ArrayList" "java/util/AbstractList" "modCount" "I").before args s = true) : ∀ x, s.fieldFound? "java/util/AbstractList" "modCount" "I" = some x → s.fieldFound? "java/util/ArrayList" "modCount" "I" = some x := by
  intro x hx
  cases hr : s.fieldFound? "java/util/ArrayList" "modCount" "I" with
  | none => simp [Cond.before, Cond.holds, Cond.value, hr] at h
  | some y =>
    obtain ⟨c9, k9, i9, f9⟩ := y
    have h1 : s.fieldFound? "java/util/AbstractList" "modCount" "I" = some (c9, k9, i9, f9) := Cond.sameField_spec hr h
    rw [← h1]; exact hx
theorem f_nmO (h : fE D cI cO cL E M A s s.heap) : s.vm.findClass "[Ljava/lang/Object;" = some cO := by
  obtain ⟨_, _, _, _, _, h1⟩ := (h.1.1.2 1 (cO, .object "java/lang/Object") rfl).2
  exact h1
theorem f_in1 : ∀ w ∈ (vx_atS RX7 30 "java/lang/IllegalArgumentException" ["java/lang/RuntimeException", "java/lang/Exception"]).filter goodWord, w ∈ lw_tbl := by decide +kernel
theorem f_in2 : ∀ w ∈ (vx_atS RX7 251 "java/lang/IndexOutOfBoundsException" ["java/lang/RuntimeException", "java/lang/Exception"]).filter goodWord, w ∈ lw_tbl := by decide +kernel
theorem f_hatIAE (hts : ∀ w ∈ fA, w.before args s = true) (hE : fE D cI cO cL E M A s s.heap) : ∀ w ∈ vx_atS RX7 30 "java/lang/IllegalArgumentException" ["java/lang/RuntimeException", "java/lang/Exception"], w.before args s = true :=
  vx_hat (B := [Cond.castable "java/lang/IllegalArgumentException" "java/lang/IllegalArgumentException", Cond.declares ⟨"java/lang/RuntimeException", "<init>", "(Ljava/lang/String;)V"⟩, Cond.declares ⟨"java/lang/Exception", "<init>", "(Ljava/lang/String;)V"⟩, Cond.declares ⟨"java/lang/Throwable", "<init>", "(Ljava/lang/String;)V"⟩]) (fun w hw => hts w (List.mem_filter.mpr ⟨f_in1 w hw, (List.mem_filter.mp hw).2⟩)) (by decide +kernel) (vx_c (va_Nw.use rfl hE.1.2.2.2.2.1) (vx_c (va_Nw.use rfl (hE.1.2.2.2.2.2.2.2.2.1 "java/lang/RuntimeException" (by decide))) (vx_c (va_Nw.use rfl (hE.1.2.2.2.2.2.2.2.2.1 "java/lang/Exception" (by decide))) (vx_c (va_Nw.use rfl (hE.1.2.2.2.2.2.2.2.2.1 "java/lang/Throwable" (by decide))) vx_n))))
theorem f_hatIOB (hts : ∀ w ∈ fA, w.before args s = true) (hE : fE D cI cO cL E M A s s.heap) : ∀ w ∈ vx_atS RX7 251 "java/lang/IndexOutOfBoundsException" ["java/lang/RuntimeException", "java/lang/Exception"], w.before args s = true :=
  vx_hat (B := [Cond.castable "java/lang/IndexOutOfBoundsException" "java/lang/IndexOutOfBoundsException", Cond.declares ⟨"java/lang/RuntimeException", "<init>", "(Ljava/lang/String;)V"⟩, Cond.declares ⟨"java/lang/Exception", "<init>", "(Ljava/lang/String;)V"⟩, Cond.declares ⟨"java/lang/Throwable", "<init>", "(Ljava/lang/String;)V"⟩]) (fun w hw => hts w (List.mem_filter.mpr ⟨f_in2 w hw, (List.mem_filter.mp hw).2⟩)) (by decide +kernel) (vx_c (va_Nw.use rfl hE.1.2.2.2.2.2.1) (vx_c (va_Nw.use rfl (hE.1.2.2.2.2.2.2.2.2.1 "java/lang/RuntimeException" (by decide))) (vx_c (va_Nw.use rfl (hE.1.2.2.2.2.2.2.2.2.1 "java/lang/Exception" (by decide))) (vx_c (va_Nw.use rfl (hE.1.2.2.2.2.2.2.2.2.1 "java/lang/Throwable" (by decide))) vx_n))))
theorem f_ot1 : ∀ w ∈ Cond.classLink RX7 26 "java/lang/IllegalArgumentException" :: Cond.initialized "java/lang/IllegalArgumentException" :: vx_atS RX7 30 "java/lang/IllegalArgumentException" ["java/lang/RuntimeException", "java/lang/Exception"], vx_ot w = true := by decide +kernel
theorem f_ot2 : ∀ w ∈ Cond.classLink RX7 247 "java/lang/IndexOutOfBoundsException" :: Cond.initialized "java/lang/IndexOutOfBoundsException" :: vx_atS RX7 251 "java/lang/IndexOutOfBoundsException" ["java/lang/RuntimeException", "java/lang/Exception"], vx_ot w = true := by decide +kernel
theorem f_fitA : Bundle.fit "java/lang/IllegalArgumentException" = true := by decide +kernel
theorem f_fitB : Bundle.fit "java/lang/IndexOutOfBoundsException" = true := by decide +kernel
theorem f_fitN : ∀ n ∈ ["java/lang/RuntimeException", "java/lang/Exception"], Bundle.fit n = true := by decide +kernel
theorem f_throwIAE {is sa : Nat} {text : String} (hx : p.tables.exec = Jvm.exec) (hb : c.code = cc) (hl9 : l.stackTraces = false) (hown : s.vm.findClass RX7 = some m.cls) (hts : ∀ w ∈ fA, w.before args s = true) (hsa : vk_R RX7 is text sa s)
    (hk : (Cond.classLink RX7 26 "java/lang/IllegalArgumentException").before args s = true) (hini : (Cond.initialized "java/lang/IllegalArgumentException").before args s = true)
    (hE : fE D cI cO cL E M A s s.heap) (hS : va_S A s.heap H locs) (hsize : ls.size = c.maxLocals)
    (d0 : decode cc pc = .ok (.new 26, 3)) (d3 : decode cc (pc + 3) = .ok (.dup, 1)) (d4 : decode cc (pc + 4) = .ok (.ldc is, 2)) (d6 : decode cc (pc + 6) = .ok (.invokespecial 30, 3)) (d9 : decode cc (pc + 9) = .ok (.athrow, 1))
    (htab : ∀ x ∈ c.exceptionTable.toList, False) (hRf : 6 ≤ R.frames) (hRl : (rest.map fun v => v.category).sum + 82 ≤ R.locals) (hRc : cells + 1 ≤ R.cells) (hRs : slots + 6 ≤ R.slots) (hlocks : meth.locks = false) (hf : ∀ z ∈ locs, A z.base) (hc : cells + 1 ≤ mc) (hs : slots + 6 ≤ ms) :
    W p l e R s m args below meth c H locs cells slots (vx_MQ below fQ0 (fXC "java/lang/IllegalArgumentException" A) args s mc ms A) (F0 m pc ls rest) :=
  vx_throwS (A := A) (names := ["java/lang/RuntimeException", "java/lang/Exception"]) hx hb hl9 hown f_fitA f_fitN hk hini hsa (f_hatIAE hts hE) f_ot1 hE.2.2.2.1 hE.2.2.2.2.1 hS hsize d0 d3 d4 d6 d9 (fun x h => (htab x h).elim) hRf hRl hRc hRs hlocks
    (fun t _ h1 h2 => ⟨(), trivial, rfl, ⟨Nat.le_trans hS.1 h1, fun q g1 g2 => (h2 q (Nat.lt_of_lt_of_le g1 hS.1)).trans (hS.2.1 q g1 g2)⟩⟩) hf hc hs
theorem f_throwIOB {is sa : Nat} {text : String} (hx : p.tables.exec = Jvm.exec) (hb : c.code = cc) (hl9 : l.stackTraces = false) (hown : s.vm.findClass RX7 = some m.cls) (hts : ∀ w ∈ fA, w.before args s = true) (hsa : vk_R RX7 is text sa s)
    (hk : (Cond.classLink RX7 247 "java/lang/IndexOutOfBoundsException").before args s = true) (hini : (Cond.initialized "java/lang/IndexOutOfBoundsException").before args s = true)
    (hE : fE D cI cO cL E M A s s.heap) (hS : va_S A s.heap H locs) (hsize : ls.size = c.maxLocals)
    (d0 : decode cc pc = .ok (.new 247, 3)) (d3 : decode cc (pc + 3) = .ok (.dup, 1)) (d4 : decode cc (pc + 4) = .ok (.ldc is, 2)) (d6 : decode cc (pc + 6) = .ok (.invokespecial 251, 3)) (d9 : decode cc (pc + 9) = .ok (.athrow, 1))
    (htab : ∀ x ∈ c.exceptionTable.toList, False) (hRf : 6 ≤ R.frames) (hRl : (rest.map fun v => v.category).sum + 82 ≤ R.locals) (hRc : cells + 1 ≤ R.cells) (hRs : slots + 6 ≤ R.slots) (hlocks : meth.locks = false) (hf : ∀ z ∈ locs, A z.base) (hc : cells + 1 ≤ mc) (hs : slots + 6 ≤ ms) :
    W p l e R s m args below meth c H locs cells slots (vx_MQ below fQ0 (fXC "java/lang/IndexOutOfBoundsException" A) args s mc ms A) (F0 m pc ls rest) :=
  vx_throwS (A := A) (names := ["java/lang/RuntimeException", "java/lang/Exception"]) hx hb hl9 hown f_fitB f_fitN hk hini hsa (f_hatIOB hts hE) f_ot2 hE.2.2.2.1 hE.2.2.2.2.1 hS hsize d0 d3 d4 d6 d9 (fun x h => (htab x h).elim) hRf hRl hRc hRs hlocks
    (fun t _ h1 h2 => ⟨(), trivial, rfl, ⟨Nat.le_trans hS.1 h1, fun q g1 g2 => (h2 q (Nat.lt_of_lt_of_le g1 hS.1)).trans (hS.2.1 q g1 g2)⟩⟩) hf hc hs
theorem f_throwWIAE {is sa : Nat} {text : String} (hx : p.tables.exec = Jvm.exec) (hb : c.code = cc) (hl9 : l.stackTraces = false) (hown : s.vm.findClass RX7 = some m.cls) (hts : ∀ w ∈ fA, w.before args s = true) (hsa : vk_R RX7 is text sa s)
    (hk : (Cond.classLink RX7 26 "java/lang/IllegalArgumentException").before args s = true) (hini : (Cond.initialized "java/lang/IllegalArgumentException").before args s = true)
    (hE : fE D cI cO cL E M A s s.heap) (hS : va_S A s.heap H locs) (hsize : ls.size = c.maxLocals)
    (d0 : decode cc pc = .ok (.new 26, 3)) (d3 : decode cc (pc + 3) = .ok (.dup, 1)) (d4 : decode cc (pc + 4) = .ok (.ldc_w is, 3)) (d7 : decode cc (pc + 7) = .ok (.invokespecial 30, 3)) (d10 : decode cc (pc + 10) = .ok (.athrow, 1))
    (htab : ∀ x ∈ c.exceptionTable.toList, False) (hRf : 6 ≤ R.frames) (hRl : (rest.map fun v => v.category).sum + 82 ≤ R.locals) (hRc : cells + 1 ≤ R.cells) (hRs : slots + 6 ≤ R.slots) (hlocks : meth.locks = false) (hf : ∀ z ∈ locs, A z.base) (hc : cells + 1 ≤ mc) (hs : slots + 6 ≤ ms) :
    W p l e R s m args below meth c H locs cells slots (vx_MQ below fQ0 (fXC "java/lang/IllegalArgumentException" A) args s mc ms A) (F0 m pc ls rest) :=
  vx_throwSW (A := A) (names := ["java/lang/RuntimeException", "java/lang/Exception"]) hx hb hl9 hown f_fitA f_fitN hk hini hsa (f_hatIAE hts hE) f_ot1 hE.2.2.2.1 hE.2.2.2.2.1 hS hsize d0 d3 d4 d7 d10 (fun x h => (htab x h).elim) hRf hRl hRc hRs hlocks
    (fun t _ h1 h2 => ⟨(), trivial, rfl, ⟨Nat.le_trans hS.1 h1, fun q g1 g2 => (h2 q (Nat.lt_of_lt_of_le g1 hS.1)).trans (hS.2.1 q g1 g2)⟩⟩) hf hc hs
theorem f_throwWIOB {is sa : Nat} {text : String} (hx : p.tables.exec = Jvm.exec) (hb : c.code = cc) (hl9 : l.stackTraces = false) (hown : s.vm.findClass RX7 = some m.cls) (hts : ∀ w ∈ fA, w.before args s = true) (hsa : vk_R RX7 is text sa s)
    (hk : (Cond.classLink RX7 247 "java/lang/IndexOutOfBoundsException").before args s = true) (hini : (Cond.initialized "java/lang/IndexOutOfBoundsException").before args s = true)
    (hE : fE D cI cO cL E M A s s.heap) (hS : va_S A s.heap H locs) (hsize : ls.size = c.maxLocals)
    (d0 : decode cc pc = .ok (.new 247, 3)) (d3 : decode cc (pc + 3) = .ok (.dup, 1)) (d4 : decode cc (pc + 4) = .ok (.ldc_w is, 3)) (d7 : decode cc (pc + 7) = .ok (.invokespecial 251, 3)) (d10 : decode cc (pc + 10) = .ok (.athrow, 1))
    (htab : ∀ x ∈ c.exceptionTable.toList, False) (hRf : 6 ≤ R.frames) (hRl : (rest.map fun v => v.category).sum + 82 ≤ R.locals) (hRc : cells + 1 ≤ R.cells) (hRs : slots + 6 ≤ R.slots) (hlocks : meth.locks = false) (hf : ∀ z ∈ locs, A z.base) (hc : cells + 1 ≤ mc) (hs : slots + 6 ≤ ms) :
    W p l e R s m args below meth c H locs cells slots (vx_MQ below fQ0 (fXC "java/lang/IndexOutOfBoundsException" A) args s mc ms A) (F0 m pc ls rest) :=
  vx_throwSW (A := A) (names := ["java/lang/RuntimeException", "java/lang/Exception"]) hx hb hl9 hown f_fitB f_fitN hk hini hsa (f_hatIOB hts hE) f_ot2 hE.2.2.2.1 hE.2.2.2.2.1 hS hsize d0 d3 d4 d7 d10 (fun x h => (htab x h).elim) hRf hRl hRc hRs hlocks
    (fun t _ h1 h2 => ⟨(), trivial, rfl, ⟨Nat.le_trans hS.1 h1, fun q g1 g2 => (h2 q (Nat.lt_of_lt_of_le g1 hS.1)).trans (hS.2.1 q g1 g2)⟩⟩) hf hc hs
end FK2
