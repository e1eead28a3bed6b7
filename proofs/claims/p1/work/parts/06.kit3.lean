section FK3
variable {s : State} {D : va_G} {cI cO cL : ClassId} {E M : Nat} {A : Nat → Prop} {H : Heap} {locs : List Loc}
theorem f_nfw : nativeFrameWords "java/lang/System" "arraycopy" 5 = 7 := by decide
theorem f_cpyg {g : Nat → Option Nat} : va_cpy (fun _ => none) g (0 : Int32).toNatClampNeg (0 : Int32).toNatClampNeg (0 : Int32).toNatClampNeg = g := by
  funext j; unfold va_cpy; rw [show (0 : Int32).toNatClampNeg = 0 from by decide]; rw [if_neg (by omega)]
theorem f_cpy9 : va_cpy (fun _ => (0 : Int32)) (fun _ => 0) (0 : Int32).toNatClampNeg (0 : Int32).toNatClampNeg (9 : Int32).toNatClampNeg = fun _ => 0 := by
  funext j; unfold va_cpy; split <;> rfl
theorem f_atE (hE : fE D cI cO cL E M A s s.heap) (hS : va_S A s.heap H locs) : ∃ cell : Cell, H[E]? = some cell ∧ cell.vm.isStatics = false ∧ s.vm.findClass "[Ljava/lang/Object;" = some cell.cls := by
  obtain ⟨cell, h1, h2, h3, -⟩ := hE.2.2.2.2.2.kept hS.2.1
  exact ⟨cell, h1, h2, h3⟩
theorem f_9 : (9 : Int32) = nI 9 := rfl
theorem f_xor9 {k : Nat} (hk : k < 6010) : 0 ≤ nI k ^^^ 9 := by
  have h1 : nI k ^^^ nI 9 = nI (k ^^^ 9) := by
    apply Int32.toBitVec_inj.1
    show BitVec.ofNat 32 k ^^^ BitVec.ofNat 32 9 = BitVec.ofNat 32 (k ^^^ 9)
    apply BitVec.eq_of_getLsbD_eq
    intro i hi
    simp [hi]
  rw [f_9, h1]
  exact nI_pos' (Nat.lt_trans (Nat.xor_lt_two_pow (n := 13) (by omega) (by omega)) (by decide))
theorem f_rem9 {k : Nat} (hk : k < 6010) : nI k - nI k / 9 * 9 = nI (k % 9) := pk_rem (d := 9) (by omega) (by omega) (by omega)
theorem f_in9 (k : Nat) : vp_in (nI (k % 9)) 9 := vp_in_nI (Nat.mod_lt _ (by decide)) (by decide)
theorem f_s1 (k : Nat) : nI k + 1 = nI (k + 1) := nI_1 k
theorem f_add (a b : Nat) : nI a + nI b = nI (a + b) := nI_add a b
theorem f_nlt {a b : Nat} (h : b ≤ a) (ha : a < 2147483648) : ¬ nI a < nI b := nI_nlt h ha
theorem f_le {a b : Nat} (h : a ≤ b) (hb : b < 2147483648) : nI a ≤ nI b := nI_le h hb
theorem f_of_nlt {a b : Int32} (h : ¬ a < b) : b ≤ a := Int32.not_lt.mp h
theorem f_of_lt {a b : Int32} (h : a < b) : ¬ b ≤ a := Int32.not_le.mpr h
theorem f_rng {x : Int32} {a b : Nat} (h1 : ¬ x < nI a) (h2 : ¬ nI b < x) (ha : a < 2147483648) (hb : b < 2147483648) : ∃ n, a ≤ n ∧ n ≤ b ∧ x = nI n := by
  have e1 : nI a ≤ x := Int32.not_lt.mp h1
  have e2 : x ≤ nI b := Int32.not_lt.mp h2
  have t1 : (nI a).toInt = (a : Int) := nI_toInt ha
  have l1 := Int32.le_iff_toInt_le.mp e1
  have h0 : ¬ x < 0 := by
    intro h
    have h9 := Int32.lt_iff_toInt_lt.mp h
    have z : (0 : Int32).toInt = 0 := by decide
    omega
  obtain ⟨j, hj, rfl⟩ := nI_of2 (nI_toInt hb) h0 e2
  refine ⟨j, ?_, hj, rfl⟩
  exact (nI_leI ha (by omega)).mp e1
theorem f_inc (i : Nat) : nI i + Int32.ofInt 1 = nI (i + 1) := nI_1 i
theorem f_z0 (n : Nat) : (0 : Int32) + nI n = nI n := by rw [show (0 : Int32) = nI 0 from rfl, nI_add, Nat.zero_add]
def fLW (i : Nat) : Int32 := if i = 0 then 9000 else 3000
theorem fLW_0 : fLW 0 = 9000 := rfl
theorem fLW_1 {i : Nat} (h : 1 ≤ i) : fLW i = 3000 := if_neg (by omega)
theorem fLW_m (i : Nat) : (if (3000 : Int32) < fLW i then (3000 : Int32) else fLW i) = fLW (i + 1) := by
  have e1 : fLW (i + 1) = 3000 := fLW_1 (by omega)
  have e2 : fLW i = 9000 ∨ fLW i = 3000 := by unfold fLW; split <;> simp
  rcases e2 with h | h <;> rw [h, e1] <;> decide
end FK3
section FK4
variable {p : Program} {l : Launch} {e : Env} {R : Room} {s : State} {m : MethodId} {args : Array Value} {below : List Frame} {meth : Method} {c : Code} {H : Heap} {locs : List Loc} {cells slots : Nat} {Q : State → Prop}
variable {D : va_G} {A : Nat → Prop} {ls : Array Slot}
/-- a loop that counts to N: at its head the world Wi i and the locals Li i -/
theorem f_loop {N nL head : Nat} {Wi : Nat → va_W} {Li : Nat → List (Nat × Value)} (h0 : va_P D vwCl (Wi 0) H) (hD0 : va_D A (Wi 0)) (hS0 : va_S A s.heap H locs) (hl0 : lv_has ls nL (Li 0))
    (step : ∀ i : Nat, i ≤ N → (i < N → ∀ (H : Heap) (locs : List Loc) (ls : Array Slot), va_P D vwCl (Wi (i + 1)) H → va_D A (Wi (i + 1)) → va_S A s.heap H locs → lv_has ls nL (Li (i + 1)) → W p l e R s m args below meth c H locs cells slots Q (F0 m head ls [])) →
      ∀ (H : Heap) (locs : List Loc) (ls : Array Slot), va_P D vwCl (Wi i) H → va_D A (Wi i) → va_S A s.heap H locs → lv_has ls nL (Li i) → W p l e R s m args below meth c H locs cells slots Q (F0 m head ls [])) :
    W p l e R s m args below meth c H locs cells slots Q (F0 m head ls []) := by
  have key : ∀ (n i : Nat), i ≤ N → N + 1 ≤ i + n → ∀ (H : Heap) (locs : List Loc) (ls : Array Slot), va_P D vwCl (Wi i) H → va_D A (Wi i) → va_S A s.heap H locs → lv_has ls nL (Li i) → W p l e R s m args below meth c H locs cells slots Q (F0 m head ls []) := by
    intro n
    induction n with
    | zero => intro i h1 h2; exact absurd h2 (by omega)
    | succ n ih => intro i h1 h2; exact step i h1 (fun h3 => ih (i + 1) (by omega) (by omega))
  exact key (N + 1) 0 (Nat.zero_le _) (by omega) H locs ls h0 hD0 hS0 hl0
end FK4
section FK5
theorem f_m1 {x : Int32} (h : ¬ x < 0) : (-1) < x := by
  have h1 : (0 : Int32) ≤ x := Int32.not_lt.mp h
  have h2 := Int32.le_iff_toInt_le.mp h1
  refine Int32.lt_iff_toInt_lt.mpr ?_
  have z0 : (0 : Int32).toInt = 0 := by decide
  have z1 : (-1 : Int32).toInt = -1 := by decide
  omega
theorem f_w3 {N : Nat} : (3000 : Int32) + nI N = nI (3000 + N) := by rw [show (3000 : Int32) = nI 3000 from rfl, nI_add]
theorem f_t3 {N : Nat} (h : N ≤ 5000) : (nI (3000 + N)).toInt = 3000 + N := by
  have := nI_toInt (n := 3000 + N) (by omega)
  omega
theorem f_mn9 {N : Nat} (h : N ≤ 5000) : (if 3000 + nI N < (9000 : Int32) then 3000 + nI N else 9000) = 3000 + nI N := by
  rw [if_pos]
  rw [f_w3]
  exact nI_lt (a := 3000 + N) (b := 9000) (by omega) (by omega)
theorem f_mx0 {N : Nat} (h : N ≤ 5000) : (if (0 : Int32) < 3000 + nI N - 9000 then 3000 + nI N - 9000 else 0) = 0 := by
  rw [if_neg]
  rw [f_w3]
  intro h9
  have h8 := Int32.lt_iff_toInt_lt.mp h9
  rw [Int32.toInt_sub, f_t3 h] at h8
  have z0 : (0 : Int32).toInt = 0 := by decide
  have z1 : (9000 : Int32).toInt = 9000 := by decide
  rw [z0, z1] at h8
  have : ((3000 + (N : Int) - 9000).bmod (2 ^ 32)) = 3000 + (N : Int) - 9000 := by
    apply Int.bmod_eq_of_le <;> omega
  omega
theorem f_n9 {N : Nat} (h : N ≤ 5000) : ¬ 9000 < 3000 + nI N := by
  rw [f_w3]
  exact nI_nlt (a := 9000) (b := 3000 + N) (by omega) (by omega)
theorem f_oL {x : Int32} (h : x < 0) : x.toInt < 0 ∨ 15 < x.toInt := by
  have h8 := Int32.lt_iff_toInt_lt.mp h
  have z0 : (0 : Int32).toInt = 0 := by decide
  omega
theorem f_oR {x : Int32} (h : 15 < x) : x.toInt < 0 ∨ 15 < x.toInt := by
  have h8 := Int32.lt_iff_toInt_lt.mp h
  have z0 : (15 : Int32).toInt = 15 := by decide
  omega
end FK5
