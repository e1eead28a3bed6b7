/-! WHAT STANDS ALL THROUGH THE LAW, AND BEFORE EACH OF ITS ROUNDS -/
def lwC (p : Program) (s : State) (m : MethodId) (c0 : Code) (G : gT) : Prop :=
  p.tables.exec = Jvm.exec ∧ c0.code = cL_law ∧ c0.maxLocals = 13 ∧ s.vm.findClass RL = some m.cls ∧ (∀ w ∈ fA, w.before #[Value.ref (gSb G)] s = true) ∧ gb G ≤ s.heap.size ∧ gE G s s.heap ∧ gSL G ≤ 260
def lwR (G : gT) (k : gC) (r : Nat) (al : Nat → Nat) (c : mC) (h : gK) (g : St) (F : Int) (lk : Nat → Int32) : Prop :=
  gX G al k h c ∧ callsOK h ∧ stepOK h ∧ (∃ N, Inv k g F N ∧ N ≤ 5 * r) ∧ F ≤ 3000 + 2000 * r ∧ c 400 = some (.inl (gZ G, 10, .inl (fun z => bz (lk z)))) ∧ ∀ j, j < k.1 → bz (g (3 + j) 8) = bz (lk j)
section LWR
variable {G : gT} {k : gC} {r : Nat} {al : Nat → Nat} {c : mC} {h : gK} {g g' : St} {F : Int} {lk : Nat → Int32}
theorem lwR_k (hR : lwR G k r al c h g F lk) : lwR G k (r + 1) al c h g F lk := by
  obtain ⟨hX, hh, hs, ⟨N, hI, hN⟩, hF, hc, hlk⟩ := hR
  exact ⟨hX, hh, hs, ⟨N, hI, by omega⟩, by omega, hc, hlk⟩
theorem lwR_g (hR : lwR G k r al c h g F lk) (hI : ∀ N, Inv k g F N → Inv k g' F N) (h8 : ∀ j, j < k.1 → g' (3 + j) 8 = g (3 + j) 8) : lwR G k (r + 1) al c h g' F lk := by
  obtain ⟨hX, hh, hs, ⟨N, hI0, hN⟩, hF, hc, hlk⟩ := hR
  exact ⟨hX, hh, hs, ⟨N, hI N hI0, by omega⟩, by omega, hc, fun j hj => by rw [h8 j hj]; exact hlk j hj⟩
theorem s2_8 {o q o' : Nat} {v : Int32} (g : St) (hq : q ≠ 8) : s2 g o q v o' 8 = g o' 8 := by
  by_cases e : o' = o
  · subst e; exact s2_k _ _ _ (fun z => hq z.symm)
  · exact s2_ok _ _ _ e 8
theorem mSetTo_8 {p o' : Nat} {v : Int32} (g : St) : mSetTo g p v o' 8 = g o' 8 := by
  unfold mSetTo; split
  · exact s2_8 g (by decide)
  · rfl
theorem lk_upd {j : Nat} {x : Int32} (hx : x = 0 ∨ x = 1) : upd (fun z => bz (lk z)) j (vp_nar .boolean x) = fun z => bz (upd lk j x z) := by
  funext z
  by_cases e : z = j
  · subst e
    rw [upd_s, upd_s]
    rcases hx with rfl | rfl <;> decide
  · rw [upd_n _ _ e, upd_n _ _ e]
theorem lk_8 {j i u w : Nat} {a b : Int32} (h : bz (g (3 + i) 8) = bz (lk i)) : bz (s2 (s2 g (3 + j) 6 a) (3 + j) 8 b (3 + i) 8) = bz (upd lk j b i) := by
  by_cases e : i = j
  · subst e; rw [s2_s, upd_s]
  · rw [s2_ok _ _ _ (by omega), s2_8 _ (by decide), upd_n _ _ e]; exact h
end LWR
theorem lj_p3 (i : Nat) : nI i + 3 = nI (i + 3) := nI_add i 3
theorem lj_m1 (n : Nat) : nI (n + 1) - 1 = nI n := by rw [← nI_1]; exact Int32.add_sub_cancel _ _
theorem lj_rem {a b : Nat} (ha : a < 2147483648) (h0 : 0 < b) (hb : b < 2147483648) : nI a - nI a / nI b * nI b = nI (a % b) := pk_rem (by omega) h0 (by omega)
theorem lj_mul (a b : Nat) : nI a * nI b = nI (a * b) := (Int32.ofNat_mul a b).symm
theorem lj_1x (b : Nat) : (1 : Int32) + nI b = nI (1 + b) := nI_add 1 b
theorem lj_J (G : gT) : (2 : Int32) + nI (bel (sCell G 2) 7) = nI (kG G).1 := nI_add 2 _
theorem wG_a (G : gT) {q : Nat} (h : q % 3 = 0) : (16 : Int32) + nI (bel (sCell G q >>> (4 &&& 31)) 5) = wG G q 2 := ((wG_2 G q).trans (if_pos h)).symm
theorem wG_c (G : gT) {q : Nat} (h : ¬ q % 3 = 0) : nI (bel (sCell G q >>> (5 &&& 31)) 7) = wG G q 2 := ((wG_2 G q).trans (if_neg h)).symm
theorem sw_1 {x : Int32} (h : ¬ bz x = 0) : (1 : Int32) = bz x := ((bz_b x).resolve_left h).symm
theorem fill_x {b : Nat} (h : b < 2000) : ((1 : Int32) + nI b).toInt = 1 + (b : Int) := by
  have := nI_addT (a := 1) (b := b) (by omega)
  exact this
theorem wind_x {b : Nat} (h : b < 9) : (nI b - 4).toInt = (b : Int) - 4 := by
  rw [i_sub (by rw [nI_t (by omega), c_4]; omega) (by rw [nI_t (by omega), c_4]; omega), nI_t (by omega), c_4]
theorem lg_cmp0 (x : Int64) : lg_cmp x x = 0 := by simp [lg_cmp]
/-! the 13 ways of a round, and the rest -/
theorem bel_17 (z : Int32) : (∃ n, n < 13 ∧ bel z 17 = n) ∨ (13 ≤ bel z 17 ∧ bel z 17 < 17) := by
  have := bel_lt z (n := 17) (by decide)
  by_cases h : bel z 17 < 13
  · exact Or.inl ⟨_, h, rfl⟩
  · exact Or.inr ⟨by omega, this⟩
