/-! WHAT A SHOW IS: rows of numbers g o k (o: 0 the Show, 1 + p a Pump, 3 + j a Jet, 20 .. 22 the Air's rows); k: how many jets, whose pump, what never changes -/
abbrev St : Type := Nat → Nat → Int32
def sr (g : St) (o : Nat) (f : Nat → Int32) : St := fun q => if q = o then f else g q
def s2 (g : St) (o k : Nat) (v : Int32) : St := sr g o (upd (g o) k v)
theorem sr_s (g : St) (o : Nat) (f : Nat → Int32) : sr g o f o = f := if_pos rfl
theorem sr_n (g : St) {o q : Nat} (f : Nat → Int32) (h : q ≠ o) : sr g o f q = g q := if_neg h
theorem upd_s (f : Nat → Int32) (k : Nat) (v : Int32) : upd f k v k = v := if_pos rfl
theorem upd_n (f : Nat → Int32) {k j : Nat} (v : Int32) (h : j ≠ k) : upd f k v j = f j := if_neg h
theorem s2_s (g : St) (o k : Nat) (v : Int32) : s2 g o k v o k = v := by unfold s2; rw [sr_s, upd_s]
theorem s2_k (g : St) (o : Nat) {k j : Nat} (v : Int32) (h : j ≠ k) : s2 g o k v o j = g o j := by unfold s2; rw [sr_s, upd_n _ _ h]
theorem s2_o (g : St) {o q : Nat} (k : Nat) (v : Int32) (h : q ≠ o) : s2 g o k v q = g q := by unfold s2; rw [sr_n _ _ h]
theorem s2_ok (g : St) {o q : Nat} (k : Nat) (v : Int32) (h : q ≠ o) (j : Nat) : s2 g o k v q j = g q j := by rw [s2_o _ _ _ h]
def bz (x : Int32) : Int32 := if x = 0 then 0 else 1
theorem bz_0 : bz 0 = 0 := by decide
theorem bz_1 : bz 1 = 1 := by decide
theorem bz_b (x : Int32) : bz x = 0 ∨ bz x = 1 := by unfold bz; split <;> simp
theorem bz_bz (x : Int32) : bz (bz x) = bz x := by rcases bz_b x with h | h <;> rw [h] <;> decide
theorem bz_nar (x : Int32) : narrow .boolean (.int (bz x)) = .int (bz x) := by rcases bz_b x with h | h <;> rw [h] <;> decide
theorem bz_fit (x : Int32) : fits .boolean (.int (bz x)) = true := by rcases bz_b x with h | h <;> rw [h] <;> decide
def it {V : Type} (f : Nat → V → V) : Nat → V → V
  | 0, v => v
  | n + 1, v => f n (it f n v)
theorem it_0 {V : Type} (f : Nat → V → V) (v : V) : it f 0 v = v := rfl
theorem it_s {V : Type} (f : Nat → V → V) (n : Nat) (v : V) : it f (n + 1) v = f n (it f n v) := rfl
abbrev gC : Type := Nat × (Nat → Nat) × (Nat → Nat → Int32)
abbrev gK : Type := Nat × (Nat → Nat) × (Nat → Nat) × (Nat → Int32) × (Nat → Nat → Int32)
abbrev cShow (al : Nat → Nat) (B : Nat) (r : Nat → Int32) : va_E := .inr (6, [.ref (al (B + 1)), .ref (al (B + 3)), .ref (al (B + 5)), .ref (al (B + 7)), .int (r 4), .int (r 5), .int (r 6), .int (r 7), .int (r 8), .int (r 9), .int (r 10), .int (r 11), .int (r 12), .int (r 13), .int (bz (r 14))])
abbrev cPump (k : gC) (p : Nat) (r : Nat → Int32) : va_E := .inr (5, [.int (nI p), .int (k.2.2 (1 + p) 1), .int (r 2), .int (r 3), .int (bz (r 4)), .int (r 5)])
abbrev cJet (al : Nat → Nat) (B : Nat) (k : gC) (j : Nat) (r : Nat → Int32) : va_E := .inr (4, [.ref (al (B + 11 + k.2.1 j)), .int (k.2.2 (3 + j) 1), .int (k.2.2 (3 + j) 2), .int (k.2.2 (3 + j) 3), .int (r 4), .int (r 5), .int (bz (r 6)), .int (bz (r 7)), .int (bz (r 8)), .int (r 9)])
abbrev cArr (G : gT) (r : Nat → Int32) : va_E := .inl (gI G, 9, .inl r)
/-- the cells of the Show at B, laid over a world -/
def ov (G : gT) (al : Nat → Nat) (k : gC) (B : Nat) (c : mC) (g : St) : mC := fun i =>
  if i = B then some (cShow al B (g 0))
  else if B + 8 ≤ i ∧ i < B + 11 then some (cArr G (g (i + 12 - B)))
  else if B + 11 ≤ i ∧ i < B + 13 then some (cPump k (i - (B + 11)) (g (1 + (i - (B + 11)))))
  else if B + 20 ≤ i ∧ i < B + 20 + k.1 then some (cJet al B k (i - (B + 20)) (g (3 + (i - (B + 20)))))
  else c i
section OV
variable {G : gT} {al : Nat → Nat} {k : gC} {B : Nat} {c : mC} {g : St}
theorem ov_s : ov G al k B c g B = some (cShow al B (g 0)) := if_pos rfl
theorem ov_a {a : Nat} (h : a < 3) : ov G al k B c g (B + 8 + a) = some (cArr G (g (20 + a))) := by
  unfold ov
  rw [if_neg (by omega), if_pos (by omega), show B + 8 + a + 12 - B = 20 + a by omega]
theorem ov_p {p : Nat} (h : p < 2) : ov G al k B c g (B + 11 + p) = some (cPump k p (g (1 + p))) := by
  unfold ov
  rw [if_neg (by omega), if_neg (by omega), if_pos (by omega), show B + 11 + p - (B + 11) = p by omega]
theorem ov_j {j : Nat} (h : j < k.1) : ov G al k B c g (B + 20 + j) = some (cJet al B k j (g (3 + j))) := by
  unfold ov
  rw [if_neg (by omega), if_neg (by omega), if_neg (by omega), if_pos (by omega), show B + 20 + j - (B + 20) = j by omega]
/-- outside the Show's own cells -/
theorem ov_c {i : Nat} (h0 : i ≠ B) (h1 : ¬ (B + 8 ≤ i ∧ i < B + 13)) (h2 : ¬ (B + 20 ≤ i ∧ i < B + 20 + k.1)) : ov G al k B c g i = c i := by
  unfold ov
  rw [if_neg h0, if_neg (by omega), if_neg (by omega), if_neg h2]
theorem ov_us {e : va_E} {r : Nat → Int32} (h : e = cShow al B r) : up (ov G al k B c g) B e = ov G al k B c (sr g 0 r) := by
  subst h
  funext i
  by_cases hi : i = B
  · subst hi; rw [up_s, ov_s, sr_s]
  · rw [up_n _ _ hi]
    unfold ov
    rw [if_neg hi, if_neg hi]
    by_cases h1 : B + 8 ≤ i ∧ i < B + 11
    · rw [if_pos h1, if_pos h1, sr_n _ _ (by omega)]
    · rw [if_neg h1, if_neg h1]
      rw [sr_n _ _ (show 1 + (i - (B + 11)) ≠ 0 by omega), sr_n _ _ (show 3 + (i - (B + 20)) ≠ 0 by omega)]
theorem ov_up {p : Nat} (hp : p < 2) {e : va_E} {r : Nat → Int32} (h : e = cPump k p r) : up (ov G al k B c g) (B + 11 + p) e = ov G al k B c (sr g (1 + p) r) := by
  subst h
  funext i
  by_cases hi : i = B + 11 + p
  · subst hi; rw [up_s, ov_p hp, sr_s]
  · rw [up_n _ _ hi]
    unfold ov
    by_cases h0 : i = B
    · rw [if_pos h0, if_pos h0, sr_n _ _ (by omega)]
    · rw [if_neg h0, if_neg h0]
      by_cases h1 : B + 8 ≤ i ∧ i < B + 11
      · rw [if_pos h1, if_pos h1, sr_n _ _ (by omega)]
      · rw [if_neg h1, if_neg h1]
        by_cases h2 : B + 11 ≤ i ∧ i < B + 13
        · rw [if_pos h2, if_pos h2, sr_n _ _ (by omega)]
        · rw [if_neg h2, if_neg h2]
          by_cases h3 : B + 20 ≤ i ∧ i < B + 20 + k.1
          · rw [if_pos h3, if_pos h3, sr_n _ _ (by omega)]
          · rw [if_neg h3, if_neg h3]
theorem ov_uj {j : Nat} (hj : j < k.1) (hJ : k.1 ≤ 8) {e : va_E} {r : Nat → Int32} (h : e = cJet al B k j r) : up (ov G al k B c g) (B + 20 + j) e = ov G al k B c (sr g (3 + j) r) := by
  subst h
  funext i
  by_cases hi : i = B + 20 + j
  · subst hi; rw [up_s, ov_j hj, sr_s]
  · rw [up_n _ _ hi]
    unfold ov
    by_cases h0 : i = B
    · rw [if_pos h0, if_pos h0, sr_n _ _ (by omega)]
    · rw [if_neg h0, if_neg h0]
      by_cases h1 : B + 8 ≤ i ∧ i < B + 11
      · rw [if_pos h1, if_pos h1, sr_n _ _ (by omega)]
      · rw [if_neg h1, if_neg h1]
        by_cases h2 : B + 11 ≤ i ∧ i < B + 13
        · rw [if_pos h2, if_pos h2, sr_n _ _ (by omega)]
        · rw [if_neg h2, if_neg h2]
          by_cases h3 : B + 20 ≤ i ∧ i < B + 20 + k.1
          · rw [if_pos h3, if_pos h3, sr_n _ _ (by omega)]
          · rw [if_neg h3, if_neg h3]
theorem ov_ua {a : Nat} (ha : a < 3) (hJ : k.1 ≤ 8) {e : va_E} {r : Nat → Int32} (h : e = cArr G r) : up (ov G al k B c g) (B + 8 + a) e = ov G al k B c (sr g (20 + a) r) := by
  subst h
  funext i
  by_cases hi : i = B + 8 + a
  · subst hi; rw [up_s, ov_a ha, sr_s]
  · rw [up_n _ _ hi]
    unfold ov
    by_cases h0 : i = B
    · rw [if_pos h0, if_pos h0, sr_n _ _ (by omega)]
    · rw [if_neg h0, if_neg h0]
      by_cases h1 : B + 8 ≤ i ∧ i < B + 11
      · rw [if_pos h1, if_pos h1, sr_n _ _ (by omega)]
      · rw [if_neg h1, if_neg h1]
        by_cases h2 : B + 11 ≤ i ∧ i < B + 13
        · rw [if_pos h2, if_pos h2, sr_n _ _ (by omega)]
        · rw [if_neg h2, if_neg h2]
          by_cases h3 : B + 20 ≤ i ∧ i < B + 20 + k.1
          · rw [if_pos h3, if_pos h3, sr_n _ _ (by omega)]
          · rw [if_neg h3, if_neg h3]
/-- two rows of numbers that show the same cells -/
theorem ov_eq {g g' : St} (h0 : cShow al B (g 0) = cShow al B (g' 0)) (ha : ∀ a, a < 3 → g (20 + a) = g' (20 + a)) (hp : ∀ p, p < 2 → cPump k p (g (1 + p)) = cPump k p (g' (1 + p))) (hj : ∀ j, j < k.1 → cJet al B k j (g (3 + j)) = cJet al B k j (g' (3 + j))) : ov G al k B c g = ov G al k B c g' := by
  funext i
  unfold ov
  by_cases e0 : i = B
  · rw [if_pos e0, if_pos e0, h0]
  · rw [if_neg e0, if_neg e0]
    by_cases h1 : B + 8 ≤ i ∧ i < B + 11
    · rw [if_pos h1, if_pos h1, show i + 12 - B = 20 + (i - (B + 8)) by omega, ha _ (by omega)]
    · rw [if_neg h1, if_neg h1]
      by_cases h2 : B + 11 ≤ i ∧ i < B + 13
      · rw [if_pos h2, if_pos h2, hp _ (by omega)]
      · rw [if_neg h2, if_neg h2]
        by_cases h3 : B + 20 ≤ i ∧ i < B + 20 + k.1
        · rw [if_pos h3, if_pos h3, hj _ (by omega)]
        · rw [if_neg h3, if_neg h3]
end OV
/-- the two Shows of one JetWaltz, laid one over the other either way -/
abbrev w2 (G : gT) (al : Nat → Nat) (k : gC) (c : mC) (g t : St) : mC := ov G al k 200 (ov G al k 100 c g) t
theorem w2_c {G : gT} {al : Nat → Nat} {k : gC} {c : mC} {g t : St} (hJ : k.1 ≤ 8) : w2 G al k c g t = ov G al k 100 (ov G al k 200 c t) g := by
  funext i
  by_cases h1 : i < 200
  · rw [show w2 G al k c g t i = ov G al k 100 c g i from ov_c (by omega) (by omega) (by omega)]
    unfold ov
    rw [if_neg (show ¬ i = 200 by omega), if_neg (show ¬ (200 + 8 ≤ i ∧ i < 200 + 11) by omega), if_neg (show ¬ (200 + 11 ≤ i ∧ i < 200 + 13) by omega), if_neg (show ¬ (200 + 20 ≤ i ∧ i < 200 + 20 + k.1) by omega)]
  · rw [show ov G al k 100 (ov G al k 200 c t) g i = ov G al k 200 c t i from ov_c (by omega) (by omega) (by omega)]
    unfold w2 ov
    rw [if_neg (show ¬ i = 100 by omega), if_neg (show ¬ (100 + 8 ≤ i ∧ i < 100 + 11) by omega), if_neg (show ¬ (100 + 11 ≤ i ∧ i < 100 + 13) by omega), if_neg (show ¬ (100 + 20 ≤ i ∧ i < 100 + 20 + k.1) by omega)]
/-- an ArrayList named li, its row di (the shared empty row as long as nothing is in it), n elements, the i-th of them the cell named h i -/
def gLs (G : gT) (al : Nat → Nat) (c : mC) (li di n : Nat) (h : Nat → Nat) : Prop :=
  (n = 0 ∧ ∃ mo : Int32, c li = some (.inr (0, [.int mo, .ref (gEm G), .int 0]))) ∨
  ∃ (mo : Int32) (cap : Nat) (f : Nat → Option Nat), c li = some (.inr (0, [.int mo, .ref (al di), .int (nI n)])) ∧ c di = some (.inl (gO G, cap, .inr (.inr (.inr (.inr f))))) ∧ n ≤ cap ∧ (cap = 10 ∨ cap = 15 ∨ cap = 22) ∧ ∀ i, i < n → f i = some (al (h i))
theorem gLs_cv {G : gT} {al : Nat → Nat} {c c' : mC} {li di n : Nat} {h : Nat → Nat} (hl : gLs G al c li di n h) (h1 : c' li = c li) (h2 : c' di = c di) : gLs G al c' li di n h := by
  rcases hl with ⟨h0, mo, g1⟩ | ⟨mo, cap, f, g1, g2, g3⟩
  · exact Or.inl ⟨h0, mo, h1.trans g1⟩
  · exact Or.inr ⟨mo, cap, f, h1.trans g1, h2.trans g2, g3⟩
theorem gLs_al {G : gT} {al al' : Nat → Nat} {c : mC} {li di n : Nat} {h h' : Nat → Nat} (hl : gLs G al c li di n h) (h1 : al' di = al di) (h2 : ∀ i, i < n → al' (h' i) = al (h i)) : gLs G al' c li di n h' := by
  rcases hl with hl | ⟨mo, cap, f, g1, g2, g3, g4, g5⟩
  · exact Or.inl hl
  · exact Or.inr ⟨mo, cap, f, by rw [h1]; exact g1, g2, g3, g4, fun i hi => by rw [h2 i hi]; exact g5 i hi⟩
theorem gLs_sz {G : gT} {al : Nat → Nat} {c : mC} {li di n : Nat} {h : Nat → Nat} (hl : gLs G al c li di n h) : ∃ (mo : Int32) (x : Nat), c li = some (.inr (0, [.int mo, .ref x, .int (nI n)])) := by
  rcases hl with ⟨h0, mo, g1⟩ | ⟨mo, cap, f, g1, -⟩
  · subst h0; exact ⟨mo, _, g1⟩
  · exact ⟨mo, _, g1⟩
theorem gLs_in {G : gT} {al : Nat → Nat} {c : mC} {li di n : Nat} {h : Nat → Nat} (hl : gLs G al c li di n h) {i : Nat} (hi : i < n) : ∃ (mo : Int32) (cap : Nat) (f : Nat → Option Nat), c li = some (.inr (0, [.int mo, .ref (al di), .int (nI n)])) ∧ c di = some (.inl (gO G, cap, .inr (.inr (.inr (.inr f))))) ∧ n ≤ cap ∧ (cap = 10 ∨ cap = 15 ∨ cap = 22) ∧ ∀ i, i < n → f i = some (al (h i)) := by
  rcases hl with ⟨h0, -⟩ | hl
  · omega
  · exact hl
theorem m_recvL {s : State} {G : gT} {al : Nat → Nat} {c : mC} {H : Heap} {a li di n : Nat} {h : Nat → Nat} (hE : gE G s s.heap) (hP : mP G al c H) (hl : gLs G al c li di n h) (ha : al li = a) : ∃ cell : Cell, H[a]? = some cell ∧ cell.vm.isStatics = false ∧ s.vm.findClass RJx4a65c = some cell.cls := by
  obtain ⟨mo, x, e1⟩ := gLs_sz hl
  exact m_recvA hE hP li ha e1 rfl
/-- what stays of a Show: its lists of pumps and jets, the Air's rows -/
def gF (G : gT) (al : Nat → Nat) (k : gC) (B : Nat) (c : mC) : Prop :=
  gLs G al c (B + 1) (B + 2) 2 (fun p => B + 11 + p) ∧ gLs G al c (B + 3) (B + 4) k.1 (fun j => B + 20 + j) ∧ c (B + 7) = some (.inr (1, [.ref (al (B + 8)), .ref (al (B + 9)), .ref (al (B + 10))])) ∧ k.1 ≤ 8 ∧ ∀ j, j < k.1 → k.2.1 j < 2
/-- the calls, and the steps that they name -/
def gH (G : gT) (al : Nat → Nat) (B : Nat) (h : gK) (c : mC) : Prop :=
  gLs G al c (B + 5) (B + 6) h.1 (fun i => 300 + 3 * i) ∧ h.1 ≤ 20 ∧ (∀ i, i < h.1 → h.2.1 i < 2 ∧ h.2.2.1 i < 10 ∧ c (300 + 3 * i) = some (.inr (2, [.ref (al (300 + 3 * i + 1)), .int (nI (h.2.2.1 i)), .int (h.2.2.2.1 i)])) ∧ gLs G al c (300 + 3 * i + 1) (300 + 3 * i + 2) 3 (fun s => 20 + (3 * h.2.1 i + s))) ∧ ∀ q, q < 6 → c (20 + q) = some (.inr (7, [.int (h.2.2.2.2 q 0), .int (h.2.2.2.2 q 1), .int (h.2.2.2.2 q 2)]))
section GF
variable {G : gT} {al : Nat → Nat} {k : gC} {B : Nat} {c : mC} {g : St} {h : gK}
theorem gF_J (hF : gF G al k B c) : k.1 ≤ 8 := hF.2.2.2.1
theorem gF_pp (hF : gF G al k B c) {j : Nat} (hj : j < k.1) : k.2.1 j < 2 := hF.2.2.2.2 j hj
theorem gF_p (hF : gF G al k B c) : gLs G al (ov G al k B c g) (B + 1) (B + 2) 2 (fun p => B + 11 + p) := gLs_cv hF.1 (ov_c (by omega) (by omega) (by omega)) (ov_c (by omega) (by omega) (by omega))
theorem gF_j (hF : gF G al k B c) : gLs G al (ov G al k B c g) (B + 3) (B + 4) k.1 (fun j => B + 20 + j) := gLs_cv hF.2.1 (ov_c (by omega) (by omega) (by omega)) (ov_c (by omega) (by omega) (by omega))
theorem gF_a (hF : gF G al k B c) : ov G al k B c g (B + 7) = some (.inr (1, [.ref (al (B + 8)), .ref (al (B + 9)), .ref (al (B + 10))])) := (ov_c (by omega) (by omega) (by omega)).trans hF.2.2.1
theorem gF_cv {c' : mC} (hF : gF G al k B c) (h : ∀ i, B < i → i < B + 8 → c' i = c i) : gF G al k B c' :=
  ⟨gLs_cv hF.1 (h _ (by omega) (by omega)) (h _ (by omega) (by omega)), gLs_cv hF.2.1 (h _ (by omega) (by omega)) (h _ (by omega) (by omega)), (h _ (by omega) (by omega)).trans hF.2.2.1, hF.2.2.2⟩
theorem gF_o2 {t : St} (hF : gF G al k 100 c) : gF G al k 100 (ov G al k 200 c t) := gF_cv hF (fun i h1 h2 => ov_c (by omega) (by omega) (by omega))
theorem gF_o1 (hF : gF G al k 200 c) : gF G al k 200 (ov G al k 100 c g) := gF_cv hF (fun i h1 h2 => ov_c (by omega) (by omega) (by have := hF.2.2.2.1; omega))
theorem gH_cv {c' : mC} (hH : gH G al B h c) (h1 : c' (B + 5) = c (B + 5)) (h2 : c' (B + 6) = c (B + 6)) (h3 : ∀ i, i < 26 → c' i = c i) (h4 : ∀ i, 300 ≤ i → i < 360 → c' i = c i) : gH G al B h c' := by
  obtain ⟨g1, g2, g3, g4⟩ := hH
  refine ⟨gLs_cv g1 h1 h2, g2, fun i hi => ?_, fun q hq => (h3 _ (by omega)).trans (g4 q hq)⟩
  obtain ⟨e1, e2, e3, e4⟩ := g3 i hi
  exact ⟨e1, e2, (h4 _ (by omega) (by omega)).trans e3, gLs_cv e4 (h4 _ (by omega) (by omega)) (h4 _ (by omega) (by omega))⟩
theorem gH_ov (hH : gH G al B h c) (hB : B = 100 ∨ B = 200) (hJ : k.1 ≤ 8) : gH G al B h (ov G al k B c g) := gH_cv hH (ov_c (by omega) (by omega) (by omega)) (ov_c (by omega) (by omega) (by omega)) (fun i hi => ov_c (by omega) (by omega) (by omega)) (fun i h1 h2 => ov_c (by omega) (by omega) (by omega))
theorem gH_o2 {t : St} (hH : gH G al 100 h c) (hJ : k.1 ≤ 8) : gH G al 100 h (ov G al k 200 c t) := gH_cv hH (ov_c (by omega) (by omega) (by omega)) (ov_c (by omega) (by omega) (by omega)) (fun i hi => ov_c (by omega) (by omega) (by omega)) (fun i h1 h2 => ov_c (by omega) (by omega) (by omega))
theorem gH_o1 (hH : gH G al 200 h c) (hJ : k.1 ≤ 8) : gH G al 200 h (ov G al k 100 c g) := gH_cv hH (ov_c (by omega) (by omega) (by omega)) (ov_c (by omega) (by omega) (by omega)) (fun i hi => ov_c (by omega) (by omega) (by omega)) (fun i h1 h2 => ov_c (by omega) (by omega) (by omega))
end GF
/-- what stays of a JetWaltz -/
def gX (G : gT) (al : Nat → Nat) (k : gC) (h : gK) (c : mC) : Prop :=
  c 0 = some (.inr (8, [.ref (al 1), .ref (al 100), .ref (al 200)])) ∧ gF G al k 100 c ∧ gF G al k 200 c ∧ gH G al 100 h c ∧ gH G al 200 h c ∧ gLs G al c 1 2 2 (fun f => 10 + f) ∧ (∀ f, f < 2 → c (10 + f) = some (.inr (3, [.ref (al (12 + f))])) ∧ gLs G al c (12 + f) (14 + f) 3 (fun s => 20 + (3 * f + s))) ∧ c 999 = none
section GX
variable {G : gT} {al : Nat → Nat} {k : gC} {c : mC} {g t : St} {h : gK}
theorem gX_1 (hX : gX G al k h c) : gF G al k 100 c := hX.2.1
theorem gX_2 (hX : gX G al k h c) : gF G al k 200 c := hX.2.2.1
theorem gX_3 (hX : gX G al k h c) : gH G al 100 h c := hX.2.2.2.1
theorem gX_4 (hX : gX G al k h c) : gH G al 200 h c := hX.2.2.2.2.1
theorem gX_J (hX : gX G al k h c) : k.1 ≤ 8 := hX.2.1.2.2.2.1
theorem w2_lo {i : Nat} (hi : i < 100) : w2 G al k c g t i = c i := (ov_c (by omega) (by omega) (by omega)).trans (ov_c (by omega) (by omega) (by omega))
theorem gX_0 (hX : gX G al k h c) : w2 G al k c g t 0 = some (.inr (8, [.ref (al 1), .ref (al 100), .ref (al 200)])) := (w2_lo (by decide)).trans hX.1
theorem gX_l (hX : gX G al k h c) : gLs G al (w2 G al k c g t) 1 2 2 (fun f => 10 + f) := gLs_cv hX.2.2.2.2.2.1 (w2_lo (by decide)) (w2_lo (by decide))
theorem gX_f (hX : gX G al k h c) {f : Nat} (hf : f < 2) : w2 G al k c g t (10 + f) = some (.inr (3, [.ref (al (12 + f))])) := (w2_lo (by omega)).trans (hX.2.2.2.2.2.2.1 f hf).1
theorem gX_s (hX : gX G al k h c) {f : Nat} (hf : f < 2) : gLs G al (w2 G al k c g t) (12 + f) (14 + f) 3 (fun s => 20 + (3 * f + s)) := gLs_cv (hX.2.2.2.2.2.2.1 f hf).2 (w2_lo (by omega)) (w2_lo (by omega))
end GX
/-! THE CLASS IN NUMBERS: what each method answers, and what it makes of the rows -/
def mNear (a b : Int32) : Int32 := if b ≤ a then (if a ≤ b then b else a - 1) else a + 1
def mFm (x y : Int32) : Int32 := if 0 ≤ x ^^^ y then x - x / y * y else if x - x / y * y = 0 then x - x / y * y else x - x / y * y + y
def mFd (x y : Int32) : Int32 := if 0 ≤ x ^^^ y then x / y else if x / y * y = x then x / y else x / y - 1
def mPby (d w f : Int32) : Int32 := if 20 + f ≤ 0 then 0 else 10 * d * w / (20 + f)
def mHby (p v : Int32) : Int32 := if p * v / 4 < 60 then p * v / 4 else 60
def mAir (h : Int32) : Int32 := 2 + h / 10
def mSl (t : Int32) : Nat := (mFm t 9).toNatClampNeg
def mSetTo (g : St) (p : Nat) (v : Int32) : St := if bz (g (1 + p) 4) = 0 then s2 g (1 + p) 2 v else g
def mPTurn (g : St) (p : Nat) : St := if bz (g (1 + p) 4) = 0 then s2 g (1 + p) 3 (mNear (g (1 + p) 3) (g (1 + p) 2)) else g
def mTrip (g : St) (p : Nat) : St := s2 (s2 (s2 (s2 g (1 + p) 4 1) (1 + p) 5 (g (1 + p) 5 + 1)) (1 + p) 3 0) (1 + p) 2 0
def mPCopy (g t : St) (p : Nat) : St := s2 (s2 (s2 (s2 t (1 + p) 2 (g (1 + p) 2)) (1 + p) 3 (g (1 + p) 3)) (1 + p) 4 (g (1 + p) 4)) (1 + p) 5 (g (1 + p) 5)
def mFlow (k : gC) (g : St) (j : Nat) : Int32 := k.2.2 (3 + j) 2 * g (3 + j) 5
def mJTurn (g : St) (j : Nat) : St := if bz (g (3 + j) 6) = 0 then s2 g (3 + j) 5 (mNear (g (3 + j) 5) (g (3 + j) 4)) else g
def mShort (g : St) (j : Nat) : Int32 := if bz (g (3 + j) 7) = 0 then 0 else if bz (g (3 + j) 8) = 0 then 0 else 1
def mObey (k : gC) (g : St) (j : Nat) (v : Int32) : St := if v < 10 then (if v < 5 then s2 g (3 + j) 4 v else s2 g (3 + j) 7 (if v = 5 then 1 else 0)) else mSetTo g (k.2.1 j) (v - 10)
def mJCopy (g t : St) (j : Nat) : St := s2 (s2 (s2 (s2 (s2 (s2 t (3 + j) 4 (g (3 + j) 4)) (3 + j) 5 (g (3 + j) 5)) (3 + j) 6 (g (3 + j) 6)) (3 + j) 7 (g (3 + j) 7)) (3 + j) 8 (g (3 + j) 8)) (3 + j) 9 (g (3 + j) 9)
def mPutI (pl : Int32) : Nat := if pl < 0 then (if pl < -4 then 22 else if 23 < pl then 22 else 21) else if 19 < pl then (if pl < -4 then 22 else if 23 < pl then 22 else 21) else 20
def mPut (g : St) (t pl mu : Int32) : St := s2 g (mPutI pl) (mSl t) (g (mPutI pl) (mSl t) + mu)
def mFallIn (g : St) (t : Int32) : Int32 := g 20 (mSl t) + g 21 (mSl t) + g 22 (mSl t)
def mFallB (g : St) (t : Int32) : Int32 := g 20 (mSl t)
def mFallC (g : St) (t : Int32) : Int32 := g 21 (mSl t)
def mClear (g : St) (t : Int32) : St := s2 (s2 (s2 g 20 (mSl t) 0) 21 (mSl t) 0) 22 (mSl t) 0
def mAll (g : St) : Int32 := it (fun i a => a + (g 20 i + g 21 i + g 22 i)) 9 0
def mPour (g : St) (x : Int32) : St := if g 0 5 + x ≤ 9000 then s2 g 0 5 (g 0 5 + x) else s2 (s2 (s2 g 0 5 (g 0 5 + x)) 0 6 (g 0 6 + (g 0 5 + x - 9000))) 0 5 9000
def mFlows (k : gC) (g : St) (p : Nat) : Int32 := it (fun j a => if k.2.1 j = p then a + mFlow k g j else a) k.1 0
def mPress (k : gC) (g : St) (p : Nat) : Int32 := mPby (g (1 + p) 3) (k.2.2 (1 + p) 1) (mFlows k g p)
def mFSet (k : gC) (g : St) (p : Nat) : Int32 := it (fun j a => if k.2.1 j = p then a + k.2.2 (3 + j) 2 * g (3 + j) 4 else a) k.1 0
def mJets (k : gC) (p : Nat) : Int32 := it (fun j a => if k.2.1 j = p then a ||| 1 <<< (nI j &&& 31) else a) k.1 0
def mLamps (k : gC) (g : St) : Int32 := it (fun j a => if bz (g (3 + j) 7) = 0 then a else a ||| 1 <<< (nI j &&& 31)) k.1 0
def mHt (k : gC) (g : St) (j : Nat) : Int32 := mHby (mPress k g (k.2.1 j)) (g (3 + j) 5)
def mMaxH (k : gC) (g : St) : Int32 := it (fun j a => if a < mHt k g j then mHt k g j else a) k.1 0
def mSumH (k : gC) (g : St) : Int32 := it (fun j a => a + mHt k g j) k.1 0
def mWind (g : St) : Int32 := if g 0 12 ≤ 0 then (if 0 ≤ g 0 12 then 0 else g 0 12 - g 0 13) else g 0 12 + g 0 13
def mPlace (k : gC) (g : St) (j : Nat) (h : Int32) : Int32 := k.2.2 (3 + j) 1 + mFd (k.2.2 (3 + j) 3 * h) 10 + mFd (mWind g * mAir h) 2
def mMuch (k : gC) (g : St) (j : Nat) : Int32 := if g 0 5 < mFlow k g j then g 0 5 else mFlow k g j
def mTaken (k : gC) (g : St) (j : Nat) : St := s2 (s2 g 0 5 (g 0 5 - mMuch k g j)) (3 + j) 9 (g (3 + j) 9 + mMuch k g j)
def mThrow1 (k : gC) (j : Nat) (g : St) : St := if mHt k g j ≤ 0 then g else mPut (mTaken k g j) (g 0 4 + mAir (mHt k g j)) (mPlace k (mTaken k g j) j (mHt k g j)) (mMuch k g j)
def mThrow (k : gC) (g : St) : St := it (mThrow1 k) k.1 g
def mBits (x : Int32) : Int32 :=
  let u (a : Int32) (n : Int32) : Int32 := (a.toUInt32 >>> (n.toUInt32 &&& Int32.toUInt32 31)).toInt32
  let x1 := x - (u x 1 &&& 1431655765)
  let x2 := (x1 &&& 858993459) + (u x1 2 &&& 858993459)
  let x3 := (x2 + u x2 4) &&& 252645135
  let x4 := x3 + u x3 8
  let x5 := x4 + u x4 16
  x5 &&& 63
def mEn1 (g : St) : St := it (fun p g => s2 g 0 9 (g 0 9 + g (1 + p) 3 * g (1 + p) 3)) 2 g
def mEnergy (k : gC) (g : St) : St := s2 (mEn1 g) 0 9 (mEn1 g 0 9 + mBits (mLamps k (mEn1 g)))
def mDry (g : St) : St := if g 0 5 < 300 then it (fun p g => if g (1 + p) 3 ≤ 0 then g else mTrip g p) 2 g else g
def mOff (k : gC) (g : St) : St := it (fun j g => s2 g (3 + j) 7 0) k.1 g
def mShorts (k : gC) (g : St) : Int32 := it (fun j a => if mShort g j = 0 then a else a + 1) k.1 0
def mLamp (k : gC) (g : St) : St := if mShorts k g = 0 then g else mOff k (if bz (g 0 14) = 0 then s2 g 0 10 (g 0 10 + mShorts k g) else s2 (s2 g 0 10 (g 0 10 + mShorts k g)) 0 11 (g 0 11 + 1))
def mTurns (k : gC) (g : St) : St := it (fun j g => mJTurn g j) k.1 (it (fun p g => mPTurn g p) 2 g)
def mNames (h : gK) (q j : Nat) : Int32 := if (h.2.2.2.2 q 1 >>> (nI j &&& 31)) &&& 1 = 1 then 1 else 0
def mStep1 (k : gC) (h : gK) (q s j : Nat) (g : St) : St := if mNames h q j = 0 then g else mObey k g ((j + s) % k.1) (h.2.2.2.2 q 2)
def mStep (k : gC) (h : gK) (q s : Nat) (g : St) : St := it (mStep1 k h q s) k.1 g
def mDue (h : gK) (i q : Nat) : Int32 := h.2.2.2.1 i + h.2.2.2.2 q 0 + 1
def mDueC (k : gC) (h : gK) (i : Nat) (g : St) : St := it (fun s g => if mDue h i (3 * h.2.1 i + s) = g 0 4 then mStep k h (3 * h.2.1 i + s) (h.2.2.1 i) g else g) 3 g
def mSteps (k : gC) (h : gK) (g : St) : St := it (fun i g => mDueC k h i g) h.1 g
def mFall (g : St) : St := mClear (s2 (s2 (mPour g (mFallB g (g 0 4))) 0 8 (mPour g (mFallB g (g 0 4)) 0 8 + mFallC (mPour g (mFallB g (g 0 4))) (mPour g (mFallB g (g 0 4)) 0 4))) 0 7 (mPour g (mFallB g (g 0 4)) 0 7 + (mFallIn g (g 0 4) - mFallB g (g 0 4)))) (mPour g (mFallB g (g 0 4)) 0 4)
def mTick0 (k : gC) (h : gK) (g : St) : St := mTurns k (if bz (g 0 14) = 0 then mSteps k h (s2 g 0 4 (g 0 4 + 1)) else s2 g 0 4 (g 0 4 + 1))
def mTick (k : gC) (h : gK) (g : St) : St := mLamp k (mDry (mEnergy k (mThrow k (mFall (mTick0 k h g)))))
def mDown (k : gC) (h : gK) (g : St) : Int32 := mFallIn (mTick0 k h g) (mTick0 k h g 0 4)
def mShut (k : gC) (g : St) : St := mOff k (it (fun j g => s2 g (3 + j) 4 0) k.1 (it (fun p g => mSetTo g p 0) 2 g))
def mTicks (k : gC) (h : gK) (n : Nat) (g : St) : St := it (fun _ g => mTick k h g) n g
def mOpen (h : gK) (i : Nat) (now : Int32) : Int32 := it (fun s a => if mDue h i (3 * h.2.1 i + s) ≤ now then a else a + 1) 3 0
/-- the first i of so many at which f comes to the height; -1 if none does -/
def mFirst (f : Nat → Int32) (ht : Int32) : Nat → Nat → Int32
  | 0, _ => -1
  | n + 1, i => if f i < ht then mFirst f ht n (i + 1) else nI i
def mSFor (k : gC) (g : St) (j : Nat) (ht : Int32) : Int32 := mFirst (fun i => mHby (mPby (nI i) (k.2.2 (1 + k.2.1 j) 1) (mFSet k g (k.2.1 j))) (g (3 + j) 4)) ht 11 0
def mLFor (k : gC) (h : gK) (g : St) (j : Nat) (ht : Int32) : Int32 := if mSFor k g j ht = -1 then -1 else if bz (g (1 + k.2.1 j) 4) = 0 then mFirst (fun i => mHt k (mTicks k h i (mSetTo g (k.2.1 j) (mSFor k g j ht))) j) ht 31 0 else -1
def mLeast (k : gC) (h : gK) (g : St) (n : Nat) : Int32 := it (fun i a => if mTicks k h (i + 1) g 0 5 < a then mTicks k h (i + 1) g 0 5 else a) n 9000
def mWould (k : gC) (h : gK) (g : St) (n : Nat) (what : Int32) : Int32 := if what = 0 then mTicks k h n g 0 8 - g 0 8 else mLeast k h g n
/-! small facts that the walks ask for -/
theorem i_fm9 (x : Int32) : (mFm x 9).toInt = x.toInt % 9 := by
  have h9 : (9 : Int32).toInt = 9 := by decide
  have l1 := i_lo x
  have l2 := i_hi x
  have hd : (x / 9).toInt = x.toInt.tdiv 9 := by rw [i_div (by rw [h9]; decide), h9]
  have ht := i_td x.toInt (Y := 9) (by decide)
  have hm : (x / 9 * 9).toInt = x.toInt.tdiv 9 * 9 := by
    rw [i_mul, hd, h9] <;> rw [hd, h9] <;> omega
  have hs : (x - x / 9 * 9).toInt = x.toInt - x.toInt.tdiv 9 * 9 := by
    rw [i_sub, hm] <;> rw [hm] <;> omega
  unfold mFm
  have hx := i_xor (x := x) (y := 9) (by rw [h9]; decide)
  by_cases h0 : 0 ≤ x ^^^ 9
  · have h1 := hx.mp h0
    rw [if_pos h0, hs]
    omega
  · have h1 : ¬ 0 ≤ x.toInt := fun h => h0 (hx.mpr h)
    rw [if_neg h0]
    by_cases h2 : x - x / 9 * 9 = 0
    · rw [if_pos h2, hs]
      have h3 := i_eq.mp h2
      rw [hs, i_0] at h3
      omega
    · rw [if_neg h2]
      have h3 : ¬ (x.toInt - x.toInt.tdiv 9 * 9 = 0) := fun h => h2 (i_eq.mpr (by rw [hs, i_0]; exact h))
      rw [i_add (by rw [hs, h9]; omega) (by rw [hs, h9]; omega), hs, h9]
      omega
theorem mFm_in (x : Int32) : vp_in (mFm x 9) 9 := by
  have h := i_fm9 x
  intro hq
  rcases hq with hq | hq
  · have h1 := i_lt.mp hq
    rw [h, i_0] at h1
    omega
  · have h2 : (mFm x 9).toNatClampNeg = (mFm x 9).toInt.toNat := rfl
    rw [h2, h] at hq
    omega
theorem mSl_lt (x : Int32) : mSl x < 9 := by
  have h := i_fm9 x
  have h2 : mSl x = (mFm x 9).toInt.toNat := rfl
  rw [h2, h]
  omega
theorem mFm_n {a b : Nat} (ha : a < 2 ^ 31) (h0 : 0 < b) (hb : b < 2 ^ 31) : mFm (nI a) (nI b) = nI (a % b) := by
  have hx : 0 ≤ nI a ^^^ nI b := (i_xor (by rw [nI_toInt hb]; omega)).mpr (by rw [nI_toInt ha]; omega)
  unfold mFm
  rw [if_pos hx]
  exact pk_rem ha h0 hb
