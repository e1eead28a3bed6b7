/-! A JetWaltz THAT IS BEING SET UP: np pumps, nf figures, nj jets, ns f steps of figure f -/
def g0S : St := s2 (fun _ _ => 0) 0 5 3000
theorem g0S_o {o : Nat} (h : o ≠ 0) (q : Nat) : g0S o q = 0 := by unfold g0S; rw [s2_o _ _ _ h]
abbrev h0S (w : Nat → Nat → Int32) : gK := (0, fun _ => 0, fun _ => 0, fun _ => 0, w)
abbrev cStep (w : Nat → Nat → Int32) (q : Nat) : va_E := .inr (7, [.int (w q 0), .int (w q 1), .int (w q 2)])
def gUB (G : gT) (al : Nat → Nat) (k : gC) (B np nj : Nat) (c : mC) : Prop :=
  c B = some (.inr (6, [.ref (al (B + 1)), .ref (al (B + 3)), .ref (al (B + 5)), .ref (al (B + 7)), .int 0, .int 3000, .int 0, .int 0, .int 0, .int 0, .int 0, .int 0, .int 0, .int 0, .int 0])) ∧
  gLs G al c (B + 1) (B + 2) np (fun p => B + 11 + p) ∧ gLs G al c (B + 3) (B + 4) nj (fun j => B + 20 + j) ∧ gLs G al c (B + 5) (B + 6) 0 (fun i => i) ∧
  c (B + 7) = some (.inr (1, [.ref (al (B + 8)), .ref (al (B + 9)), .ref (al (B + 10))])) ∧ (∀ a, a < 3 → c (B + 8 + a) = some (.inl (gI G, 9, .inl (fun _ => 0)))) ∧
  (∀ p, p < np → c (B + 11 + p) = some (.inr (5, [.int (nI p), .int (k.2.2 (1 + p) 1), .int 0, .int 0, .int 0, .int 0]))) ∧
  ∀ j, j < nj → c (B + 20 + j) = some (.inr (4, [.ref (al (B + 11 + k.2.1 j)), .int (k.2.2 (3 + j) 1), .int (k.2.2 (3 + j) 2), .int (k.2.2 (3 + j) 3), .int 0, .int 0, .int 0, .int 0, .int 0, .int 0]))
def gUF (G : gT) (al : Nat → Nat) (w : Nat → Nat → Int32) (nf : Nat) (ns : Nat → Nat) (c : mC) : Prop :=
  gLs G al c 1 2 nf (fun f => 10 + f) ∧ (∀ f, f < nf → c (10 + f) = some (.inr (3, [.ref (al (12 + f))])) ∧ gLs G al c (12 + f) (14 + f) (ns f) (fun s => 20 + (3 * f + s))) ∧
  ∀ f s, f < nf → s < ns f → c (20 + (3 * f + s)) = some (cStep w (3 * f + s))
def gU (G : gT) (al : Nat → Nat) (k : gC) (w : Nat → Nat → Int32) (np nf nj : Nat) (ns : Nat → Nat) (c : mC) : Prop :=
  c 0 = some (.inr (8, [.ref (al 1), .ref (al 100), .ref (al 200)])) ∧ gUB G al k 100 np nj c ∧ gUB G al k 200 np nj c ∧ gUF G al w nf ns c ∧ c 999 = none
section GU
variable {G : gT} {al al' : Nat → Nat} {k : gC} {w : Nat → Nat → Int32} {np nf nj B : Nat} {ns : Nat → Nat} {c c' : mC}
theorem gUB_o (hU : gUB G al k B np nj c) (hnp : np ≤ 2) (hnj : nj ≤ 8) (hp : ∀ j, j < nj → k.2.1 j < 2) (hc : ∀ i, B ≤ i → i < B + 30 → c' i = c i) (ha : ∀ i, B ≤ i → i < B + 30 → al' i = al i) : gUB G al' k B np nj c' := by
  obtain ⟨u1, u2, u3, u4, u5, u6, u7, u8⟩ := hU
  refine ⟨?_, gLs_al (gLs_cv u2 (hc _ (by omega) (by omega)) (hc _ (by omega) (by omega))) (ha _ (by omega) (by omega)) (fun p hp9 => ha _ (by show B ≤ B + 11 + p; omega) (by show B + 11 + p < B + 30; omega)), gLs_al (gLs_cv u3 (hc _ (by omega) (by omega)) (hc _ (by omega) (by omega))) (ha _ (by omega) (by omega)) (fun p hp9 => ha _ (by show B ≤ B + 20 + p; omega) (by show B + 20 + p < B + 30; omega)), gLs_al (gLs_cv u4 (hc _ (by omega) (by omega)) (hc _ (by omega) (by omega))) (ha _ (by omega) (by omega)) (fun p hp9 => absurd hp9 (by omega)), ?_, fun a h9 => (hc _ (by omega) (by omega)).trans (u6 a h9), fun p h9 => (hc _ (by omega) (by omega)).trans (u7 p h9), fun j h9 => ?_⟩
  · rw [hc B (by omega) (by omega), ha (B + 1) (by omega) (by omega), ha (B + 3) (by omega) (by omega), ha (B + 5) (by omega) (by omega), ha (B + 7) (by omega) (by omega)]; exact u1
  · rw [hc (B + 7) (by omega) (by omega), ha (B + 8) (by omega) (by omega), ha (B + 9) (by omega) (by omega), ha (B + 10) (by omega) (by omega)]; exact u5
  · have := hp j h9
    rw [hc (B + 20 + j) (by omega) (by omega), ha (B + 11 + k.2.1 j) (by omega) (by omega)]; exact u8 j h9
theorem gUB_p (hU : gUB G al k B np 0 c) (hnp : np < 2) (hc : ∀ i, B ≤ i → i < B + 30 → i ≠ B + 1 → i ≠ B + 2 → i ≠ B + 11 + np → c' i = c i) (ha : ∀ i, B ≤ i → i < B + 30 → i ≠ B + 2 → i ≠ B + 11 + np → al' i = al i)
    (hl : gLs G al' c' (B + 1) (B + 2) (np + 1) (fun p => B + 11 + p)) (he : c' (B + 11 + np) = some (.inr (5, [.int (nI np), .int (k.2.2 (1 + np) 1), .int 0, .int 0, .int 0, .int 0]))) : gUB G al' k B (np + 1) 0 c' := by
  obtain ⟨u1, u2, u3, u4, u5, u6, u7, u8⟩ := hU
  refine ⟨?_, hl, gLs_al (gLs_cv u3 (hc _ (by omega) (by omega) (by omega) (by omega) (by omega)) (hc _ (by omega) (by omega) (by omega) (by omega) (by omega))) (ha _ (by omega) (by omega) (by omega) (by omega)) (fun p hp9 => absurd hp9 (by omega)), gLs_al (gLs_cv u4 (hc _ (by omega) (by omega) (by omega) (by omega) (by omega)) (hc _ (by omega) (by omega) (by omega) (by omega) (by omega))) (ha _ (by omega) (by omega) (by omega) (by omega)) (fun p hp9 => absurd hp9 (by omega)), ?_, fun a h9 => (hc _ (by omega) (by omega) (by omega) (by omega) (by omega)).trans (u6 a h9), fun p h9 => ?_, fun j h9 => absurd h9 (by omega)⟩
  · rw [hc B (by omega) (by omega) (by omega) (by omega) (by omega), ha (B + 1) (by omega) (by omega) (by omega) (by omega), ha (B + 3) (by omega) (by omega) (by omega) (by omega), ha (B + 5) (by omega) (by omega) (by omega) (by omega), ha (B + 7) (by omega) (by omega) (by omega) (by omega)]; exact u1
  · rw [hc (B + 7) (by omega) (by omega) (by omega) (by omega) (by omega), ha (B + 8) (by omega) (by omega) (by omega) (by omega), ha (B + 9) (by omega) (by omega) (by omega) (by omega), ha (B + 10) (by omega) (by omega) (by omega) (by omega)]; exact u5
  · by_cases hq : p = np
    · subst hq; exact he
    · exact (hc _ (by omega) (by omega) (by omega) (by omega) (by omega)).trans (u7 p (by omega))
theorem gUB_j (hU : gUB G al k B 2 nj c) (hnj : nj < 8) (hp : ∀ j, j < nj + 1 → k.2.1 j < 2) (hc : ∀ i, B ≤ i → i < B + 30 → i ≠ B + 3 → i ≠ B + 4 → i ≠ B + 20 + nj → c' i = c i) (ha : ∀ i, B ≤ i → i < B + 30 → i ≠ B + 4 → i ≠ B + 20 + nj → al' i = al i)
    (hl : gLs G al' c' (B + 3) (B + 4) (nj + 1) (fun j => B + 20 + j)) (he : c' (B + 20 + nj) = some (.inr (4, [.ref (al' (B + 11 + k.2.1 nj)), .int (k.2.2 (3 + nj) 1), .int (k.2.2 (3 + nj) 2), .int (k.2.2 (3 + nj) 3), .int 0, .int 0, .int 0, .int 0, .int 0, .int 0]))) : gUB G al' k B 2 (nj + 1) c' := by
  obtain ⟨u1, u2, u3, u4, u5, u6, u7, u8⟩ := hU
  refine ⟨?_, gLs_al (gLs_cv u2 (hc _ (by omega) (by omega) (by omega) (by omega) (by omega)) (hc _ (by omega) (by omega) (by omega) (by omega) (by omega))) (ha _ (by omega) (by omega) (by omega) (by omega)) (fun p hp9 => ha _ (by show B ≤ B + 11 + p; omega) (by show B + 11 + p < B + 30; omega) (by show B + 11 + p ≠ _; omega) (by show B + 11 + p ≠ _; omega)), hl, gLs_al (gLs_cv u4 (hc _ (by omega) (by omega) (by omega) (by omega) (by omega)) (hc _ (by omega) (by omega) (by omega) (by omega) (by omega))) (ha _ (by omega) (by omega) (by omega) (by omega)) (fun p hp9 => absurd hp9 (by omega)), ?_, fun a h9 => (hc _ (by omega) (by omega) (by omega) (by omega) (by omega)).trans (u6 a h9), fun p h9 => (hc _ (by omega) (by omega) (by omega) (by omega) (by omega)).trans (u7 p h9), fun j h9 => ?_⟩
  · rw [hc B (by omega) (by omega) (by omega) (by omega) (by omega), ha (B + 1) (by omega) (by omega) (by omega) (by omega), ha (B + 3) (by omega) (by omega) (by omega) (by omega), ha (B + 5) (by omega) (by omega) (by omega) (by omega), ha (B + 7) (by omega) (by omega) (by omega) (by omega)]; exact u1
  · rw [hc (B + 7) (by omega) (by omega) (by omega) (by omega) (by omega), ha (B + 8) (by omega) (by omega) (by omega) (by omega), ha (B + 9) (by omega) (by omega) (by omega) (by omega), ha (B + 10) (by omega) (by omega) (by omega) (by omega)]; exact u5
  · by_cases hq : j = nj
    · subst hq; exact he
    · have := hp j h9
      rw [hc _ (by omega) (by omega) (by omega) (by omega) (by omega), ha (B + 11 + k.2.1 j) (by omega) (by omega) (by omega) (by omega)]
      exact u8 j (by omega)
theorem gUF_o (hU : gUF G al w nf ns c) (hnf : nf ≤ 2) (hns : ∀ f, f < nf → ns f ≤ 3) (hc : ∀ i, i < 30 → c' i = c i) (ha : ∀ i, i < 30 → al' i = al i) : gUF G al' w nf ns c' := by
  obtain ⟨u1, u2, u3⟩ := hU
  refine ⟨gLs_al (gLs_cv u1 (hc _ (by omega)) (hc _ (by omega))) (ha _ (by omega)) (fun f hf => ha _ (by show 10 + f < 30; omega)), fun f hf => ?_, fun f s hf hs => ?_⟩
  · obtain ⟨v1, v2⟩ := u2 f hf
    have := hns f hf
    exact ⟨by rw [hc _ (by omega), ha (12 + f) (by omega)]; exact v1, gLs_al (gLs_cv v2 (hc _ (by omega)) (hc _ (by omega))) (ha _ (by omega)) (fun s hs => ha _ (by show 20 + (3 * f + s) < 30; omega))⟩
  · have := hns f hf
    exact (hc _ (by omega)).trans (u3 f s hf hs)
theorem gUF_f (hU : gUF G al w nf ns c) (hnf : nf < 2) (hns : ∀ f, ns f = 0) (hc : ∀ i, i < 30 → i ≠ 1 → i ≠ 2 → i ≠ 10 + nf → i ≠ 12 + nf → i ≠ 14 + nf → c' i = c i) (ha : ∀ i, i < 30 → i ≠ 2 → i ≠ 10 + nf → i ≠ 12 + nf → i ≠ 14 + nf → al' i = al i)
    (hl : gLs G al' c' 1 2 (nf + 1) (fun f => 10 + f)) (he : c' (10 + nf) = some (.inr (3, [.ref (al' (12 + nf))]))) (hl2 : gLs G al' c' (12 + nf) (14 + nf) 0 (fun s => 20 + (3 * nf + s))) : gUF G al' w (nf + 1) ns c' := by
  obtain ⟨u1, u2, u3⟩ := hU
  refine ⟨hl, fun f hf => ?_, fun f s hf hs => absurd hs (by rw [hns]; omega)⟩
  by_cases hq : f = nf
  · subst hq; rw [hns]; exact ⟨he, hl2⟩
  · obtain ⟨v1, v2⟩ := u2 f (by omega)
    rw [hns] at v2 ⊢
    exact ⟨by rw [hc _ (by omega) (by omega) (by omega) (by omega) (by omega) (by omega), ha (12 + f) (by omega) (by omega) (by omega) (by omega) (by omega)]; exact v1, gLs_al (gLs_cv v2 (hc _ (by omega) (by omega) (by omega) (by omega) (by omega) (by omega)) (hc _ (by omega) (by omega) (by omega) (by omega) (by omega) (by omega))) (ha _ (by omega) (by omega) (by omega) (by omega) (by omega)) (fun s hs => absurd hs (by omega))⟩
theorem gUF_s {f0 s0 : Nat} {ns' : Nat → Nat} (hU : gUF G al w 2 ns c) (hf0 : f0 < 2) (hs0 : ns f0 = s0) (hs3 : s0 < 3) (hns : ∀ f, f < 2 → ns f ≤ 3) (hns' : ns' f0 = s0 + 1) (hno : ∀ f, f ≠ f0 → ns' f = ns f) (hc : ∀ i, i < 30 → i ≠ 12 + f0 → i ≠ 14 + f0 → i ≠ 20 + (3 * f0 + s0) → c' i = c i) (ha : ∀ i, i < 30 → i ≠ 14 + f0 → i ≠ 20 + (3 * f0 + s0) → al' i = al i)
    (hl : gLs G al' c' (12 + f0) (14 + f0) (s0 + 1) (fun s => 20 + (3 * f0 + s))) (he : c' (20 + (3 * f0 + s0)) = some (cStep w (3 * f0 + s0))) : gUF G al' w 2 ns' c' := by
  obtain ⟨u1, u2, u3⟩ := hU
  refine ⟨gLs_al (gLs_cv u1 (hc _ (by omega) (by omega) (by omega) (by omega)) (hc _ (by omega) (by omega) (by omega) (by omega))) (ha _ (by omega) (by omega) (by omega)) (fun f hf => ha _ (by show 10 + f < 30; omega) (by show 10 + f ≠ _; omega) (by show 10 + f ≠ _; omega)), fun f hf => ?_, fun f s hf hs => ?_⟩
  · obtain ⟨v1, v2⟩ := u2 f hf
    have := hns f hf
    refine ⟨by rw [hc _ (by omega) (by omega) (by omega) (by omega), ha (12 + f) (by omega) (by omega) (by omega)]; exact v1, ?_⟩
    by_cases hq : f = f0
    · subst hq; rw [hns']; exact hl
    · rw [hno f hq]
      exact gLs_al (gLs_cv v2 (hc _ (by omega) (by omega) (by omega) (by omega)) (hc _ (by omega) (by omega) (by omega) (by omega))) (ha _ (by omega) (by omega) (by omega)) (fun s hs => ha _ (by show 20 + (3 * f + s) < 30; omega) (by show 20 + (3 * f + s) ≠ _; omega) (by show 20 + (3 * f + s) ≠ _; omega))
  · have := hns f hf
    by_cases hq : f = f0
    · subst hq
      rw [hns'] at hs
      by_cases hq2 : s = s0
      · subst hq2; exact he
      · exact (hc _ (by omega) (by omega) (by omega) (by omega)).trans (u3 f s hf (by omega))
    · rw [hno f hq] at hs
      exact (hc _ (by omega) (by omega) (by omega) (by omega)).trans (u3 f s hf hs)
end GU
