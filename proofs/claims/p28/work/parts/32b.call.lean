/-! A CALL: WHAT IT MAKES OF A JetWaltz -/
abbrev mCall (h : gK) (f sh : Nat) (ca : Int32) : gK := (h.1 + 1, va_up h.2.1 h.1 f, va_up h.2.2.1 h.1 sh, va_up h.2.2.2.1 h.1 ca, h.2.2.2.2)
theorem va_up_id {α : Type} (f : Nat → α) (n : Nat) : va_up f n (f n) = f := by
  funext i
  unfold va_up
  by_cases h : i = n
  · rw [if_pos h, h]
  · rw [if_neg h]
theorem ov_al2 {G : gT} {al al' : Nat → Nat} {k : gC} {c : mC} {g : St} {B : Nat} (hB : B = 100 ∨ B = 200) (hJ : k.1 ≤ 8) (hp : ∀ j, j < k.1 → k.2.1 j < 2) (ha : ∀ i, i < 300 → i ≠ 100 + 6 → i ≠ 200 + 6 → al' i = al i) : ov G al' k B c g = ov G al k B c g := by
  funext i
  unfold ov cShow cJet
  rw [ha (B + 1) (by omega) (by omega) (by omega), ha (B + 3) (by omega) (by omega) (by omega), ha (B + 5) (by omega) (by omega) (by omega), ha (B + 7) (by omega) (by omega) (by omega)]
  by_cases e0 : i = B
  · rw [if_pos e0, if_pos e0]
  · rw [if_neg e0, if_neg e0]
    by_cases h1 : B + 8 ≤ i ∧ i < B + 11
    · rw [if_pos h1, if_pos h1]
    · rw [if_neg h1, if_neg h1]
      by_cases h2 : B + 11 ≤ i ∧ i < B + 13
      · rw [if_pos h2, if_pos h2]
      · rw [if_neg h2, if_neg h2]
        by_cases h3 : B + 20 ≤ i ∧ i < B + 20 + k.1
        · have := hp (i - (B + 20)) (by omega)
          rw [if_pos h3, if_pos h3, ha _ (by omega) (by omega) (by omega)]
        · rw [if_neg h3, if_neg h3]
theorem ov_cc {G : gT} {al : Nat → Nat} {k : gC} {c c' : mC} {g : St} {B i : Nat} (h : c' i = c i) : ov G al k B c' g i = ov G al k B c g i := by
  unfold ov
  rw [h]
theorem call_X {G : gT} {al al' : Nat → Nat} {k : gC} {h : gK} {c c' : mC} {g t : St} {f sh : Nat} {ca : Int32} (hX : gX G al k h c) (hn : h.1 < 20) (hf : f < 2) (hs : sh < 10)
    (hfc : ∀ i, (i ≠ 300 + 3 * h.1 ∧ i ≠ 300 + 3 * h.1 + 1 ∧ i ≠ 300 + 3 * h.1 + 2 ∧ i ≠ 100 + 5 ∧ i ≠ 100 + 6 ∧ i ≠ 200 + 5 ∧ i ≠ 200 + 6) → c' i = w2 G al k c g t i)
    (hfa : ∀ i, (i ≠ 300 + 3 * h.1 ∧ i ≠ 300 + 3 * h.1 + 1 ∧ i ≠ 300 + 3 * h.1 + 2 ∧ i ≠ 100 + 6 ∧ i ≠ 200 + 6) → al' i = al i)
    (he : c' (300 + 3 * h.1) = some (.inr (2, [.ref (al' (300 + 3 * h.1 + 1)), .int (nI sh), .int ca])))
    (l1 : gLs G al' c' (300 + 3 * h.1 + 1) (300 + 3 * h.1 + 2) 3 (fun s => 20 + (3 * f + s)))
    (l2 : gLs G al' c' (100 + 5) (100 + 6) (h.1 + 1) (fun i => 300 + 3 * i)) (l3 : gLs G al' c' (200 + 5) (200 + 6) (h.1 + 1) (fun i => 300 + 3 * i)) :
    ∃ cN : mC, c' = w2 G al' k cN g t ∧ gX G al' k (mCall h f sh ca) cN ∧ ∀ i, 400 ≤ i → cN i = c i := by
  have hJ := gX_J hX
  obtain ⟨x0, x1, x2, x3, x4, x5, x6, x7⟩ := hX
  have hp := x1.2.2.2.2
  obtain ⟨cN, hN⟩ : ∃ cN : mC, cN = fun i => if 300 ≤ i ∨ i = 105 ∨ i = 106 ∨ i = 205 ∨ i = 206 then c' i else c i := ⟨_, rfl⟩
  have n1 : ∀ i, (300 ≤ i ∨ i = 105 ∨ i = 106 ∨ i = 205 ∨ i = 206) → cN i = c' i := fun i hi => by rw [hN]; exact if_pos hi
  have n2 : ∀ i, ¬ (300 ≤ i ∨ i = 105 ∨ i = 106 ∨ i = 205 ∨ i = 206) → cN i = c i := fun i hi => by rw [hN]; exact if_neg hi
  have n3 : ∀ i, 300 ≤ i → i ≠ 300 + 3 * h.1 → i ≠ 300 + 3 * h.1 + 1 → i ≠ 300 + 3 * h.1 + 2 → cN i = c i := fun i h0 h1 h2 h3 => (n1 i (Or.inl h0)).trans ((hfc i ⟨h1, h2, h3, by omega, by omega, by omega, by omega⟩).trans (w2_hi hJ h0))
  have hal : ∀ i, i < 300 → i ≠ 100 + 6 → i ≠ 200 + 6 → al' i = al i := fun i h1 h2 h3 => hfa i ⟨by omega, by omega, by omega, h2, h3⟩
  have hw : w2 G al' k cN g t = w2 G al k cN g t := by
    unfold w2
    rw [ov_al2 (Or.inl rfl) hJ hp hal, ov_al2 (Or.inr rfl) hJ hp hal]
  have hc : c' = w2 G al' k cN g t := by
    rw [hw]
    funext i
    by_cases hi : 300 ≤ i ∨ i = 105 ∨ i = 106 ∨ i = 205 ∨ i = 206
    · rw [show w2 G al k cN g t i = cN i from (ov_c (by omega) (by omega) (by omega)).trans (ov_c (by omega) (by omega) (by omega)), n1 i hi]
    · rw [hfc i (by omega)]
      exact (ov_cc (ov_cc (n2 i hi))).symm
  have hF : ∀ B, (B = 100 ∨ B = 200) → gF G al k B c → gF G al' k B cN := by
    intro B hB hF
    obtain ⟨f1, f2, f3, f4, f5⟩ := gF_cv (c' := fun i => if i = 105 ∨ i = 106 ∨ i = 205 ∨ i = 206 then c i else cN i) hF (fun i h1 h2 => by
      by_cases q : i = 105 ∨ i = 106 ∨ i = 205 ∨ i = 206
      · exact if_pos q
      · exact (if_neg q).trans (n2 i (by omega)))
    refine ⟨gLs_al (gLs_cv hF.1 (n2 _ (by omega)) (n2 _ (by omega))) (hal _ (by omega) (by omega) (by omega)) (fun i hi => hal _ (by show B + 11 + i < 300; omega) (by show B + 11 + i ≠ _; omega) (by show B + 11 + i ≠ _; omega)), gLs_al (gLs_cv hF.2.1 (n2 _ (by omega)) (n2 _ (by omega))) (hal _ (by omega) (by omega) (by omega)) (fun i hi => hal _ (by show B + 20 + i < 300; omega) (by show B + 20 + i ≠ _; omega) (by show B + 20 + i ≠ _; omega)), ?_, f4, f5⟩
    rw [hal (B + 8) (by omega) (by omega) (by omega), hal (B + 9) (by omega) (by omega) (by omega), hal (B + 10) (by omega) (by omega) (by omega), n2 (B + 7) (by omega)]
    exact hF.2.2.1
  have hH : ∀ B, gLs G al' c' (B + 5) (B + 6) (h.1 + 1) (fun i => 300 + 3 * i) → (B = 100 ∨ B = 200) → gH G al B h c → gH G al' B (mCall h f sh ca) cN := by
    intro B lB hB hH
    obtain ⟨-, g2, g3, g4⟩ := hH
    refine ⟨gLs_cv lB (n1 _ (by omega)) (n1 _ (by omega)), hn, fun i hi => ?_, fun q hq => (n2 _ (by omega)).trans (g4 q hq)⟩
    by_cases hin : i = h.1
    · subst hin
      have v1 : (mCall h f sh ca).2.1 h.1 = f := if_pos rfl
      have v2 : (mCall h f sh ca).2.2.1 h.1 = sh := if_pos rfl
      have v3 : (mCall h f sh ca).2.2.2.1 h.1 = ca := if_pos rfl
      rw [v1, v2, v3]
      exact ⟨hf, hs, (n1 _ (by omega)).trans he, gLs_cv l1 (n1 _ (by omega)) (n1 _ (by omega))⟩
    · have hi' : i < h.1 := by have hi2 : i < h.1 + 1 := hi; omega
      have v1 : (mCall h f sh ca).2.1 i = h.2.1 i := if_neg hin
      have v2 : (mCall h f sh ca).2.2.1 i = h.2.2.1 i := if_neg hin
      have v3 : (mCall h f sh ca).2.2.2.1 i = h.2.2.2.1 i := if_neg hin
      obtain ⟨e1, e2, e3, e4⟩ := g3 i hi'
      rw [v1, v2, v3]
      refine ⟨e1, e2, ?_, gLs_al (gLs_cv e4 (n3 _ (by omega) (by omega) (by omega) (by omega)) (n3 _ (by omega) (by omega) (by omega) (by omega))) (hfa _ (by omega)) (fun s hs => hal _ (by show 20 + (3 * h.2.1 i + s) < 300; omega) (by show 20 + (3 * h.2.1 i + s) ≠ _; omega) (by show 20 + (3 * h.2.1 i + s) ≠ _; omega))⟩
      rw [n3 _ (by omega) (by omega) (by omega) (by omega), hfa (300 + 3 * i + 1) (by omega)]
      exact e3
  refine ⟨cN, hc, ⟨?_, hF 100 (Or.inl rfl) x1, hF 200 (Or.inr rfl) x2, hH 100 l2 (Or.inl rfl) x3, hH 200 l3 (Or.inr rfl) x4, gLs_al (gLs_cv x5 (n2 _ (by decide)) (n2 _ (by decide))) (hal _ (by decide) (by decide) (by decide)) (fun i hi => hal _ (by show 10 + i < 300; omega) (by show 10 + i ≠ _; omega) (by show 10 + i ≠ _; omega)), fun f' hf' => ?_, (n3 999 (by decide) (by omega) (by omega) (by omega)).trans x7⟩, fun i hi => n3 i (by omega) (by omega) (by omega) (by omega)⟩
  · rw [n2 0 (by decide), hal 1 (by decide) (by decide) (by decide), hal 100 (by decide) (by decide) (by decide), hal 200 (by decide) (by decide) (by decide)]
    exact x0
  · obtain ⟨y1, y2⟩ := x6 f' hf'
    refine ⟨?_, gLs_al (gLs_cv y2 (n2 _ (by omega)) (n2 _ (by omega))) (hal _ (by omega) (by omega) (by omega)) (fun s hs => hal _ (by show 20 + (3 * f' + s) < 300; omega) (by show 20 + (3 * f' + s) ≠ _; omega) (by show 20 + (3 * f' + s) ≠ _; omega))⟩
    rw [n2 _ (by omega), hal (12 + f') (by omega) (by omega) (by omega)]
    exact y1
