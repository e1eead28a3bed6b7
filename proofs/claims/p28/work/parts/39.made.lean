/-! THE SET-UP JetWaltz, AS TWO SHOWS OF NUMBERS -/
section MADE
variable {G : gT} {al : Nat → Nat} {k : gC} {w : Nat → Nat → Int32} {ns : Nat → Nat} {c : mC}
theorem ov_id {B : Nat} {g : St} (h0 : c B = some (cShow al B (g 0))) (ha : ∀ a, a < 3 → c (B + 8 + a) = some (cArr G (g (20 + a)))) (hp : ∀ p, p < 2 → c (B + 11 + p) = some (cPump k p (g (1 + p)))) (hj : ∀ j, j < k.1 → c (B + 20 + j) = some (cJet al B k j (g (3 + j)))) : ov G al k B c g = c := by
  funext i
  unfold ov
  by_cases e0 : i = B
  · rw [if_pos e0, e0, h0]
  · rw [if_neg e0]
    by_cases h1 : B + 8 ≤ i ∧ i < B + 11
    · rw [if_pos h1]
      have := ha (i - (B + 8)) (by omega)
      rw [show B + 8 + (i - (B + 8)) = i by omega, show 20 + (i - (B + 8)) = i + 12 - B by omega] at this
      exact this.symm
    · rw [if_neg h1]
      by_cases h2 : B + 11 ≤ i ∧ i < B + 13
      · rw [if_pos h2]
        have := hp (i - (B + 11)) (by omega)
        rw [show B + 11 + (i - (B + 11)) = i by omega] at this
        exact this.symm
      · rw [if_neg h2]
        by_cases h3 : B + 20 ≤ i ∧ i < B + 20 + k.1
        · rw [if_pos h3]
          have := hj (i - (B + 20)) (by omega)
          rw [show B + 20 + (i - (B + 20)) = i by omega] at this
          exact this.symm
        · rw [if_neg h3]
theorem gUB_id {B : Nat} (hU : gUB G al k B 2 k.1 c) : ov G al k B c g0S = c := by
  obtain ⟨u1, u2, u3, u4, u5, u6, u7, u8⟩ := hU
  refine ov_id (u1.trans rfl) (fun a ha => (u6 a ha).trans ?_) (fun p hp => (u7 p hp).trans ?_) (fun j hj => (u8 j hj).trans ?_)
  · have e : g0S (20 + a) = fun _ => 0 := by funext q; exact g0S_o (by omega) q
    rw [e]
  · unfold cPump
    rw [g0S_o (by omega), g0S_o (by omega), g0S_o (by omega), g0S_o (by omega), bz_0]
  · unfold cJet
    rw [g0S_o (by omega), g0S_o (by omega), g0S_o (by omega), g0S_o (by omega), g0S_o (by omega), g0S_o (by omega), bz_0]
theorem gU_X (hU : gU G al k w 2 2 k.1 ns c) (hns : ∀ f, f < 2 → ns f = 3) (hJ : k.1 ≤ 8) (hp : ∀ j, j < k.1 → k.2.1 j < 2) : c = w2 G al k c g0S g0S ∧ gX G al k (h0S w) c := by
  obtain ⟨u0, hB1, hB2, hF, u9⟩ := hU
  have e1 := gUB_id hB1
  have e2 := gUB_id hB2
  have hF9 : ∀ B, gUB G al k B 2 k.1 c → gF G al k B c := fun B hB => ⟨hB.2.1, hB.2.2.1, hB.2.2.2.2.1, hJ, hp⟩
  have hq : ∀ q, q < 6 → c (20 + q) = some (.inr (7, [.int (w q 0), .int (w q 1), .int (w q 2)])) := by
    intro q hq
    have h3 := hF.2.2 (q / 3) (q % 3) (by omega) (by rw [hns _ (by omega)]; omega)
    rw [show 3 * (q / 3) + q % 3 = q by omega] at h3
    exact h3
  have hH9 : ∀ B, gUB G al k B 2 k.1 c → gH G al B (h0S w) c := by
    intro B hB
    refine ⟨gLs_al hB.2.2.2.1 rfl (fun i hi => absurd hi (Nat.not_lt_zero i)), Nat.zero_le _, fun i hi => absurd hi (Nat.not_lt_zero i), hq⟩
  refine ⟨?_, u0, hF9 100 hB1, hF9 200 hB2, hH9 100 hB1, hH9 200 hB2, hF.1, fun f hf => ?_, u9⟩
  · unfold w2
    rw [e1, e2]
  · obtain ⟨v1, v2⟩ := hF.2.1 f hf
    rw [hns f hf] at v2
    exact ⟨v1, v2⟩
end MADE
/-! WHAT THE SCRIPT MAKES OF IT -/
def sPw (G : gT) (p : Nat) : Int32 := 10 + nI (bel (sCell G p) 51)
def sZ (G : gT) (j : Nat) : Int32 := sCell G (j + 3)
def sJ (G : gT) : Nat := 2 + bel (sCell G 2) 7
def kG (G : gT) : gC := (sJ G, fun j => bel (sZ G j) 2, fun o q => if o < 3 then sPw G (o - 1) else if q = 1 then nI (bel (sZ G (o - 3) >>> (2 &&& 31)) 20) else if q = 2 then (1 : Int32) + nI (bel (sZ G (o - 3) >>> (4 &&& 31)) 5) else nI (bel (sZ G (o - 3) >>> (5 &&& 31)) 7) - 3)
def wG (G : gT) : Nat → Nat → Int32 := fun q n => if n = 0 then nI (bel (sCell G q) 8) else if n = 1 then (1 : Int32) + nI (bel (sCell G q >>> (3 &&& 31)) 1023) else if q % 3 = 0 then (16 : Int32) + nI (bel (sCell G q >>> (4 &&& 31)) 5) else nI (bel (sCell G q >>> (5 &&& 31)) 7)
theorem nI_addT {a b : Nat} (h : a + b < 2147483648) : (nI a + nI b).toInt = a + b := by rw [nI_add, nI_t (by omega)]; omega
theorem kG_cfg (G : gT) : cfg (kG G) := by
  refine ⟨by show 2 ≤ 2 + _; omega, ?_, fun j hj => bel_lt _ (by decide), fun p hp => ?_, fun j hj => ?_⟩
  · show 2 + bel (sCell G 2) 7 ≤ 8
    have := bel_lt (sCell G 2) (n := 7) (by decide)
    omega
  · have e : (kG G).2.2 (1 + p) 1 = sPw G (1 + p - 1) := if_pos (by omega)
    rw [e]
    have := bel_lt (sCell G (1 + p - 1)) (n := 51) (by decide)
    have h9 : (sPw G (1 + p - 1)).toInt = (10 : Nat) + (bel (sCell G (1 + p - 1)) 51 : Nat) := nI_addT (a := 10) (by omega)
    omega
  · have e : (kG G).2.2 (3 + j) 2 = (1 : Int32) + nI (bel (sZ G (3 + j - 3) >>> (4 &&& 31)) 5) := (if_neg (by omega)).trans ((if_neg (by decide)).trans (if_pos rfl))
    rw [e]
    have := bel_lt (sZ G (3 + j - 3) >>> (4 &&& 31)) (n := 5) (by decide)
    have h9 : ((1 : Int32) + nI (bel (sZ G (3 + j - 3) >>> (4 &&& 31)) 5)).toInt = (1 : Nat) + (bel (sZ G (3 + j - 3) >>> (4 &&& 31)) 5 : Nat) := nI_addT (a := 1) (by omega)
    omega
theorem wG_ok (G : gT) : stepOK (h0S (wG G)) := by
  intro q hq
  have b1 := bel_lt (sCell G q) (n := 8) (by decide)
  have b2 := bel_lt (sCell G q >>> (4 &&& 31)) (n := 5) (by decide)
  have b3 := bel_lt (sCell G q >>> (5 &&& 31)) (n := 7) (by decide)
  have e0 : (h0S (wG G)).2.2.2.2 q 0 = nI (bel (sCell G q) 8) := rfl
  have eW : (h0S (wG G)).2.2.2.2 q 2 = if q % 3 = 0 then (16 : Int32) + nI (bel (sCell G q >>> (4 &&& 31)) 5) else nI (bel (sCell G q >>> (5 &&& 31)) 7) := rfl
  refine ⟨by rw [e0, nI_t (by omega)]; omega, by rw [e0, nI_t (by omega)]; omega, ?_⟩
  by_cases h3 : q % 3 = 0
  · have e2 : (h0S (wG G)).2.2.2.2 q 2 = (16 : Int32) + nI (bel (sCell G q >>> (4 &&& 31)) 5) := eW.trans (if_pos h3)
    have h9 : ((16 : Int32) + nI (bel (sCell G q >>> (4 &&& 31)) 5)).toInt = (16 : Nat) + (bel (sCell G q >>> (4 &&& 31)) 5 : Nat) := nI_addT (a := 16) (by omega)
    rw [e2]
    exact Or.inr (by omega)
  · have e2 : (h0S (wG G)).2.2.2.2 q 2 = nI (bel (sCell G q >>> (5 &&& 31)) 7) := eW.trans (if_neg h3)
    rw [e2, nI_t (by omega)]
    exact Or.inl (by omega)
theorem g0S_I (k : gC) : Inv k g0S 3000 0 := by
  have z : ∀ o q, o ≠ 0 → g0S o q = 0 := fun o q h => g0S_o h q
  have p0 : ∀ o, o ≠ 0 → pOK (g0S o) := fun o h => by
    unfold pOK
    rw [z o 2 h, z o 3 h]
    exact ⟨by decide, by decide, by decide, by decide, fun _ => ⟨rfl, rfl⟩⟩
  have j0 : ∀ o, o ≠ 0 → jOK (g0S o) := fun o h => by
    unfold jOK
    rw [z o 4 h, z o 5 h]
    exact ⟨by decide, by decide, by decide, by decide⟩
  have s0 : ∀ s, sI g0S s = 0 := fun s => by unfold sI; rw [z 20 s (by decide), z 21 s (by decide), z 22 s (by decide), i_0]; rfl
  refine ⟨⟨fun p hp => p0 _ (by omega), fun j hj => j0 _ (by omega)⟩, ?_, by decide, by decide, by decide, by decide, by decide, ?_, by decide, rfl, by decide, by decide, by decide, ⟨z 20 _ (by decide), z 21 _ (by decide), z 22 _ (by decide)⟩, by decide⟩
  · intro s hs
    rw [z 20 s (by decide), z 21 s (by decide), z 22 s (by decide)]
    decide
  · unfold SI
    rw [s0, s0, s0, s0, s0, s0, s0, s0, s0]
    decide
