/-! WHAT THE LAW'S OWN METHODS DO TO THE ROW -/
def dDr (de : Int → Int) (kk : Int) : Int → Int := fun j => if 0 ≤ j ∧ j < kk then de (j + 2) else de j
theorem dDr_0 (de : Int → Int) : dDr de 0 = de := by
  funext j
  simp only [dDr]
  rw [if_neg (by omega)]
theorem dDr_s (de : Int → Int) {kk : Int} (h : 0 ≤ kk) : iu (dDr de kk) (kk + 2 - 2) (dDr de kk (kk + 2)) = dDr de (kk + 1) := by
  funext j
  simp only [iu, dDr]
  (repeat' split) <;> first | rfl | (exfalso; omega) | (congr 1; omega)
abbrev zE (z : RZ) (k : Int) : Prop := zDue z k ∧ ¬ zKept z k
/-- the best of the winders from mm on, sought from the last to the first -/
def zBk (z : RZ) (mm b : Int) : Prop :=
  (b = -1 ∧ ∀ k : Int, mm ≤ k → k < z 21 → ¬ zE z k) ∨
  ((0 ≤ b ∧ mm ≤ b ∧ b < z 21) ∧ zE z b ∧ (∀ k : Int, mm ≤ k → k < z 21 → zE z k → z (22 + 5 * b + 3) ≤ z (22 + 5 * k + 3)) ∧ (∀ k : Int, mm ≤ k → k < b → zE z k → z (22 + 5 * b + 3) < z (22 + 5 * k + 3)))
theorem zBk_top (z : RZ) : zBk z (z 21) (-1) := Or.inl ⟨rfl, fun k h0 h1 => by omega⟩
theorem zBk_skip {z : RZ} {jj b : Int} (h : zBk z (jj + 1) b) (hn : ¬ (zE z jj ∧ (b < 0 ∨ z (22 + 5 * jj + 3) ≤ z (22 + 5 * b + 3)))) : zBk z jj b := by
  rcases h with ⟨rfl, h1⟩ | ⟨h0, h1, h2, h3⟩
  · refine Or.inl ⟨rfl, fun k q0 q1 => ?_⟩
    by_cases hk : k = jj
    · subst hk
      intro hE
      exact hn ⟨hE, Or.inl (by omega)⟩
    · exact h1 k (by omega) q1
  · refine Or.inr ⟨⟨h0.1, by omega, h0.2.2⟩, h1, fun k q0 q1 q2 => ?_, fun k q0 q1 q2 => ?_⟩
    · by_cases hk : k = jj
      · subst hk
        exact Int.le_of_lt (Int.not_le.mp fun q => hn ⟨q2, Or.inr q⟩)
      · exact h2 k (by omega) q1 q2
    · by_cases hk : k = jj
      · subst hk
        exact Int.not_le.mp fun q => hn ⟨q2, Or.inr q⟩
      · exact h3 k (by omega) q1 q2
theorem zBk_take {z : RZ} {jj b : Int} (h : zBk z (jj + 1) b) (h0 : 0 ≤ jj ∧ jj < z 21) (hE : zE z jj) (hb : b < 0 ∨ z (22 + 5 * jj + 3) ≤ z (22 + 5 * b + 3)) : zBk z jj jj := by
  refine Or.inr ⟨⟨h0.1, Int.le_refl _, h0.2⟩, hE, fun k q0 q1 q2 => ?_, fun k q0 q1 q2 => by omega⟩
  by_cases hk : k = jj
  · subst hk
    exact Int.le_refl _
  · rcases h with ⟨rfl, g1⟩ | ⟨g0, g1, g2, g3⟩
    · exact absurd q2 (g1 k (by omega) q1)
    · have := g2 k (by omega) q1 q2
      omega
theorem zComN_spec (z : RZ) : ∀ n : Nat, (zComN z n = -1 ∧ ∀ k : Int, 0 ≤ k → k < n → ¬ zE z k) ∨
    ((0 ≤ zComN z n ∧ zComN z n < n) ∧ zE z (zComN z n) ∧ (∀ k : Int, 0 ≤ k → k < n → zE z k → z (22 + 5 * zComN z n + 3) ≤ z (22 + 5 * k + 3)) ∧ (∀ k : Int, 0 ≤ k → k < zComN z n → zE z k → z (22 + 5 * zComN z n + 3) < z (22 + 5 * k + 3)))
  | 0 => Or.inl ⟨rfl, fun k h0 h1 => by omega⟩
  | n + 1 => by
    have ih := zComN_spec z n
    have hc : zComN z (n + 1) = if zBetter z (zComN z n) n then (n : Int) else zComN z n := rfl
    by_cases hb : zBetter z (zComN z n) n
    · rw [if_pos hb] at hc
      rw [hc]
      obtain ⟨b1, b2, b3⟩ := hb
      refine Or.inr ⟨⟨by omega, by omega⟩, ⟨b1, b2⟩, fun k q0 q1 q2 => ?_, fun k q0 q1 q2 => ?_⟩
      · by_cases hk : k = n
        · rw [hk]
          exact Int.le_refl _
        · rcases ih with ⟨e, g1⟩ | ⟨g0, g1, g2, g3⟩
          · exact absurd q2 (g1 k q0 (by omega))
          · have := g2 k q0 (by omega) q2
            omega
      · rcases ih with ⟨e, g1⟩ | ⟨g0, g1, g2, g3⟩
        · exact absurd q2 (g1 k q0 (by omega))
        · have := g2 k q0 (by omega) q2
          omega
    · rw [if_neg hb] at hc
      rw [hc]
      rcases ih with ⟨e, g1⟩ | ⟨g0, g1, g2, g3⟩
      · refine Or.inl ⟨e, fun k q0 q1 q2 => ?_⟩
        by_cases hk : k = n
        · rw [hk] at q2
          exact hb ⟨q2.1, q2.2, Or.inl e⟩
        · exact g1 k q0 (by omega) q2
      · refine Or.inr ⟨⟨g0.1, by omega⟩, g1, fun k q0 q1 q2 => ?_, g3⟩
        by_cases hk : k = n
        · rw [hk] at q2 ⊢
          exact Int.not_lt.mp fun q => hb ⟨q2.1, q2.2, Or.inr q⟩
        · exact g2 k q0 (by omega) q2
theorem zBk_com {z : RZ} {b : Int} (hi : zInv z) (h : zBk z 0 b) : b = zCom z := by
  have h21 := hi.1.2.2.2.2.2.2.2.2.1
  have hs := zComN_spec z (z 21).toNat
  have hn : (((z 21).toNat : Nat) : Int) = z 21 := by omega
  have hd : zComN z (z 21).toNat = zCom z := rfl
  rw [hn, hd] at hs
  rcases h with ⟨rfl, h1⟩ | ⟨h0, h1, h2, h3⟩
  · rcases hs with ⟨e, g1⟩ | ⟨g0, g1, g2, g3⟩
    · exact e.symm
    · exact absurd g1 (h1 _ g0.1 g0.2)
  · rcases hs with ⟨e, g1⟩ | ⟨g0, g1, g2, g3⟩
    · exact absurd h1 (g1 _ h0.1 h0.2.2)
    · rcases Int.lt_trichotomy b (zCom z) with q | q | q
      · have a1 := g3 b h0.1 q h1
        have a2 := h2 _ g0.1 g0.2 g1
        omega
      · exact q
      · have a1 := h3 _ g0.1 q g1
        have a2 := g2 b h0.1 h0.2.2 h1
        omega
theorem zSil_iff {z : RZ} (hi : zInv z) {k : Int} (h0 : 0 ≤ k) (h1 : k < z 66) (hp : 0 < z 65) (he : (z 65 - 1 + k) % 12 + 1 = zHour (z 10)) : zSil z := by
  have h65 := hi.1.2.2.2.2.2.2.2.2.2.2.2.2.2.2.1
  have h66 := hi.1.2.2.2.2.2.2.2.2.2.2.2.2.2.2.2
  have hh := zHour_rng hi.1.2.2.2.2.1.1 hi.1.2.2.2.2.1.2
  exact ⟨hp, by omega⟩
