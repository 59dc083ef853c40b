/-- what zLd holds: the winders hired, and all else as it was -/
theorem zLd_row {z : RZ} {ro : Int → Int} : ∀ (k : Nat), (∀ i : Int, 0 ≤ i → i < k → zLd z ro k (22 + 5 * i) = ro (3 * i) ∧ zLd z ro k (22 + 5 * i + 1) = ro (3 * i + 1) ∧ zLd z ro k (22 + 5 * i + 2) = ro (3 * i + 2) ∧ zLd z ro k (22 + 5 * i + 3) = z 13 + ro (3 * i + 2) ∧ zLd z ro k (22 + 5 * i + 4) = 0) ∧ (∀ j : Int, (j < 21 ∨ j = 21 + 1 - 1 - 1 ∨ 22 + 5 * (k : Int) ≤ j) → zLd z ro k j = z j)
  | 0 => ⟨fun i h0 h1 => by omega, fun j hj => iu_ne (by omega)⟩
  | k + 1 => by
    obtain ⟨a1, a2⟩ := zLd_row (z := z) (ro := ro) k
    have h21 := zLd_21 (z := z) (ro := ro) (k := k)
    have e13 := a2 13 (by omega)
    have e : zLd z ro (k + 1) = zComes (zLd z ro k) (ro (3 * k)) (ro (3 * k + 1)) (ro (3 * k + 2)) := rfl
    rw [e]
    unfold zComes
    rw [h21, e13]
    constructor
    · intro i h0 h1
      by_cases hi : i = k
      · subst hi
        simp (disch := omega) only [iu_ne, iu_eq]
        exact ⟨trivial, trivial, trivial, trivial, trivial⟩
      · have q := a1 i h0 (by omega)
        simp (disch := omega) only [iu_ne]
        exact q
    · intro j hj
      simp (disch := omega) only [iu_ne]
      exact a2 j (by omega)

