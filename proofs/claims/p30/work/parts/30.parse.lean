/-! READING ROUNDS: (rounds read, what is due, the rounds' numbers) -/
abbrev PS : Type := Int × Int × (Int → Int)
def pW (c : Int) : Int := if c = 103 then 0 else if c = 115 then 1 else if c = 99 then 2 else -1
theorem pW_rng (c : Int) : pW c = 0 ∨ pW c = 1 ∨ pW c = 2 ∨ pW c = -1 := by
  unfold pW
  (repeat' split) <;> simp
/-- what a digit makes of the number that is due -/
def pV (c r d : Int) (ro : Int → Int) : Int := 10 * ro (3 * r + d) + c - 48
def pOk (c r d : Int) (ro : Int → Int) : Prop := (d = 0 ∧ ¬ pW c = -1) ∨ (d = 1 ∧ c = 47 ∧ 0 < ro (3 * r + 1)) ∨ (d = 2 ∧ c = 44 ∧ 0 < ro (3 * r + 2)) ∨ (d = 1 ∧ 48 ≤ c ∧ c ≤ 57 ∧ 1 ≤ pV c r d ro ∧ pV c r d ro ≤ 200) ∨ (d = 2 ∧ 48 ≤ c ∧ c ≤ 57 ∧ 1 ≤ pV c r d ro ∧ pV c r d ro ≤ 720)
def pStep (c r d : Int) (ro : Int → Int) : PS :=
  if d = 0 then (r, 1, iu (iu (iu ro (3 * r) (pW c)) (3 * r + 1) 0) (3 * r + 2) 0)
  else if c = 47 then (r, 2, ro)
  else if c = 44 then (r + 1, 0, ro)
  else (r, d, iu ro (3 * r + d) (pV c r d ro))
def pS (tx ro : Int → Int) : Nat → PS
  | 0 => (0, 0, ro)
  | n + 1 => pStep (tx n) (pS tx ro n).1 (pS tx ro n).2.1 (pS tx ro n).2.2
def pFine (tx ro : Int → Int) (n : Nat) : Prop := ∀ k : Nat, k < n → pOk (tx k) (pS tx ro k).1 (pS tx ro k).2.1 (pS tx ro k).2.2
/-- what holds of it behind k signs -/
def pInv (r d : Int) (ro : Int → Int) (k : Nat) : Prop :=
  (0 ≤ r ∧ 0 ≤ d ∧ d ≤ 2 ∧ 3 * r + d ≤ k) ∧ (¬ d = 0 → (0 ≤ ro (3 * r) ∧ ro (3 * r) ≤ 2) ∧ (0 ≤ ro (3 * r + 1) ∧ ro (3 * r + 1) ≤ 200) ∧ (0 ≤ ro (3 * r + 2) ∧ ro (3 * r + 2) ≤ 720)) ∧ (d = 2 → 1 ≤ ro (3 * r + 1)) ∧
  (∀ j : Int, 0 ≤ j → j < r → (0 ≤ ro (3 * j) ∧ ro (3 * j) ≤ 2) ∧ (1 ≤ ro (3 * j + 1) ∧ ro (3 * j + 1) ≤ 200) ∧ (1 ≤ ro (3 * j + 2) ∧ ro (3 * j + 2) ≤ 720))
theorem pInv_step {c r d : Int} {ro : Int → Int} {k : Nat} (h : pInv r d ro k) (hk : pOk c r d ro) : pInv (pStep c r d ro).1 (pStep c r d ro).2.1 (pStep c r d ro).2.2 (k + 1) := by
  obtain ⟨h1, h2, h3, h4⟩ := h
  have hw := pW_rng c
  by_cases hd : d = 0
  · have hc : ¬ pW c = -1 := by
      rcases hk with hk | hk | hk | hk | hk
      · exact hk.2
      all_goals (exfalso; omega)
    unfold pStep
    rw [if_pos hd]
    refine ⟨by show 0 ≤ r ∧ (0 : Int) ≤ 1 ∧ (1 : Int) ≤ 2 ∧ 3 * r + 1 ≤ ((k + 1 : Nat) : Int); omega, fun _ => ?_, fun hh => by simp at hh, fun j j0 j1 => ?_⟩
    · show (0 ≤ iu _ _ _ (3 * r) ∧ _) ∧ _
      simp (disch := omega) only [iu_ne, iu_eq]
      omega
    · have := h4 j j0 j1
      show (0 ≤ iu _ _ _ (3 * j) ∧ _) ∧ _
      simp (disch := omega) only [iu_ne]
      exact this
  · by_cases h47 : c = 47
    · have hc : d = 1 ∧ 0 < ro (3 * r + 1) := by
        rcases hk with hk | hk | hk | hk | hk
        · exact absurd hk.1 hd
        · exact ⟨hk.1, hk.2.2⟩
        all_goals (exfalso; omega)
      unfold pStep
      rw [if_neg hd, if_pos h47]
      exact ⟨by show 0 ≤ r ∧ (0 : Int) ≤ 2 ∧ (2 : Int) ≤ 2 ∧ 3 * r + 2 ≤ ((k + 1 : Nat) : Int); omega, fun _ => h2 hd, fun _ => by show 1 ≤ ro (3 * r + 1); omega, h4⟩
    · by_cases h44 : c = 44
      · have hc : d = 2 ∧ 0 < ro (3 * r + 2) := by
          rcases hk with hk | hk | hk | hk | hk
          · exact absurd hk.1 hd
          · exact absurd hk.2.1 h47
          · exact ⟨hk.1, hk.2.2⟩
          all_goals (exfalso; omega)
        have h2' := h2 hd
        have h3' := h3 hc.1
        unfold pStep
        rw [if_neg hd, if_neg h47, if_pos h44]
        refine ⟨by show 0 ≤ r + 1 ∧ (0 : Int) ≤ 0 ∧ (0 : Int) ≤ 2 ∧ 3 * (r + 1) + 0 ≤ ((k + 1 : Nat) : Int); omega, fun hh => absurd rfl hh, fun hh => by simp at hh, fun j j0 j1 => ?_⟩
        by_cases hj : j = r
        · subst hj
          exact ⟨h2'.1, by show 1 ≤ ro (3 * j + 1) ∧ ro (3 * j + 1) ≤ 200; omega, by show 1 ≤ ro (3 * j + 2) ∧ ro (3 * j + 2) ≤ 720; omega⟩
        · have j1' : j < r + 1 := j1
          exact h4 j j0 (by omega)
      · have hc : (d = 1 ∧ 1 ≤ pV c r d ro ∧ pV c r d ro ≤ 200) ∨ (d = 2 ∧ 1 ≤ pV c r d ro ∧ pV c r d ro ≤ 720) := by
          rcases hk with hk | hk | hk | hk | hk
          · exact absurd hk.1 hd
          · exact absurd hk.2.1 h47
          · exact absurd hk.2.1 h44
          · exact Or.inl ⟨hk.1, hk.2.2.2⟩
          · exact Or.inr ⟨hk.1, hk.2.2.2⟩
        have h2' := h2 hd
        generalize hv : pV c r d ro = v at hc ⊢
        unfold pStep
        rw [if_neg hd, if_neg h47, if_neg h44, hv]
        refine ⟨by show 0 ≤ r ∧ 0 ≤ d ∧ d ≤ 2 ∧ 3 * r + d ≤ ((k + 1 : Nat) : Int); omega, fun _ => ?_, fun hh => ?_, fun j j0 j1 => ?_⟩
        · show (0 ≤ iu ro (3 * r + d) v (3 * r) ∧ iu ro (3 * r + d) v (3 * r) ≤ 2) ∧ (0 ≤ iu ro (3 * r + d) v (3 * r + 1) ∧ iu ro (3 * r + d) v (3 * r + 1) ≤ 200) ∧ (0 ≤ iu ro (3 * r + d) v (3 * r + 2) ∧ iu ro (3 * r + d) v (3 * r + 2) ≤ 720)
          rcases hc with ⟨rfl, hc⟩ | ⟨rfl, hc⟩ <;> simp (disch := omega) only [iu_ne, iu_eq] <;> omega
        · show 1 ≤ iu ro (3 * r + d) v (3 * r + 1)
          have hd2 : d = 2 := hh
          rw [iu_ne (by omega)]
          exact h3 hd2
        · have := h4 j j0 j1
          show (0 ≤ iu ro (3 * r + d) v (3 * j) ∧ _) ∧ _
          simp (disch := omega) only [iu_ne]
          exact this
theorem pInv_run {tx ro : Int → Int} : ∀ {n : Nat}, pFine tx ro n → pInv (pS tx ro n).1 (pS tx ro n).2.1 (pS tx ro n).2.2 n
  | 0, _ => ⟨by show (0 : Int) ≤ 0 ∧ (0 : Int) ≤ 0 ∧ (0 : Int) ≤ 2 ∧ 3 * (0 : Int) + 0 ≤ ((0 : Nat) : Int); omega, fun h => absurd rfl h, fun h => by simp [pS] at h, fun j j0 j1 => by have : j < 0 := j1; omega⟩
  | n + 1, h => pInv_step (pInv_run (n := n) (fun k hk => h k (by omega))) (h n (by omega))

