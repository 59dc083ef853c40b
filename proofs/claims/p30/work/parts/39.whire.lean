/-- the winders at pp: n of them, as the rounds say -/
def WnM (h : AH) (pp : Nat) (ro : Int → Int) (mi n : Int) : Prop := ∃ F1 F2 F3 F4 F5 : Int → Int, h pp = some (eO 6 [aI n, aR (pp + 1), aR (pp + 2), aR (pp + 3), aR (pp + 4), aR (pp + 5)]) ∧ h (pp + 1) = some (eA 0 6 F1) ∧ h (pp + 2) = some (eA 0 6 F2) ∧ h (pp + 3) = some (eA 0 6 F3) ∧ h (pp + 4) = some (eA 0 6 F4) ∧ h (pp + 5) = some (eA 0 6 F5) ∧ wMade ro mi n F1 F2 F3 F4 F5
theorem WnM.fr {h h' : AH} {pp : Nat} {ro ro' : Int → Int} {mi n : Int} (hW : WnM h pp ro mi n) (hq : ∀ a : Nat, pp ≤ a → a < pp + 6 → h' a = h a) (hr : ∀ j : Int, j < 3 * n → ro' j = ro j) : WnM h' pp ro' mi n := by
  obtain ⟨F1, F2, F3, F4, F5, q0, q1, q2, q3, q4, q5, hw⟩ := hW
  exact ⟨F1, F2, F3, F4, F5, (hq _ (by omega) (by omega)).trans q0, (hq _ (by omega) (by omega)).trans q1, (hq _ (by omega) (by omega)).trans q2, (hq _ (by omega) (by omega)).trans q3, (hq _ (by omega) (by omega)).trans q4, (hq _ (by omega) (by omega)).trans q5, wMade_cong hw hr⟩
theorem pOk_comma {c r d : Int} {ro : Int → Int} (h : pOk c r d ro) (hc : c = 44) : ¬ d = 0 := by
  intro hd
  rcases h with hk | hk | hk | hk | hk
  · have : pW c = -1 := by rw [hc]; rfl
    exact hk.2 this
  all_goals omega
theorem cN_mono {tx : Int → Int} : ∀ {n k : Nat}, k ≤ n → cN tx k ≤ cN tx n
  | 0, k, h => by
    rw [show k = 0 by omega]
    exact Int.le_refl _
  | n + 1, k, h => by
    by_cases e : k = n + 1
    · subst e
      exact Int.le_refl _
    · have := cN_mono (tx := tx) (n := n) (k := k) (by omega)
      show cN tx k ≤ cN tx n + (if tx n = 44 then 1 else 0)
      split
      · omega
      · omega
theorem pStep_same {c r d : Int} {ro : Int → Int} (hc : ¬ c = 44) : (pStep c r d ro).1 = r := by
  unfold pStep
  split
  · rfl
  · split
    · rfl
    · rfl
theorem pStep_comma {c r d : Int} {ro : Int → Int} (hd : ¬ d = 0) (hc : c = 44) : pStep c r d ro = (r + 1, 0, ro) := by
  unfold pStep
  rw [if_neg hd, if_neg (by omega), if_pos hc]

