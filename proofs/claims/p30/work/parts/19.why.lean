def zNoS (y : RZ) : Int := if y 52 = 0 then 1 else if zSil y then 2 else if y 1 = 0 then 3 else 0
def zDueN (z : RZ) : Nat → Int
  | 0 => 0
  | n + 1 => zDueN z n + if zDue z n then 1 else 0
def zNoC (z : RZ) : Int := if ¬ zCom z = -1 then 0 else if z 21 = 0 then 1 else if zDueN z (z 21).toNat = 0 then 2 else 3
theorem zDueN_rng (z : RZ) : ∀ n : Nat, 0 ≤ zDueN z n ∧ zDueN z n ≤ n
  | 0 => ⟨by simp [zDueN], by simp [zDueN]⟩
  | n + 1 => by
    have ih := zDueN_rng z n
    simp only [zDueN]
    split <;> omega
theorem zDueN_0 {z : RZ} : ∀ {n : Nat}, zDueN z n = 0 ↔ ∀ k : Int, 0 ≤ k → k < n → ¬ zDue z k
  | 0 => ⟨fun _ k h0 h1 => by omega, fun _ => rfl⟩
  | n + 1 => by
    have ih := zDueN_0 (z := z) (n := n)
    have hr := zDueN_rng z n
    simp only [zDueN]
    constructor
    · intro h k h0 h1
      by_cases hk : k = n
      · subst hk
        intro hd
        rw [if_pos hd] at h
        omega
      · refine ih.mp ?_ k h0 (by omega)
        split at h <;> omega
    · intro h
      rw [if_neg (h n (by omega) (by omega)), ih.mpr (fun k h0 h1 => h k h0 (by omega))]
      rfl
theorem zCom_none {z : RZ} (hi : zInv z) (h : ∀ k : Int, 0 ≤ k → k < z 21 → ¬ zDue z k) : zCom z = -1 := by
  have hr := zCom_rng hi
  have hd := zComN_due z (z 21).toNat
  rcases Classical.em (zCom z = -1) with h1 | h1
  · exact h1
  · exact absurd (hd h1) (h (zCom z) (by omega) (by omega))
def zOut (z : RZ) (w : Int) : Int := if w = 3 then z 10 else if w = 4 then zOwed z else if w = 5 then z 14 else if w = 6 then z 15 else if w = 7 then z 17 else if w = 8 then z 18 else if w = 9 then z 19 else z w
def zDown (z : RZ) : Int := if z 0 = 0 then 0 else if z 1 = 0 then 1 else if z 2 = 0 then 2 else -1

