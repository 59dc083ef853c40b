/-! WHAT THE MODEL DOES TO ITS ROW z OF NUMBERS (0: heights, 3: taken, 6: wound, 9: charge, 10: time, 11: snow, 12: wear, 13: minute, 14: struck, 15: forgiven, 16: chimed, 17: missed, 18: slips, 19: stood, 20: rewound, 21: winders, 22: them, 52: debts, 53: them, 61: settings) -/
abbrev RZ : Type := Int → Int
def mnI (a b : Int) : Int := if a < b then a else b
theorem mnI_le (a b : Int) : mnI a b ≤ a ∧ mnI a b ≤ b ∧ (mnI a b = a ∨ mnI a b = b) := by unfold mnI; split <;> omega
theorem iu_iu (f : Int → Int) (j x y : Int) : iu (iu f j x) j y = iu f j y := by funext k; simp only [iu]; split <;> rfl
theorem iu_self (f : Int → Int) (j : Int) : iu f j (f j) = f := by funext k; simp only [iu]; split <;> simp_all
def zHour (t : Int) : Int := if t / 60 = 0 then 12 else t / 60
abbrev zSil (z : RZ) : Prop := 0 < z 65 ∧ (zHour (z 10) + 12 - z 65) % 12 < z 66
def zOwedN (z : RZ) : Nat → Int
  | 0 => 0
  | n + 1 => zOwedN z n + z (53 + 2 * (n : Int) + 1)
def zOwed (z : RZ) : Int := zOwedN z (z 52).toNat
abbrev zDue (z : RZ) (w : Int) : Prop := z (22 + 5 * w + 3) ≤ z 13
abbrev zKept (z : RZ) (w : Int) : Prop := z (22 + 5 * w) = 1 ∧ 0 < z 52 ∧ ¬ z 1 = 0
abbrev zBetter (z : RZ) (b k : Int) : Prop := zDue z k ∧ ¬ zKept z k ∧ (b = -1 ∨ z (22 + 5 * k + 3) < z (22 + 5 * b + 3))
def zComN (z : RZ) : Nat → Int
  | 0 => -1
  | n + 1 => if zBetter z (zComN z n) n then (n : Int) else zComN z n
def zCom (z : RZ) : Int := zComN z (z 21).toNat
def zMore (z : RZ) (w t : Int) : Int := mnI t (200 - z w)
def zWind (z : RZ) (w t : Int) : RZ := iu (iu z w (z w + zMore z w t)) (6 + w) (z (6 + w) + zMore z w t)
def zTake (z : RZ) (w t : Int) : RZ := iu (iu z w (z w - t)) (3 + w) (z (3 + w) + t)
theorem zComN_rng (z : RZ) : ∀ n : Nat, -1 ≤ zComN z n ∧ zComN z n < n
  | 0 => ⟨by simp [zComN], by simp [zComN]⟩
  | n + 1 => by
    have ih := zComN_rng z n
    simp only [zComN]
    split <;> omega
/-- what every row of the clock holds -/
def zInv (z : RZ) : Prop :=
  ((0 ≤ z 0 ∧ z 0 ≤ 200) ∧ (0 ≤ z 1 ∧ z 1 ≤ 200) ∧ (0 ≤ z 2 ∧ z 2 ≤ 200) ∧ (0 ≤ z 9 ∧ z 9 ≤ 30) ∧ (0 ≤ z 10 ∧ z 10 < 720) ∧ (0 ≤ z 11 ∧ z 11 ≤ 20) ∧ (0 ≤ z 12 ∧ z 12 ≤ 20) ∧
  (0 ≤ z 13 ∧ 0 ≤ z 18 ∧ 0 ≤ z 19 ∧ z 18 + z 19 ≤ z 13 + 1) ∧ (0 ≤ z 21 ∧ z 21 ≤ 6) ∧ (0 ≤ z 52 ∧ z 52 ≤ 4) ∧
  (2 ≤ z 61 ∧ z 61 ≤ 30) ∧ (0 ≤ z 62 ∧ z 62 ≤ 20) ∧ (1 ≤ z 63 ∧ z 63 ≤ 20) ∧ (1 ≤ z 64 ∧ z 64 ≤ 12) ∧ (0 ≤ z 65 ∧ z 65 ≤ 12) ∧ (1 ≤ z 66 ∧ z 66 ≤ 12)) ∧
  (∀ w : Int, 0 ≤ w → w < z 21 → (0 ≤ z (22 + 5 * w) ∧ z (22 + 5 * w) ≤ 2) ∧ (1 ≤ z (22 + 5 * w + 1) ∧ z (22 + 5 * w + 1) ≤ 200) ∧ (1 ≤ z (22 + 5 * w + 2) ∧ z (22 + 5 * w + 2) ≤ 720) ∧ (0 ≤ z (22 + 5 * w + 3) ∧ z (22 + 5 * w + 3) ≤ z 13 + 720)) ∧
  (∀ d : Int, 0 ≤ d → d < z 52 → (1 ≤ z (53 + 2 * d) ∧ z (53 + 2 * d) ≤ 12) ∧ (1 ≤ z (53 + 2 * d + 1) ∧ z (53 + 2 * d + 1) ≤ 12))
def zOne (z : RZ) : RZ := if zCom z = -1 then z else
  iu (iu (zWind z (z (22 + 5 * zCom z)) (z (22 + 5 * zCom z + 1))) (22 + 5 * zCom z + 3) (z 13 + z (22 + 5 * zCom z + 2))) (22 + 5 * zCom z + 4) (z (22 + 5 * zCom z + 4) + 1)
def zTwo (z : RZ) : RZ := if z 9 ≤ z 62 ∧ z 9 < z 61 ∧ ¬ z 0 = 0 then
  iu (iu (zTake z 0 (mnI (z 61 - z 9) (z 0))) 9 (z 9 + mnI (z 61 - z 9) (z 0))) 20 (z 20 + 1) else z
def zHow (z : RZ) : Int := if z 9 = 0 then 1 else if z 63 - z 12 < z 11 then 2 else 0
def zThree (z : RZ) : RZ := if z 9 = 0 then iu z 19 (z 19 + 1) else if z 63 - z 12 < z 11 then
  iu (iu (iu z 9 (z 9 - 1)) 18 (z 18 + 1)) 12 (z 12 + if (z 18 + 1) % 5 = 0 ∧ z 12 < 20 then 1 else 0) else iu (iu z 9 (z 9 - 1)) 10 ((z 10 + 1) % 720)
def zPhr (z : RZ) : Int := if z 10 % 60 / 15 = 0 then 4 else z 10 % 60 / 15
def zChim (z : RZ) (k : Int) : RZ := iu (iu (iu z 2 (z 2 - 2 * k)) 5 (z 5 + 2 * k)) 16 (z 16 + k)
def zFour (z : RZ) : RZ := if z 10 % 15 = 0 ∧ ¬ zSil z then
  iu (zChim z (mnI (zPhr z) (z 2 / 2))) 17 (z 17 + (zPhr z - mnI (zPhr z) (z 2 / 2))) else z
def zDrop (z : RZ) : RZ := fun k => if k = 52 then z 52 - 1 else if 53 ≤ k ∧ k < 53 + 2 * (z 52 - 1) then z (k + 2) else z k
def zMk (z : RZ) : RZ := if z 52 = 4 then zDrop (iu z 15 (z 15 + z 54)) else z
def zFive (z : RZ) : RZ := if ¬ z 10 % 60 = 0 then z else if zSil z then iu z 15 (z 15 + zHour (z 10)) else
  iu (iu (iu (zMk z) (53 + 2 * zMk z 52) (zHour (z 10))) (53 + 2 * zMk z 52 + 1) (zHour (z 10))) 52 (zMk z 52 + 1)
def zStk (z : RZ) : Int := mnI (z 64) (mnI (z 54) (z 1))
def zSix (z : RZ) : RZ := if z 52 = 0 ∨ zSil z then z else
  if z 54 - zStk z = 0 then zDrop (iu (iu (zTake z 1 (zStk z)) 54 (z 54 - zStk z)) 14 (z 14 + zStk z)) else iu (iu (zTake z 1 (zStk z)) 54 (z 54 - zStk z)) 14 (z 14 + zStk z)
def zFP (z : RZ) : RZ := if zHow (zTwo (zOne z)) = 0 then zFive (zFour (zThree (zTwo (zOne z)))) else zThree (zTwo (zOne z))
def zMin (z : RZ) : RZ := iu (zSix (zFP z)) 13 (zSix (zFP z) 13 + 1)
def zGo (z : RZ) : Nat → RZ
  | 0 => z
  | n + 1 => zMin (zGo z n)

