/-- the row when n rounds have come to no winders -/
def zLd (z : RZ) (ro : Int → Int) : Nat → RZ
  | 0 => iu z 21 0
  | k + 1 => zComes (zLd z ro k) (ro (3 * k)) (ro (3 * k + 1)) (ro (3 * k + 2))
theorem zLd_21 {z : RZ} {ro : Int → Int} : ∀ {k : Nat}, zLd z ro k 21 = k
  | 0 => iu_eq _ _ _
  | k + 1 => by
    have ih := zLd_21 (z := z) (ro := ro) (k := k)
    have e : zComes (zLd z ro k) (ro (3 * k)) (ro (3 * k + 1)) (ro (3 * k + 2)) 21 = zLd z ro k 21 + 1 := iu_eq _ _ _
    refine Eq.trans e ?_
    rw [ih]
    omega

