theorem zCnt_x (z : RZ) (st : Int) : zCnt z st 5 = z 52 ∧ zCnt z st 6 = zOwed z ∧ zCnt z st 14 = z 21 ∧ zCnt z st 15 = (z 13 + 720 - z 10) % 720 ∧ zCnt z st 16 = (if zSil z then 1 else 0) ∧ zCnt z st 17 = st := by
  refine ⟨?_, ?_, ?_, ?_, ?_, ?_⟩ <;> rfl
theorem zWin_x (z : RZ) (w : Int) : zWin z w 0 = z (22 + 5 * w) ∧ zWin z w 1 = z (22 + 5 * w + 1) ∧ zWin z w 2 = z (22 + 5 * w + 2) ∧ zWin z w 3 = (if zDue z w then 0 else z (22 + 5 * w + 3) - z 13) ∧ zWin z w 4 = z (22 + 5 * w + 4) ∧ zWin z w 5 = (if zDue z w ∧ zKept z w then 1 else 0) := by
  refine ⟨?_, rfl, rfl, rfl, rfl, rfl⟩
  show z (22 + 5 * w + 0) = z (22 + 5 * w)
  rw [Int.add_zero]
