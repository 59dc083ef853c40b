/-! THE ROW KEEPS ITS BOUNDS -/
theorem zInv_free {z : RZ} {j v : Int} (hi : zInv z) (hj : (3 ≤ j ∧ j ≤ 8) ∨ (14 ≤ j ∧ j ≤ 17) ∨ j = 20) : zInv (iu z j v) := by
  obtain ⟨hsc, hwi, hde⟩ := hi
  refine ⟨?_, fun w h0 h1 => ?_, fun d h0 h1 => ?_⟩
  · simp (disch := omega) only [iu_ne]
    exact hsc
  · simp (disch := omega) only [iu_ne] at h1 ⊢
    exact hwi w h0 h1
  · simp (disch := omega) only [iu_ne] at h1 ⊢
    exact hde d h0 h1
theorem zInv_h {z : RZ} {w v : Int} (hi : zInv z) (h0 : 0 ≤ w) (h2 : w ≤ 2) (hv : 0 ≤ v ∧ v ≤ 200) : zInv (iu z w v) := by
  obtain ⟨hsc, hwi, hde⟩ := hi
  refine ⟨?_, fun w h0 h1 => ?_, fun d h0 h1 => ?_⟩
  · rcases (show w = 0 ∨ w = 1 ∨ w = 2 by omega) with rfl | rfl | rfl <;> simp (disch := omega) only [iu_ne, iu_eq] <;> omega
  · simp (disch := omega) only [iu_ne] at h1 ⊢
    exact hwi w h0 h1
  · simp (disch := omega) only [iu_ne] at h1 ⊢
    exact hde d h0 h1
theorem zInv_hgt {z : RZ} {w : Int} (hi : zInv z) (h0 : 0 ≤ w) (h2 : w ≤ 2) : 0 ≤ z w ∧ z w ≤ 200 := by
  rcases (show w = 0 ∨ w = 1 ∨ w = 2 by omega) with rfl | rfl | rfl
  · exact hi.1.1
  · exact hi.1.2.1
  · exact hi.1.2.2.1
theorem zInv_wind {z : RZ} {w t : Int} (hi : zInv z) (h0 : 0 ≤ w) (h2 : w ≤ 2) (ht : 0 ≤ t) : zInv (zWind z w t) := by
  have hh := zInv_hgt hi h0 h2
  have hm := mnI_le t (200 - z w)
  exact zInv_free (zInv_h hi h0 h2 (by unfold zMore; omega)) (by omega)
theorem zInv_take {z : RZ} {w t : Int} (hi : zInv z) (h0 : 0 ≤ w) (h2 : w ≤ 2) (ht : 0 ≤ t) (ht2 : t ≤ z w) : zInv (zTake z w t) := by
  have hh := zInv_hgt hi h0 h2
  exact zInv_free (zInv_h hi h0 h2 (by omega)) (by omega)
theorem zInv_due {z : RZ} {w v : Int} (hi : zInv z) (h0 : 0 ≤ w) (hv : 0 ≤ v ∧ v ≤ z 13 + 720) (hw : w < 6) : zInv (iu z (22 + 5 * w + 3) v) := by
  obtain ⟨hsc, hwi, hde⟩ := hi
  refine ⟨?_, fun k h0 h1 => ?_, fun d h0 h1 => ?_⟩
  · simp (disch := omega) only [iu_ne]
    exact hsc
  · simp (disch := omega) only [iu_ne] at h1 ⊢
    have := hwi k h0 h1
    refine ⟨this.1, this.2.1, this.2.2.1, ?_⟩
    by_cases hk : k = w
    · subst hk
      rw [iu_eq]
      exact hv
    · rw [iu_ne (by omega)]
      exact this.2.2.2
  · simp (disch := omega) only [iu_ne] at h1 ⊢
    exact hde d h0 h1
theorem zInv_came {z : RZ} {w v : Int} (hi : zInv z) (h0 : 0 ≤ w) (hw : w < 6) : zInv (iu z (22 + 5 * w + 4) v) := by
  obtain ⟨hsc, hwi, hde⟩ := hi
  refine ⟨?_, fun k h0 h1 => ?_, fun d h0 h1 => ?_⟩
  · simp (disch := omega) only [iu_ne]
    exact hsc
  · simp (disch := omega) only [iu_ne] at h1 ⊢
    exact hwi k h0 h1
  · simp (disch := omega) only [iu_ne] at h1 ⊢
    exact hde d h0 h1
theorem zCom_rng {z : RZ} (hi : zInv z) : -1 ≤ zCom z ∧ zCom z < z 21 := by
  have h1 := zComN_rng z (z 21).toNat
  have h2 := hi.1.2.2.2.2.2.2.2.2.1
  unfold zCom
  omega
theorem zOne_13 {z : RZ} (hi : zInv z) : zOne z 13 = z 13 ∧ zOne z 21 = z 21 ∧ zOne z 18 = z 18 ∧ zOne z 19 = z 19 := by
  have hc := zCom_rng hi
  have h2 := hi.1.2.2.2.2.2.2.2.2.1
  unfold zOne
  split
  · exact ⟨rfl, rfl, rfl, rfl⟩
  · have hw := hi.2.1 (zCom z) (by omega) (by omega)
    unfold zWind
    refine ⟨?_, ?_, ?_, ?_⟩ <;> simp (disch := omega) only [iu_ne]
theorem zInv_one {z : RZ} (hi : zInv z) : zInv (zOne z) := by
  have hc := zCom_rng hi
  have h2 := hi.1.2.2.2.2.2.2.2.2.1
  unfold zOne
  split
  · exact hi
  · have hw := hi.2.1 (zCom z) (by omega) (by omega)
    have h13 := hi.1.2.2.2.2.2.2.2.1
    refine zInv_came (zInv_due (zInv_wind hi hw.1.1 hw.1.2 (by omega)) (by omega) ?_ (by omega)) (by omega) (by omega)
    unfold zWind
    simp (disch := omega) only [iu_ne]
    omega
theorem zInv_9 {z : RZ} {v : Int} (hi : zInv z) (hv : 0 ≤ v ∧ v ≤ 30) : zInv (iu z 9 v) := by
  obtain ⟨hsc, hwi, hde⟩ := hi
  refine ⟨?_, fun w h0 h1 => ?_, fun d h0 h1 => ?_⟩
  · simp (disch := omega) only [iu_ne, iu_eq]
    omega
  · simp (disch := omega) only [iu_ne] at h1 ⊢
    exact hwi w h0 h1
  · simp (disch := omega) only [iu_ne] at h1 ⊢
    exact hde d h0 h1
theorem zTwo_13 {z : RZ} : zTwo z 13 = z 13 ∧ zTwo z 21 = z 21 ∧ zTwo z 18 = z 18 ∧ zTwo z 19 = z 19 ∧ zTwo z 52 = z 52 := by
  unfold zTwo
  split
  · unfold zTake
    refine ⟨?_, ?_, ?_, ?_, ?_⟩ <;> simp (disch := omega) only [iu_ne]
  · exact ⟨rfl, rfl, rfl, rfl, rfl⟩
theorem zInv_two {z : RZ} (hi : zInv z) : zInv (zTwo z) := by
  unfold zTwo
  split
  · rename_i hc
    have h0 := hi.1.1
    have h61 := hi.1.2.2.2.2.2.2.2.2.2.2.1
    have h9 := hi.1.2.2.2.1
    have hm := mnI_le (z 61 - z 9) (z 0)
    refine zInv_free (zInv_9 (zInv_take hi (by omega) (by omega) (by omega) (by omega)) ?_) (by omega)
    omega
  · exact hi
theorem zInv_three {z : RZ} (hi : zInv z) (ha : z 18 + z 19 ≤ z 13) : zInv (zThree z) ∧ zThree z 13 = z 13 ∧ zThree z 21 = z 21 ∧ zThree z 52 = z 52 ∧ zThree z 18 + zThree z 19 ≤ z 13 + 1 := by
  obtain ⟨hsc, hwi, hde⟩ := hi
  unfold zThree
  split
  · refine ⟨⟨?_, fun w h0 h1 => ?_, fun d h0 h1 => ?_⟩, ?_⟩
    · simp (disch := omega) only [iu_ne, iu_eq]
      omega
    · simp (disch := omega) only [iu_ne, iu_eq] at h1 ⊢
      exact hwi w h0 h1
    · simp (disch := omega) only [iu_ne] at h1 ⊢
      exact hde d h0 h1
    · refine ⟨?_, ?_, ?_, ?_⟩ <;> simp (disch := omega) only [iu_ne, iu_eq] <;> omega
  · split
    · refine ⟨⟨?_, fun w h0 h1 => ?_, fun d h0 h1 => ?_⟩, ?_⟩
      · simp (disch := omega) only [iu_ne, iu_eq]
        split <;> omega
      · simp (disch := omega) only [iu_ne, iu_eq] at h1 ⊢
        exact hwi w h0 h1
      · simp (disch := omega) only [iu_ne] at h1 ⊢
        exact hde d h0 h1
      · refine ⟨?_, ?_, ?_, ?_⟩ <;> simp (disch := omega) only [iu_ne, iu_eq] <;> omega
    · refine ⟨⟨?_, fun w h0 h1 => ?_, fun d h0 h1 => ?_⟩, ?_⟩
      · simp (disch := omega) only [iu_ne, iu_eq]
        omega
      · simp (disch := omega) only [iu_ne, iu_eq] at h1 ⊢
        exact hwi w h0 h1
      · simp (disch := omega) only [iu_ne] at h1 ⊢
        exact hde d h0 h1
      · refine ⟨?_, ?_, ?_, ?_⟩ <;> simp (disch := omega) only [iu_ne, iu_eq] <;> omega
theorem zPhr_rng {z : RZ} (hi : zInv z) : 1 ≤ zPhr z ∧ zPhr z ≤ 4 := by
  have h10 := hi.1.2.2.2.2.1
  unfold zPhr
  split <;> omega
theorem zInv_chim {z : RZ} {k : Int} (hi : zInv z) (h0 : 0 ≤ k) (h2 : 2 * k ≤ z 2) : zInv (zChim z k) := by
  have hh := hi.1.2.2.1
  exact zInv_free (zInv_free (zInv_h hi (by omega) (by omega) (by omega)) (by omega)) (by omega)
theorem zInv_four {z : RZ} (hi : zInv z) : zInv (zFour z) ∧ zFour z 13 = z 13 ∧ zFour z 21 = z 21 ∧ zFour z 52 = z 52 ∧ zFour z 18 = z 18 ∧ zFour z 19 = z 19 ∧ zFour z 10 = z 10 := by
  have hp := zPhr_rng hi
  have hh := hi.1.2.2.1
  have hm := mnI_le (zPhr z) (z 2 / 2)
  unfold zFour
  split
  · refine ⟨zInv_free (zInv_chim hi (by omega) (by omega)) (by omega), ?_⟩
    unfold zChim
    refine ⟨?_, ?_, ?_, ?_, ?_, ?_⟩ <;> simp (disch := omega) only [iu_ne]
  · exact ⟨hi, rfl, rfl, rfl, rfl, rfl, rfl⟩
theorem zDrop_ne {z : RZ} {k : Int} (hk : k < 52 ∨ 61 ≤ k) (h4 : z 52 ≤ 5) : zDrop z k = z k := by
  unfold zDrop
  rw [if_neg (by omega), if_neg (by omega)]
theorem zInv_drop {z : RZ} (h0 : 1 ≤ z 52) (hi : zInv (iu z 52 (z 52))) : zInv (zDrop z) := by
  rw [iu_self] at hi
  obtain ⟨hsc, hwi, hde⟩ := hi
  have h52 := hsc.2.2.2.2.2.2.2.2.2.1
  have e52 : zDrop z 52 = z 52 - 1 := by simp [zDrop]
  refine ⟨?_, fun w h0 h1 => ?_, fun d h0 h1 => ?_⟩
  · simp (disch := omega) only [zDrop_ne, e52]
    omega
  · simp (disch := omega) only [zDrop_ne] at h1
    simp (disch := omega) only [zDrop_ne]
    exact hwi w h0 h1
  · rw [e52] at h1
    have := hde (d + 1) (by omega) (by omega)
    unfold zDrop
    rw [if_neg (by omega), if_pos (by omega), if_neg (by omega), if_pos (by omega)]
    rw [show 53 + 2 * d + 2 = 53 + 2 * (d + 1) by omega, show 53 + 2 * d + 1 + 2 = 53 + 2 * (d + 1) + 1 by omega]
    exact this
/-- the first debt may be any number while it is paid -/
theorem zInv_drop54 {z : RZ} {v : Int} (h0 : 1 ≤ z 52) (hi : zInv z) : zInv (zDrop (iu z 54 v)) := by
  obtain ⟨hsc, hwi, hde⟩ := hi
  have h52 := hsc.2.2.2.2.2.2.2.2.2.1
  have q52 : iu z 54 v 52 = z 52 := iu_ne (by omega)
  have e52 : zDrop (iu z 54 v) 52 = z 52 - 1 := by simp [zDrop, q52]
  have en : ∀ k : Int, k < 52 ∨ 61 ≤ k → zDrop (iu z 54 v) k = z k := fun k hk => by rw [zDrop_ne hk (by omega), iu_ne (by omega)]
  refine ⟨?_, fun w h0 h1 => ?_, fun d h0 h1 => ?_⟩
  · simp (disch := omega) only [en, e52]
    omega
  · simp (disch := omega) only [en] at h1
    simp (disch := omega) only [en]
    exact hwi w h0 h1
  · rw [e52] at h1
    have := hde (d + 1) (by omega) (by omega)
    unfold zDrop
    rw [q52, if_neg (by omega), if_pos (by omega), if_neg (by omega), if_pos (by omega), iu_ne (by omega), iu_ne (by omega)]
    rw [show 53 + 2 * d + 2 = 53 + 2 * (d + 1) by omega, show 53 + 2 * d + 1 + 2 = 53 + 2 * (d + 1) + 1 by omega]
    exact this
theorem zHour_rng {t : Int} (h0 : 0 ≤ t) (h1 : t < 720) : 1 ≤ zHour t ∧ zHour t ≤ 12 := by unfold zHour; split <;> omega
theorem zInv_owe {z : RZ} {x : Int} (hi : zInv z) (h4 : z 52 < 4) (hx : 1 ≤ x ∧ x ≤ 12) : zInv (iu (iu (iu z (53 + 2 * z 52) x) (53 + 2 * z 52 + 1) x) 52 (z 52 + 1)) := by
  obtain ⟨hsc, hwi, hde⟩ := hi
  have h52 := hsc.2.2.2.2.2.2.2.2.2.1
  refine ⟨?_, fun w h0 h1 => ?_, fun d h0 h1 => ?_⟩
  · simp (disch := omega) only [iu_ne, iu_eq]
    omega
  · simp (disch := omega) only [iu_ne] at h1
    simp (disch := omega) only [iu_ne]
    exact hwi w h0 h1
  · rw [iu_eq] at h1
    by_cases hd : d = z 52
    · subst hd
      simp (disch := omega) only [iu_ne, iu_eq]
      omega
    · simp (disch := omega) only [iu_ne]
      exact hde d h0 (by omega)
theorem zInv_mk {z : RZ} (hi : zInv z) : zInv (zMk z) ∧ zMk z 52 < 4 ∧ zMk z 13 = z 13 ∧ zMk z 21 = z 21 ∧ zMk z 18 = z 18 ∧ zMk z 19 = z 19 := by
  have h52 := hi.1.2.2.2.2.2.2.2.2.2.1
  unfold zMk
  split
  · rename_i h4
    have hf := zInv_free (v := z 15 + z 54) (j := 15) hi (by omega)
    have q52 : iu z 15 (z 15 + z 54) 52 = z 52 := iu_ne (by omega)
    refine ⟨zInv_drop (by omega) (by rw [iu_self]; exact hf), by simp [zDrop, q52]; omega, ?_, ?_, ?_, ?_⟩ <;> rw [zDrop_ne (by omega) (by omega), iu_ne (by omega)]
  · exact ⟨hi, by omega, rfl, rfl, rfl, rfl⟩
theorem zInv_five {z : RZ} (hi : zInv z) : zInv (zFive z) ∧ zFive z 13 = z 13 ∧ zFive z 18 = z 18 ∧ zFive z 19 = z 19 ∧ zFive z 21 = z 21 := by
  have h10 := hi.1.2.2.2.2.1
  have hm := zInv_mk hi
  have h52 := hm.1.1.2.2.2.2.2.2.2.2.2.1
  have hh := zHour_rng h10.1 h10.2
  unfold zFive
  split
  · exact ⟨hi, rfl, rfl, rfl, rfl⟩
  · split
    · refine ⟨zInv_free hi (by omega), ?_, ?_, ?_, ?_⟩ <;> simp (disch := omega) only [iu_ne]
    · refine ⟨zInv_owe hm.1 hm.2.1 hh, ?_, ?_, ?_, ?_⟩ <;> simp (disch := omega) only [iu_ne] <;> omega
theorem zStk_rng {z : RZ} (hi : zInv z) (h : ¬ z 52 = 0) : 0 ≤ zStk z ∧ zStk z ≤ z 1 ∧ zStk z ≤ z 54 ∧ 1 ≤ z 54 ∧ z 54 ≤ 12 := by
  have h52 := hi.1.2.2.2.2.2.2.2.2.2.1
  have h1 := hi.1.2.1
  have h64 := hi.1.2.2.2.2.2.2.2.2.2.2.2.2.2.1
  have h54 := hi.2.2 0 (by omega) (by omega)
  have a1 := mnI_le (z 54) (z 1)
  have a2 := mnI_le (z 64) (mnI (z 54) (z 1))
  unfold zStk
  simp only [Int.mul_zero, Int.add_zero, show (53 : Int) + 1 = 54 from rfl] at h54
  omega
theorem zInv_six {z : RZ} (hi : zInv z) : zInv (zSix z) ∧ zSix z 13 = z 13 ∧ zSix z 18 = z 18 ∧ zSix z 19 = z 19 ∧ zSix z 21 = z 21 := by
  unfold zSix
  split
  · exact ⟨hi, rfl, rfl, rfl, rfl⟩
  · rename_i hc
    have h52 := hi.1.2.2.2.2.2.2.2.2.2.1
    have hs := zStk_rng hi (by omega)
    have ht := zInv_take hi (w := 1) (t := zStk z) (by omega) (by omega) (by omega) (by omega)
    have e : iu (iu (zTake z 1 (zStk z)) 54 (z 54 - zStk z)) 14 (z 14 + zStk z) = iu (iu (zTake z 1 (zStk z)) 14 (z 14 + zStk z)) 54 (z 54 - zStk z) := by
      funext k
      simp only [iu]
      (repeat' split) <;> first | rfl | omega
    have hf := zInv_free (j := 14) (v := z 14 + zStk z) ht (by omega)
    have q52 : iu (zTake z 1 (zStk z)) 14 (z 14 + zStk z) 52 = z 52 := by unfold zTake; simp (disch := omega) only [iu_ne]
    rw [e]
    split
    · refine ⟨zInv_drop54 (by omega) hf, ?_, ?_, ?_, ?_⟩ <;> (rw [zDrop_ne (by omega) (by rw [iu_ne (by omega), q52]; omega)]; unfold zTake; simp (disch := omega) only [iu_ne])
    · obtain ⟨hsc, hwi, hde⟩ := hf
      refine ⟨⟨?_, fun w h0 h1 => ?_, fun d h0 h1 => ?_⟩, ?_, ?_, ?_, ?_⟩
      · simp (disch := omega) only [iu_ne (j := 54)]
        exact hsc
      · simp (disch := omega) only [iu_ne (j := 54)] at h1
        have e21 : iu (zTake z 1 (zStk z)) 14 (z 14 + zStk z) 21 ≤ 6 := hsc.2.2.2.2.2.2.2.2.1.2
        simp (disch := omega) only [iu_ne (j := 54)]
        exact hwi w h0 h1
      · rw [iu_ne (by omega)] at h1
        have := hde d h0 h1
        by_cases hd : d = 0
        · subst hd
          rw [iu_ne (by omega), show (53 : Int) + 2 * 0 + 1 = 54 from rfl, iu_eq]
          exact ⟨this.1, by omega⟩
        · simp (disch := omega) only [iu_ne (j := 54)]
          exact this
      all_goals (unfold zTake; simp (disch := omega) only [iu_ne])
theorem zInv_fp {z : RZ} (hi : zInv z) (ha : z 18 + z 19 ≤ z 13) : zInv (zFP z) ∧ zFP z 13 = z 13 ∧ zFP z 18 + zFP z 19 ≤ z 13 + 1 ∧ zFP z 21 = z 21 := by
  have h1 := zInv_one hi
  have e1 := zOne_13 hi
  have h2 := zInv_two h1
  have e2 := zTwo_13 (z := zOne z)
  have h3 := zInv_three h2 (by omega)
  have h4 := zInv_four h3.1
  have h5 := zInv_five h4.1
  unfold zFP
  split
  · exact ⟨h5.1, by omega, by omega, by omega⟩
  · exact ⟨h3.1, by omega, by omega, by omega⟩
theorem zInv_13 {z : RZ} {v : Int} (hi : zInv z) (hv : z 13 ≤ v) : zInv (iu z 13 v) := by
  obtain ⟨hsc, hwi, hde⟩ := hi
  refine ⟨?_, fun w h0 h1 => ?_, fun d h0 h1 => ?_⟩
  · simp (disch := omega) only [iu_ne, iu_eq]
    omega
  · simp (disch := omega) only [iu_ne, iu_eq] at h1 ⊢
    have := hwi w h0 h1
    omega
  · simp (disch := omega) only [iu_ne] at h1 ⊢
    exact hde d h0 h1
/-- a row as it stands between two minutes -/
def zOk (z : RZ) : Prop := zInv z ∧ z 18 + z 19 ≤ z 13
theorem zOk_min {z : RZ} (h : zOk z) : zOk (zMin z) ∧ zMin z 13 = z 13 + 1 ∧ zMin z 21 = z 21 := by
  have hf := zInv_fp h.1 h.2
  have h6 := zInv_six hf.1
  unfold zMin
  refine ⟨⟨zInv_13 h6.1 (by omega), ?_⟩, by rw [iu_eq]; omega, by rw [iu_ne (by omega)]; omega⟩
  simp (disch := omega) only [iu_ne, iu_eq]
  omega
theorem zOk_go {z : RZ} (h : zOk z) : ∀ n : Nat, zOk (zGo z n) ∧ zGo z n 13 = z 13 + n ∧ zGo z n 21 = z 21
  | 0 => ⟨h, by simp [zGo], rfl⟩
  | n + 1 => by
    have ih := zOk_go h n
    have hm := zOk_min ih.1
    refine ⟨hm.1, ?_, hm.2.2.trans ih.2.2⟩
    have : zGo z (n + 1) 13 = zGo z n 13 + 1 := hm.2.1
    omega
/-- dropDebt, with kk numbers moved down -/
def zDrK (z : RZ) (kk : Int) : RZ := fun jj => if jj = 52 then z 52 - 1 else if 53 ≤ jj ∧ jj < 53 + kk then z (jj + 2) else z jj
theorem zDrK_52 (z : RZ) (kk : Int) : zDrK z kk 52 = z 52 - 1 := if_pos rfl
theorem zDrK_hi (z : RZ) {kk : Int} (h : 0 ≤ kk) : zDrK z kk (55 + kk) = z (55 + kk) := by
  unfold zDrK
  rw [if_neg (by omega), if_neg (by omega)]
theorem zDrK_0 (z : RZ) : iu z 52 (z 52 - 1) = zDrK z 0 := by
  funext jj
  simp only [iu, zDrK]
  (repeat' split) <;> first | rfl | omega
theorem zDrK_s (z : RZ) {kk : Int} (h : 0 ≤ kk) : iu (zDrK z kk) (53 + kk) (z (55 + kk)) = zDrK z (kk + 1) := by
  funext jj
  simp only [iu, zDrK]
  by_cases hj : jj = 53 + kk
  · subst hj
    rw [if_pos rfl, if_neg (by omega), if_pos (by omega)]
    congr 1
    omega
  · rw [if_neg hj]
    (repeat' split) <;> first | rfl | omega
theorem zChim_ne {z : RZ} {k j : Int} (h2 : j ≠ 2) (h5 : j ≠ 5) (h16 : j ≠ 16) : zChim z k j = z j := by
  unfold zChim
  rw [iu_ne h16, iu_ne h5, iu_ne h2]
theorem zChim_2 (z : RZ) (k : Int) : zChim z k 2 = z 2 - 2 * k := by unfold zChim; simp (disch := omega) only [iu_ne, iu_eq]
theorem zChim_16 (z : RZ) (k : Int) : zChim z k 16 = z 16 + k := by unfold zChim; rw [iu_eq]
theorem zChim_0 (z : RZ) : zChim z 0 = z := by
  funext j
  simp only [zChim, iu]
  (repeat' split) <;> first | rfl | (rename_i h; subst h; omega)
theorem zTake_ne {z : RZ} {w t j : Int} (h1 : j ≠ w) (h2 : j ≠ 3 + w) : zTake z w t j = z j := by
  unfold zTake
  rw [iu_ne h2, iu_ne h1]
theorem zChim_s (z : RZ) (k : Int) : iu (zTake (zChim z k) 2 2) 16 (z 16 + k + 1) = zChim z (k + 1) := by
  funext j
  by_cases h16 : j = 16
  · subst h16
    rw [iu_eq, zChim_16]
    omega
  · rw [iu_ne h16]
    by_cases h5 : j = 5
    · subst h5
      unfold zTake zChim
      simp (disch := omega) only [show (3 : Int) + 2 = 5 from rfl, iu_ne, iu_eq]
      omega
    · by_cases h2 : j = 2
      · subst h2
        unfold zTake zChim
        simp (disch := omega) only [show (3 : Int) + 2 = 5 from rfl, iu_ne, iu_eq]
        omega
      · rw [zTake_ne h2 (by omega), zChim_ne h2 h5 h16, zChim_ne h2 h5 h16]
theorem zDrop_52 (z : RZ) : zDrop z 52 = z 52 - 1 := if_pos rfl
theorem zOk_ha {z : RZ} (hi : zInv z) (ha : z 18 + z 19 ≤ z 13) : zTwo (zOne z) 18 + zTwo (zOne z) 19 ≤ zTwo (zOne z) 13 := by
  have e1 := zOne_13 hi
  have e2 := zTwo_13 (z := zOne z)
  omega
theorem zHow_rng (z : RZ) : zHow z = 0 ∨ zHow z = 1 ∨ zHow z = 2 := by
  unfold zHow
  (repeat' split) <;> simp
def sN (f : Int → Int) : Nat → Int
  | 0 => 0
  | n + 1 => sN f n + f n
theorem sN_owed {f : Int → Int} {z : RZ} : ∀ {n : Nat}, (∀ k : Int, 0 ≤ k → k < n → f k = z (53 + 2 * k + 1)) → sN f n = zOwedN z n
  | 0, _ => rfl
  | n + 1, h => by
    have h1 := sN_owed (n := n) (fun k h0 h1 => h k h0 (by omega))
    have h2 := h n (by omega) (by omega)
    simp only [sN, zOwedN]
    rw [h1, h2]
theorem zComN_due (z : RZ) : ∀ n : Nat, ¬ zComN z n = -1 → z (22 + 5 * zComN z n + 3) ≤ z 13
  | 0, h => absurd rfl h
  | n + 1, h => by
    have ih := zComN_due z n
    simp only [zComN] at h ⊢
    split
    · rename_i hc
      exact hc.1
    · rename_i hc
      rw [if_neg hc] at h
      exact ih h

