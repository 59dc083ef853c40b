/-! THE FIVE ARRAYS FOLLOW THE ROW, a cell at a time -/
abbrev nq (j q : Int) : Prop := (j = 0 ∧ q = 13) ∨ (j = 1 ∧ q = 10) ∨ (j = 2 ∧ q = 9) ∨ (j = 3 ∧ q = 11) ∨ (j = 4 ∧ q = 12) ∨ (j = 5 ∧ q = 14) ∨ (j = 6 ∧ q = 15) ∨ (j = 7 ∧ q = 16) ∨ (j = 8 ∧ q = 17) ∨ (j = 9 ∧ q = 18) ∨ (j = 10 ∧ q = 19) ∨ (j = 11 ∧ q = 20) ∨ (j = 12 ∧ q = 21) ∨ (j = 13 ∧ q = 52)
section LRS
variable {z : RZ} {kc : Int} {nu hh se wi de : Int → Int}
theorem LR.n {j q u v : Int} (hr : LR z kc nu hh se wi de) (hq : nq j q) (hv : u = v) : LR (iu z q v) kc (iu nu j u) hh se wi de := by
  obtain ⟨⟨e0, e1, e2, e3, e4, e5, e6, e7, e8, e9, e10, e11, e12, e13, e14⟩, eh, es, ew, ed⟩ := hr
  subst hv
  refine ⟨?_, fun k h0 h1 => ?_, fun k h0 h1 => ?_, fun k h0 h1 => ?_, fun k h0 h1 => ?_⟩
  · rcases hq with ⟨rfl, rfl⟩ | ⟨rfl, rfl⟩ | ⟨rfl, rfl⟩ | ⟨rfl, rfl⟩ | ⟨rfl, rfl⟩ | ⟨rfl, rfl⟩ | ⟨rfl, rfl⟩ | ⟨rfl, rfl⟩ | ⟨rfl, rfl⟩ | ⟨rfl, rfl⟩ | ⟨rfl, rfl⟩ | ⟨rfl, rfl⟩ | ⟨rfl, rfl⟩ | ⟨rfl, rfl⟩ <;>
    · simp (disch := decide) only [iu_ne, iu_eq]
      refine ⟨?_, ?_, ?_, ?_, ?_, ?_, ?_, ?_, ?_, ?_, ?_, ?_, ?_, ?_, ?_⟩ <;> first | trivial | assumption
  · rw [iu_ne (by omega)]
    exact eh k h0 h1
  · rw [iu_ne (by omega)]
    exact es k h0 h1
  · rw [iu_ne (by omega)]
    exact ew k h0 h1
  · rw [iu_ne (by omega)]
    exact ed k h0 h1
theorem LR.other {q v : Int} (hr : LR z kc nu hh se wi de) (hq : (0 ≤ q ∧ q < 9) ∨ (22 ≤ q ∧ q < 52) ∨ (53 ≤ q ∧ q < 67)) : iu z q v 13 = z 13 ∧ iu z q v 10 = z 10 ∧ iu z q v 9 = z 9 ∧ iu z q v 11 = z 11 ∧ iu z q v 12 = z 12 ∧ iu z q v 14 = z 14 ∧ iu z q v 15 = z 15 ∧ iu z q v 16 = z 16 ∧ iu z q v 17 = z 17 ∧ iu z q v 18 = z 18 ∧ iu z q v 19 = z 19 ∧ iu z q v 20 = z 20 ∧ iu z q v 21 = z 21 ∧ iu z q v 52 = z 52 := by
  refine ⟨?_, ?_, ?_, ?_, ?_, ?_, ?_, ?_, ?_, ?_, ?_, ?_, ?_, ?_⟩ <;> exact iu_ne (by omega)
theorem LR.h {j q u v : Int} (hr : LR z kc nu hh se wi de) (hq : j = q ∧ 0 ≤ j ∧ j < 9) (hv : u = v) : LR (iu z q v) kc nu (iu hh j u) se wi de := by
  obtain ⟨rfl, q0, q1⟩ := hq
  subst hv
  obtain ⟨a0, a1, a2, a3, a4, a5, a6, a7, a8, a9, a10, a11, a12, a13⟩ := LR.other (q := j) (v := u) hr (by omega)
  obtain ⟨⟨e0, e1, e2, e3, e4, e5, e6, e7, e8, e9, e10, e11, e12, e13, e14⟩, eh, es, ew, ed⟩ := hr
  refine ⟨⟨e0.trans a0.symm, e1.trans a1.symm, e2.trans a2.symm, e3.trans a3.symm, e4.trans a4.symm, e5.trans a5.symm, e6.trans a6.symm, e7.trans a7.symm, e8.trans a8.symm, e9.trans a9.symm, e10.trans a10.symm, e11.trans a11.symm, e12.trans a12.symm, e13.trans a13.symm, e14⟩, fun k h0 h1 => ?_, fun k h0 h1 => ?_, fun k h0 h1 => ?_, fun k h0 h1 => ?_⟩
  · by_cases hk : k = j
    · subst hk
      rw [iu_eq, iu_eq]
    · rw [iu_ne hk, iu_ne hk]
      exact eh k h0 h1
  · rw [iu_ne (by omega)]
    exact es k h0 h1
  · rw [iu_ne (by omega)]
    exact ew k h0 h1
  · rw [iu_ne (by omega)]
    exact ed k h0 h1
theorem LR.s {j q u v : Int} (hr : LR z kc nu hh se wi de) (hq : q = 61 + j ∧ 0 ≤ j ∧ j < 6) (hv : u = v) : LR (iu z q v) kc nu hh (iu se j u) wi de := by
  obtain ⟨rfl, q0, q1⟩ := hq
  subst hv
  obtain ⟨a0, a1, a2, a3, a4, a5, a6, a7, a8, a9, a10, a11, a12, a13⟩ := LR.other (q := 61 + j) (v := u) hr (by omega)
  obtain ⟨⟨e0, e1, e2, e3, e4, e5, e6, e7, e8, e9, e10, e11, e12, e13, e14⟩, eh, es, ew, ed⟩ := hr
  refine ⟨⟨e0.trans a0.symm, e1.trans a1.symm, e2.trans a2.symm, e3.trans a3.symm, e4.trans a4.symm, e5.trans a5.symm, e6.trans a6.symm, e7.trans a7.symm, e8.trans a8.symm, e9.trans a9.symm, e10.trans a10.symm, e11.trans a11.symm, e12.trans a12.symm, e13.trans a13.symm, e14⟩, fun k h0 h1 => ?_, fun k h0 h1 => ?_, fun k h0 h1 => ?_, fun k h0 h1 => ?_⟩
  · rw [iu_ne (by omega)]
    exact eh k h0 h1
  · by_cases hk : k = j
    · subst hk
      rw [iu_eq, iu_eq]
    · rw [iu_ne hk, iu_ne (by omega)]
      exact es k h0 h1
  · rw [iu_ne (by omega)]
    exact ew k h0 h1
  · rw [iu_ne (by omega)]
    exact ed k h0 h1
theorem LR.w {j q u v : Int} (hr : LR z kc nu hh se wi de) (hq : q = 22 + j ∧ 0 ≤ j ∧ j < 30) (hv : u = v) : LR (iu z q v) kc nu hh se (iu wi j u) de := by
  obtain ⟨rfl, q0, q1⟩ := hq
  subst hv
  obtain ⟨a0, a1, a2, a3, a4, a5, a6, a7, a8, a9, a10, a11, a12, a13⟩ := LR.other (q := 22 + j) (v := u) hr (by omega)
  obtain ⟨⟨e0, e1, e2, e3, e4, e5, e6, e7, e8, e9, e10, e11, e12, e13, e14⟩, eh, es, ew, ed⟩ := hr
  refine ⟨⟨e0.trans a0.symm, e1.trans a1.symm, e2.trans a2.symm, e3.trans a3.symm, e4.trans a4.symm, e5.trans a5.symm, e6.trans a6.symm, e7.trans a7.symm, e8.trans a8.symm, e9.trans a9.symm, e10.trans a10.symm, e11.trans a11.symm, e12.trans a12.symm, e13.trans a13.symm, e14⟩, fun k h0 h1 => ?_, fun k h0 h1 => ?_, fun k h0 h1 => ?_, fun k h0 h1 => ?_⟩
  · rw [iu_ne (by omega)]
    exact eh k h0 h1
  · rw [iu_ne (by omega)]
    exact es k h0 h1
  · by_cases hk : k = j
    · subst hk
      rw [iu_eq, iu_eq]
    · rw [iu_ne hk, iu_ne (by omega)]
      exact ew k h0 h1
  · rw [iu_ne (by omega)]
    exact ed k h0 h1
theorem LR.d {j q u v : Int} (hr : LR z kc nu hh se wi de) (hq : q = 53 + j ∧ 0 ≤ j ∧ j < 8) (hv : u = v) : LR (iu z q v) kc nu hh se wi (iu de j u) := by
  obtain ⟨rfl, q0, q1⟩ := hq
  subst hv
  obtain ⟨a0, a1, a2, a3, a4, a5, a6, a7, a8, a9, a10, a11, a12, a13⟩ := LR.other (q := 53 + j) (v := u) hr (by omega)
  obtain ⟨⟨e0, e1, e2, e3, e4, e5, e6, e7, e8, e9, e10, e11, e12, e13, e14⟩, eh, es, ew, ed⟩ := hr
  refine ⟨⟨e0.trans a0.symm, e1.trans a1.symm, e2.trans a2.symm, e3.trans a3.symm, e4.trans a4.symm, e5.trans a5.symm, e6.trans a6.symm, e7.trans a7.symm, e8.trans a8.symm, e9.trans a9.symm, e10.trans a10.symm, e11.trans a11.symm, e12.trans a12.symm, e13.trans a13.symm, e14⟩, fun k h0 h1 => ?_, fun k h0 h1 => ?_, fun k h0 h1 => ?_, fun k h0 h1 => ?_⟩
  · rw [iu_ne (by omega)]
    exact eh k h0 h1
  · rw [iu_ne (by omega)]
    exact es k h0 h1
  · rw [iu_ne (by omega)]
    exact ew k h0 h1
  · by_cases hk : k = j
    · subst hk
      rw [iu_eq, iu_eq]
    · rw [iu_ne hk, iu_ne (by omega)]
      exact ed k h0 h1
theorem LR.cnt {u : Int} (hr : LR z kc nu hh se wi de) : LR z u (iu nu 14 u) hh se wi de := by
  obtain ⟨⟨e0, e1, e2, e3, e4, e5, e6, e7, e8, e9, e10, e11, e12, e13, e14⟩, eh⟩ := hr
  refine ⟨?_, eh⟩
  simp (disch := decide) only [iu_ne, iu_eq]
  exact ⟨e0, e1, e2, e3, e4, e5, e6, e7, e8, e9, e10, e11, e12, e13, trivial⟩
theorem LR.wind {w t w' t' : Int} (hr : LR z kc nu hh se wi de) (hw : 0 ≤ w ∧ w ≤ 2) (e1 : w' = w) (e2 : t' = t) : LR (zWind z w t) kc nu (zWind hh w' t') se wi de := by
  subst e1 e2
  have a := hr.2.1 w' (by omega) (by omega)
  have b := hr.2.1 (6 + w') (by omega) (by omega)
  unfold zWind zMore
  exact (hr.h ⟨rfl, by omega, by omega⟩ (by rw [a])).h ⟨rfl, by omega, by omega⟩ (by rw [a, b])
theorem LR.take {w t : Int} (hr : LR z kc nu hh se wi de) (hw : 0 ≤ w ∧ w ≤ 2) : LR (zTake z w t) kc nu (zTake hh w t) se wi de := by
  have a := hr.2.1 w (by omega) (by omega)
  have b := hr.2.1 (3 + w) (by omega) (by omega)
  unfold zTake
  exact (hr.h ⟨rfl, by omega, by omega⟩ (by rw [a])).h ⟨rfl, by omega, by omega⟩ (by rw [b])
theorem LR.drop (hr : LR z kc nu hh se wi de) (h1 : 1 ≤ z 52) (h4 : z 52 ≤ 4) : LR (zDrop z) kc (iu nu 13 (nu 13 - 1)) hh se wi (dDr de (2 * (nu 13 - 1))) := by
  obtain ⟨⟨e0, e1, e2, e3, e4, e5, e6, e7, e8, e9, e10, e11, e12, e13, e14⟩, eh, es, ew, ed⟩ := hr
  refine ⟨?_, fun k h0 h1 => ?_, fun k h0 h1 => ?_, fun k h0 h1 => ?_, fun k h0 h1 => ?_⟩
  · simp (disch := omega) only [iu_ne, iu_eq, zDrop_ne, zDrop_52]
    exact ⟨e0, e1, e2, e3, e4, e5, e6, e7, e8, e9, e10, e11, e12, by omega, e14⟩
  · rw [zDrop_ne (by omega) (by omega)]
    exact eh k h0 h1
  · rw [zDrop_ne (by omega) (by omega)]
    exact es k h0 h1
  · rw [zDrop_ne (by omega) (by omega)]
    exact ew k h0 h1
  · unfold zDrop dDr
    rw [if_neg (show ¬ 53 + k = 52 by omega)]
    by_cases hk : k < 2 * (z 52 - 1)
    · rw [if_pos (by omega), if_pos (by omega), ed (k + 2) (by omega) (by omega)]
      congr 1
      omega
    · rw [if_neg (by omega), if_neg (by omega)]
      exact ed k h0 h1
end LRS
theorem iu_com (f : Int → Int) {a b : Int} (x y x' : Int) (h : a ≠ b) : iu (iu (iu f a x) b y) a x' = iu (iu f a x') b y := by
  funext j
  simp only [iu]
  (repeat' split) <;> first | rfl | (exfalso; omega)
theorem hs_com3 (h : AH) {a b : Nat} (x y x' : AE) (hab : a ≠ b) : hs (hs (hs h a x) b y) a x' = hs (hs h a x') b y := by
  funext j
  simp only [hs]
  (repeat' split) <;> first | rfl | (exfalso; omega)
theorem LR.dropm {z : RZ} {kc : Int} {nu hh se wi de : Int → Int} {m : Int} (hr : LR z kc nu hh se wi de) (h1 : 1 ≤ z 52) (h4 : z 52 ≤ 4) (hm : m = nu 13 - 1) : LR (zDrop z) kc (iu nu 13 m) hh se wi (dDr de (2 * m)) := by
  rw [hm]
  exact hr.drop h1 h4
theorem zFour_ne {z : RZ} {j : Int} (hj : j = 10 ∨ 61 ≤ j) : zFour z j = z j := by
  unfold zFour
  split
  · unfold zChim
    simp (disch := omega) only [iu_ne]
  · rfl
theorem zFive_ne {z : RZ} {j : Int} (h52 : 0 ≤ z 52 ∧ z 52 ≤ 4) (hj : j = 10 ∨ 61 ≤ j) : zFive z j = z j := by
  have hm : 0 ≤ zMk z 52 ∧ zMk z 52 ≤ 3 := by
    unfold zMk
    split
    · rw [zDrop_52, iu_ne (by decide)]
      omega
    · omega
  have hk : zMk z j = z j := by
    unfold zMk
    split
    · rw [zDrop_ne (by omega) (by rw [iu_ne (by decide)]; omega), iu_ne (by omega)]
    · rfl
  unfold zFive
  split
  · rfl
  · split
    · rw [iu_ne (by omega)]
    · rw [iu_ne (by omega), iu_ne (by omega), iu_ne (by omega), hk]
theorem zSil_cong {z y : RZ} (h10 : y 10 = z 10) (h65 : y 65 = z 65) (h66 : y 66 = z 66) : zSil y ↔ zSil z := by
  unfold zSil
  rw [h10, h65, h66]
