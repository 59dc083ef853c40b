/-! THE CLASS'S STATE at o, holding the row z: fifteen cells; what lies behind a list's size is free -/
def SC (h : AH) (o : Nat) (z : RZ) (f1 f2 f3 w1 w2 w3 w4 w5 d1 d2 se : Int → Int) : Prop :=
  h o = some (eO 3 [aR (o + 1), aR (o + 5), aR (o + 11), aR (o + 14), aI (z 13), aI (z 10), aI (z 9), aI (z 11), aI (z 12), aI (z 14), aI (z 15), aI (z 16), aI (z 17), aI (z 18), aI (z 19), aI (z 20)]) ∧
  h (o + 1) = some (eO 5 [aR (o + 1 + 1), aR (o + 1 + 2), aR (o + 1 + 3)]) ∧ h (o + 1 + 1) = some (eA 0 3 f1) ∧ h (o + 1 + 2) = some (eA 0 3 f2) ∧ h (o + 1 + 3) = some (eA 0 3 f3) ∧
  h (o + 5) = some (eO 6 [aI (z 21), aR (o + 5 + 1), aR (o + 5 + 2), aR (o + 5 + 3), aR (o + 5 + 4), aR (o + 5 + 5)]) ∧ h (o + 5 + 1) = some (eA 0 6 w1) ∧ h (o + 5 + 2) = some (eA 0 6 w2) ∧ h (o + 5 + 3) = some (eA 0 6 w3) ∧ h (o + 5 + 4) = some (eA 0 6 w4) ∧ h (o + 5 + 5) = some (eA 0 6 w5) ∧
  h (o + 11) = some (eO 0 [aI (z 52), aR (o + 11 + 1), aR (o + 11 + 2)]) ∧ h (o + 11 + 1) = some (eA 0 4 d1) ∧ h (o + 11 + 2) = some (eA 0 4 d2) ∧ h (o + 14) = some (eA 0 6 se)
def SR (z : RZ) (f1 f2 f3 w1 w2 w3 w4 w5 d1 d2 se : Int → Int) : Prop :=
  (∀ k : Int, 0 ≤ k → k < 3 → f1 k = z k ∧ f2 k = z (3 + k) ∧ f3 k = z (6 + k)) ∧
  (∀ k : Int, 0 ≤ k → k < z 21 → w1 k = z (22 + 5 * k) ∧ w2 k = z (22 + 5 * k + 1) ∧ w3 k = z (22 + 5 * k + 2) ∧ w4 k = z (22 + 5 * k + 3) ∧ w5 k = z (22 + 5 * k + 4)) ∧
  (∀ k : Int, 0 ≤ k → k < z 52 → d1 k = z (53 + 2 * k) ∧ d2 k = z (53 + 2 * k + 1)) ∧
  (∀ k : Int, 0 ≤ k → k < 6 → se k = z (61 + k))
def SAt (h : AH) (o : Nat) (z : RZ) : Prop := ∃ f1 f2 f3 w1 w2 w3 w4 w5 d1 d2 se : Int → Int, SC h o z f1 f2 f3 w1 w2 w3 w4 w5 d1 d2 se ∧ SR z f1 f2 f3 w1 w2 w3 w4 w5 d1 d2 se
/-- nothing outside n cells from o has changed -/
def Fr (h h' : AH) (o n : Nat) : Prop := ∀ a : Nat, (a < o ∨ o + n ≤ a) → h' a = h a
theorem Fr.rf (h : AH) (o n : Nat) : Fr h h o n := fun _ _ => rfl
theorem Fr.tr {h h1 h2 : AH} {o n : Nat} (a : Fr h h1 o n) (b : Fr h1 h2 o n) : Fr h h2 o n := fun q hq => (b q hq).trans (a q hq)
theorem SAt.fr {h h' : AH} {o : Nat} {z : RZ} (hS : SAt h o z) (hq : ∀ a : Nat, o ≤ a → a < o + 15 → h' a = h a) : SAt h' o z := by
  obtain ⟨f1, f2, f3, w1, w2, w3, w4, w5, d1, d2, se, ⟨g0, g1, g2, g3, g4, g5, g6, g7, g8, g9, g10, g11, g12, g13, g14⟩, hr⟩ := hS
  refine ⟨f1, f2, f3, w1, w2, w3, w4, w5, d1, d2, se, ⟨?_, ?_, ?_, ?_, ?_, ?_, ?_, ?_, ?_, ?_, ?_, ?_, ?_, ?_, ?_⟩, hr⟩ <;> (rw [hq _ (by omega) (by omega)]; assumption)
section SRS
variable {z : RZ} {f1 f2 f3 w1 w2 w3 w4 w5 d1 d2 se : Int → Int}
theorem SR.free {j v : Int} (hr : SR z f1 f2 f3 w1 w2 w3 w4 w5 d1 d2 se) (hj : 9 ≤ j ∧ j ≤ 20) : SR (iu z j v) f1 f2 f3 w1 w2 w3 w4 w5 d1 d2 se := by
  obtain ⟨r1, r2, r3, r4⟩ := hr
  refine ⟨fun k h0 h1 => ?_, fun k h0 h1 => ?_, fun k h0 h1 => ?_, fun k h0 h1 => ?_⟩
  · simp (disch := omega) only [iu_ne]
    exact r1 k h0 h1
  · rw [iu_ne (by omega)] at h1
    simp (disch := omega) only [iu_ne]
    exact r2 k h0 h1
  · rw [iu_ne (by omega)] at h1
    simp (disch := omega) only [iu_ne]
    exact r3 k h0 h1
  · simp (disch := omega) only [iu_ne]
    exact r4 k h0 h1
theorem SR.wind {w t : Int} (hr : SR z f1 f2 f3 w1 w2 w3 w4 w5 d1 d2 se) (h0 : 0 ≤ w) (h2 : w ≤ 2) : SR (zWind z w t) (iu f1 w (f1 w + mnI t (200 - f1 w))) f2 (iu f3 w (f3 w + mnI t (200 - f1 w))) w1 w2 w3 w4 w5 d1 d2 se := by
  obtain ⟨r1, r2, r3, r4⟩ := hr
  have rw_ := r1 w h0 (by omega)
  unfold zWind zMore
  refine ⟨fun k h0 h1 => ?_, fun k h0 h1 => ?_, fun k h0 h1 => ?_, fun k h0 h1 => ?_⟩
  · have rk := r1 k h0 h1
    by_cases hk : k = w
    · subst hk
      simp (disch := omega) only [iu_ne, iu_eq]
      rw [rw_.1, rw_.2.2]
      exact ⟨rfl, rw_.2.1, rfl⟩
    · simp (disch := omega) only [iu_ne]
      exact rk
  · rw [iu_ne (by omega), iu_ne (by omega)] at h1
    simp (disch := omega) only [iu_ne]
    exact r2 k h0 h1
  · rw [iu_ne (by omega), iu_ne (by omega)] at h1
    simp (disch := omega) only [iu_ne]
    exact r3 k h0 h1
  · simp (disch := omega) only [iu_ne]
    exact r4 k h0 h1
theorem SR.take {w t : Int} (hr : SR z f1 f2 f3 w1 w2 w3 w4 w5 d1 d2 se) (h0 : 0 ≤ w) (h2 : w ≤ 2) : SR (zTake z w t) (iu f1 w (f1 w - t)) (iu f2 w (f2 w + t)) f3 w1 w2 w3 w4 w5 d1 d2 se := by
  obtain ⟨r1, r2, r3, r4⟩ := hr
  have rw_ := r1 w h0 (by omega)
  unfold zTake
  refine ⟨fun k h0 h1 => ?_, fun k h0 h1 => ?_, fun k h0 h1 => ?_, fun k h0 h1 => ?_⟩
  · have rk := r1 k h0 h1
    by_cases hk : k = w
    · subst hk
      simp (disch := omega) only [iu_ne, iu_eq]
      rw [rw_.1, rw_.2.1]
      exact ⟨rfl, rfl, rw_.2.2⟩
    · simp (disch := omega) only [iu_ne]
      exact rk
  · rw [iu_ne (by omega), iu_ne (by omega)] at h1
    simp (disch := omega) only [iu_ne]
    exact r2 k h0 h1
  · rw [iu_ne (by omega), iu_ne (by omega)] at h1
    simp (disch := omega) only [iu_ne]
    exact r3 k h0 h1
  · simp (disch := omega) only [iu_ne]
    exact r4 k h0 h1
theorem SR.due {w v : Int} (hr : SR z f1 f2 f3 w1 w2 w3 w4 w5 d1 d2 se) (h0 : 0 ≤ w) (h2 : w < 6) : SR (iu z (22 + 5 * w + 3) v) f1 f2 f3 w1 w2 w3 (iu w4 w v) w5 d1 d2 se := by
  obtain ⟨r1, r2, r3, r4⟩ := hr
  refine ⟨fun k h0 h1 => ?_, fun k h0 h1 => ?_, fun k h0 h1 => ?_, fun k h0 h1 => ?_⟩
  · simp (disch := omega) only [iu_ne]
    exact r1 k h0 h1
  · rw [iu_ne (by omega)] at h1
    have := r2 k h0 h1
    by_cases hk : k = w
    · subst hk
      simp (disch := omega) only [iu_ne, iu_eq]
      exact ⟨this.1, this.2.1, this.2.2.1, trivial, this.2.2.2.2⟩
    · simp (disch := omega) only [iu_ne]
      exact this
  · rw [iu_ne (by omega)] at h1
    simp (disch := omega) only [iu_ne]
    exact r3 k h0 h1
  · simp (disch := omega) only [iu_ne]
    exact r4 k h0 h1
theorem SR.came {w v : Int} (hr : SR z f1 f2 f3 w1 w2 w3 w4 w5 d1 d2 se) (h0 : 0 ≤ w) (h2 : w < 6) : SR (iu z (22 + 5 * w + 4) v) f1 f2 f3 w1 w2 w3 w4 (iu w5 w v) d1 d2 se := by
  obtain ⟨r1, r2, r3, r4⟩ := hr
  refine ⟨fun k h0 h1 => ?_, fun k h0 h1 => ?_, fun k h0 h1 => ?_, fun k h0 h1 => ?_⟩
  · simp (disch := omega) only [iu_ne]
    exact r1 k h0 h1
  · rw [iu_ne (by omega)] at h1
    have := r2 k h0 h1
    by_cases hk : k = w
    · subst hk
      simp (disch := omega) only [iu_ne, iu_eq]
      exact ⟨this.1, this.2.1, this.2.2.1, this.2.2.2.1, trivial⟩
    · simp (disch := omega) only [iu_ne]
      exact this
  · rw [iu_ne (by omega)] at h1
    simp (disch := omega) only [iu_ne]
    exact r3 k h0 h1
  · simp (disch := omega) only [iu_ne]
    exact r4 k h0 h1
theorem SR.pay {v : Int} (hr : SR z f1 f2 f3 w1 w2 w3 w4 w5 d1 d2 se) (h21 : z 21 ≤ 6) : SR (iu z 54 v) f1 f2 f3 w1 w2 w3 w4 w5 d1 (iu d2 0 v) se := by
  obtain ⟨r1, r2, r3, r4⟩ := hr
  refine ⟨fun k h0 h1 => ?_, fun k h0 h1 => ?_, fun k h0 h1 => ?_, fun k h0 h1 => ?_⟩
  · simp (disch := omega) only [iu_ne]
    exact r1 k h0 h1
  · rw [iu_ne (by omega)] at h1
    simp (disch := omega) only [iu_ne]
    exact r2 k h0 h1
  · rw [iu_ne (by omega)] at h1
    have := r3 k h0 h1
    by_cases hk : k = 0
    · subst hk
      rw [iu_eq, iu_ne (by omega), show (53 : Int) + 2 * 0 + 1 = 54 from rfl, iu_eq]
      exact ⟨this.1, rfl⟩
    · simp (disch := omega) only [iu_ne]
      exact this
  · simp (disch := omega) only [iu_ne]
    exact r4 k h0 h1
theorem SR.drop {e1 e2 : Int → Int} (hr : SR z f1 f2 f3 w1 w2 w3 w4 w5 d1 d2 se) (h21 : z 21 ≤ 6) (h52 : 1 ≤ z 52) (h54 : z 52 ≤ 4) (he1 : ∀ k : Int, 0 ≤ k → k < z 52 - 1 → e1 k = d1 (k + 1)) (he2 : ∀ k : Int, 0 ≤ k → k < z 52 - 1 → e2 k = d2 (k + 1)) : SR (zDrop z) f1 f2 f3 w1 w2 w3 w4 w5 e1 e2 se := by
  obtain ⟨r1, r2, r3, r4⟩ := hr
  refine ⟨fun k h0 h1 => ?_, fun k h0 h1 => ?_, fun k h0 h1 => ?_, fun k h0 h1 => ?_⟩
  · simp (disch := omega) only [zDrop_ne]
    exact r1 k h0 h1
  · rw [zDrop_ne (by omega) (by omega)] at h1
    simp (disch := omega) only [zDrop_ne]
    exact r2 k h0 h1
  · rw [zDrop_52] at h1
    have := r3 (k + 1) (by omega) (by omega)
    rw [he1 k h0 h1, he2 k h0 h1, this.1, this.2]
    unfold zDrop
    rw [if_neg (by omega), if_pos (by omega), if_neg (by omega), if_pos (by omega)]
    exact ⟨by congr 1; omega, by congr 1; omega⟩
  · simp (disch := omega) only [zDrop_ne]
    exact r4 k h0 h1
theorem SR.owe {x : Int} (hr : SR z f1 f2 f3 w1 w2 w3 w4 w5 d1 d2 se) (h21 : z 21 ≤ 6) (h52 : 0 ≤ z 52) (h54 : z 52 < 4) : SR (iu (iu (iu z (53 + 2 * z 52) x) (53 + 2 * z 52 + 1) x) 52 (z 52 + 1)) f1 f2 f3 w1 w2 w3 w4 w5 (iu d1 (z 52) x) (iu d2 (z 52) x) se := by
  obtain ⟨r1, r2, r3, r4⟩ := hr
  refine ⟨fun k h0 h1 => ?_, fun k h0 h1 => ?_, fun k h0 h1 => ?_, fun k h0 h1 => ?_⟩
  · simp (disch := omega) only [iu_ne]
    exact r1 k h0 h1
  · rw [iu_ne (by omega), iu_ne (by omega), iu_ne (by omega)] at h1
    simp (disch := omega) only [iu_ne]
    exact r2 k h0 h1
  · rw [iu_eq] at h1
    by_cases hk : k = z 52
    · subst hk
      simp (disch := omega) only [iu_ne, iu_eq]
      exact ⟨trivial, trivial⟩
    · simp (disch := omega) only [iu_ne]
      exact r3 k h0 (by omega)
  · simp (disch := omega) only [iu_ne]
    exact r4 k h0 h1
end SRS
theorem zWind_ne {z : RZ} {w t j : Int} (h1 : j ≠ w) (h2 : j ≠ 6 + w) : zWind z w t j = z j := by
  unfold zWind
  rw [iu_ne h2, iu_ne h1]
theorem SAt.obj {h : AH} {o : Nat} {z : RZ} (hS : SAt h o z) : ∃ fs : List AV, h o = some (eO 3 fs) := by
  obtain ⟨f1, f2, f3, w1, w2, w3, w4, w5, d1, d2, se, ⟨g0, -⟩, -⟩ := hS
  exact ⟨_, g0⟩
theorem zChim_take (z : RZ) (c : Int) : zChim z c = iu (zTake z 2 (c * 2)) 16 (z 16 + c) := by
  unfold zChim zTake
  rw [Int.mul_comm 2 c]
  rfl
theorem zStk_eq (z : RZ) : mnI (mnI (z 64) (z 1)) (z 54) = zStk z := by
  unfold zStk mnI
  (repeat' split) <;> omega

