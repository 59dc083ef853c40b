/-! LEAST TURNS: rows that agree but for the going weight and the spring (0, 3, 6, 9, 20) go on alike -/
def zM (j : Int) : Prop := j = 0 ∨ j = 3 ∨ j = 6 ∨ j = 9 ∨ j = 20
def zEq (a b : RZ) : Prop := ∀ j : Int, ¬ zM j → a j = b j
theorem zEq.rf (a : RZ) : zEq a a := fun _ _ => rfl
theorem zEq.sy {a b : RZ} (h : zEq a b) : zEq b a := fun j hj => (h j hj).symm
theorem zEq.tr {a b c : RZ} (h : zEq a b) (h2 : zEq b c) : zEq a c := fun j hj => (h j hj).trans (h2 j hj)
theorem zEq.up {a b : RZ} {j v w : Int} (h : zEq a b) (hv : v = w) : zEq (iu a j v) (iu b j w) := fun k hk => by
  unfold iu
  split
  · exact hv
  · exact h k hk
theorem zEq.upL {a b : RZ} {j v : Int} (h : zEq a b) (hj : zM j) : zEq (iu a j v) b := fun k hk => by
  rw [iu_ne (fun e => hk (by rw [e]; exact hj))]
  exact h k hk
theorem zEq.e {a b : RZ} (h : zEq a b) (j : Int) (hj : j ≠ 0 ∧ j ≠ 3 ∧ j ≠ 6 ∧ j ≠ 9 ∧ j ≠ 20) : a j = b j := h j (by unfold zM; omega)
theorem zEq.ge {a b : RZ} (h : zEq a b) (j : Int) (hj : 21 ≤ j) : a j = b j := h j (by unfold zM; omega)
theorem zEq.sil {a b : RZ} (h : zEq a b) : zSil a ↔ zSil b := by
  unfold zSil
  rw [h.e 65 (by omega), h.e 10 (by omega), h.e 66 (by omega)]
theorem zEq.kept {a b : RZ} (h : zEq a b) {k : Int} (hk : 0 ≤ k) : zKept a k ↔ zKept b k := by
  unfold zKept
  rw [h.ge (22 + 5 * k) (by omega), h.ge 52 (by omega), h.e 1 (by omega)]
theorem zEq.comN {a b : RZ} (h : zEq a b) : ∀ n : Nat, zComN a n = zComN b n
  | 0 => rfl
  | n + 1 => by
    have ih := zEq.comN h n
    have hr := zComN_rng b n
    have hb : zBetter a (zComN a n) n ↔ zBetter b (zComN b n) n := by
      unfold zBetter zDue
      rw [ih, h.kept (by omega), h.ge (22 + 5 * (n : Int) + 3) (by omega), h.e 13 (by omega)]
      by_cases h1 : zComN b n = -1
      · simp only [h1, true_or]
      · rw [h.ge (22 + 5 * zComN b n + 3) (by omega)]
    simp only [zComN]
    by_cases hc : zBetter a (zComN a n) n
    · rw [if_pos hc, if_pos (hb.mp hc)]
    · rw [if_neg hc, if_neg (fun q => hc (hb.mpr q)), ih]
theorem zEq.com {a b : RZ} (h : zEq a b) : zCom a = zCom b := by
  unfold zCom
  rw [h.ge 21 (by omega)]
  exact h.comN _
/-- the turns by which the going weight is wound in this minute's first part, if there is room -/
def zGt (z : RZ) : Int := if zCom z = -1 then 0 else if z (22 + 5 * zCom z) = 0 then z (22 + 5 * zCom z + 1) else 0
theorem zGt_rng {z : RZ} (hi : zInv z) : 0 ≤ zGt z ∧ zGt z ≤ 200 := by
  have hc := zCom_rng hi
  unfold zGt
  split
  · omega
  · have := hi.2.1 (zCom z) (by omega) (by omega)
    split <;> omega
theorem zEq.gt {a b : RZ} (h : zEq a b) (hi : zInv b) : zGt a = zGt b := by
  have hc := zCom_rng hi
  unfold zGt
  rw [h.com]
  by_cases h1 : zCom b = -1
  · rw [if_pos h1, if_pos h1]
  · rw [if_neg h1, if_neg h1, h.ge (22 + 5 * zCom b) (by omega), h.ge (22 + 5 * zCom b + 1) (by omega)]
theorem zOne_0 {z : RZ} (hi : zInv z) : zOne z 0 = z 0 + mnI (zGt z) (200 - z 0) ∧ zOne z 9 = z 9 := by
  have hc := zCom_rng hi
  have h0 := hi.1.1
  have h21 := hi.1.2.2.2.2.2.2.2.2.1
  unfold zOne zGt
  split
  · refine ⟨?_, rfl⟩
    unfold mnI
    split <;> omega
  · have hw := hi.2.1 (zCom z) (by omega) (by omega)
    by_cases hz : z (22 + 5 * zCom z) = 0
    · rw [if_pos hz]
      unfold zWind zMore
      rw [hz]
      simp (disch := omega) only [iu_ne, iu_eq]
      exact ⟨trivial, trivial⟩
    · rw [if_neg hz]
      have hm : mnI 0 (200 - z 0) = 0 := by
        unfold mnI
        split <;> omega
      rw [hm]
      unfold zWind zMore
      simp (disch := omega) only [iu_ne]
      exact ⟨by omega, trivial⟩
theorem zEq.one {a b : RZ} (h : zEq a b) (hi : zInv b) : zEq (zOne a) (zOne b) := by
  have hc := zCom_rng hi
  unfold zOne
  rw [h.com]
  by_cases h1 : zCom b = -1
  · rw [if_pos h1, if_pos h1]
    exact h
  · rw [if_neg h1, if_neg h1]
    have hw := hi.2.1 (zCom b) (by omega) (by omega)
    refine zEq.up (zEq.up ?_ ?_) (by rw [h.ge _ (by omega)])
    · rw [h.ge (22 + 5 * zCom b) (by omega), h.ge (22 + 5 * zCom b + 1) (by omega)]
      generalize hww : b (22 + 5 * zCom b) = w at hw ⊢
      generalize b (22 + 5 * zCom b + 1) = t
      unfold zWind
      by_cases h0 : w = 0
      · subst h0
        exact ((((h.upL (by unfold zM; omega)).upL (by unfold zM; omega)).sy.upL (by unfold zM; omega)).upL (by unfold zM; omega)).sy
      · have e1 : a w = b w := h.e w (by omega)
        have e2 : a (6 + w) = b (6 + w) := h.e (6 + w) (by omega)
        have em : zMore a w t = zMore b w t := by unfold zMore; rw [e1]
        exact (h.up (by rw [e1, em])).up (by rw [e2, em])
    · rw [h.e 13 (by omega), h.ge (22 + 5 * zCom b + 2) (by omega)]
theorem zEq.two (a : RZ) : zEq (zTwo a) a := by
  unfold zTwo
  split
  · unfold zTake
    exact ((((zEq.rf a).upL (by unfold zM; omega)).upL (by unfold zM; omega)).upL (by unfold zM; omega)).upL (by unfold zM; omega)
  · exact zEq.rf a
theorem zEq.three {a b : RZ} (h : zEq a b) (ha : ¬ a 9 = 0) (hb : ¬ b 9 = 0) : zEq (zThree a) (zThree b) ∧ (zHow a = 0 ↔ zHow b = 0) := by
  unfold zThree zHow
  rw [if_neg ha, if_neg hb, if_neg ha, if_neg hb, h.e 63 (by omega), h.e 12 (by omega), h.e 11 (by omega), h.e 18 (by omega), h.e 10 (by omega)]
  refine ⟨?_, Iff.rfl⟩
  split
  · exact (((h.upL (by unfold zM; omega)).sy.upL (by unfold zM; omega)).sy.up rfl).up rfl
  · exact ((h.upL (by unfold zM; omega)).sy.upL (by unfold zM; omega)).sy.up rfl
theorem zEq.four {a b : RZ} (h : zEq a b) : zEq (zFour a) (zFour b) := by
  unfold zFour
  have hp : zPhr a = zPhr b := by unfold zPhr; rw [h.e 10 (by omega)]
  have hc : (a 10 % 15 = 0 ∧ ¬ zSil a) ↔ (b 10 % 15 = 0 ∧ ¬ zSil b) := by rw [h.e 10 (by omega), h.sil]
  by_cases hh : a 10 % 15 = 0 ∧ ¬ zSil a
  · rw [if_pos hh, if_pos (hc.mp hh), hp, h.e 2 (by omega), h.e 17 (by omega)]
    unfold zChim
    exact (((h.up (by rw [h.e 2 (by omega)])).up (by rw [h.e 5 (by omega)])).up (by rw [h.e 16 (by omega)])).up rfl
  · rw [if_neg hh, if_neg (fun q => hh (hc.mpr q))]
    exact h
theorem zEq.drop {a b : RZ} (h : zEq a b) : zEq (zDrop a) (zDrop b) := fun k hk => by
  unfold zDrop
  rw [h.ge 52 (by omega)]
  split
  · rfl
  · split
    · exact h.ge _ (by omega)
    · exact h k hk
theorem zEq.mk {a b : RZ} (h : zEq a b) : zEq (zMk a) (zMk b) := by
  unfold zMk
  rw [h.ge 52 (by omega)]
  split
  · exact (h.up (by rw [h.e 15 (by omega), h.ge 54 (by omega)])).drop
  · exact h
theorem zEq.five {a b : RZ} (h : zEq a b) : zEq (zFive a) (zFive b) := by
  have e10 : a 10 = b 10 := h.e 10 (by omega)
  unfold zFive
  by_cases h1 : ¬ a 10 % 60 = 0
  · have h2 : ¬ b 10 % 60 = 0 := by rw [← e10]; exact h1
    rw [if_pos h1, if_pos h2]
    exact h
  · have h2 : ¬ ¬ b 10 % 60 = 0 := by rw [← e10]; exact h1
    rw [if_neg h1, if_neg h2]
    by_cases hs : zSil a
    · rw [if_pos hs, if_pos (h.sil.mp hs)]
      exact h.up (by rw [h.e 15 (by omega), e10])
    · rw [if_neg hs, if_neg (fun q => hs (h.sil.mpr q)), h.mk.ge 52 (by omega)]
      exact ((h.mk.up (by rw [e10])).up (by rw [e10])).up rfl
theorem zEq.six {a b : RZ} (h : zEq a b) : zEq (zSix a) (zSix b) := by
  have hs : zStk a = zStk b := by
    unfold zStk
    rw [h.ge 64 (by omega), h.ge 54 (by omega), h.e 1 (by omega)]
  have hc : (a 52 = 0 ∨ zSil a) ↔ (b 52 = 0 ∨ zSil b) := by rw [h.ge 52 (by omega), h.sil]
  have ht : zEq (iu (iu (zTake a 1 (zStk a)) 54 (a 54 - zStk a)) 14 (a 14 + zStk a)) (iu (iu (zTake b 1 (zStk b)) 54 (b 54 - zStk b)) 14 (b 14 + zStk b)) := by
    unfold zTake
    exact (((h.up (by rw [h.e 1 (by omega), hs])).up (by rw [h.e (3 + 1) (by omega), hs])).up (by rw [h.ge 54 (by omega), hs])).up (by rw [h.e 14 (by omega), hs])
  unfold zSix
  by_cases hh : a 52 = 0 ∨ zSil a
  · rw [if_pos hh, if_pos (hc.mp hh)]
    exact h
  · rw [if_neg hh, if_neg (fun q => hh (hc.mpr q))]
    have e : a 54 - zStk a = b 54 - zStk b := by rw [h.ge 54 (by omega), hs]
    by_cases h4 : a 54 - zStk a = 0
    · rw [if_pos h4, if_pos (e ▸ h4)]
      exact ht.drop
    · rw [if_neg h4, if_neg (e ▸ h4)]
      exact ht
/-- a minute in which neither stands -/
theorem zEq.min {a b : RZ} (h : zEq a b) (hi : zInv b) (ha : ¬ zTwo (zOne a) 9 = 0) (hb : ¬ zTwo (zOne b) 9 = 0) : zEq (zMin a) (zMin b) := by
  have h2 : zEq (zTwo (zOne a)) (zTwo (zOne b)) := (zEq.two _).tr ((h.one hi).tr (zEq.two _).sy)
  have h3 := h2.three ha hb
  have hf : zEq (zFP a) (zFP b) := by
    unfold zFP
    by_cases hh : zHow (zTwo (zOne a)) = 0
    · rw [if_pos hh, if_pos (h3.2.mp hh)]
      exact h3.1.four.five
    · rw [if_neg hh, if_neg (fun q => hh (h3.2.mpr q))]
      exact h3.1
  unfold zMin
  exact hf.six.up (by rw [hf.six.e 13 (by omega)])
/-! the going weight's and the spring's part of a minute -/
theorem zChim_lo {z : RZ} {k j : Int} (hj : j = 0 ∨ j = 9 ∨ 61 ≤ j) : zChim z k j = z j := zChim_ne (by omega) (by omega) (by omega)
theorem zFour_lo {z : RZ} {j : Int} (hj : j = 0 ∨ j = 9 ∨ 61 ≤ j) : zFour z j = z j := by
  unfold zFour
  split
  · rw [iu_ne (by omega), zChim_lo hj]
  · rfl
theorem zDrop_lo {z : RZ} {j : Int} (hj : j = 0 ∨ j = 9 ∨ 61 ≤ j) (h4 : z 52 ≤ 5) : zDrop z j = z j := zDrop_ne (by omega) h4
theorem zMk_lo {z : RZ} {j : Int} (hj : j = 0 ∨ j = 9 ∨ 61 ≤ j) : zMk z j = z j := by
  unfold zMk
  split
  · rw [zDrop_lo hj (by rw [iu_ne (by omega)]; omega), iu_ne (by omega)]
  · rfl
theorem zFive_lo {z : RZ} (hi : zInv z) {j : Int} (hj : j = 0 ∨ j = 9 ∨ 61 ≤ j) : zFive z j = z j := by
  have hm := zInv_mk hi
  have h52 := hm.1.1.2.2.2.2.2.2.2.2.2.1
  unfold zFive
  split
  · rfl
  · split
    · rw [iu_ne (by omega)]
    · rw [iu_ne (by omega), iu_ne (by omega), iu_ne (by omega), zMk_lo hj]
theorem zSix_lo {z : RZ} (hi : zInv z) {j : Int} (hj : j = 0 ∨ j = 9 ∨ 61 ≤ j) : zSix z j = z j := by
  have h52 := hi.1.2.2.2.2.2.2.2.2.2.1
  have e : iu (iu (zTake z 1 (zStk z)) 54 (z 54 - zStk z)) 14 (z 14 + zStk z) j = z j := by
    unfold zTake
    rw [iu_ne (by omega), iu_ne (by omega), iu_ne (by omega), iu_ne (by omega)]
  unfold zSix
  split
  · rfl
  · split
    · refine (zDrop_lo hj ?_).trans e
      unfold zTake
      simp (disch := omega) only [iu_ne]
      omega
    · exact e
theorem zThree_lo {z : RZ} {j : Int} (hj : j = 0 ∨ 61 ≤ j) : zThree z j = z j := by
  unfold zThree
  split
  · rw [iu_ne (by omega)]
  · split <;> simp (disch := omega) only [iu_ne]
theorem zThree_9 {z : RZ} (h : ¬ z 9 = 0) : zThree z 9 = z 9 - 1 := by
  unfold zThree
  rw [if_neg h]
  split <;> simp (disch := omega) only [iu_ne, iu_eq]
theorem zOne_hi {z : RZ} (hi : zInv z) {j : Int} (hj : 52 ≤ j) : zOne z j = z j := by
  have hc := zCom_rng hi
  have h2 := hi.1.2.2.2.2.2.2.2.2.1
  unfold zOne
  split
  · rfl
  · have hw := hi.2.1 (zCom z) (by omega) (by omega)
    unfold zWind
    simp (disch := omega) only [iu_ne]
theorem zTwo_hi {z : RZ} {j : Int} (hj : 21 ≤ j) : zTwo z j = z j := (zEq.two z).ge j hj
theorem zMin_lo {z : RZ} (h : zOk z) (hs : ¬ zTwo (zOne z) 9 = 0) : zMin z 0 = zTwo (zOne z) 0 ∧ zMin z 9 = zTwo (zOne z) 9 - 1 ∧ ∀ j : Int, 61 ≤ j → zMin z j = z j := by
  have hi2 := zInv_two (zInv_one h.1)
  have hf := zInv_fp h.1 h.2
  have h3 := zInv_three hi2 (zOk_ha h.1 h.2)
  have hfp : ∀ j : Int, (j = 0 ∨ j = 9 ∨ 61 ≤ j) → zFP z j = zThree (zTwo (zOne z)) j := fun j hj => by
    unfold zFP
    split
    · rw [zFive_lo (zInv_four h3.1).1 hj, zFour_lo hj]
    · rfl
  have hm : ∀ j : Int, (j = 0 ∨ j = 9 ∨ 61 ≤ j) → zMin z j = zThree (zTwo (zOne z)) j := fun j hj => by
    unfold zMin
    rw [iu_ne (by omega), zSix_lo hf.1 hj, hfp j hj]
  refine ⟨by rw [hm 0 (by omega), zThree_lo (by omega)], by rw [hm 9 (by omega), zThree_9 hs], fun j hj => ?_⟩
  rw [hm j (by omega), zThree_lo (by omega), zTwo_hi (by omega), zOne_hi h.1 (by omega)]
theorem zHow_1 {z : RZ} : zHow z = 1 ↔ z 9 = 0 := by
  unfold zHow
  split
  · simp [*]
  · split <;> simp [*]
/-- the row that is noted: its charge is 1 in each minute -/
def zNt (z : RZ) : Nat → RZ
  | 0 => z
  | n + 1 => zMin (iu (zNt z n) 9 1)
theorem zOk_9 {z : RZ} {v : Int} (h : zOk z) (hv : 0 ≤ v ∧ v ≤ 30) : zOk (iu z 9 v) := zOk_of h (zInv_9 h.1 hv) (iu_ne (by omega)) (iu_ne (by omega)) (iu_ne (by omega))
theorem zOk_nt {z : RZ} (h : zOk z) : ∀ n : Nat, zOk (zNt z n) ∧ zNt z n 13 = z 13 + n
  | 0 => ⟨h, by simp [zNt]⟩
  | n + 1 => by
    have ih := zOk_nt h n
    have hm := zOk_min (zOk_9 ih.1 (v := 1) (by omega))
    refine ⟨hm.1, ?_⟩
    have e : zNt z (n + 1) 13 = zMin (iu (zNt z n) 9 1) 13 := rfl
    rw [e, hm.2.1, iu_ne (by omega)]
    omega
theorem zTwo_9 {z : RZ} (hi : zInv z) : z 9 ≤ zTwo z 9 := by
  have h0 := hi.1.1
  unfold zTwo
  split
  · rename_i hc
    have hm := mnI_le (z 61 - z 9) (z 0)
    rw [iu_ne (by omega), iu_eq]
    omega
  · omega
theorem zNt_go {z : RZ} (h : zOk z) (n : Nat) : ¬ zTwo (zOne (iu (zNt z n) 9 1)) 9 = 0 := by
  have ih := zOk_nt h n
  have h9 := zOk_9 ih.1 (v := 1) (by omega)
  have e := (zOne_0 h9.1).2
  rw [iu_eq] at e
  have := zTwo_9 (zInv_one h9.1)
  omega
/-- spring and going weight, behind n minutes, G the turns by which he is wound -/
def zRw (z61 z62 : Int) (c h : Int) : Int × Int := if c ≤ z62 ∧ c < z61 ∧ ¬ h = 0 then (c + mnI (z61 - c) h, h - mnI (z61 - c) h) else (c, h)
def zPr (z61 z62 : Int) (G : Nat → Int) (c0 h0 : Int) : Nat → Int × Int
  | 0 => (c0, h0)
  | n + 1 => ((zRw z61 z62 (zPr z61 z62 G c0 h0 n).1 ((zPr z61 z62 G c0 h0 n).2 + mnI (G n) (200 - (zPr z61 z62 G c0 h0 n).2))).1 - 1, (zRw z61 z62 (zPr z61 z62 G c0 h0 n).1 ((zPr z61 z62 G c0 h0 n).2 + mnI (G n) (200 - (zPr z61 z62 G c0 h0 n).2))).2)
/-- the charge behind the minute's second part -/
def zPc (z61 z62 : Int) (G : Nat → Int) (c0 h0 : Int) (n : Nat) : Int := (zRw z61 z62 (zPr z61 z62 G c0 h0 n).1 ((zPr z61 z62 G c0 h0 n).2 + mnI (G n) (200 - (zPr z61 z62 G c0 h0 n).2))).1
theorem zTwo_rw (z : RZ) : (zTwo z 9, zTwo z 0) = zRw (z 61) (z 62) (z 9) (z 0) := by
  unfold zTwo zRw
  split
  · unfold zTake
    simp (disch := omega) only [iu_ne, iu_eq]
  · rfl
/-- the run with t turns more, told by the noted rounds -/
theorem zGo_nt {z : RZ} (h : zOk z) {t : Int} (ht : 0 ≤ t ∧ t ≤ 200 - z 0) : ∀ n : Nat, (∀ k : Nat, k < n → ¬ zStops (iu z 0 (z 0 + t)) k) →
    zEq (zGo (iu z 0 (z 0 + t)) n) (zNt z n) ∧ (zGo (iu z 0 (z 0 + t)) n 9, zGo (iu z 0 (z 0 + t)) n 0) = zPr (z 61) (z 62) (fun k => zGt (zNt z k)) (z 9) (z 0 + t) n ∧ (zTwo (zOne (zGo (iu z 0 (z 0 + t)) n)) 9, zTwo (zOne (zGo (iu z 0 (z 0 + t)) n)) 0) = zRw (z 61) (z 62) (zPr (z 61) (z 62) (fun k => zGt (zNt z k)) (z 9) (z 0 + t) n).1 ((zPr (z 61) (z 62) (fun k => zGt (zNt z k)) (z 9) (z 0 + t) n).2 + mnI (zGt (zNt z n)) (200 - (zPr (z 61) (z 62) (fun k => zGt (zNt z k)) (z 9) (z 0 + t) n).2)) := by
  have h0 := h.1.1.1
  have hok : zOk (iu z 0 (z 0 + t)) := zOk_of h (zInv_h h.1 (by omega) (by omega) (by omega)) (iu_ne (by omega)) (iu_ne (by omega)) (iu_ne (by omega))
  have key : ∀ n : Nat, (∀ j : Int, 61 ≤ j → zGo (iu z 0 (z 0 + t)) n j = z j) → zEq (zGo (iu z 0 (z 0 + t)) n) (zNt z n) → (zGo (iu z 0 (z 0 + t)) n 9, zGo (iu z 0 (z 0 + t)) n 0) = zPr (z 61) (z 62) (fun k => zGt (zNt z k)) (z 9) (z 0 + t) n → (zTwo (zOne (zGo (iu z 0 (z 0 + t)) n)) 9, zTwo (zOne (zGo (iu z 0 (z 0 + t)) n)) 0) = zRw (z 61) (z 62) (zPr (z 61) (z 62) (fun k => zGt (zNt z k)) (z 9) (z 0 + t) n).1 ((zPr (z 61) (z 62) (fun k => zGt (zNt z k)) (z 9) (z 0 + t) n).2 + mnI (zGt (zNt z n)) (200 - (zPr (z 61) (z 62) (fun k => zGt (zNt z k)) (z 9) (z 0 + t) n).2)) := by
    intro n hs he hp
    have hg := (zOk_go hok n).1
    rw [zTwo_rw, (zOne_0 hg.1).1, (zOne_0 hg.1).2, zOne_hi hg.1 (by omega), zOne_hi hg.1 (by omega), hs 61 (by omega), hs 62 (by omega), he.gt (zOk_nt h n).1.1, ← hp]
  have all : ∀ n : Nat, (∀ k : Nat, k < n → ¬ zStops (iu z 0 (z 0 + t)) k) → (∀ j : Int, 61 ≤ j → zGo (iu z 0 (z 0 + t)) n j = z j) ∧ zEq (zGo (iu z 0 (z 0 + t)) n) (zNt z n) ∧ (zGo (iu z 0 (z 0 + t)) n 9, zGo (iu z 0 (z 0 + t)) n 0) = zPr (z 61) (z 62) (fun k => zGt (zNt z k)) (z 9) (z 0 + t) n := by
    intro n
    induction n with
    | zero =>
      intro _
      refine ⟨fun j hj => iu_ne (by omega), (zEq.rf z).upL (by unfold zM; omega), ?_⟩
      show (iu z 0 (z 0 + t) 9, iu z 0 (z 0 + t) 0) = (z 9, z 0 + t)
      rw [iu_eq, iu_ne (by omega)]
    | succ n ih =>
      intro hn
      obtain ⟨a1, a2, a3⟩ := ih (fun k hk => hn k (by omega))
      have hg := (zOk_go hok n).1
      have hk := key n a1 a2 a3
      have hns : ¬ zTwo (zOne (zGo (iu z 0 (z 0 + t)) n)) 9 = 0 := fun q => hn n (by omega) (zHow_1.mpr q)
      have hm := zMin_lo hg hns
      have e9 : zEq (zGo (iu z 0 (z 0 + t)) n) (iu (zNt z n) 9 1) := a2.tr ((zEq.rf _).upL (by unfold zM; omega)).sy
      refine ⟨fun j hj => (hm.2.2 j hj).trans (a1 j hj), e9.min (zOk_9 (zOk_nt h n).1 (by omega)).1 hns (zNt_go h n), ?_⟩
      show (zMin (zGo (iu z 0 (z 0 + t)) n) 9, zMin (zGo (iu z 0 (z 0 + t)) n) 0) = _
      rw [hm.1, hm.2.1]
      have k1 := congrArg Prod.fst hk
      have k2 := congrArg Prod.snd hk
      simp only at k1 k2
      rw [k1, k2]
      rfl
  intro n hn
  obtain ⟨a1, a2, a3⟩ := all n hn
  exact ⟨a2, a3, key n a1 a2 a3⟩
theorem zStops_pc {z : RZ} (h : zOk z) {t : Int} (ht : 0 ≤ t ∧ t ≤ 200 - z 0) {n : Nat} (hn : ∀ k : Nat, k < n → ¬ zStops (iu z 0 (z 0 + t)) k) : zStops (iu z 0 (z 0 + t)) n ↔ zPc (z 61) (z 62) (fun k => zGt (zNt z k)) (z 9) (z 0 + t) n = 0 := by
  have hg := zGo_nt h ht n hn
  have k1 := congrArg Prod.fst hg.2.2
  simp only at k1
  unfold zStops zPc
  rw [zHow_1, k1]
theorem zGoes_pc {z : RZ} (h : zOk z) {t : Int} (ht : 0 ≤ t ∧ t ≤ 200 - z 0) (n : Nat) : zGoes z t n ↔ ∀ k : Nat, k < n → ¬ zPc (z 61) (z 62) (fun k => zGt (zNt z k)) (z 9) (z 0 + t) k = 0 := by
  unfold zGoes
  constructor
  · intro hs k hk
    have := zStops_pc h ht (n := k) (fun j hj => hs j (by omega))
    exact fun q => hs k hk (this.mpr q)
  · intro hp k
    induction k using Nat.strongRecOn with
    | ind k ih =>
      intro hk
      have := zStops_pc h ht (n := k) (fun j hj => ih j hj (by omega))
      exact fun q => hp k hk (this.mp q)
theorem zRw_sum (a b c h : Int) : (zRw a b c h).1 + (zRw a b c h).2 = c + h := by
  unfold zRw
  split
  · simp only
    omega
  · rfl
theorem zRw_rng {a b c h : Int} (ha : 2 ≤ a ∧ a ≤ 30) (hc : 0 ≤ c ∧ c ≤ 30) (hh : 0 ≤ h ∧ h ≤ 200) : (0 ≤ (zRw a b c h).1 ∧ (zRw a b c h).1 ≤ 30) ∧ (0 ≤ (zRw a b c h).2 ∧ (zRw a b c h).2 ≤ 200) := by
  have hm := mnI_le (a - c) h
  unfold zRw
  split
  · simp only
    omega
  · exact ⟨hc, hh⟩
def zGs (G : Nat → Int) : Nat → Int
  | 0 => 0
  | n + 1 => zGs G n + G n
theorem mnI_rng {g h : Int} (hg : 0 ≤ g) (hh : 0 ≤ h ∧ h ≤ 200) : 0 ≤ h + mnI g (200 - h) ∧ h + mnI g (200 - h) ≤ 200 ∧ mnI g (200 - h) ≤ g := by
  have := mnI_le g (200 - h)
  omega
theorem zPr_rng {a b c0 h0 : Int} {G : Nat → Int} (ha : 2 ≤ a ∧ a ≤ 30) (hG : ∀ k : Nat, 0 ≤ G k) (hc : 0 ≤ c0 ∧ c0 ≤ 30) (hh : 0 ≤ h0 ∧ h0 ≤ 200) : ∀ n : Nat, (∀ k : Nat, k < n → ¬ zPc a b G c0 h0 k = 0) → (0 ≤ (zPr a b G c0 h0 n).1 ∧ (zPr a b G c0 h0 n).1 ≤ 30) ∧ (0 ≤ (zPr a b G c0 h0 n).2 ∧ (zPr a b G c0 h0 n).2 ≤ 200) ∧ (zPr a b G c0 h0 n).1 + (zPr a b G c0 h0 n).2 + n ≤ c0 + h0 + zGs G n
  | 0, _ => ⟨hc, hh, by simp [zPr, zGs]⟩
  | n + 1, hn => by
    obtain ⟨i1, i2, i3⟩ := zPr_rng (a := a) (b := b) ha hG hc hh n (fun k hk => hn k (by omega))
    have hm := mnI_rng (hG n) i2
    have hr := zRw_rng (b := b) ha i1 ⟨hm.1, hm.2.1⟩
    have hs := zRw_sum a b (zPr a b G c0 h0 n).1 ((zPr a b G c0 h0 n).2 + mnI (G n) (200 - (zPr a b G c0 h0 n).2))
    have hp := hn n (by omega)
    unfold zPc at hp
    simp only [zPr, zGs]
    generalize (zRw a b (zPr a b G c0 h0 n).1 ((zPr a b G c0 h0 n).2 + mnI (G n) (200 - (zPr a b G c0 h0 n).2))).1 = x at *
    generalize (zRw a b (zPr a b G c0 h0 n).1 ((zPr a b G c0 h0 n).2 + mnI (G n) (200 - (zPr a b G c0 h0 n).2))).2 = y at *
    omega
theorem XA.rounds {h h' : AH} {rc : Nat} {z hi tx g' : Int → Int} {st ln : Int} (hX : XA h rc z hi tx st ln) (hF : Fr h h' (rc + 126) 1) (hg : h' (rc + 126) = some (eA 0 720 g')) : XA h' rc z hi tx st ln := by
  obtain ⟨zt, g, x0, hS, hT, hH, hTx, x5, hok, h13, hst⟩ := hX
  exact ⟨zt, g', (hF _ (by omega)).trans x0, hS.fr (fun a a0 a1 => hF a (by omega)), hT.fr (fun a a0 a1 => hF a (by omega)), hH.fr (fun a a0 a1 => hF a (by omega)) hst.2, hTx.fr (fun a a0 a1 => hF a (by omega)), hg, hok, h13, hst⟩
theorem SR.hset {z : RZ} {f1 f2 f3 w1 w2 w3 w4 w5 d1 d2 se : Int → Int} {w v : Int} (hr : SR z f1 f2 f3 w1 w2 w3 w4 w5 d1 d2 se) (h0 : 0 ≤ w) (h2 : w ≤ 2) : SR (iu z w v) (iu f1 w v) f2 f3 w1 w2 w3 w4 w5 d1 d2 se := by
  obtain ⟨r1, r2, r3, r4⟩ := hr
  refine ⟨fun k h0 h1 => ?_, fun k h0 h1 => ?_, fun k h0 h1 => ?_, fun k h0 h1 => ?_⟩
  · have rk := r1 k h0 h1
    by_cases hk : k = w
    · subst hk
      simp (disch := omega) only [iu_ne, iu_eq]
      exact ⟨trivial, rk.2⟩
    · simp (disch := omega) only [iu_ne]
      exact rk
  · rw [iu_ne (by omega)] at h1
    simp (disch := omega) only [iu_ne]
    exact r2 k h0 h1
  · rw [iu_ne (by omega)] at h1
    simp (disch := omega) only [iu_ne]
    exact r3 k h0 h1
  · simp (disch := omega) only [iu_ne]
    exact r4 k h0 h1
