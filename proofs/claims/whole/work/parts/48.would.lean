/-! WHAT WOULD BE, on the class's side -/
theorem zSix_19 {z : RZ} (hi : zInv z) : zSix z 19 = z 19 := (zInv_six hi).2.2.2.1
theorem zThree_19 (z : RZ) : zThree z 19 = z 19 + (if zHow z = 1 then 1 else 0) := by
  unfold zThree zHow
  by_cases h9 : z 9 = 0
  · rw [if_pos h9, if_pos h9, iu_eq, if_pos rfl]
  · rw [if_neg h9, if_neg h9]
    by_cases hs : z 63 - z 12 < z 11
    · rw [if_pos hs, if_pos hs]
      simp (disch := omega) only [iu_ne]
      rw [if_neg (by omega)]
      omega
    · rw [if_neg hs, if_neg hs]
      simp (disch := omega) only [iu_ne]
      rw [if_neg (by omega)]
      omega
theorem zMin_19 {z : RZ} (h : zOk z) : zMin z 19 = z 19 + (if zHow (zTwo (zOne z)) = 1 then 1 else 0) := by
  have e1 := zOne_13 h.1
  have e2 := zTwo_13 (z := zOne z)
  have hi2 := zInv_two (zInv_one h.1)
  have hf := zInv_fp h.1 h.2
  have h6 := zSix_19 hf.1
  have h3 := zThree_19 (zTwo (zOne z))
  have hi3 := zInv_three hi2 (zOk_ha h.1 h.2)
  have h4 := zInv_four hi3.1
  have h5 := zInv_five h4.1
  have hfp : zFP z 19 = zThree (zTwo (zOne z)) 19 := by
    unfold zFP
    split
    · omega
    · rfl
  unfold zMin
  rw [iu_ne (by omega), h6, hfp, h3]
  omega
theorem zGo_19 {z : RZ} (h : zOk z) : ∀ {n : Nat}, (∀ k : Nat, k < n → ¬ zStops z k) → zGo z n 19 = z 19
  | 0, _ => rfl
  | n + 1, hn => by
    have ih := zGo_19 h (n := n) (fun k hk => hn k (by omega))
    have hm := zMin_19 (zOk_go h n).1
    have hs := hn n (by omega)
    rw [if_neg hs] at hm
    show zMin (zGo z n) 19 = z 19
    omega
theorem zStN_none {z : RZ} : ∀ {n : Nat}, zStN z n = -1 ↔ ∀ k : Nat, k < n → ¬ zStops z k
  | 0 => ⟨fun _ k hk => by omega, fun _ => rfl⟩
  | n + 1 => by
    have ih := zStN_none (z := z) (n := n)
    have hr := zStN_rng z n
    simp only [zStN]
    constructor
    · intro h k hk
      by_cases h1 : zStN z n = -1
      · rw [if_pos h1] at h
        by_cases hs : zStops z n
        · rw [if_pos hs] at h
          omega
        · by_cases hkn : k = n
          · subst hkn
            exact hs
          · exact ih.mp h1 k (by omega)
      · rw [if_neg h1] at h
        exact absurd h h1
    · intro h
      rw [if_pos (ih.mpr (fun k hk => h k (by omega))), if_neg (h n (by omega))]
theorem zPaN_none {z : RZ} : ∀ {n : Nat}, (∀ k : Nat, k < n → ¬ zGo z k 52 = 0) → zPaN z n = -1
  | 0, _ => rfl
  | n + 1, h => by
    have ih := zPaN_none (z := z) (n := n) (fun k hk => h k (by omega))
    simp only [zPaN]
    rw [if_pos ih, if_neg (h n (by omega))]
