/-! THE CLASS'S OBJECT at rc: now, trial, history, text, goingRounds behind it -/
theorem TxA.fr {h h' : AH} {t : Nat} {ln : Int} {tx : Int → Int} (hT : TxA h t ln tx) (hq : ∀ a : Nat, t ≤ a → a < t + 3 → h' a = h a) : TxA h' t ln tx := by
  obtain ⟨sg, g0, g1, hln, hsg, a, b, c, d, g2⟩ := hT
  exact ⟨sg, (hq _ (by omega) (by omega)).trans g0, (hq _ (by omega) (by omega)).trans g1, hln, hsg, a, b, c, d, (hq _ (by omega) (by omega)).trans g2⟩
def XA (h : AH) (rc : Nat) (z hi tx : Int → Int) (st ln : Int) : Prop :=
  ∃ (zt : RZ) (g : Int → Int), h rc = some (eO 7 [aR (rc + 1), aR (rc + 16), aR (rc + 31), aR (rc + 123), aR (rc + 126)]) ∧ SAt h (rc + 1) z ∧ SAt h (rc + 16) zt ∧ HAt h (rc + 31) st hi ∧ TxA h (rc + 123) ln tx ∧ h (rc + 126) = some (eA 0 720 g) ∧ zOk z ∧ z 13 ≤ 20000 ∧ (0 ≤ st ∧ st ≤ 6)
theorem XA.fr {h h' : AH} {rc : Nat} {z hi tx : Int → Int} {st ln : Int} (hX : XA h rc z hi tx st ln) (hq : ∀ a : Nat, rc ≤ a → a < rc + 127 → h' a = h a) : XA h' rc z hi tx st ln := by
  obtain ⟨zt, g, x0, hS, hT, hH, hTx, x5, hok, h13, hst⟩ := hX
  exact ⟨zt, g, (hq _ (by omega) (by omega)).trans x0, hS.fr (fun a a0 a1 => hq a (by omega) (by omega)), hT.fr (fun a a0 a1 => hq a (by omega) (by omega)), hH.fr (fun a a0 a1 => hq a (by omega) (by omega)) hst.2, hTx.fr (fun a a0 a1 => hq a (by omega) (by omega)), (hq _ (by omega) (by omega)).trans x5, hok, h13, hst⟩
theorem XA.now {h h' : AH} {rc : Nat} {z y hi tx : Int → Int} {st ln : Int} (hX : XA h rc z hi tx st ln) (hF : Fr h h' (rc + 1) 15) (hS' : SAt h' (rc + 1) y) (hok' : zOk y) (h13' : y 13 ≤ 20000) : XA h' rc y hi tx st ln := by
  obtain ⟨zt, g, x0, hS, hT, hH, hTx, x5, hok, h13, hst⟩ := hX
  exact ⟨zt, g, (hF _ (by omega)).trans x0, hS', hT.fr (fun a a0 a1 => hF a (by omega)), hH.fr (fun a a0 a1 => hF a (by omega)) hst.2, hTx.fr (fun a a0 a1 => hF a (by omega)), (hF _ (by omega)).trans x5, hok', h13', hst⟩
theorem XA.trial {h h' : AH} {rc : Nat} {z y hi tx : Int → Int} {st ln : Int} (hX : XA h rc z hi tx st ln) (hF : Fr h h' (rc + 16) 15) (hT' : SAt h' (rc + 16) y) : XA h' rc z hi tx st ln := by
  obtain ⟨zt, g, x0, hS, hT, hH, hTx, x5, hok, h13, hst⟩ := hX
  exact ⟨y, g, (hF _ (by omega)).trans x0, hS.fr (fun a a0 a1 => hF a (by omega)), hT', hH.fr (fun a a0 a1 => hF a (by omega)) hst.2, hTx.fr (fun a a0 a1 => hF a (by omega)), (hF _ (by omega)).trans x5, hok, h13, hst⟩
theorem XA.keep {h h' : AH} {rc : Nat} {z hi hi' tx : Int → Int} {st st' ln : Int} (hX : XA h rc z hi tx st ln) (hF : Fr h h' (rc + 31) 92) (hH' : HAt h' (rc + 31) st' hi') (hst' : 0 ≤ st' ∧ st' ≤ 6) : XA h' rc z hi' tx st' ln := by
  obtain ⟨zt, g, x0, hS, hT, hH, hTx, x5, hok, h13, hst⟩ := hX
  exact ⟨zt, g, (hF _ (by omega)).trans x0, hS.fr (fun a a0 a1 => hF a (by omega)), hT.fr (fun a a0 a1 => hF a (by omega)), hH', hTx.fr (fun a a0 a1 => hF a (by omega)), (hF _ (by omega)).trans x5, hok, h13, hst'⟩
theorem XA.text {h h' : AH} {rc : Nat} {z hi tx tx' : Int → Int} {st ln ln' : Int} (hX : XA h rc z hi tx st ln) (hF : Fr h h' (rc + 123) 3) (hT' : TxA h' (rc + 123) ln' tx') : XA h' rc z hi tx' st ln' := by
  obtain ⟨zt, g, x0, hS, hT, hH, hTx, x5, hok, h13, hst⟩ := hX
  exact ⟨zt, g, (hF _ (by omega)).trans x0, hS.fr (fun a a0 a1 => hF a (by omega)), hT.fr (fun a a0 a1 => hF a (by omega)), hH.fr (fun a a0 a1 => hF a (by omega)) hst.2, hT', (hF _ (by omega)).trans x5, hok, h13, hst⟩
theorem sSt_rng {st : Int} (h : 0 ≤ st ∧ st ≤ 6) : 0 ≤ sSt st ∧ sSt st ≤ 6 := by
  unfold sSt
  split <;> omega
theorem Fr.wide {h h' : AH} {o n p m : Nat} (hF : Fr h h' o n) (h1 : p ≤ o) (h2 : o + n ≤ p + m) : Fr h h' p m := fun a ha => hF a (by omega)
/-! the rows that the calls make are rows of the clock -/
theorem zOk_of {z y : RZ} (h : zOk z) (hi : zInv y) (h13 : y 13 = z 13) (h18 : y 18 = z 18) (h19 : y 19 = z 19) : zOk y := ⟨hi, by have := h.2; omega⟩
theorem zOk_wind {z : RZ} {w t : Int} (h : zOk z) (h0 : 0 ≤ w) (h2 : w ≤ 2) (ht : 0 ≤ t) : zOk (zWind z w t) := zOk_of h (zInv_wind h.1 h0 h2 ht) (zWind_ne (by omega) (by omega)) (zWind_ne (by omega) (by omega)) (zWind_ne (by omega) (by omega))
theorem zInv_10 {z : RZ} {v : Int} (hi : zInv z) (hv : 0 ≤ v ∧ v < 720) : zInv (iu z 10 v) := by
  obtain ⟨hsc, hwi, hde⟩ := hi
  refine ⟨?_, fun w h0 h1 => ?_, fun d h0 h1 => ?_⟩
  · simp (disch := omega) only [iu_ne, iu_eq]
    omega
  · simp (disch := omega) only [iu_ne] at h1 ⊢
    exact hwi w h0 h1
  · simp (disch := omega) only [iu_ne] at h1 ⊢
    exact hde d h0 h1
theorem zInv_11 {z : RZ} {j v : Int} (hi : zInv z) (hj : j = 11 ∨ j = 12) (hv : 0 ≤ v ∧ v ≤ 20) : zInv (iu z j v) := by
  obtain ⟨hsc, hwi, hde⟩ := hi
  refine ⟨?_, fun w h0 h1 => ?_, fun d h0 h1 => ?_⟩
  · rcases hj with rfl | rfl <;> simp (disch := omega) only [iu_ne, iu_eq] <;> omega
  · simp (disch := omega) only [iu_ne] at h1 ⊢
    exact hwi w h0 h1
  · simp (disch := omega) only [iu_ne] at h1 ⊢
    exact hde d h0 h1
theorem zOk_iu {z : RZ} {j v : Int} (h : zOk z) (hi : zInv (iu z j v)) (hj : j ≠ 13 ∧ j ≠ 18 ∧ j ≠ 19) : zOk (iu z j v) := zOk_of h hi (iu_ne (Ne.symm hj.1)) (iu_ne (Ne.symm hj.2.1)) (iu_ne (Ne.symm hj.2.2))
/-- a value of a setting -/
abbrev zVal (w v : Int) : Prop := (w = 0 → 2 ≤ v ∧ v ≤ 30) ∧ (w = 1 → 0 ≤ v ∧ v ≤ 20) ∧ (w = 2 → 1 ≤ v ∧ v ≤ 20) ∧ (w = 3 → 1 ≤ v ∧ v ≤ 12) ∧ (w = 4 → 0 ≤ v ∧ v ≤ 12) ∧ (w = 5 → 1 ≤ v ∧ v ≤ 12)
theorem zInv_set {z : RZ} {w v : Int} (hi : zInv z) (hw : 0 ≤ w ∧ w ≤ 5) (hv : zVal w v) : zInv (iu z (61 + w) v) := by
  obtain ⟨hsc, hwi, hde⟩ := hi
  refine ⟨?_, fun k h0 h1 => ?_, fun d h0 h1 => ?_⟩
  · obtain ⟨j, hj⟩ : ∃ j : Int, j = 61 + w := ⟨_, rfl⟩
    rw [← hj]
    rcases (show j = 61 ∨ j = 62 ∨ j = 63 ∨ j = 64 ∨ j = 65 ∨ j = 66 by omega) with rfl | rfl | rfl | rfl | rfl | rfl <;> simp (disch := omega) only [iu_ne, iu_eq] <;> omega
  · rw [iu_ne (by omega)] at h1
    simp (disch := omega) only [iu_ne]
    exact hwi k h0 h1
  · rw [iu_ne (by omega)] at h1
    simp (disch := omega) only [iu_ne]
    exact hde d h0 h1
theorem zInv_forgive {z : RZ} (hi : zInv z) : zInv (iu z 52 0) := by
  obtain ⟨hsc, hwi, hde⟩ := hi
  refine ⟨?_, fun k h0 h1 => ?_, fun d h0 h1 => ?_⟩
  · simp (disch := omega) only [iu_ne, iu_eq]
    omega
  · rw [iu_ne (by omega)] at h1
    simp (disch := omega) only [iu_ne]
    exact hwi k h0 h1
  · rw [iu_eq] at h1
    omega
theorem zInv_comes {z : RZ} {w t p : Int} (hi : zInv z) (h6 : z 21 < 6) (hw : 0 ≤ w ∧ w ≤ 2) (ht : 1 ≤ t ∧ t ≤ 200) (hp : 1 ≤ p ∧ p ≤ 720) : zInv (zComes z w t p) := by
  obtain ⟨hsc, hwi, hde⟩ := hi
  have h21 := hsc.2.2.2.2.2.2.2.2.1
  unfold zComes
  refine ⟨?_, fun k h0 h1 => ?_, fun d h0 h1 => ?_⟩
  · simp (disch := omega) only [iu_ne, iu_eq]
    omega
  · rw [iu_eq] at h1
    by_cases hk : k = z 21
    · subst hk
      simp (disch := omega) only [iu_ne, iu_eq]
      omega
    · simp (disch := omega) only [iu_ne]
      exact hwi k h0 (by omega)
  · simp (disch := omega) only [iu_ne] at h1 ⊢
    exact hde d h0 h1
theorem zComes_ne {z : RZ} {w t p j : Int} (h0 : 0 ≤ z 21) (h1 : j < 21) : zComes z w t p j = z j := by
  unfold zComes
  simp (disch := omega) only [iu_ne]
theorem zDisK_ne {z : RZ} {n a kk j : Int} (h0 : j ≠ 21) (h1 : j < a ∨ kk ≤ j) : zDisK z n a kk j = z j := by
  unfold zDisK
  rw [if_neg h0, if_neg (by omega)]
theorem zDisK_in {z : RZ} {n a kk j : Int} (h0 : j ≠ 21) (h1 : a ≤ j) (h2 : j < kk) : zDisK z n a kk j = z (j + 5) := by
  unfold zDisK
  rw [if_neg h0, if_pos ⟨h1, h2⟩]
theorem zInv_dis {z : RZ} {w : Int} (hi : zInv z) (hw : 0 ≤ w ∧ w < z 21) : zInv (zDisK z (z 21 - 1) (22 + 5 * w) (22 + 5 * (z 21 - 1))) := by
  obtain ⟨hsc, hwi, hde⟩ := hi
  have h21 := hsc.2.2.2.2.2.2.2.2.1
  refine ⟨?_, fun k h0 h1 => ?_, fun d h0 h1 => ?_⟩
  · simp (disch := omega) only [zDisK_ne, zDisK_21]
    omega
  · rw [zDisK_21] at h1
    by_cases hk : k < w
    · simp (disch := omega) only [zDisK_ne]
      exact hwi k h0 (by omega)
    · have := hwi (k + 1) (by omega) (by omega)
      rw [show (22 : Int) + 5 * (k + 1) = 22 + 5 * k + 5 by omega] at this
      simp (disch := omega) only [zDisK_in, zDisK_ne (j := 13)]
      rw [show (22 : Int) + 5 * k + 1 + 5 = 22 + 5 * k + 5 + 1 by omega, show (22 : Int) + 5 * k + 2 + 5 = 22 + 5 * k + 5 + 2 by omega, show (22 : Int) + 5 * k + 3 + 5 = 22 + 5 * k + 5 + 3 by omega]
      exact this
  · simp (disch := omega) only [zDisK_ne] at h1 ⊢
    exact hde d h0 h1
theorem zInv_ld {z : RZ} {ro : Int → Int} (hi : zInv z) : ∀ (k : Nat), k ≤ 6 → (∀ i : Int, 0 ≤ i → i < k → (0 ≤ ro (3 * i) ∧ ro (3 * i) ≤ 2) ∧ (1 ≤ ro (3 * i + 1) ∧ ro (3 * i + 1) ≤ 200) ∧ (1 ≤ ro (3 * i + 2) ∧ ro (3 * i + 2) ≤ 720)) → zInv (zLd z ro k)
  | 0, _, _ => by
    obtain ⟨hsc, hwi, hde⟩ := hi
    show zInv (iu z 21 0)
    refine ⟨?_, fun k h0 h1 => ?_, fun d h0 h1 => ?_⟩
    · simp (disch := omega) only [iu_ne, iu_eq]
      omega
    · rw [iu_eq] at h1
      omega
    · simp (disch := omega) only [iu_ne] at h1 ⊢
      exact hde d h0 h1
  | k + 1, hk, hr => by
    have ih := zInv_ld (ro := ro) hi k (by omega) (fun i h0 h1 => hr i h0 (by omega))
    have q := hr k (by omega) (by omega)
    exact zInv_comes ih (by rw [zLd_21]; omega) q.1 q.2.1 q.2.2
/-! .. and the cells that stand for them -/
section SRS2
variable {z : RZ} {f1 f2 f3 w1 w2 w3 w4 w5 d1 d2 se : Int → Int}
theorem SR.set {w v : Int} (hr : SR z f1 f2 f3 w1 w2 w3 w4 w5 d1 d2 se) (hw : 0 ≤ w ∧ w ≤ 5) (h21 : z 21 ≤ 6) (h52 : z 52 ≤ 4) : SR (iu z (61 + w) v) f1 f2 f3 w1 w2 w3 w4 w5 d1 d2 (iu se w v) := by
  obtain ⟨r1, r2, r3, r4⟩ := hr
  refine ⟨fun k h0 h1 => ?_, fun k h0 h1 => ?_, fun k h0 h1 => ?_, fun k h0 h1 => ?_⟩
  · simp (disch := omega) only [iu_ne]
    exact r1 k h0 h1
  · rw [iu_ne (by omega)] at h1
    simp (disch := omega) only [iu_ne]
    exact r2 k h0 h1
  · rw [iu_ne (by omega)] at h1
    simp (disch := omega) only [iu_ne]
    exact r3 k h0 h1
  · by_cases hk : k = w
    · subst hk
      rw [iu_eq, iu_eq]
    · rw [iu_ne hk, iu_ne (by omega)]
      exact r4 k h0 h1
theorem SR.none (hr : SR z f1 f2 f3 w1 w2 w3 w4 w5 d1 d2 se) (h21 : z 21 ≤ 6) : SR (iu z 52 0) f1 f2 f3 w1 w2 w3 w4 w5 d1 d2 se := by
  obtain ⟨r1, r2, r3, r4⟩ := hr
  refine ⟨fun k h0 h1 => ?_, fun k h0 h1 => ?_, fun k h0 h1 => ?_, fun k h0 h1 => ?_⟩
  · simp (disch := omega) only [iu_ne]
    exact r1 k h0 h1
  · rw [iu_ne (by omega)] at h1
    simp (disch := omega) only [iu_ne]
    exact r2 k h0 h1
  · rw [iu_eq] at h1
    omega
  · simp (disch := omega) only [iu_ne]
    exact r4 k h0 h1
theorem SR.comes {w t p : Int} (hr : SR z f1 f2 f3 w1 w2 w3 w4 w5 d1 d2 se) (h0 : 0 ≤ z 21) (h6 : z 21 < 6) : SR (zComes z w t p) f1 f2 f3 (iu w1 (z 21) w) (iu w2 (z 21) t) (iu w3 (z 21) p) (iu w4 (z 21) (z 13 + p)) (iu w5 (z 21) 0) d1 d2 se := by
  obtain ⟨r1, r2, r3, r4⟩ := hr
  unfold zComes
  refine ⟨fun k h0 h1 => ?_, fun k h0 h1 => ?_, fun k h0 h1 => ?_, fun k h0 h1 => ?_⟩
  · simp (disch := omega) only [iu_ne]
    exact r1 k h0 h1
  · rw [iu_eq] at h1
    by_cases hk : k = z 21
    · subst hk
      simp (disch := omega) only [iu_ne, iu_eq]
      exact ⟨trivial, trivial, trivial, trivial, trivial⟩
    · simp (disch := omega) only [iu_ne]
      exact r2 k h0 (by omega)
  · simp (disch := omega) only [iu_ne] at h1 ⊢
    exact r3 k h0 h1
  · simp (disch := omega) only [iu_ne]
    exact r4 k h0 h1
theorem SR.dis {w : Int} {e1 e2 e3 e4 e5 : Int → Int} (hr : SR z f1 f2 f3 w1 w2 w3 w4 w5 d1 d2 se) (hw : 0 ≤ w ∧ w < z 21) (h6 : z 21 ≤ 6)
    (he : (∀ jj : Int, 0 ≤ jj → jj < z 21 - 1 → e1 jj = if jj < w then w1 jj else w1 (jj + 1)) ∧ (∀ jj : Int, 0 ≤ jj → jj < z 21 - 1 → e2 jj = if jj < w then w2 jj else w2 (jj + 1)) ∧ (∀ jj : Int, 0 ≤ jj → jj < z 21 - 1 → e3 jj = if jj < w then w3 jj else w3 (jj + 1)) ∧ (∀ jj : Int, 0 ≤ jj → jj < z 21 - 1 → e4 jj = if jj < w then w4 jj else w4 (jj + 1)) ∧ (∀ jj : Int, 0 ≤ jj → jj < z 21 - 1 → e5 jj = if jj < w then w5 jj else w5 (jj + 1))) : SR (zDisK z (z 21 - 1) (22 + 5 * w) (22 + 5 * (z 21 - 1))) f1 f2 f3 e1 e2 e3 e4 e5 d1 d2 se := by
  obtain ⟨r1, r2, r3, r4⟩ := hr
  refine ⟨fun k h0 h1 => ?_, fun k h0 h1 => ?_, fun k h0 h1 => ?_, fun k h0 h1 => ?_⟩
  · simp (disch := omega) only [zDisK_ne]
    exact r1 k h0 h1
  · rw [zDisK_21] at h1
    rw [he.1 k h0 h1, he.2.1 k h0 h1, he.2.2.1 k h0 h1, he.2.2.2.1 k h0 h1, he.2.2.2.2 k h0 h1]
    by_cases hk : k < w
    · simp only [if_pos hk]
      simp (disch := omega) only [zDisK_ne]
      exact r2 k h0 (by omega)
    · simp only [if_neg hk]
      have := r2 (k + 1) (by omega) (by omega)
      rw [show (22 : Int) + 5 * (k + 1) = 22 + 5 * k + 5 by omega] at this
      simp (disch := omega) only [zDisK_in]
      rw [show (22 : Int) + 5 * k + 1 + 5 = 22 + 5 * k + 5 + 1 by omega, show (22 : Int) + 5 * k + 2 + 5 = 22 + 5 * k + 5 + 2 by omega, show (22 : Int) + 5 * k + 3 + 5 = 22 + 5 * k + 5 + 3 by omega, show (22 : Int) + 5 * k + 4 + 5 = 22 + 5 * k + 5 + 4 by omega]
      exact this
  · simp (disch := omega) only [zDisK_ne] at h1 ⊢
    exact r3 k h0 h1
  · simp (disch := omega) only [zDisK_ne]
    exact r4 k h0 h1
/-- from the winders that the rounds make to the row -/
theorem SR.ld {ro : Int → Int} {n : Nat} {F1 F2 F3 F4 F5 : Int → Int} (hr : SR z f1 f2 f3 w1 w2 w3 w4 w5 d1 d2 se) (hn : n ≤ 6) (hw : wMade ro (z 13) n F1 F2 F3 F4 F5) : SR (zLd z ro n) f1 f2 f3 F1 F2 F3 F4 F5 d1 d2 se := by
  obtain ⟨r1, r2, r3, r4⟩ := hr
  have hl := zLd_row (z := z) (ro := ro) n
  have h21 := zLd_21 (z := z) (ro := ro) (k := n)
  refine ⟨fun k h0 h1 => ?_, fun k h0 h1 => ?_, fun k h0 h1 => ?_, fun k h0 h1 => ?_⟩
  · rw [hl.2 k (by omega), hl.2 (3 + k) (by omega), hl.2 (6 + k) (by omega)]
    exact r1 k h0 h1
  · rw [h21] at h1
    have a := hl.1 k h0 h1
    have b := hw k h0 h1
    rw [a.1, a.2.1, a.2.2.1, a.2.2.2.1, a.2.2.2.2]
    exact b
  · rw [hl.2 52 (by omega)] at h1
    rw [hl.2 (53 + 2 * k) (by omega), hl.2 (53 + 2 * k + 1) (by omega)]
    exact r3 k h0 h1
  · rw [hl.2 (61 + k) (by omega)]
    exact r4 k h0 h1
end SRS2
/-! the static arrays of numbers -/
section WKG
variable {D : va_G} {tc : Nat → ClassId} {base nL : Nat} {own : String} {cc : ByteArray} {p : Program} {l : Launch} {e : Env} {R : Room} {s : State} {m : MethodId} {args : Array Value} {below : List Frame} {meth : Method} {c : Code} {cells slots : Nat} {Q : State → Prop} {pc : Nat} {L : List (Option AV)} {st : List AV} {h : AH}
theorem k_getst (C : Cx D tc base own cc nL p s m args meth c) {n : String} {g : Nat → Int} {idx : Nat} (hZ : StA base n g s) (hlk : Cond.fieldLink own idx "RemontoirClock" n "[I" ∈ gl_w) (hd : decode cc pc = .ok (.getstatic idx, 3))
    (k : ∀ t : Nat, va_T .int t 6 (fun j => .int (zi (g j))) (fun q => base ≤ q) s s.heap → Wk D tc base nL p l e R s m args below meth c cells slots Q (pc + 3) (L) (aR t :: st) (h)) : Wk D tc base nL p l e R s m args below meth c cells slots Q (pc) (L) (st) (h) := by
  intro H locs ls hR hS hL
  obtain ⟨t, h1, h2⟩ := hZ
  exact va_gets C.1 C.2.1 h1 hS C.2.2.2.1 (C.2.2.2.2.1 _ hlk) (fun _ q => q) hd (k t h2 H locs ls hR hS hL)
theorem k_ialdst (C : Cx D tc base own cc nL p s m args meth c) {g : Nat → Int} {t : Nat} {j : Int} (hT : va_T .int t 6 (fun j => .int (zi (g j))) (fun q => base ≤ q) s s.heap) (h0 : 0 ≤ j) (h1 : j < 6) (hd : decode cc pc = .ok (.iaload, 1)) (k : Wk D tc base nL p l e R s m args below meth c cells slots Q (pc + 1) (L) (aI (g j.toNat) :: st) (h)) : Wk D tc base nL p l e R s m args below meth c cells slots Q (pc) (L) (aI j :: aR t :: st) (h) := by
  intro H locs ls hR hS hL
  refine va_ti (v := .int (zi (g j.toNat))) C.1 C.2.1 hT hS (zi_in h0 h1 (by omega)) ?_ hd (k H locs ls hR hS hL)
  rw [zi_clamp h0 (by omega)]
theorem k_alen (C : Cx D tc base own cc nL p s m args meth c) {a n : Nat} {f : Int → Int} (hd : decode cc pc = .ok (.arraylength, 1)) (hh : h a = some (eA 0 n f)) (k : Wk D tc base nL p l e R s m args below meth c cells slots Q (pc + 1) (L) (aI n :: st) (h)) : Wk D tc base nL p l e R s m args below meth c cells slots Q (pc) (L) (aR a :: st) (h) := by
  intro H locs ls hR hS hL
  exact va_alen (v := zi n) C.1 C.2.1 C.2.2.2.2.2.1 (va_P1 (hR a _ hh).2) 0 0 rfl rfl (zi_nI n) hd (k H locs ls hR hS hL)
theorem zi_i2c {x : Int} (h0 : 0 ≤ x) (h1 : x < 65536) : ((zi x).toUInt32 % 65536).toInt32 = zi x := by
  obtain ⟨n, rfl⟩ := Int.eq_ofNat_of_zero_le h0
  have e : (zi n).toUInt32 = UInt32.ofNat n := by
    unfold zi
    rw [Int32.ofInt_eq_ofNat]
    rfl
  rw [e]
  have e2 : UInt32.ofNat n % 65536 = UInt32.ofNat n := by
    apply UInt32.toNat_inj.mp
    rw [UInt32.toNat_mod]
    simp
    omega
  rw [e2, ← e]
  simp
theorem k_i2c (C : Cx D tc base own cc nL p s m args meth c) {x : Int} (h0 : 0 ≤ x) (h1 : x < 65536) (hd : decode cc pc = .ok (.i2c, 1)) (k : Wk D tc base nL p l e R s m args below meth c cells slots Q (pc + 1) (L) (aI x :: st) (h)) : Wk D tc base nL p l e R s m args below meth c cells slots Q (pc) (L) (aI x :: st) (h) :=
  fun H locs ls hR hS hL => lv_i2c C.1 C.2.1 hd (zi_i2c h0 h1) (k H locs ls hR hS hL)
end WKG
theorem lmV {w : Int} (hw : 0 ≤ w ∧ w ≤ 5) : (0 ≤ lV w.toNat ∧ lV w.toNat ≤ 30) ∧ (0 ≤ mV w.toNat ∧ mV w.toNat ≤ 30) := by
  rcases (show w = 0 ∨ w = 1 ∨ w = 2 ∨ w = 3 ∨ w = 4 ∨ w = 5 by omega) with rfl | rfl | rfl | rfl | rfl | rfl <;> decide
theorem zVal_lm {w v : Int} (hw : 0 ≤ w ∧ w ≤ 5) : zVal w v ↔ lV w.toNat ≤ v ∧ v ≤ mV w.toNat := by
  rcases (show w = 0 ∨ w = 1 ∨ w = 2 ∨ w = 3 ∨ w = 4 ∨ w = 5 by omega) with rfl | rfl | rfl | rfl | rfl | rfl
  · show _ ↔ ((2 : Int) ≤ v ∧ v ≤ 30)
    unfold zVal
    omega
  · show _ ↔ ((0 : Int) ≤ v ∧ v ≤ 20)
    unfold zVal
    omega
  · show _ ↔ ((1 : Int) ≤ v ∧ v ≤ 20)
    unfold zVal
    omega
  · show _ ↔ ((1 : Int) ≤ v ∧ v ≤ 12)
    unfold zVal
    omega
  · show _ ↔ ((0 : Int) ≤ v ∧ v ≤ 12)
    unfold zVal
    omega
  · show _ ↔ ((1 : Int) ≤ v ∧ v ≤ 12)
    unfold zVal
    omega

