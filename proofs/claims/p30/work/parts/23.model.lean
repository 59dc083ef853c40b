/-! THE MODEL at o: its object, its rows z, history, text, aside, rounds -/
def MA (h : AH) (o : Nat) (z hi tx as ro : Int → Int) (st ln th re du hsh : Int) : Prop :=
  h o = some (eO 8 [aR (o + 1), aI st, aR (o + 2), aI ln, aR (o + 3), aI th, aR (o + 4), aR (o + 5), aI re, aI du, aL hsh]) ∧ h (o + 1) = some (eA 0 67 z) ∧ h (o + 2) = some (eA 0 402 hi) ∧ h (o + 3) = some (eA 0 60 tx) ∧ h (o + 4) = some (eA 0 67 as) ∧ h (o + 5) = some (eA 0 63 ro)
theorem MA.fr {h h' : AH} {o : Nat} {z hi tx as ro : Int → Int} {st ln th re du hsh : Int} (hM : MA h o z hi tx as ro st ln th re du hsh) (hq : ∀ a : Nat, o ≤ a → a < o + 6 → h' a = h a) : MA h' o z hi tx as ro st ln th re du hsh := by
  obtain ⟨g0, g1, g2, g3, g4, g5⟩ := hM
  refine ⟨?_, ?_, ?_, ?_, ?_, ?_⟩ <;> (rw [hq _ (by omega) (by omega)]; assumption)
/-- a row set into a larger one at b, its first kk numbers -/
def hPut (f : Int → Int) (b : Int) (z : Int → Int) (kk : Int) : Int → Int := fun j => if b ≤ j ∧ j < b + kk then z (j - b) else f j
theorem hPut_0 (f : Int → Int) (b : Int) (z : Int → Int) : hPut f b z 0 = f := by
  funext j
  exact if_neg (by omega)
theorem hPut_s (f : Int → Int) (b : Int) (z : Int → Int) {kk : Int} (h : 0 ≤ kk) : iu (hPut f b z kk) (b + kk) (z kk) = hPut f b z (kk + 1) := by
  funext j
  simp only [iu, hPut]
  by_cases hj : j = b + kk
  · subst hj
    rw [if_pos rfl, if_pos (by omega)]
    congr 1
    omega
  · rw [if_neg hj]
    by_cases hc : b ≤ j ∧ j < b + kk
    · rw [if_pos hc, if_pos (by omega)]
    · rw [if_neg hc, if_neg (by omega)]
theorem hPut_in {f : Int → Int} {b : Int} {z : Int → Int} {kk j : Int} (h0 : 0 ≤ j) (h1 : j < kk) : hPut f b z kk (b + j) = z j := by
  unfold hPut
  rw [if_pos (by omega)]
  congr 1
  omega
theorem hPut_out {f : Int → Int} {b : Int} {z : Int → Int} {kk j : Int} (h : j < b ∨ b + kk ≤ j) : hPut f b z kk j = f j := by
  unfold hPut
  rw [if_neg (by omega)]
/-- the first kk numbers of another row -/
def hCp (f g : Int → Int) (kk : Int) : Int → Int := fun j => if 0 ≤ j ∧ j < kk then g j else f j
theorem hCp_0 (f g : Int → Int) : hCp f g 0 = f := by
  funext j
  exact if_neg (by omega)
theorem hCp_s (f g : Int → Int) {kk : Int} (h : 0 ≤ kk) : iu (hCp f g kk) kk (g kk) = hCp f g (kk + 1) := by
  funext j
  simp only [iu, hCp]
  by_cases hj : j = kk
  · subst hj
    rw [if_pos rfl, if_pos (by omega)]
  · rw [if_neg hj]
    by_cases hc : 0 ≤ j ∧ j < kk
    · rw [if_pos hc, if_pos (by omega)]
    · rw [if_neg hc, if_neg (by omega)]
theorem hCp_in {f g : Int → Int} {kk j : Int} (h0 : 0 ≤ j) (h1 : j < kk) : hCp f g kk j = g j := if_pos ⟨h0, h1⟩
/-- the oldest of six rows falls out -/
def hShift (f : Int → Int) (kk : Int) : Int → Int := fun j => if 0 ≤ j ∧ j < kk - 67 then f (j + 67) else f j
theorem hShift_0 (f : Int → Int) : hShift f 67 = f := by
  funext j
  exact if_neg (by omega)
theorem hShift_at (f : Int → Int) (kk : Int) : hShift f kk kk = f kk := if_neg (by omega)
theorem hShift_s (f : Int → Int) {kk : Int} (h : 67 ≤ kk) : iu (hShift f kk) (kk - 67) (f kk) = hShift f (kk + 1) := by
  funext j
  simp only [iu, hShift]
  by_cases hj : j = kk - 67
  · subst hj
    rw [if_pos rfl, if_pos (by omega)]
    congr 1
    omega
  · rw [if_neg hj]
    by_cases hc : 0 ≤ j ∧ j < kk - 67
    · rw [if_pos hc, if_pos (by omega)]
    · rw [if_neg hc, if_neg (by omega)]
def sHi (z hi : Int → Int) (st : Int) : Int → Int := if st = 6 then hPut (hShift hi 402) 335 z 67 else hPut hi (67 * st) z 67
def sSt (st : Int) : Int := if st = 6 then 6 else st + 1
def zComes (z : RZ) (w t p : Int) : RZ := iu (iu (iu (iu (iu (iu z (22 + 5 * z 21) w) (22 + 5 * z 21 + 1) t) (22 + 5 * z 21 + 2) p) (22 + 5 * z 21 + 3) (z 13 + p)) (22 + 5 * z 21 + 4) 0) 21 (z 21 + 1)
/-- winder d goes, the count is one less -/
def zDisK (z : RZ) (n a kk : Int) : RZ := fun j => if j = 21 then n else if a ≤ j ∧ j < kk then z (j + 5) else z j
theorem zDisK_0 (z : RZ) (a : Int) : iu z 21 (z 21 - 1) = zDisK z (z 21 - 1) a a := by
  funext j
  simp only [iu, zDisK]
  by_cases hj : j = 21
  · rw [if_pos hj, if_pos hj]
  · rw [if_neg hj, if_neg hj, if_neg (by omega)]
theorem zDisK_21 (z : RZ) (n a kk : Int) : zDisK z n a kk 21 = n := if_pos rfl
theorem zDisK_hi {z : RZ} {n a kk j : Int} (h : kk ≤ j) (h21 : 22 ≤ j) : zDisK z n a kk j = z j := by
  unfold zDisK
  rw [if_neg (by omega), if_neg (by omega)]
theorem zDisK_s (z : RZ) (n : Int) {a kk : Int} (h : 22 ≤ a) (h2 : a ≤ kk) : iu (zDisK z n a kk) kk (z (kk + 5)) = zDisK z n a (kk + 1) := by
  funext j
  simp only [iu, zDisK]
  by_cases hj : j = kk
  · subst hj
    rw [if_pos rfl, if_neg (by omega), if_pos (by omega)]
  · rw [if_neg hj]
    by_cases h1 : j = 21
    · rw [if_pos h1, if_pos h1]
    · rw [if_neg h1, if_neg h1]
      by_cases hc : a ≤ j ∧ j < kk
      · rw [if_pos hc, if_pos (by omega)]
      · rw [if_neg hc, if_neg (by omega)]

