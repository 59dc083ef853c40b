/-- row k of the saved ones -/
def hRow (hi : Int → Int) (k : Nat) : RZ := fun j => hi (67 * (k : Int) + j)
/-- the class's history at hh: a ring of six states; what it has saved, the oldest first, is hi's rows -/
def HAt (h : AH) (hh : Nat) (st : Int) (hi : Int → Int) : Prop := ∃ (ol : Int) (f : Int → Option Nat), (0 ≤ ol ∧ ol < 6) ∧ h hh = some (eO 1 [aI st, aI ol, aR (hh + 1)]) ∧ h (hh + 1) = some (eR 6 f) ∧ (∀ j : Nat, j < 6 → f j = some (hh + 2 + 15 * j)) ∧ (∀ j : Nat, j < 6 → ∃ zj : RZ, SAt h (hh + 2 + 15 * j) zj) ∧ (∀ k : Nat, (k : Int) < st → SAt h (hh + 2 + 15 * ((ol + k) % 6).toNat) (hRow hi k) ∧ zOk (hRow hi k) ∧ hRow hi k 13 ≤ 20000)
theorem HAt.fr {h h' : AH} {hh : Nat} {st : Int} {hi : Int → Int} (hH : HAt h hh st hi) (hq : ∀ a : Nat, hh ≤ a → a < hh + 92 → h' a = h a) (hst : st ≤ 6) : HAt h' hh st hi := by
  obtain ⟨ol, f, h1, h2, h3, h4, h5, h6⟩ := hH
  refine ⟨ol, f, h1, by rw [hq _ (by omega) (by omega)]; exact h2, by rw [hq _ (by omega) (by omega)]; exact h3, h4, fun j hj => ?_, fun k hk => ?_⟩
  · obtain ⟨zj, hz⟩ := h5 j hj
    exact ⟨zj, hz.fr (fun a a0 a1 => hq a (by omega) (by omega))⟩
  · have := h6 k hk
    exact ⟨this.1.fr (fun a a0 a1 => hq a (by omega) (by omega)), this.2⟩
theorem zOk.cong {z y : RZ} (h : zOk z) (hzy : ∀ j : Int, 0 ≤ j → j < 67 → z j = y j) : zOk y := by
  refine ⟨h.1.cong hzy, ?_⟩
  rw [← hzy 18 (by omega) (by omega), ← hzy 19 (by omega) (by omega), ← hzy 13 (by omega) (by omega)]
  exact h.2
theorem sHi_new {z hi : Int → Int} {st : Int} (h0 : 0 ≤ st) (h6 : st ≤ 6) {k : Nat} (hk : (k : Int) + 1 = sSt st) : ∀ j : Int, 0 ≤ j → j < 67 → z j = hRow (sHi z hi st) k j := by
  intro j j0 j1
  unfold hRow sHi
  unfold sSt at hk
  split
  · rename_i e6
    rw [if_pos e6] at hk
    rw [show 67 * (k : Int) + j = 335 + j by omega, hPut_in j0 j1]
  · rename_i e6
    rw [if_neg e6] at hk
    rw [show 67 * (k : Int) + j = 67 * st + j by omega, hPut_in j0 j1]
theorem sHi_old {z hi : Int → Int} {st : Int} (h0 : 0 ≤ st) (h6 : st < 6) {k : Nat} (hk : (k : Int) < st) : ∀ j : Int, 0 ≤ j → j < 67 → hRow hi k j = hRow (sHi z hi st) k j := by
  intro j j0 j1
  unfold hRow sHi
  rw [if_neg (by omega), hPut_out (by omega)]
theorem sHi_oldS {z hi : Int → Int} {k : Nat} (hk : k < 5) : ∀ j : Int, 0 ≤ j → j < 67 → hRow hi (k + 1) j = hRow (sHi z hi 6) k j := by
  intro j j0 j1
  unfold hRow sHi
  rw [if_pos rfl, hPut_out (by omega)]
  unfold hShift
  rw [if_pos (by omega)]
  congr 1
  omega

