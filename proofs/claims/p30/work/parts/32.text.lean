section WKCH
variable {D : va_G} {tc : Nat → ClassId} {base nL : Nat} {own : String} {cc : ByteArray} {p : Program} {l : Launch} {e : Env} {R : Room} {s : State} {m : MethodId} {args : Array Value} {below : List Frame} {meth : Method} {c : Code} {cells slots : Nat} {Q : State → Prop} {pc : Nat} {L : List (Option AV)} {st : List AV} {h : AH}
theorem zi_char {x : Int} (h0 : 0 ≤ x) (h1 : x < 65536) : (zi x).toUInt32.toUInt16.toUInt32.toInt32 = zi x := by
  rw [← Int32.toInt_inj]
  obtain ⟨n, rfl⟩ := Int.eq_ofNat_of_zero_le h0
  have hn : n < 65536 := by omega
  rw [← zi_nI]
  have := (pk_charN hn).1
  have h2 : narrow .char (.int (nI n)) = .int (vp_nar .char (nI n)) := by
    rw [this]
    unfold vp_nar
    rw [this]
  rw [← vp_nar_char]
  rw [this] at h2
  injection h2 with h3
  rw [← h3]
theorem k_castore (C : Cx D tc base own cc nL p s m args meth c) {a n : Nat} {f : Int → Int} {j x : Int} (hd : decode cc pc = .ok (.castore, 1)) (hh : h a = some (eA 1 n f)) (h0 : 0 ≤ j) (h1 : j < n) (hn : n < 2147483648) (hx0 : 0 ≤ x) (hx1 : x < 65536) (k : Wk D tc base nL p l e R s m args below meth c cells slots Q (pc + 1) (L) (st) (hs h a (eA 1 n (iu f j x)))) : Wk D tc base nL p l e R s m args below meth c cells slots Q (pc) (L) (aI x :: aI j :: aR a :: st) (h) := by
  intro H locs ls hR hS hL
  have hcell : H[a]? = some (vp_cell (tc 1) (n, .inl (fun k => zi (f k)))) := (hR a _ hh).2
  refine W.cast C.1 C.2.1 hcell ((C.2.2.2.2.2.1.2 1 _ rfl).1 n (fun j => .int (zi (f j)))) (fun q => by cases q) (by show ¬ (zi j < 0 ∨ (arrV _ _ _).slots.size ≤ _); rw [arrV_size]; exact zi_in h0 h1 hn) rfl rfl hd fun H1 e z oq => ?_
  refine k H1 _ ls (hR.set (hR a _ hh).1 ?_ oq) (hS.put z oq (hR a _ hh).1) hL
  show H1[a]? = some (vp_cell _ _)
  rw [e, vp_cell_i, arrV_store]
  show _ = some (vp_cell (tc 1) (n, .inl (fun k => zi (iu f j x k))))
  rw [vp_cell_i]
  obtain ⟨xn, rfl⟩ := Int.eq_ofNat_of_zero_le hx0
  have hnc := (pk_charN (show xn < 65536 by omega)).1
  rw [zi_nI] at hnc
  congr 2
  funext q
  rw [zi_clamp h0 (by omega)]
  by_cases hq : q = j.toNat
  · subst hq
    have : ((j.toNat : Nat) : Int) = j := by omega
    simp only [updV, iu, this, if_true]
    exact hnc
  · have : ¬ (q : Int) = j := by omega
    simp [updV, iu, hq, this]
end WKCH
/-- the class's reader, in the state (re, du, ro) of the reading -/
def RdA (h : AH) (q : Nat) (re du : Int) (ro : Int → Int) : Prop := ∃ wr tr pr : Int, h q = some (eO 2 [aI du, aI wr, aI tr, aI pr]) ∧ (¬ du = 0 → wr = ro (3 * re) ∧ tr = ro (3 * re + 1) ∧ pr = ro (3 * re + 2))
def cN (tx : Int → Int) : Nat → Int
  | 0 => 0
  | n + 1 => cN tx n + if tx n = 44 then 1 else 0
theorem cN_read {tx ro : Int → Int} : ∀ {n : Nat}, pFine tx ro n → cN tx n = (pS tx ro n).1
  | 0, _ => rfl
  | n + 1, h => by
    have ih := cN_read (n := n) (fun k hk => h k (by omega))
    have hok := h n (by omega)
    have hw := pW_rng (tx n)
    show cN tx n + (if tx n = 44 then 1 else 0) = (pStep (tx n) (pS tx ro n).1 (pS tx ro n).2.1 (pS tx ro n).2.2).1
    rw [ih]
    generalize (pS tx ro n).1 = r at *
    generalize (pS tx ro n).2.1 = d at *
    generalize (pS tx ro n).2.2 = o at *
    by_cases hd : d = 0
    · have hc : ¬ tx n = 44 := by
        intro h44
        rcases hok with hk | hk | hk | hk | hk
        · have : pW (tx n) = -1 := by rw [h44]; rfl
          exact hk.2 this
        all_goals omega
      unfold pStep
      rw [if_neg hc, if_pos hd, Int.add_zero]
    · unfold pStep
      rw [if_neg hd]
      by_cases h47 : tx n = 47
      · rw [if_neg (by omega), if_pos h47, Int.add_zero]
      · rw [if_neg h47]
        by_cases h44 : tx n = 44
        · rw [if_pos h44, if_pos h44]
        · rw [if_neg h44, if_neg h44, Int.add_zero]
/-- the class's text at t: length, signs, reader -/
def TxA (h : AH) (t : Nat) (ln : Int) (tx : Int → Int) : Prop := ∃ sg : Int → Int, h t = some (eO 4 [aI ln, aR (t + 1), aR (t + 2)]) ∧ h (t + 1) = some (eA 1 60 sg) ∧ (0 ≤ ln ∧ ln ≤ 60) ∧ (∀ k : Int, 0 ≤ k → k < ln → sg k = tx k ∧ 33 ≤ tx k ∧ tx k ≤ 126) ∧ ∃ a b c d : Int, h (t + 2) = some (eO 2 [aI a, aI b, aI c, aI d])
def pWhole (tx ro : Int → Int) (n : Nat) : Prop := pFine tx ro n ∧ (pS tx ro n).2.1 = 2 ∧ 0 < (pS tx ro n).2.2 (3 * (pS tx ro n).1 + 2)
theorem pStep_low {c r d : Int} {ro : Int → Int} {j : Int} (hd : 0 ≤ d) (hj : j < 3 * r) : (pStep c r d ro).2.2 j = ro j := by
  unfold pStep
  split
  · show iu _ _ _ j = _
    rw [iu_ne (by omega), iu_ne (by omega), iu_ne (by omega)]
  · split
    · rfl
    · split
      · rfl
      · show iu _ _ _ j = _
        rw [iu_ne (by omega)]
/-- the winders that the first n rounds make -/
def wMade (ro : Int → Int) (mi n : Int) (F1 F2 F3 F4 F5 : Int → Int) : Prop := ∀ j : Int, 0 ≤ j → j < n → F1 j = ro (3 * j) ∧ F2 j = ro (3 * j + 1) ∧ F3 j = ro (3 * j + 2) ∧ F4 j = mi + ro (3 * j + 2) ∧ F5 j = 0
theorem wMade_add {ro : Int → Int} {mi n : Int} {F1 F2 F3 F4 F5 : Int → Int} (h : wMade ro mi n F1 F2 F3 F4 F5) : wMade ro mi (n + 1) (iu F1 n (ro (3 * n))) (iu F2 n (ro (3 * n + 1))) (iu F3 n (ro (3 * n + 2))) (iu F4 n (mi + ro (3 * n + 2))) (iu F5 n 0) := by
  intro j h0 h1
  by_cases hj : j = n
  · subst hj
    simp only [iu_eq]
    exact ⟨trivial, trivial, trivial, trivial, trivial⟩
  · simp only [iu_ne hj]
    exact h j h0 (by omega)
theorem wMade_cong {ro ro' : Int → Int} {mi n : Int} {F1 F2 F3 F4 F5 : Int → Int} (h : wMade ro mi n F1 F2 F3 F4 F5) (hr : ∀ j : Int, j < 3 * n → ro' j = ro j) : wMade ro' mi n F1 F2 F3 F4 F5 := by
  intro j h0 h1
  have := h j h0 h1
  rw [hr _ (by omega), hr _ (by omega), hr _ (by omega)]
  exact this
theorem SAt.cong {h : AH} {o : Nat} {z y : RZ} (hS : SAt h o z) (hzy : ∀ j : Int, 0 ≤ j → j < 67 → z j = y j) (h21 : z 21 ≤ 6) (h52 : z 52 ≤ 4) : SAt h o y := by
  obtain ⟨f1, f2, f3, w1, w2, w3, w4, w5, d1, d2, se, ⟨g0, g1, g2, g3, g4, g5, g6, g7, g8, g9, g10, g11, g12, g13, g14⟩, r1, r2, r3, r4⟩ := hS
  have e : ∀ j : Int, 0 ≤ j → j < 67 → y j = z j := fun j h0 h1 => (hzy j h0 h1).symm
  refine ⟨f1, f2, f3, w1, w2, w3, w4, w5, d1, d2, se, ⟨?_, g1, g2, g3, g4, ?_, g6, g7, g8, g9, g10, ?_, g12, g13, g14⟩, fun k h0 h1 => ?_, fun k h0 h1 => ?_, fun k h0 h1 => ?_, fun k h0 h1 => ?_⟩
  · simp (disch := omega) only [e]
    exact g0
  · simp (disch := omega) only [e]
    exact g5
  · simp (disch := omega) only [e]
    exact g11
  · simp (disch := omega) only [e]
    exact r1 k h0 h1
  · rw [e 21 (by omega) (by omega)] at h1
    simp (disch := omega) only [e]
    exact r2 k h0 h1
  · rw [e 52 (by omega) (by omega)] at h1
    simp (disch := omega) only [e]
    exact r3 k h0 h1
  · simp (disch := omega) only [e]
    exact r4 k h0 h1
theorem zInv.cong {z y : RZ} (hi : zInv z) (hzy : ∀ j : Int, 0 ≤ j → j < 67 → z j = y j) : zInv y := by
  obtain ⟨hsc, hwi, hde⟩ := hi
  have e : ∀ j : Int, 0 ≤ j → j < 67 → y j = z j := fun j h0 h1 => (hzy j h0 h1).symm
  have h21 := hsc.2.2.2.2.2.2.2.2.1
  have h52 := hsc.2.2.2.2.2.2.2.2.2.1
  refine ⟨?_, fun k h0 h1 => ?_, fun k h0 h1 => ?_⟩
  · simp (disch := omega) only [e]
    exact hsc
  · rw [e 21 (by omega) (by omega)] at h1
    simp (disch := omega) only [e]
    exact hwi k h0 h1
  · rw [e 52 (by omega) (by omega)] at h1
    simp (disch := omega) only [e]
    exact hde k h0 h1
section WKNU
variable {D : va_G} {tc : Nat → ClassId} {base nL : Nat} {own : String} {cc : ByteArray} {p : Program} {l : Launch} {e : Env} {R : Room} {s : State} {m : MethodId} {args : Array Value} {below : List Frame} {meth : Method} {c : Code} {cells slots : Nat} {Q : State → Prop} {pc : Nat} {L : List (Option AV)} {st : List AV} {h : AH}
theorem k_ifnull (C : Cx D tc base own cc nL p s m args meth c) {a : Nat} {off : Int} (hd : decode cc pc = .ok (.ifnull off, 3)) (k : Wk D tc base nL p l e R s m args below meth c cells slots Q (pc + 3) (L) (st) (h)) : Wk D tc base nL p l e R s m args below meth c cells slots Q (pc) (L) (aR a :: st) (h) :=
  fun H locs ls hR hS hL => lv_ifnull C.1 C.2.1 hd (k H locs ls hR hS hL)
end WKNU

