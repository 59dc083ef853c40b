section WKCH
variable {D : va_G} {tc : Nat → ClassId} {base nL : Nat} {own : String} {cc : ByteArray} {p : Program} {l : Launch} {e : Env} {R : Room} {s : State} {m : MethodId} {args : Array Value} {below : List Frame} {meth : Method} {c : Code} {cells slots : Nat} {Q : State → Prop} {pc : Nat} {L : List (Option AV)} {st : List AV} {h : AH}
theorem zi_char {x : Int} (h0 : 0 ≤ x) (h1 : x < 65536) : (zi x).toUInt32.toUInt16.toUInt32.toInt32 = zi x := by
  rw [← Int32.toInt_inj]
  obtain ⟨n, rfl⟩ := Int.eq_ofNat_of_zero_le h0
  have hn : n < 65536 := by omega
  rw [← zi_nI]
  have := (pk_charN hn).1
  have h2 : narrow .char (.int (nI n)) = .int (vp_nar .char (nI n)) := by
    rw [this]
    unfold vp_nar
    rw [this]
  rw [← vp_nar_char]
  rw [this] at h2
  injection h2 with h3
  rw [← h3]
theorem k_castore (C : Cx D tc base own cc nL p s m args meth c) {a n : Nat} {f : Int → Int} {j x : Int} (hd : decode cc pc = .ok (.castore, 1)) (hh : h a = some (eA 1 n f)) (h0 : 0 ≤ j) (h1 : j < n) (hn : n < 2147483648) (hx0 : 0 ≤ x) (hx1 : x < 65536) (k : Wk D tc base nL p l e R s m args below meth c cells slots Q (pc + 1) (L) (st) (hs h a (eA 1 n (iu f j x)))) : Wk D tc base nL p l e R s m args below meth c cells slots Q (pc) (L) (aI x :: aI j :: aR a :: st) (h) := by
  intro H locs ls hR hS hL
  have hcell : H[a]? = some (vp_cell (tc 1) (n, .inl (fun k => zi (f k)))) := (hR a _ hh).2
  refine W.cast C.1 C.2.1 hcell ((C.2.2.2.2.2.1.2 1 _ rfl).1 n (fun j => .int (zi (f j)))) (fun q => by cases q) (by show ¬ (zi j < 0 ∨ (arrV _ _ _).slots.size ≤ _); rw [arrV_size]; exact zi_in h0 h1 hn) rfl rfl hd fun H1 e z oq => ?_
  refine k H1 _ ls (hR.set (hR a _ hh).1 ?_ oq) (hS.put z oq (hR a _ hh).1) hL
  show H1[a]? = some (vp_cell _ _)
  rw [e, vp_cell_i, arrV_store]
  show _ = some (vp_cell (tc 1) (n, .inl (fun k => zi (iu f j x k))))
  rw [vp_cell_i]
  obtain ⟨xn, rfl⟩ := Int.eq_ofNat_of_zero_le hx0
  have hnc := (pk_charN (show xn < 65536 by omega)).1
  rw [zi_nI] at hnc
  congr 2
  funext q
  rw [zi_clamp h0 (by omega)]
  by_cases hq : q = j.toNat
  · subst hq
    have : ((j.toNat : Nat) : Int) = j := by omega
    simp only [updV, iu, this, if_true]
    exact hnc
  · have : ¬ (q : Int) = j := by omega
    simp [updV, iu, hq, this]
end WKCH
/-- the class's reader, in the state (re, du, ro) of the reading -/
def RdA (h : AH) (q : Nat) (re du : Int) (ro : Int → Int) : Prop := ∃ wr tr pr : Int, h q = some (eO 2 [aI du, aI wr, aI tr, aI pr]) ∧ (¬ du = 0 → wr = ro (3 * re) ∧ tr = ro (3 * re + 1) ∧ pr = ro (3 * re + 2))
