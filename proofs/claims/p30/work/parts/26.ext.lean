/-! a row of numbers may be told by any function that agrees within its length -/
theorem arrV_cong {cI : ClassId} {N : Nat} {f g : Nat → Value} (h : ∀ j : Nat, j < N → f j = g j) : arrV cI N f = arrV cI N g := by
  unfold arrV
  congr 1
  apply Array.ext
  · simp
  · intro i h1 h2
    simp only [Array.getElem_ofFn]
    exact h i (by simpa using h1)
theorem Rep.ext {D : va_G} {tc : Nat → ClassId} {base : Nat} {h : AH} {H : Heap} {a n : Nat} {f g : Int → Int} (hR : Rep D tc base h H) (hh : h a = some (eA 0 n f)) (hfg : ∀ j : Int, 0 ≤ j → j < n → f j = g j) : Rep D tc base (hs h a (eA 0 n g)) H := by
  refine hR.set (hR a _ hh).1 ?_ (fun _ _ => rfl)
  have h1 : H[a]? = some (vp_cell (tc 0) (n, .inl (fun k => zi (f k)))) := (hR a _ hh).2
  show H[a]? = some (vp_cell (tc 0) (n, .inl (fun k => zi (g k))))
  rw [h1, vp_cell_i, vp_cell_i]
  exact congrArg some (arrV_cong (fun j hj => by show Value.int (zi (f j)) = Value.int (zi (g j)); rw [hfg j (by omega) (by omega)]))
theorem k_ext {D : va_G} {tc : Nat → ClassId} {base nL : Nat} {p : Program} {l : Launch} {e : Env} {R : Room} {s : State} {m : MethodId} {args : Array Value} {below : List Frame} {meth : Method} {c : Code} {cells slots : Nat} {Q : State → Prop} {pc : Nat} {L : List (Option AV)} {st : List AV} {h : AH} {a n : Nat} {f : Int → Int} (g : Int → Int) (hh : h a = some (eA 0 n f)) (hfg : ∀ j : Int, 0 ≤ j → j < n → f j = g j) (k : Wk D tc base nL p l e R s m args below meth c cells slots Q (pc) (L) (st) (hs h a (eA 0 n g))) : Wk D tc base nL p l e R s m args below meth c cells slots Q (pc) (L) (st) (h) :=
  fun H locs ls hR hS hL => k H locs ls (hR.ext hh hfg) hS hL
def zWin (z : RZ) (w q : Int) : Int := if q = 3 then (if zDue z w then 0 else z (22 + 5 * w + 3) - z 13) else if q = 4 then z (22 + 5 * w + 4) else if q = 5 then (if zDue z w ∧ zKept z w then 1 else 0) else z (22 + 5 * w + q)
def zCnt (z : RZ) (st q : Int) : Int := if q = 0 then z 13 else if q = 1 then z 10 else if q = 2 then z 9 else if q = 3 then z 11 else if q = 4 then z 12 else if q = 5 then z 52 else if q = 6 then zOwed z else if q = 14 then z 21 else if q = 15 then (z 13 + 720 - z 10) % 720 else if q = 16 then (if zSil z then 1 else 0) else if q = 17 then st else z (14 + q - 7)
def zWhy (z : RZ) (q : Int) : Int := if q = 2 then zNoC z else if q = 0 then zHow (zTwo (zOne z)) else zNoS (zFP z)
/-- whether the clock stands in the minute behind n minutes -/
abbrev zStops (z : RZ) (n : Nat) : Prop := zHow (zTwo (zOne (zGo z n))) = 1
def zStN (z : RZ) : Nat → Int
  | 0 => -1
  | n + 1 => if zStN z n = -1 then (if zStops z n then (n : Int) else -1) else zStN z n
theorem zStN_stay (z : RZ) {n m : Nat} (h : n ≤ m) (hn : ¬ zStN z n = -1) : zStN z m = zStN z n := by
  induction m with
  | zero =>
    have : n = 0 := by omega
    subst this
    rfl
  | succ m ih =>
    by_cases hnm : n = m + 1
    · subst hnm
      rfl
    · have := ih (by omega)
      simp only [zStN]
      rw [this, if_neg hn]
theorem zStN_rng (z : RZ) : ∀ n : Nat, -1 ≤ zStN z n ∧ zStN z n < n
  | 0 => ⟨by simp [zStN], by simp [zStN]⟩
  | n + 1 => by
    have ih := zStN_rng z n
    simp only [zStN]
    (repeat' split) <;> omega
def zPaN (z : RZ) : Nat → Int
  | 0 => -1
  | n + 1 => if zPaN z n = -1 then (if zGo z n 52 = 0 then (n : Int) else -1) else zPaN z n
theorem zPaN_stay (z : RZ) {n m : Nat} (h : n ≤ m) (hn : ¬ zPaN z n = -1) : zPaN z m = zPaN z n := by
  induction m with
  | zero =>
    have : n = 0 := by omega
    subst this
    rfl
  | succ m ih =>
    by_cases hnm : n = m + 1
    · subst hnm
      rfl
    · have := ih (by omega)
      simp only [zPaN]
      rw [this, if_neg hn]
def zFdK (z : RZ) : Nat → Nat
  | 0 => 0
  | n + 1 => if zDown (zGo z (zFdK z n)) = -1 then zFdK z n + 1 else zFdK z n
theorem zFdK_all (z : RZ) : ∀ {n : Nat}, (∀ k : Nat, k < n → zDown (zGo z k) = -1) → zFdK z n = n
  | 0, _ => rfl
  | n + 1, h => by
    have ih := zFdK_all z (n := n) (fun k hk => h k (by omega))
    simp only [zFdK]
    rw [ih, if_pos (h n (by omega))]
theorem zFdK_stay (z : RZ) {n m : Nat} (h : n ≤ m) (hn : ¬ zDown (zGo z (zFdK z n)) = -1) : zFdK z m = zFdK z n := by
  induction m with
  | zero =>
    have : n = 0 := by omega
    subst this
    rfl
  | succ m ih =>
    by_cases hnm : n = m + 1
    · subst hnm
      rfl
    · have := ih (by omega)
      simp only [zFdK]
      rw [this, if_neg hn]
/-- the clock goes through n minutes with t turns more -/
def zGoes (z : RZ) (t : Int) (n : Nat) : Prop := ∀ k : Nat, k < n → ¬ zStops (iu z 0 (z 0 + t)) k
/-- what leastTurns answers: the least t up to the bound that is enough, or none -/
def zLeast (z : RZ) (n : Nat) (r : Int) : Prop := (0 ≤ r ∧ r ≤ 200 - z 0 ∧ zGoes z r n ∧ ∀ t : Int, 0 ≤ t → t < r → ¬ zGoes z t n) ∨ (r = -1 ∧ ∀ t : Int, 0 ≤ t → t ≤ 200 - z 0 → ¬ zGoes z t n)
theorem zLeast_one {z : RZ} {n : Nat} {r r' : Int} (h : zLeast z n r) (h' : zLeast z n r') : r = r' := by
  rcases h with ⟨a0, a1, a2, a3⟩ | ⟨a0, a1⟩
  · rcases h' with ⟨b0, b1, b2, b3⟩ | ⟨b0, b1⟩
    · rcases Int.lt_trichotomy r r' with hlt | heq | hgt
      · exact absurd a2 (b3 r a0 hlt)
      · exact heq
      · exact absurd b2 (a3 r' b0 hgt)
    · exact absurd a2 (b1 r a0 a1)
  · rcases h' with ⟨b0, b1, b2, b3⟩ | ⟨b0, b1⟩
    · exact absurd b2 (a1 r' b0 b1)
    · omega
def zFd (z : RZ) : Int := zDown (zGo z (zFdK z 1500))
theorem zDown_rng (z : RZ) : zDown z = 0 ∨ zDown z = 1 ∨ zDown z = 2 ∨ zDown z = -1 := by
  unfold zDown
  (repeat' split) <;> simp

