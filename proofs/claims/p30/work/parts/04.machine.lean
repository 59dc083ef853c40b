/-! THE MACHINE OVER WHOLE NUMBERS: values, cells and locals as the rest of the proof speaks of them; a row for each instruction. -/
def zi (z : Int) : Int32 := Int32.ofInt z
def zj (z : Int) : Int64 := Int64.ofInt z
abbrev AV : Type := Int ⊕ (Option Nat ⊕ (Int ⊕ UInt64))
abbrev aI (z : Int) : AV := Sum.inl z
abbrev aR (a : Nat) : AV := Sum.inr (Sum.inl (some a))
abbrev aN : AV := Sum.inr (Sum.inl none)
abbrev aL (z : Int) : AV := Sum.inr (Sum.inr (Sum.inl z))
abbrev aD (x : UInt64) : AV := Sum.inr (Sum.inr (Sum.inr x))
def cv : AV → Value
  | .inl z => .int (zi z)
  | .inr (.inl (some a)) => .ref a
  | .inr (.inl none) => .null
  | .inr (.inr (.inl z)) => .long (zj z)
  | .inr (.inr (.inr x)) => .double x
abbrev AE : Type := (Nat × List AV) ⊕ (Nat × Nat × ((Int → Int) ⊕ (Int → Option Nat)))
abbrev AH : Type := Nat → Option AE
abbrev eO (c : Nat) (fs : List AV) : AE := Sum.inl (c, fs)
abbrev eA (t n : Nat) (f : Int → Int) : AE := Sum.inr (t, n, Sum.inl f)
abbrev eR (n : Nat) (f : Int → Option Nat) : AE := Sum.inr (3, n, Sum.inr f)
def ce (tc : Nat → ClassId) : AE → va_E
  | .inl (c, fs) => .inr (c, fs.map cv)
  | .inr (2, n, .inl f) => .inl (tc 2, n, .inr (.inl (fun k => zj (f k))))
  | .inr (t, n, .inl f) => .inl (tc t, n, .inl (fun k => zi (f k)))
  | .inr (_, n, .inr f) => .inl (tc 3, n, .inr (.inr (.inr (.inr (fun k => f k)))))
def tyl (tc : Nat → ClassId) : List (ClassId × FieldType) := [(tc 0, .int), (tc 1, .char), (tc 2, .byte), (tc 3, .object "RemontoirClock$State")]
def hs (h : AH) (a : Nat) (e : AE) : AH := fun j => if j = a then some e else h j
theorem hs_eq (h : AH) (a : Nat) (e : AE) : hs h a e a = some e := by simp [hs]
theorem hs_ne {h : AH} {a b : Nat} {e : AE} {r : Option AE} (hb : b ≠ a) (hr : h b = r) : hs h a e b = r := by simp [hs, hb, hr]
theorem hs_hs (h : AH) (a : Nat) (e e2 : AE) : hs (hs h a e) a e2 = hs h a e2 := by funext j; simp only [hs]; split <;> rfl
def Rep (D : va_G) (tc : Nat → ClassId) (base : Nat) (h : AH) (H : Heap) : Prop := ∀ a e, h a = some e → base ≤ a ∧ va_at D vwCl (a, ce tc e) H
theorem Rep.set {D : va_G} {tc : Nat → ClassId} {base : Nat} {h : AH} {H H1 : Heap} {a : Nat} {e : AE} (hR : Rep D tc base h H) (ha : base ≤ a) (he : va_at D vwCl (a, ce tc e) H1) (hq : ∀ q : Nat, q ≠ a → H1[q]? = H[q]?) : Rep D tc base (hs h a e) H1 := by
  intro b e' hb
  by_cases hba : b = a
  · subst hba
    rw [hs_eq] at hb
    cases hb
    exact ⟨ha, he⟩
  · simp only [hs, hba, if_false] at hb
    exact ⟨(hR b e' hb).1, (hR b e' hb).2.kept (hq b hba)⟩
/-! numbers -/
theorem zi_add (a b : Int) : zi a + zi b = zi (a + b) := by simp [zi, Int32.ofInt_add]
theorem zi_sub (a b : Int) : zi a - zi b = zi (a - b) := by simp [zi, Int32.ofInt_sub]
theorem zi_mul (a b : Int) : zi a * zi b = zi (a * b) := by simp [zi, Int32.ofInt_mul]
theorem zj_add (a b : Int) : zj a + zj b = zj (a + b) := by simp [zj, Int64.ofInt_add]
theorem zj_sub (a b : Int) : zj a - zj b = zj (a - b) := by simp [zj, Int64.ofInt_sub]
theorem zj_mul (a b : Int) : zj a * zj b = zj (a * b) := by simp [zj, Int64.ofInt_mul]
/-- a number of 32 bits -/
abbrev r32 (z : Int) : Prop := -2147483648 ≤ z ∧ z < 2147483648
abbrev r64 (z : Int) : Prop := -9223372036854775808 ≤ z ∧ z < 9223372036854775808
theorem zi_toInt {z : Int} (h : r32 z) : (zi z).toInt = z := by
  unfold zi
  rw [Int32.toInt_ofInt]
  show Int.bmod z 4294967296 = z
  exact Int.bmod_eq_of_le (by omega) (by omega)
theorem zj_toInt {z : Int} (h : r64 z) : (zj z).toInt = z := by
  unfold zj
  rw [Int64.toInt_ofInt]
  show Int.bmod z 18446744073709551616 = z
  exact Int.bmod_eq_of_le (by omega) (by omega)
theorem zi_of (x : Int32) : zi x.toInt = x := by
  unfold zi
  exact Int32.ofInt_toInt x
theorem r32_of (x : Int32) : r32 x.toInt := ⟨by have := Int32.le_toInt x; simpa using this, by have := Int32.toInt_lt x; simpa using this⟩
theorem zi_lt {a b : Int} (ha : r32 a) (hb : r32 b) : zi a < zi b ↔ a < b := by rw [Int32.lt_iff_toInt_lt, zi_toInt ha, zi_toInt hb]
theorem zi_le {a b : Int} (ha : r32 a) (hb : r32 b) : zi a ≤ zi b ↔ a ≤ b := by rw [Int32.le_iff_toInt_le, zi_toInt ha, zi_toInt hb]
theorem zi_eq {a b : Int} (ha : r32 a) (hb : r32 b) : zi a = zi b ↔ a = b := by rw [← Int32.toInt_inj, zi_toInt ha, zi_toInt hb]
theorem zi_0 : zi 0 = 0 := by decide +kernel
theorem zi_nI (n : Nat) : nI n = zi n := by
  unfold nI zi
  exact (Int32.ofInt_eq_ofNat).symm
theorem zi_clamp {z : Int} (h0 : 0 ≤ z) (h : z < 2147483648) : (zi z).toNatClampNeg = z.toNat := by
  rw [Int32.toNatClampNeg, zi_toInt ⟨by omega, h⟩]
theorem zi_in {z : Int} {n : Nat} (h0 : 0 ≤ z) (h : z < n) (hn : n < 2147483648) : vp_in (zi z) n := by
  rw [vp_in_iff, zi_toInt ⟨by omega, by omega⟩]
  exact ⟨h0, h⟩
theorem zi_div {a b : Int} (ha0 : 0 ≤ a) (ha : a < 2147483648) (hb0 : 0 < b) (hb : b < 2147483648) : zi a / zi b = zi (a / b) := by
  obtain ⟨x, rfl⟩ := Int.eq_ofNat_of_zero_le ha0
  obtain ⟨y, rfl⟩ := Int.eq_ofNat_of_zero_le (Int.le_of_lt hb0)
  rw [← zi_nI, ← zi_nI, pk_div (by omega) (by omega) (by omega), zi_nI]
  rfl
theorem zi_rem {a b : Int} (ha0 : 0 ≤ a) (ha : a < 2147483648) (hb0 : 0 < b) (hb : b < 2147483648) : zi a - zi a / zi b * zi b = zi (a % b) := by
  rw [zi_div ha0 ha hb0 hb, zi_mul, zi_sub]
  congr 1
  have := Int.mul_ediv_add_emod a b
  rw [Int.mul_comm]
  omega
/-! locals -/
def asc : Nat → List (Option AV) → List (Nat × Value)
  | _, [] => []
  | i, none :: t => asc (i + 1) t
  | i, some v :: t => (i, cv v) :: asc (i + 1) t
theorem asc_mem {L : List (Option AV)} : ∀ {i : Nat} {q : Nat × Value}, q ∈ asc i L ↔ ∃ (k : Nat) (v : AV), L[k]? = some (some v) ∧ q = (i + k, cv v) := by
  induction L with
  | nil => intro i q; simp [asc]
  | cons a t ih =>
    intro i q
    cases a with
    | none =>
      simp only [asc, ih]
      constructor
      · rintro ⟨k, v, h1, h2⟩
        exact ⟨k + 1, v, by simpa using h1, by rw [h2]; congr 1; omega⟩
      · rintro ⟨k, v, h1, h2⟩
        cases k with
        | zero => simp at h1
        | succ k => exact ⟨k, v, by simpa using h1, by rw [h2]; congr 1; omega⟩
    | some w =>
      simp only [asc, List.mem_cons, ih]
      constructor
      · rintro (h | ⟨k, v, h1, h2⟩)
        · exact ⟨0, w, rfl, h⟩
        · exact ⟨k + 1, v, by simpa using h1, by rw [h2]; congr 1; omega⟩
      · rintro ⟨k, v, h1, h2⟩
        cases k with
        | zero =>
          simp at h1
          subst h1
          exact Or.inl h2
        | succ k => exact Or.inr ⟨k, v, by simpa using h1, by rw [h2]; congr 1; omega⟩
def lvP (ls : Array Slot) (nL : Nat) (L : List (Option AV)) : Prop := lv_has ls nL (asc 0 L)
theorem lvP.get {ls : Array Slot} {nL : Nat} {L : List (Option AV)} (h : lvP ls nL L) {i : Nat} {v : AV} (hi : L[i]? = some (some v)) : ls[i]? = some (.val (cv v)) := by
  have := h.2.2 (0 + i, cv v) (asc_mem.mpr ⟨i, v, hi, rfl⟩)
  simpa using this
theorem lvP.getl {ls : Array Slot} {nL : Nat} {L : List (Option AV)} (h : lvP ls nL L) {i : Nat} {v : AV} (hi : L[i]? = some (some v)) : ∃ k : Nat, (asc 0 L)[k]? = some (i, cv v) := by
  have := List.getElem?_of_mem (asc_mem (i := 0) (L := L).mpr ⟨i, v, hi, rfl⟩)
  simpa using this
/-- the place below isn't the first half of a wide value -/
def wSb (L : List (Option AV)) : Nat → Bool
  | 0 => true
  | j + 1 => match L[j]? with
    | some (some (.inr (.inr _))) => false
    | _ => true
theorem wSb_spec {L : List (Option AV)} {i j : Nat} {v : AV} (h : wSb L i = true) (hj : j + 1 = i) (hv : L[j]? = some (some v)) : ¬ (cv v).category = 2 := by
  subst hj
  simp only [wSb, hv] at h
  match v, h with
  | .inl z, _ => simp [cv, Value.category]
  | .inr (.inl (some a)), _ => simp [cv, Value.category]
  | .inr (.inl none), _ => simp [cv, Value.category]
  | .inr (.inr x), h => simp at h
theorem lvP.st1 {ls' : Array Slot} {nL : Nat} {L : List (Option AV)} {i : Nat} {v : AV} (hw : wSb L i = true) (h : lv_has ls' nL ((i, cv v) :: (asc 0 L).filter (fun q => !(q.1 == i) && !(q.1 + 1 == i && q.2.category == 2)))) : lvP ls' nL (L.set i (some v)) := by
  refine ⟨h.1, h.2.1, fun q hq => h.2.2 q ?_⟩
  obtain ⟨k, u, h1, rfl⟩ := asc_mem.mp hq
  rw [Nat.zero_add]
  by_cases hk : k = i
  · subst hk
    rw [List.getElem?_set] at h1
    simp at h1
    rw [h1.2]
    exact List.mem_cons_self
  · rw [List.getElem?_set_ne (Ne.symm hk)] at h1
    refine List.mem_cons_of_mem _ (List.mem_filter.mpr ⟨asc_mem.mpr ⟨k, u, h1, by rw [Nat.zero_add]⟩, ?_⟩)
    have : ¬ (k + 1 = i ∧ (cv u).category = 2) := fun hh => wSb_spec hw hh.1 h1 hh.2
    simp only [Bool.and_eq_true, Bool.not_eq_true', beq_eq_false_iff_ne, ne_eq, Bool.and_eq_false_imp, beq_iff_eq]
    exact ⟨hk, fun h1 h2 => this ⟨h1, h2⟩⟩
theorem lvP.st2 {ls' : Array Slot} {nL : Nat} {L : List (Option AV)} {i : Nat} {v : AV} (hw : wSb L i = true) (h : lv_has ls' nL ((i, cv v) :: (asc 0 L).filter (fun q => !(q.1 == i) && (!(q.1 == i + 1) && !(q.1 + 1 == i && q.2.category == 2))))) : lvP ls' nL ((L.set i (some v)).set (i + 1) none) := by
  refine ⟨h.1, h.2.1, fun q hq => h.2.2 q ?_⟩
  obtain ⟨k, u, h1, rfl⟩ := asc_mem.mp hq
  rw [Nat.zero_add]
  by_cases hk1 : k = i + 1
  · subst hk1
    rw [List.getElem?_set] at h1
    simp at h1
  rw [List.getElem?_set_ne (Ne.symm hk1)] at h1
  by_cases hk : k = i
  · subst hk
    rw [List.getElem?_set] at h1
    simp at h1
    rw [h1.2]
    exact List.mem_cons_self
  · rw [List.getElem?_set_ne (Ne.symm hk)] at h1
    refine List.mem_cons_of_mem _ (List.mem_filter.mpr ⟨asc_mem.mpr ⟨k, u, h1, by rw [Nat.zero_add]⟩, ?_⟩)
    have : ¬ (k + 1 = i ∧ (cv u).category = 2) := fun hh => wSb_spec hw hh.1 h1 hh.2
    simp only [Bool.and_eq_true, Bool.not_eq_true', beq_eq_false_iff_ne, ne_eq, Bool.and_eq_false_imp, beq_iff_eq]
    exact ⟨hk, hk1, fun h1 h2 => this ⟨h1, h2⟩⟩

