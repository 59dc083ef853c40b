/-! rows of doubles and of long constants -/
abbrev nmRaw : MethodName := ⟨"java/lang/Double", "doubleToRawLongBits", "(D)J"⟩
theorem na_raw : Cond.native nmRaw ∈ gl_w := gl_5 (i := 210) (by decide +kernel) (by decide +kernel)
theorem sm_raw : Cond.static nmRaw ∈ gl_w := gl_5 (i := 209) (by decide +kernel) (by decide +kernel)
theorem zj_raw {x : UInt64} (h : x.toNat < 9223372036854775808) : x.toInt64 = zj (x.toNat : Int) := by
  rw [← Int64.toInt_inj, zj_toInt ⟨by omega, by omega⟩]
  have h1 : x.toInt64.toInt = x.toInt64.toBitVec.toInt := (Int64.toInt_toBitVec _).symm
  rw [h1]
  show x.toBitVec.toInt = _
  rw [BitVec.toInt_eq_toNat_cond]
  have h2 : x.toBitVec.toNat = x.toNat := rfl
  rw [h2, if_pos (by omega)]
theorem zD_cmpv {E T : Nat} (h1 : 1 ≤ E) (hE : E < 2047) (hT : T < 4503599627370496) : ∃ v : Int, Op.cmpValue (FP.dcmp (zD E T) FP.dconst1) .g = zi v ∧ ((v = -1 ∧ E < 1023) ∨ ((v = 0 ∨ v = 1) ∧ 1023 ≤ E)) := by
  have hc := zD_cmp1 h1 hE hT
  by_cases h : E < 1023
  · exact ⟨-1, by rw [hc.1 h]; decide +kernel, Or.inl ⟨rfl, h⟩⟩
  · rcases hc.2 (by omega) with h2 | h2
    · exact ⟨1, by rw [h2]; decide +kernel, Or.inr ⟨Or.inr rfl, by omega⟩⟩
    · exact ⟨0, by rw [h2]; decide +kernel, Or.inr ⟨Or.inl rfl, by omega⟩⟩
section WKD
variable {D : va_G} {tc : Nat → ClassId} {base nL : Nat} {own : String} {cc : ByteArray} {p : Program} {l : Launch} {e : Env} {R : Room} {s : State} {m : MethodId} {args : Array Value} {below : List Frame} {meth : Method} {c : Code} {cells slots : Nat} {Q : State → Prop} {pc : Nat} {L : List (Option AV)} {st : List AV} {h : AH}
theorem k_ldc2l (C : Cx D tc base own cc nL p s m args meth c) {idx : Nat} {v : Int64} {z : Int} (hk : Cond.constantLong own idx v ∈ gl_w) (hv : v = zj z) (hd : decode cc pc = .ok (.ldc2_w idx, 3)) (k : Wk D tc base nL p l e R s m args below meth c cells slots Q (pc + 3) (L) (aL z :: st) (h)) : Wk D tc base nL p l e R s m args below meth c cells slots Q (pc) (L) (st) (h) :=
  fun H locs ls hR hS hL => lv_ldc2 C.1 C.2.1 C.2.2.2.1 (C.2.2.2.2.1 _ hk) hd (by rw [hv]; exact k H locs ls hR hS hL)
theorem k_ldc2d (C : Cx D tc base own cc nL p s m args meth c) {idx : Nat} {v : UInt64} (hk : Cond.constantDouble own idx v ∈ gl_w) (hd : decode cc pc = .ok (.ldc2_w idx, 3)) (k : Wk D tc base nL p l e R s m args below meth c cells slots Q (pc + 3) (L) (aD v :: st) (h)) : Wk D tc base nL p l e R s m args below meth c cells slots Q (pc) (L) (st) (h) :=
  fun H locs ls hR hS hL => lv_ldc2d C.1 C.2.1 C.2.2.2.1 (C.2.2.2.2.1 _ hk) hd (k H locs ls hR hS hL)
theorem k_dconst0 (C : Cx D tc base own cc nL p s m args meth c) (hd : decode cc pc = .ok (.dconst 0, 1)) (k : Wk D tc base nL p l e R s m args below meth c cells slots Q (pc + 1) (L) (aD FP.dconst0 :: st) (h)) : Wk D tc base nL p l e R s m args below meth c cells slots Q (pc) (L) (st) (h) :=
  fun H locs ls hR hS hL => lv_dconst0 C.1 C.2.1 hd (k H locs ls hR hS hL)
theorem k_dconst1 (C : Cx D tc base own cc nL p s m args meth c) (hd : decode cc pc = .ok (.dconst 1, 1)) (k : Wk D tc base nL p l e R s m args below meth c cells slots Q (pc + 1) (L) (aD FP.dconst1 :: st) (h)) : Wk D tc base nL p l e R s m args below meth c cells slots Q (pc) (L) (st) (h) :=
  fun H locs ls hR hS hL => lv_dconst1 C.1 C.2.1 hd (k H locs ls hR hS hL)
theorem k_i2d (C : Cx D tc base own cc nL p s m args meth c) {x : Int} (hd : decode cc pc = .ok (.i2d, 1)) (k : Wk D tc base nL p l e R s m args below meth c cells slots Q (pc + 1) (L) (aD (FP.i2d (zi x)) :: st) (h)) : Wk D tc base nL p l e R s m args below meth c cells slots Q (pc) (L) (aI x :: st) (h) :=
  fun H locs ls hR hS hL => lv_i2d C.1 C.2.1 hd (k H locs ls hR hS hL)
theorem k_ddiv (C : Cx D tc base own cc nL p s m args meth c) {x y : UInt64} (hn : vf_n64 (FP.ddiv x y)) (hd : decode cc pc = .ok (.ddiv, 1)) (k : Wk D tc base nL p l e R s m args below meth c cells slots Q (pc + 1) (L) (aD (FP.ddiv x y) :: st) (h)) : Wk D tc base nL p l e R s m args below meth c cells slots Q (pc) (L) (aD y :: aD x :: st) (h) :=
  fun H locs ls hR hS hL => lv_ddiv C.1 C.2.1 hd hn (k H locs ls hR hS hL)
theorem k_dmul (C : Cx D tc base own cc nL p s m args meth c) {x y : UInt64} (hn : vf_n64 (FP.dmul x y)) (hd : decode cc pc = .ok (.dmul, 1)) (k : Wk D tc base nL p l e R s m args below meth c cells slots Q (pc + 1) (L) (aD (FP.dmul x y) :: st) (h)) : Wk D tc base nL p l e R s m args below meth c cells slots Q (pc) (L) (aD y :: aD x :: st) (h) :=
  fun H locs ls hR hS hL => lv_dmul C.1 C.2.1 hd hn (k H locs ls hR hS hL)
theorem k_dsub (C : Cx D tc base own cc nL p s m args meth c) {x y : UInt64} (hn : vf_n64 (FP.dsub x y)) (hd : decode cc pc = .ok (.dsub, 1)) (k : Wk D tc base nL p l e R s m args below meth c cells slots Q (pc + 1) (L) (aD (FP.dsub x y) :: st) (h)) : Wk D tc base nL p l e R s m args below meth c cells slots Q (pc) (L) (aD y :: aD x :: st) (h) :=
  fun H locs ls hR hS hL => lv_dsub C.1 C.2.1 hd hn (k H locs ls hR hS hL)
theorem k_d2l (C : Cx D tc base own cc nL p s m args meth c) {x : UInt64} {z : Int} (hz : FP.d2l x = zj z) (hd : decode cc pc = .ok (.d2l, 1)) (k : Wk D tc base nL p l e R s m args below meth c cells slots Q (pc + 1) (L) (aL z :: st) (h)) : Wk D tc base nL p l e R s m args below meth c cells slots Q (pc) (L) (aD x :: st) (h) :=
  fun H locs ls hR hS hL => lv_d2l C.1 C.2.1 hd (by rw [hz]; exact k H locs ls hR hS hL)
theorem k_dcmp (C : Cx D tc base own cc nL p s m args meth c) {x y : UInt64} {op : CmpOp} {v : Int} (hv : Op.cmpValue (FP.dcmp x y) op = zi v) (hd : decode cc pc = .ok (.dcmp op, 1)) (k : Wk D tc base nL p l e R s m args below meth c cells slots Q (pc + 1) (L) (aI v :: st) (h)) : Wk D tc base nL p l e R s m args below meth c cells slots Q (pc) (L) (aD y :: aD x :: st) (h) :=
  fun H locs ls hR hS hL => lv_dcmp C.1 C.2.1 hd (by rw [hv]; exact k H locs ls hR hS hL)
theorem k_lcmpGt (C : Cx D tc base own cc nL p s m args meth c) {x y : Int} (hx : r64 x) (hy : r64 y) (hxy : y < x) (hd : decode cc pc = .ok (.lcmp, 1)) (k : Wk D tc base nL p l e R s m args below meth c cells slots Q (pc + 1) (L) (aI 1 :: st) (h)) : Wk D tc base nL p l e R s m args below meth c cells slots Q (pc) (L) (aL y :: aL x :: st) (h) := by
  intro H locs ls hR hS hL
  have e : lg_cmp (zj x) (zj y) = zi 1 := by
    unfold lg_cmp
    rw [if_pos]
    · decide +kernel
    · show zj y < zj x
      rw [Int64.lt_iff_toInt_lt, zj_toInt hx, zj_toInt hy]
      exact hxy
  exact W.lcmp C.1 C.2.1 hd (by rw [e]; exact k H locs ls hR hS hL)
theorem k_lcmpNe (C : Cx D tc base own cc nL p s m args meth c) {x y : Int} (hd : decode cc pc = .ok (.lcmp, 1)) (k : ∀ v : Int, r32 v → (v = 0 ↔ zj x = zj y) → Wk D tc base nL p l e R s m args below meth c cells slots Q (pc + 1) (L) (aI v :: st) (h)) : Wk D tc base nL p l e R s m args below meth c cells slots Q (pc) (L) (aL y :: aL x :: st) (h) := by
  intro H locs ls hR hS hL
  refine W.lcmp C.1 C.2.1 hd ?_
  have h1 := k (lg_cmp (zj x) (zj y)).toInt (r32_of _) (by
    unfold lg_cmp
    split
    · rename_i hgt
      refine ⟨fun q => by exact absurd q (by decide), fun q => ?_⟩
      rw [q] at hgt
      exact absurd hgt (fun q2 => Int64.lt_irrefl q2)
    · split
      · rename_i heq
        exact ⟨fun _ => heq, fun _ => by decide⟩
      · rename_i hne
        exact ⟨fun q => absurd q (by decide), fun q => absurd q hne⟩) H locs ls hR hS hL
  rw [show (List.map cv (aI (lg_cmp (zj x) (zj y)).toInt :: st)) = .int (lg_cmp (zj x) (zj y)) :: st.map cv by show Value.int (zi _) :: _ = _; rw [zi_of]] at h1
  exact h1
theorem k_raw (C : Cx D tc base own cc nL p s m args meth c) {x : UInt64} {idx : Nat} (hx : x.toNat < 9223372036854775808) (hml : Cond.methodLink own idx nmRaw ∈ gl_w) (hini : Cond.initialized "java/lang/Double" ∈ gl_w) (hframes : 1 ≤ R.frames) (hlocals : ((st.map cv).map fun v => v.category).sum + 15 ≤ R.locals) (hd : decode cc pc = .ok (.invokestatic idx, 3)) (k : Wk D tc base nL p l e R s m args below meth c cells slots Q (pc + 3) (L) (aL (x.toNat : Int) :: st) (h)) : Wk D tc base nL p l e R s m args below meth c cells slots Q (pc) (L) (aD x :: st) (h) := by
  intro H locs ls hR hS hL
  have hts := C.2.2.2.2.1
  refine vn_d2l C.1 C.2.1 (by rw [hL.1]; exact C.2.2.1) C.2.2.2.1 (hts _ hml) (hts _ na_raw) (hts _ sm_raw) (hts _ hini) hframes hlocals hd ?_
  rw [zj_raw hx]
  exact k H locs ls hR hS hL
end WKD
/-- a hash over the first n values -/
def hF (h : Int) (f : Nat → Int) : Nat → Int
  | 0 => h
  | n + 1 => 31 * hF h f n + f n
theorem hF_cong {h : Int} {f g : Nat → Int} : ∀ {n : Nat}, (∀ k : Nat, k < n → f k = g k) → hF h f n = hF h g n
  | 0, _ => rfl
  | n + 1, hn => by
    have ih := hF_cong (h := h) (n := n) (fun k hk => hn k (by omega))
    simp only [hF]
    rw [ih, hn n (by omega)]
def hParts (z : RZ) (st : Int) : Int := hF (hF (hF (hF (hF 2311 (fun k => sx (zCnt z st k)) 18) (fun k => sx (z (61 + k))) 6) (fun k => sx (z (3 * ((k : Int) % 3) + (k : Int) / 3))) 9) (fun k => sx (zWin z ((k : Int) / 6) ((k : Int) % 6))) (6 * (z 21).toNat)) (fun k => sx (z (53 + k))) (2 * (z 52).toNat)
def hWould (z : RZ) (h : Int) : Int := hF (hF h (fun k => sx (zWhy z k)) 3) (fun k => sx (zOut (zGo z 60) k)) 10
/-- the whole digest; lt: what leastTurns answers for 240 minutes -/
def hDig (z tx : RZ) (st ln lt : Int) : Int := hF (31 * (31 * (31 * (31 * (31 * (31 * hWould z (hParts z st) + sx (zStN z 1501)) + sx (zPaN z 721)) + sx lt) + sx (zFd z)) + ((zSh z).toNat : Int)) + sx ln) (fun k => sx (tx k)) ln.toNat
