/-! ROWS AND LEMMAS FOR THE LAW'S ACTS -/
section WKE
variable {D : va_G} {tc : Nat → ClassId} {base nL : Nat} {own : String} {cc : ByteArray} {p : Program} {l : Launch} {e : Env} {R : Room} {s : State} {m : MethodId} {args : Array Value} {below : List Frame} {meth : Method} {c : Code} {cells slots : Nat} {Q : State → Prop} {pc : Nat} {L : List (Option AV)} {st : List AV} {h : AH}
theorem k_icmp_eqE (C : Cx D tc base own cc nL p s m args meth c) {x y off : Int} {tgt : Nat} (hd : decode cc pc = .ok (.if_icmp .eq off, 3)) (ht : (pc : Int) + off = (tgt : Int)) (he : x = y) (kt : Wk D tc base nL p l e R s m args below meth c cells slots Q (tgt) (L) (st) (h)) : Wk D tc base nL p l e R s m args below meth c cells slots Q (pc) (L) (aI y :: aI x :: st) (h) := by
  subst he
  exact fun H locs ls hR hS hL => lv_icmp_eq C.1 C.2.1 hd ht (fun _ => kt H locs ls hR hS hL) (fun q => absurd rfl q)
theorem k_icmp_neE (C : Cx D tc base own cc nL p s m args meth c) {x y off : Int} {tgt : Nat} (hd : decode cc pc = .ok (.if_icmp .ne off, 3)) (ht : (pc : Int) + off = (tgt : Int)) (he : x = y) (kf : Wk D tc base nL p l e R s m args below meth c cells slots Q (pc + 3) (L) (st) (h)) : Wk D tc base nL p l e R s m args below meth c cells slots Q (pc) (L) (aI y :: aI x :: st) (h) := by
  subst he
  exact fun H locs ls hR hS hL => lv_icmp_ne C.1 C.2.1 hd ht (fun q => absurd rfl q) (fun _ => kf H locs ls hR hS hL)
end WKE
theorem XA.fx {h : AH} {rc : Nat} {z hi tx : Int → Int} {st ln : Int} (hX : XA h rc z hi tx st ln) : (∃ fs : List AV, h rc = some (eO 7 fs)) ∧ zOk z ∧ z 13 ≤ 20000 ∧ (0 ≤ st ∧ st ≤ 6) := by
  obtain ⟨zt, g, x0, hS, hT, hH, ⟨sg, t0, t1, tl, ts, -⟩, x5, hok, h13, hst⟩ := hX
  exact ⟨⟨_, x0⟩, hok, h13, hst⟩
theorem zOwedN_rng {z : RZ} (hi : zInv z) : ∀ n : Nat, (n : Int) ≤ z 52 → 0 ≤ zOwedN z n ∧ zOwedN z n ≤ 12 * n
  | 0, _ => ⟨by simp [zOwedN], by simp [zOwedN]⟩
  | n + 1, h => by
    have ih := zOwedN_rng hi n (by omega)
    have hd := hi.2.2 n (by omega) (by omega)
    have e : zOwedN z (n + 1) = zOwedN z n + z (53 + 2 * (n : Int) + 1) := rfl
    rw [e]
    omega
def dWi (wi : Int → Int) (a kk : Int) : Int → Int := fun j => if a ≤ j ∧ j < kk then wi (j + 5) else wi j
theorem dWi_0 (wi : Int → Int) (a : Int) : dWi wi a a = wi := by
  funext j
  simp only [dWi]
  rw [if_neg (by omega)]
theorem dWi_s (wi : Int → Int) {a kk : Int} (h : a ≤ kk) : iu (dWi wi a kk) kk (dWi wi a kk (kk + 5)) = dWi wi a (kk + 1) := by
  funext j
  simp only [iu, dWi]
  (repeat' split) <;> first | rfl | (exfalso; omega) | (subst_vars; rfl)
theorem LR.dis {z : RZ} {kc : Int} {nu hh se wi de : Int → Int} {g m k : Int} (hr : LR z kc nu hh se wi de) (hg : 0 ≤ g ∧ g < z 21) (h6 : z 21 ≤ 6) (hm : m = nu 12 - 1) (hk : k = 5 * (z 21 - 1)) : LR (zDisK z (z 21 - 1) (22 + 5 * g) (22 + 5 * (z 21 - 1))) kc (iu nu 12 m) hh se (dWi wi (5 * g) k) de := by
  obtain ⟨⟨e0, e1, e2, e3, e4, e5, e6, e7, e8, e9, e10, e11, e12, e13, e14⟩, eh, es, ew, ed⟩ := hr
  refine ⟨?_, fun k h0 h1 => ?_, fun k h0 h1 => ?_, fun j h0 h1 => ?_, fun k h0 h1 => ?_⟩
  · simp (disch := omega) only [iu_ne, iu_eq, zDisK_ne, zDisK_21]
    exact ⟨e0, e1, e2, e3, e4, e5, e6, e7, e8, e9, e10, e11, by omega, e13, e14⟩
  · rw [zDisK_ne (by omega) (by omega)]
    exact eh k h0 h1
  · rw [zDisK_ne (by omega) (by omega)]
    exact es k h0 h1
  · unfold dWi
    by_cases hj : 5 * g ≤ j ∧ j < k
    · rw [if_pos hj, zDisK_in (by omega) (by omega) (by omega), ew (j + 5) (by omega) (by omega)]
      congr 1
      omega
    · rw [if_neg hj, zDisK_ne (by omega) (by omega)]
      exact ew j h0 h1
  · rw [zDisK_ne (by omega) (by omega)]
    exact ed k h0 h1
theorem zCnt_lo {z : RZ} {kc st : Int} {nu hh se wi de : Int → Int} (hr : LR z kc nu hh se wi de) {k : Int} (h0 : 0 ≤ k) (h1 : k < 5) : zCnt z st k = nu k := by
  obtain ⟨⟨e0, e1, e2, e3, e4, e5, e6, e7, e8, e9, e10, e11, e12, e13, e14⟩, eh, es, ew, ed⟩ := hr
  rcases (show k = 0 ∨ k = 1 ∨ k = 2 ∨ k = 3 ∨ k = 4 by omega) with rfl | rfl | rfl | rfl | rfl <;> simp [zCnt, *]
theorem zCnt_hi {z : RZ} {kc st : Int} {nu hh se wi de : Int → Int} (hr : LR z kc nu hh se wi de) {k : Int} (h0 : 5 ≤ k) (h1 : k < 12) : zCnt z st (k + 2) = nu k := by
  obtain ⟨⟨e0, e1, e2, e3, e4, e5, e6, e7, e8, e9, e10, e11, e12, e13, e14⟩, eh, es, ew, ed⟩ := hr
  rcases (show k = 5 ∨ k = 6 ∨ k = 7 ∨ k = 8 ∨ k = 9 ∨ k = 10 ∨ k = 11 by omega) with rfl | rfl | rfl | rfl | rfl | rfl | rfl <;> simp [zCnt, *]
